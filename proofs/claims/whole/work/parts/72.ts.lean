theorem k_fits (G : mx_G) {M : mx_M} {σ : Sg} (h : CInv M σ) (hg : GOk σ) {j w v wd n : Nat} (hj : j < (gH σ).1) (hw : w ≤ 2) (hv : v ≤ 7) (hwd : wd < 256) (hn : n ≤ 8) : sOk G m_TS_fits [.ref 0, .int (nI j), .int (nI w), .int (nI v), .int (nI wd), .int (nI n)] M (fun r M' => r = some (.int (tf (fitP (gH σ) j (if w = 0 then v else Sf (gH σ) j) (if w = 1 then v else Af (gH σ) j) (if w = 2 then v else Bf (gH σ) j) wd n))) ∧ Fr M M' 0 119 ∧ CInv M' σ) := by
  have hH := h.2.2.1
  have h8 := hg.1.1.1
  obtain ⟨b1, b2, b3⟩ := hg.1.1.2.2 j hj
  have x1 : M 8 j = nI (Sf (gH σ) j) := (hH.2.2 j hj).1
  have x2 : M 9 j = nI (Af (gH σ) j) := (hH.2.2 j hj).2.1
  have x3 : M 10 j = nI (Bf (gH σ) j) := (hH.2.2 j hj).2.2
  refine sOk_of ⟨by decide +kernel, by decide +kernel, Nat.le_of_ble_eq_true rfl⟩ ?_
  show sW G m_TS_fits 0 ([], [some (.ref 0), some (.int (nI j)), some (.int (nI w)), some (.int (nI v)), some (.int (nI wd)), some (.int (nI n)), none, none, none], M) _
  refine sW_go b_TS_fits_0 (st' := ([.int (nI w)], [some (.ref 0), some (.int (nI j)), some (.int (nI w)), some (.int (nI v)), some (.int (nI wd)), some (.int (nI n)), none, none, none], M)) (φ := True) rfl trivial ?_
  refine sW_if_ne 8 d_TS_fits_1 (by decide) (fun c_1 => ?_) (fun c_1 => ?_)
  · skip
    simp (disch := omega) only [nI_z] at c_1
    refine sW_go b_TS_fits_8 (st' := ([.int (M 8 (nI j).toNatClampNeg)], [some (.ref 0), some (.int (nI j)), some (.int (nI w)), some (.int (nI v)), some (.int (nI wd)), some (.int (nI n)), none, none, none], M)) (φ := mx_ocl LAY 0 = 9 ∧ mx_ocl LAY 7 = 3 ∧ vp_in (nI j) (mx_len LAY false 8) ∧ True) rfl ⟨oc_0, oc_7, (by simp (disch := omega) only [ln_8]; exact vp_in_nI (by omega) (by decide)), trivial⟩ ?_
    refine sW_eq (st' := ([.int (nI (Sf (gH σ) j))], [some (.ref 0), some (.int (nI j)), some (.int (nI w)), some (.int (nI v)), some (.int (nI wd)), some (.int (nI n)), none, none, none], M)) (by simp (disch := omega) only [nI_clamp, x1]) ?_
    refine sW_go b_TS_fits_17 (st' := ([.int (nI 1), .int (nI w)], [some (.ref 0), some (.int (nI j)), some (.int (nI w)), some (.int (nI v)), some (.int (nI wd)), some (.int (nI n)), some (.int (nI (Sf (gH σ) j))), none, none], M)) (φ := True) rfl trivial ?_
    refine sW_ic_ne 28 d_TS_fits_21 (by decide) (fun c_21 => ?_) (fun c_21 => ?_)
    · skip
      simp (disch := omega) only [nI_eq] at c_21
      refine sW_go b_TS_fits_28 (st' := ([.int (M 9 (nI j).toNatClampNeg)], [some (.ref 0), some (.int (nI j)), some (.int (nI w)), some (.int (nI v)), some (.int (nI wd)), some (.int (nI n)), some (.int (nI (Sf (gH σ) j))), none, none], M)) (φ := mx_ocl LAY 0 = 9 ∧ mx_ocl LAY 7 = 3 ∧ vp_in (nI j) (mx_len LAY false 9) ∧ True) rfl ⟨oc_0, oc_7, (by simp (disch := omega) only [ln_9]; exact vp_in_nI (by omega) (by decide)), trivial⟩ ?_
      refine sW_eq (st' := ([.int (nI (Af (gH σ) j))], [some (.ref 0), some (.int (nI j)), some (.int (nI w)), some (.int (nI v)), some (.int (nI wd)), some (.int (nI n)), some (.int (nI (Sf (gH σ) j))), none, none], M)) (by simp (disch := omega) only [nI_clamp, x2]) ?_
      refine sW_go b_TS_fits_37 (st' := ([.int (nI 2), .int (nI w)], [some (.ref 0), some (.int (nI j)), some (.int (nI w)), some (.int (nI v)), some (.int (nI wd)), some (.int (nI n)), some (.int (nI (Sf (gH σ) j))), some (.int (nI (Af (gH σ) j))), none], M)) (φ := True) rfl trivial ?_
      refine sW_ic_ne 48 d_TS_fits_41 (by decide) (fun c_41 => ?_) (fun c_41 => ?_)
      · skip
        simp (disch := omega) only [nI_eq] at c_41
        refine sW_go b_TS_fits_48 (st' := ([.int (M 10 (nI j).toNatClampNeg)], [some (.ref 0), some (.int (nI j)), some (.int (nI w)), some (.int (nI v)), some (.int (nI wd)), some (.int (nI n)), some (.int (nI (Sf (gH σ) j))), some (.int (nI (Af (gH σ) j))), none], M)) (φ := mx_ocl LAY 0 = 9 ∧ mx_ocl LAY 7 = 3 ∧ vp_in (nI j) (mx_len LAY false 10) ∧ True) rfl ⟨oc_0, oc_7, (by simp (disch := omega) only [ln_10]; exact vp_in_nI (by omega) (by decide)), trivial⟩ ?_
        refine sW_eq (st' := ([.int (nI (Bf (gH σ) j))], [some (.ref 0), some (.int (nI j)), some (.int (nI w)), some (.int (nI v)), some (.int (nI wd)), some (.int (nI n)), some (.int (nI (Sf (gH σ) j))), some (.int (nI (Af (gH σ) j))), none], M)) (by simp (disch := omega) only [nI_clamp, x3]) ?_
        omega
      · skip
        simp (disch := omega) only [nI_eq] at c_41
        refine sW_go b_TS_fits_44 (st' := ([.int (nI v)], [some (.ref 0), some (.int (nI j)), some (.int (nI w)), some (.int (nI v)), some (.int (nI wd)), some (.int (nI n)), some (.int (nI (Sf (gH σ) j))), some (.int (nI (Af (gH σ) j))), none], M)) (φ := True) rfl trivial ?_
        refine sW_goto 57 d_TS_fits_45 (by decide) ?_
        rw [if_neg c_1, if_neg c_21, if_pos c_41]
        exact k_fits57 G h hg hj hwd hn (by omega) (by omega) (by omega)
    · skip
      simp (disch := omega) only [nI_eq] at c_21
      refine sW_go b_TS_fits_24 (st' := ([.int (nI v)], [some (.ref 0), some (.int (nI j)), some (.int (nI w)), some (.int (nI v)), some (.int (nI wd)), some (.int (nI n)), some (.int (nI (Sf (gH σ) j))), none, none], M)) (φ := True) rfl trivial ?_
      refine sW_goto 37 d_TS_fits_25 (by decide) ?_
      refine sW_go b_TS_fits_37 (st' := ([.int (nI 2), .int (nI w)], [some (.ref 0), some (.int (nI j)), some (.int (nI w)), some (.int (nI v)), some (.int (nI wd)), some (.int (nI n)), some (.int (nI (Sf (gH σ) j))), some (.int (nI v)), none], M)) (φ := True) rfl trivial ?_
      refine sW_ic_ne 48 d_TS_fits_41 (by decide) (fun c_41 => ?_) (fun c_41 => ?_)
      · skip
        simp (disch := omega) only [nI_eq] at c_41
        refine sW_go b_TS_fits_48 (st' := ([.int (M 10 (nI j).toNatClampNeg)], [some (.ref 0), some (.int (nI j)), some (.int (nI w)), some (.int (nI v)), some (.int (nI wd)), some (.int (nI n)), some (.int (nI (Sf (gH σ) j))), some (.int (nI v)), none], M)) (φ := mx_ocl LAY 0 = 9 ∧ mx_ocl LAY 7 = 3 ∧ vp_in (nI j) (mx_len LAY false 10) ∧ True) rfl ⟨oc_0, oc_7, (by simp (disch := omega) only [ln_10]; exact vp_in_nI (by omega) (by decide)), trivial⟩ ?_
        refine sW_eq (st' := ([.int (nI (Bf (gH σ) j))], [some (.ref 0), some (.int (nI j)), some (.int (nI w)), some (.int (nI v)), some (.int (nI wd)), some (.int (nI n)), some (.int (nI (Sf (gH σ) j))), some (.int (nI v)), none], M)) (by simp (disch := omega) only [nI_clamp, x3]) ?_
        rw [if_neg c_1, if_pos c_21, if_neg c_41]
        exact k_fits57 G h hg hj hwd hn (by omega) (by omega) (by omega)
      · skip
        simp (disch := omega) only [nI_eq] at c_41
        refine sW_go b_TS_fits_44 (st' := ([.int (nI v)], [some (.ref 0), some (.int (nI j)), some (.int (nI w)), some (.int (nI v)), some (.int (nI wd)), some (.int (nI n)), some (.int (nI (Sf (gH σ) j))), some (.int (nI v)), none], M)) (φ := True) rfl trivial ?_
        refine sW_goto 57 d_TS_fits_45 (by decide) ?_
        omega
  · skip
    simp (disch := omega) only [nI_z] at c_1
    refine sW_go b_TS_fits_4 (st' := ([.int (nI v)], [some (.ref 0), some (.int (nI j)), some (.int (nI w)), some (.int (nI v)), some (.int (nI wd)), some (.int (nI n)), none, none, none], M)) (φ := True) rfl trivial ?_
    refine sW_goto 17 d_TS_fits_5 (by decide) ?_
    refine sW_go b_TS_fits_17 (st' := ([.int (nI 1), .int (nI w)], [some (.ref 0), some (.int (nI j)), some (.int (nI w)), some (.int (nI v)), some (.int (nI wd)), some (.int (nI n)), some (.int (nI v)), none, none], M)) (φ := True) rfl trivial ?_
    refine sW_ic_ne 28 d_TS_fits_21 (by decide) (fun c_21 => ?_) (fun c_21 => ?_)
    · skip
      simp (disch := omega) only [nI_eq] at c_21
      refine sW_go b_TS_fits_28 (st' := ([.int (M 9 (nI j).toNatClampNeg)], [some (.ref 0), some (.int (nI j)), some (.int (nI w)), some (.int (nI v)), some (.int (nI wd)), some (.int (nI n)), some (.int (nI v)), none, none], M)) (φ := mx_ocl LAY 0 = 9 ∧ mx_ocl LAY 7 = 3 ∧ vp_in (nI j) (mx_len LAY false 9) ∧ True) rfl ⟨oc_0, oc_7, (by simp (disch := omega) only [ln_9]; exact vp_in_nI (by omega) (by decide)), trivial⟩ ?_
      refine sW_eq (st' := ([.int (nI (Af (gH σ) j))], [some (.ref 0), some (.int (nI j)), some (.int (nI w)), some (.int (nI v)), some (.int (nI wd)), some (.int (nI n)), some (.int (nI v)), none, none], M)) (by simp (disch := omega) only [nI_clamp, x2]) ?_
      refine sW_go b_TS_fits_37 (st' := ([.int (nI 2), .int (nI w)], [some (.ref 0), some (.int (nI j)), some (.int (nI w)), some (.int (nI v)), some (.int (nI wd)), some (.int (nI n)), some (.int (nI v)), some (.int (nI (Af (gH σ) j))), none], M)) (φ := True) rfl trivial ?_
      refine sW_ic_ne 48 d_TS_fits_41 (by decide) (fun c_41 => ?_) (fun c_41 => ?_)
      · skip
        simp (disch := omega) only [nI_eq] at c_41
        refine sW_go b_TS_fits_48 (st' := ([.int (M 10 (nI j).toNatClampNeg)], [some (.ref 0), some (.int (nI j)), some (.int (nI w)), some (.int (nI v)), some (.int (nI wd)), some (.int (nI n)), some (.int (nI v)), some (.int (nI (Af (gH σ) j))), none], M)) (φ := mx_ocl LAY 0 = 9 ∧ mx_ocl LAY 7 = 3 ∧ vp_in (nI j) (mx_len LAY false 10) ∧ True) rfl ⟨oc_0, oc_7, (by simp (disch := omega) only [ln_10]; exact vp_in_nI (by omega) (by decide)), trivial⟩ ?_
        refine sW_eq (st' := ([.int (nI (Bf (gH σ) j))], [some (.ref 0), some (.int (nI j)), some (.int (nI w)), some (.int (nI v)), some (.int (nI wd)), some (.int (nI n)), some (.int (nI v)), some (.int (nI (Af (gH σ) j))), none], M)) (by simp (disch := omega) only [nI_clamp, x3]) ?_
        rw [if_pos c_1, if_neg c_21, if_neg c_41]
        exact k_fits57 G h hg hj hwd hn (by omega) (by omega) (by omega)
      · skip
        simp (disch := omega) only [nI_eq] at c_41
        refine sW_go b_TS_fits_44 (st' := ([.int (nI v)], [some (.ref 0), some (.int (nI j)), some (.int (nI w)), some (.int (nI v)), some (.int (nI wd)), some (.int (nI n)), some (.int (nI v)), some (.int (nI (Af (gH σ) j))), none], M)) (φ := True) rfl trivial ?_
        refine sW_goto 57 d_TS_fits_45 (by decide) ?_
        omega
    · skip
      simp (disch := omega) only [nI_eq] at c_21
      refine sW_go b_TS_fits_24 (st' := ([.int (nI v)], [some (.ref 0), some (.int (nI j)), some (.int (nI w)), some (.int (nI v)), some (.int (nI wd)), some (.int (nI n)), some (.int (nI v)), none, none], M)) (φ := True) rfl trivial ?_
      refine sW_goto 37 d_TS_fits_25 (by decide) ?_
      refine sW_go b_TS_fits_37 (st' := ([.int (nI 2), .int (nI w)], [some (.ref 0), some (.int (nI j)), some (.int (nI w)), some (.int (nI v)), some (.int (nI wd)), some (.int (nI n)), some (.int (nI v)), some (.int (nI v)), none], M)) (φ := True) rfl trivial ?_
      refine sW_ic_ne 48 d_TS_fits_41 (by decide) (fun c_41 => ?_) (fun c_41 => ?_)
      · skip
        simp (disch := omega) only [nI_eq] at c_41
        refine sW_go b_TS_fits_48 (st' := ([.int (M 10 (nI j).toNatClampNeg)], [some (.ref 0), some (.int (nI j)), some (.int (nI w)), some (.int (nI v)), some (.int (nI wd)), some (.int (nI n)), some (.int (nI v)), some (.int (nI v)), none], M)) (φ := mx_ocl LAY 0 = 9 ∧ mx_ocl LAY 7 = 3 ∧ vp_in (nI j) (mx_len LAY false 10) ∧ True) rfl ⟨oc_0, oc_7, (by simp (disch := omega) only [ln_10]; exact vp_in_nI (by omega) (by decide)), trivial⟩ ?_
        refine sW_eq (st' := ([.int (nI (Bf (gH σ) j))], [some (.ref 0), some (.int (nI j)), some (.int (nI w)), some (.int (nI v)), some (.int (nI wd)), some (.int (nI n)), some (.int (nI v)), some (.int (nI v)), none], M)) (by simp (disch := omega) only [nI_clamp, x3]) ?_
        omega
      · skip
        simp (disch := omega) only [nI_eq] at c_41
        refine sW_go b_TS_fits_44 (st' := ([.int (nI v)], [some (.ref 0), some (.int (nI j)), some (.int (nI w)), some (.int (nI v)), some (.int (nI wd)), some (.int (nI n)), some (.int (nI v)), some (.int (nI v)), none], M)) (φ := True) rfl trivial ?_
        refine sW_goto 57 d_TS_fits_45 (by decide) ?_
        omega
def whoP (hs : Hs) (t w wd n v : Nat) : Prop := v < (if w = 0 then 6 else 8) ∧ fitP hs t (if w = 0 then v else Sf hs t) (if w = 1 then v else Af hs t) (if w = 2 then v else Bf hs t) wd n
noncomputable def sp_who (σ : Sg) (t w r i n : Int32) : Int32 × Sg := cif (vp_in t (gH σ).1 ∧ vp_in w 3 ∧ vp_in r 8 ∧ nI 1 ≤ n ∧ n ≤ nI (gH σ).1) (cif (fndN (gR σ) (tn r) i n = 0) (nI (mk8 (whoP (gH σ) (tn t) (tn w) (bsum (rwBit (gR σ) (tn r) (tn i)) (tn n)) (tn n))), ws σ 0) ((-1000010) - nI (fndN (gR σ) (tn r) i n), ws σ (fndN (gR σ) (tn r) i n))) ((-1000001), σ)
theorem k_who112 (G : mx_G) {M M0 : mx_M} {σ : Sg} (h : CInv M σ) (hf : Fr M0 M 0 119) (hg : GOk σ) {t w r i n wd tr : Nat} (ht : t < (gH σ).1) (hw : w ≤ 2) (hn : n ≤ 8) (hwd : wd < 256) (htr : tr = if w = 0 then 6 else 8) :
  sW G m_TS_who 112 ([], [some (.ref 0), some (.int (nI t)), some (.int (nI w)), some (.int (nI r)), some (.int (nI i)), some (.int (nI n)), some (.int (nI wd)), some (.int (nI tr)), some (.int (nI 0)), some (.int (nI 0))], M) (fun q M' => q = some (.int (nI (mk8 (whoP (gH σ) t w wd n)))) ∧ Fr M0 M' 0 119 ∧ CInv M' σ) := by
  have h8 : tr ≤ 8 := by rw [htr]; split <;> decide
  refine mx_ind (α := Nat × Nat × mx_M) (fun a => tr - a.1) (fun a => a.1 ≤ tr → a.2.1 < 256 → (∀ v, bt a.2.1 v = 1 ↔ v < a.1 ∧ whoP (gH σ) t w wd n v) → Fr M0 a.2.2 0 119 → CInv a.2.2 σ → sW G m_TS_who 112 ([], [some (.ref 0), some (.int (nI t)), some (.int (nI w)), some (.int (nI r)), some (.int (nI i)), some (.int (nI n)), some (.int (nI wd)), some (.int (nI tr)), some (.int (nI a.2.1)), some (.int (nI a.1))], a.2.2) _) ?_ (0, 0, M) (Nat.zero_le _) (Nat.zero_lt_succ 255) (fun v => ⟨fun q => absurd q (bt_zz v), fun q => absurd q.1 (Nat.not_lt_zero v)⟩) hf h
  rintro ⟨v, m, M2⟩ ih hv hm hb f2 h2
  dsimp only at ih hv hm hb f2 h2 ⊢
  by_cases hvn : v < tr
  · have hsl : nI 1 <<< (nI v &&& 31) = nI (1 * 2 ^ v) := sh_l (by decide) (by omega)
    have hp2 := p2_le (show v < 8 by omega)
    have or_b : ∀ u, bt (m ||| 1 * 2 ^ v) u = 1 ↔ bt m u = 1 ∨ u = v := fun u => by rw [bt_or, Nat.one_mul, bt_2p]
    have lt1 : ∀ u, u < v + 1 ↔ u < v ∨ u = v := fun u => by omega
    have wv : whoP (gH σ) t w wd n v ↔ fitP (gH σ) t (if w = 0 then v else Sf (gH σ) t) (if w = 1 then v else Af (gH σ) t) (if w = 2 then v else Bf (gH σ) t) wd n := ⟨fun q => q.2, fun q => ⟨by rw [← htr]; exact hvn, q⟩⟩
    refine sW_go b_TS_who_112 (st' := ([.int (nI tr), .int (nI v)], [some (.ref 0), some (.int (nI t)), some (.int (nI w)), some (.int (nI r)), some (.int (nI i)), some (.int (nI n)), some (.int (nI wd)), some (.int (nI tr)), some (.int (nI m)), some (.int (nI v))], M2)) (φ := True) rfl trivial ?_
    refine sW_ic_ge 149 d_TS_who_116 (by decide) (fun c_116 => ?_) (fun c_116 => ?_)
    · skip
      simp (disch := omega) only [nI_leI] at c_116
      omega
    · skip
      simp (disch := omega) only [nI_leI] at c_116
      refine sW_go b_TS_who_119 (st' := ([.int (nI n), .int (nI wd), .int (nI v), .int (nI w), .int (nI t), .ref 0], [some (.ref 0), some (.int (nI t)), some (.int (nI w)), some (.int (nI r)), some (.int (nI i)), some (.int (nI n)), some (.int (nI wd)), some (.int (nI tr)), some (.int (nI m)), some (.int (nI v))], M2)) (φ := True) rfl trivial ?_
      refine sW_callV 9 [.int (nI t), .int (nI w), .int (nI v), .int (nI wd), .int (nI n)] [] d_TS_who_128 c_TS_who_128 ⟨rfl, rfl, rfl, Nat.le_of_ble_eq_true rfl, rfl, rfl⟩ oc_0 (k_fits G h2 hg ht hw (by omega) hwd hn) ?_
      rintro _ M3 ⟨rfl, f3, h3⟩
      show sW G m_TS_who 131 ([.int (tf (fitP (gH σ) t (if w = 0 then v else Sf (gH σ) t) (if w = 1 then v else Af (gH σ) t) (if w = 2 then v else Bf (gH σ) t) wd n))], [some (.ref 0), some (.int (nI t)), some (.int (nI w)), some (.int (nI r)), some (.int (nI i)), some (.int (nI n)), some (.int (nI wd)), some (.int (nI tr)), some (.int (nI m)), some (.int (nI v))], M3) _
      refine sW_if_eq 143 d_TS_who_131 (by decide) (fun c_131 => ?_) (fun c_131 => ?_)
      · skip
        replace c_131 := tf_z.mp c_131
        refine sW_go b_TS_who_143 (st' := ([], [some (.ref 0), some (.int (nI t)), some (.int (nI w)), some (.int (nI r)), some (.int (nI i)), some (.int (nI n)), some (.int (nI wd)), some (.int (nI tr)), some (.int (nI m)), some (.int (nI v + nI 1))], M3)) (φ := True) rfl trivial ?_
        refine sW_eq (st' := ([], [some (.ref 0), some (.int (nI t)), some (.int (nI w)), some (.int (nI r)), some (.int (nI i)), some (.int (nI n)), some (.int (nI wd)), some (.int (nI tr)), some (.int (nI m)), some (.int (nI (v + 1)))], M3)) (by simp (disch := omega) only [nI_add]) ?_
        refine sW_goto 112 d_TS_who_146 (by decide) ?_
        refine ih (v + 1, m, M3) (by dsimp only; omega) (by dsimp only; omega) hm (fun u => ?_) (f2.tr f3) h3
        dsimp only
        rw [hb u, lt1]
        refine ⟨fun q => ⟨Or.inl q.1, q.2⟩, fun q => ⟨q.1.resolve_right (fun e => c_131 (wv.mp (e ▸ q.2))), q.2⟩⟩
      · skip
        replace c_131 := tf_nz.mp c_131
        refine sW_go b_TS_who_134 (st' := ([], [some (.ref 0), some (.int (nI t)), some (.int (nI w)), some (.int (nI r)), some (.int (nI i)), some (.int (nI n)), some (.int (nI wd)), some (.int (nI tr)), some (.int (nI m ||| (nI 1 <<< (nI v &&& 31)))), some (.int (nI v))], M3)) (φ := True) rfl trivial ?_
        refine sW_eq (st' := ([], [some (.ref 0), some (.int (nI t)), some (.int (nI w)), some (.int (nI r)), some (.int (nI i)), some (.int (nI n)), some (.int (nI wd)), some (.int (nI tr)), some (.int (nI (m ||| (1 * 2 ^ v)))), some (.int (nI v))], M3)) (by simp (disch := omega) only [hsl, nx_or]) ?_
        refine sW_go b_TS_who_143 (st' := ([], [some (.ref 0), some (.int (nI t)), some (.int (nI w)), some (.int (nI r)), some (.int (nI i)), some (.int (nI n)), some (.int (nI wd)), some (.int (nI tr)), some (.int (nI (m ||| (1 * 2 ^ v)))), some (.int (nI v + nI 1))], M3)) (φ := True) rfl trivial ?_
        refine sW_eq (st' := ([], [some (.ref 0), some (.int (nI t)), some (.int (nI w)), some (.int (nI r)), some (.int (nI i)), some (.int (nI n)), some (.int (nI wd)), some (.int (nI tr)), some (.int (nI (m ||| (1 * 2 ^ v)))), some (.int (nI (v + 1)))], M3)) (by simp (disch := omega) only [nI_add]) ?_
        refine sW_goto 112 d_TS_who_146 (by decide) ?_
        refine ih (v + 1, m ||| 1 * 2 ^ v, M3) (by dsimp only; omega) (by dsimp only; omega) (or256 hm (by omega)) (fun u => ?_) (f2.tr f3) h3
        dsimp only
        rw [or_b u, hb u, lt1]
        constructor
        · rintro (q | q)
          · exact ⟨Or.inl q.1, q.2⟩
          · exact ⟨Or.inr q, by rw [q]; exact wv.mpr c_131⟩
        · rintro ⟨q1 | q1, q2⟩
          · exact Or.inl ⟨q1, q2⟩
          · exact Or.inr q1
  · have hve : v = tr := by omega
    subst hve
    refine sW_go b_TS_who_112 (st' := ([.int (nI v), .int (nI v)], [some (.ref 0), some (.int (nI t)), some (.int (nI w)), some (.int (nI r)), some (.int (nI i)), some (.int (nI n)), some (.int (nI wd)), some (.int (nI v)), some (.int (nI m)), some (.int (nI v))], M2)) (φ := True) rfl trivial ?_
    refine sW_ic_ge 149 d_TS_who_116 (by decide) (fun c_116 => ?_) (fun c_116 => ?_)
    · skip
      simp (disch := omega) only [nI_leI] at c_116
      refine sW_go b_TS_who_149 (st' := ([.int (nI m)], [some (.ref 0), some (.int (nI t)), some (.int (nI w)), some (.int (nI r)), some (.int (nI i)), some (.int (nI n)), some (.int (nI wd)), some (.int (nI v)), some (.int (nI m)), some (.int (nI v))], M2)) (φ := True) rfl trivial ?_
      refine sW_retI d_TS_who_151 rfl (vp_nar_int _) ?_
      have e : m = mk8 (whoP (gH σ) t w wd n) := mk8_of hm (fun u _ => by
        rw [hb u]
        exact ⟨fun q => q.2, fun q => ⟨by rw [htr]; exact q.1, q⟩⟩)
      rw [← e]
      exact ⟨rfl, f2, h2⟩
    · skip
      simp (disch := omega) only [nI_leI] at c_116
      omega

