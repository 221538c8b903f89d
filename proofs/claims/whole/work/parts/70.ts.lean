/-! ===== TypeSets: pick ===== -/
theorem half_mul {a b : Nat} (hb : b ≠ 0) (h : b ≤ a) : 2 * (b * (a % b)) ≤ a * b := by
  have h1 := Nat.div_add_mod a b
  have h2 : 1 ≤ a / b := (Nat.one_le_div_iff (by omega)).mpr h
  have h3 : b * 1 ≤ b * (a / b) := Nat.mul_le_mul (Nat.le_refl b) h2
  have h4 := Nat.mod_lt a (show b > 0 by omega)
  have h5 : 2 * (a % b) ≤ a := by omega
  have h6 := Nat.mul_le_mul h5 (Nat.le_refl b)
  have e : 2 * (b * (a % b)) = 2 * (a % b) * b := by rw [Nat.mul_comm b, Nat.mul_assoc]
  omega
theorem k_gcd (G : mx_G) {M : mx_M} {a b : Nat} (ha : a < 2 ^ 20) (hb : b < 2 ^ 20) : sOk G m_TS_greatestDivisor [.int (nI a), .int (nI b)] M (fun r M' => r = some (.int (nI (Nat.gcd a b))) ∧ M' = M) := by
  refine sOk_of ⟨by decide +kernel, by decide +kernel, Nat.le_of_ble_eq_true rfl⟩ ?_
  show sW G m_TS_greatestDivisor 0 ([], [some (.int (nI a)), some (.int (nI b)), none, none, none, none], M) _
  refine sW_go b_TS_greatestDivisor_0 (st' := ([], [some (.int (nI a)), some (.int (nI b)), some (.int (nI a)), some (.int (nI b)), some (.int (nI 0)), none], M)) (φ := True) rfl trivial ?_
  refine mx_ind (α := Nat × Nat × Nat) (fun q => 64 - q.1) (fun q => q.1 ≤ 64 → q.2.1 < 2 ^ 20 → q.2.2 < 2 ^ 20 → Nat.gcd q.2.1 q.2.2 = Nat.gcd a b → (1 ≤ q.1 → q.2.2 ≤ q.2.1 ∧ q.2.1 * q.2.2 < 2 ^ (63 - q.1)) → sW G m_TS_greatestDivisor 7 ([], [some (.int (nI a)), some (.int (nI b)), some (.int (nI q.2.1)), some (.int (nI q.2.2)), some (.int (nI q.1)), none], M) _) ?_ (0, a, b) (Nat.zero_le _) ha hb rfl (fun w => absurd w (Nat.not_succ_le_zero 0))
  rintro ⟨i, x, y⟩ ih hi hx hy hgc hpr
  dsimp only at ih hi hx hy hgc hpr ⊢
  refine sW_go b_TS_greatestDivisor_7 (st' := ([.int (nI 64), .int (nI i)], [some (.int (nI a)), some (.int (nI b)), some (.int (nI x)), some (.int (nI y)), some (.int (nI i)), none], M)) (φ := True) rfl trivial ?_
  refine sW_ic_ge 34 d_TS_greatestDivisor_11 (by decide) (fun c_11 => ?_) (fun c_11 => ?_)
  · skip
    simp (disch := omega) only [nI_leI] at c_11
    refine sW_go b_TS_greatestDivisor_34 (st' := ([.int (nI x)], [some (.int (nI a)), some (.int (nI b)), some (.int (nI x)), some (.int (nI y)), some (.int (nI i)), none], M)) (φ := True) rfl trivial ?_
    refine sW_retI d_TS_greatestDivisor_35 rfl (vp_nar_int _) ?_
    have hz : y = 0 := by
      obtain ⟨p1, p2⟩ := hpr (by omega)
      rw [show 63 - i = 0 by omega] at p2
      by_cases hy0 : y = 0
      · exact hy0
      · have : 1 * 1 ≤ x * y := Nat.mul_le_mul (by omega) (by omega)
        omega
    rw [← hgc, hz, Nat.gcd_zero_right]
    exact ⟨rfl, rfl⟩
  · skip
    simp (disch := omega) only [nI_leI] at c_11
    refine sW_go b_TS_greatestDivisor_14 (st' := ([.int (nI y)], [some (.int (nI a)), some (.int (nI b)), some (.int (nI x)), some (.int (nI y)), some (.int (nI i)), none], M)) (φ := True) rfl trivial ?_
    refine sW_if_eq 34 d_TS_greatestDivisor_15 (by decide) (fun c_15 => ?_) (fun c_15 => ?_)
    · skip
      simp (disch := omega) only [nI_z] at c_15
      refine sW_go b_TS_greatestDivisor_34 (st' := ([.int (nI x)], [some (.int (nI a)), some (.int (nI b)), some (.int (nI x)), some (.int (nI y)), some (.int (nI i)), none], M)) (φ := True) rfl trivial ?_
      refine sW_retI d_TS_greatestDivisor_35 rfl (vp_nar_int _) ?_
      rw [← hgc, c_15, Nat.gcd_zero_right]
      exact ⟨rfl, rfl⟩
    · skip
      simp (disch := omega) only [nI_z] at c_15
      have hrem : nI x - nI x / nI y * nI y = nI (x % y) := pk_rem (by omega) (by omega) (by omega)
      have hnz : ¬ nI y = 0 := fun q => c_15 ((nI_z (by omega)).mp q)
      have hml := Nat.mod_lt x (show y > 0 by omega)
      refine sW_go b_TS_greatestDivisor_18 (st' := ([], [some (.int (nI a)), some (.int (nI b)), some (.int (nI y)), some (.int (nI x - nI x / nI y * nI y)), some (.int (nI i + nI 1)), some (.int (nI x - nI x / nI y * nI y))], M)) (φ := ¬ (nI y) = 0 ∧ True) rfl ⟨(by assumption), trivial⟩ ?_
      refine sW_eq (st' := ([], [some (.int (nI a)), some (.int (nI b)), some (.int (nI y)), some (.int (nI (x % y))), some (.int (nI (i + 1))), some (.int (nI (x % y)))], M)) (by simp (disch := omega) only [hrem, nI_add]) ?_
      refine sW_goto 7 d_TS_greatestDivisor_31 (by decide) ?_
      refine sW_fg [false, false, false, false, false, true] ?_
      show sW G m_TS_greatestDivisor 7 ([], [some (.int (nI a)), some (.int (nI b)), some (.int (nI y)), some (.int (nI (x % y))), some (.int (nI (i + 1))), none], M) _
      refine ih (i + 1, y, x % y) (by dsimp only; omega) (by dsimp only; omega) hy (by dsimp only; omega) ?_ (fun _ => ⟨by dsimp only; omega, ?_⟩)
      · dsimp only
        rw [← hgc, Nat.gcd_comm y, ← Nat.gcd_rec, Nat.gcd_comm]
      · dsimp only
        by_cases h0 : i = 0
        · subst h0
          have := Nat.mul_lt_mul'' hy (Nat.lt_trans hml hy)
          exact Nat.lt_of_lt_of_le this (by decide)
        · obtain ⟨p1, p2⟩ := hpr (by omega)
          have hh := half_mul c_15 p1
          by_cases h62 : i < 63
          · rw [show 63 - i = (63 - (i + 1)) + 1 by omega, Nat.pow_succ] at p2
            omega
          · rw [show 63 - i = 0 by omega] at p2
            have : 1 * 1 ≤ x * y := Nat.mul_le_mul (by omega) (by omega)
            omega
noncomputable def sp_pick (σ : Sg) (t k w : Int32) : Int32 × Sg := (cif (vp_in t (gH σ).1 ∧ (nI 1 ≤ k ∧ k ≤ nI 4) ∧ vp_in w 2) (nI ((cif (w = nI 0) (PS (gH σ) (tn k) (fun x => bt x (tn t))) (PS (gH σ) (tn k) (fun _ => 1))) / Nat.gcd (PS (gH σ) (tn k) (fun x => bt x (tn t))) (PS (gH σ) (tn k) (fun _ => 1)))) (-1000001), σ)
theorem PS_pos {hs : Hs} (hc : 0 < hs.2.1) {h : Nat} (hh : 1 ≤ h) : 0 < PS hs h (fun _ => 1) := by
  obtain ⟨k, rfl⟩ : ∃ k, h = k + 1 := ⟨h - 1, by omega⟩
  show 0 < _ + _
  have h1 := ls_in (g := fun _ => 1) (List.mem_range.mpr hc)
  have h2 : 1 ≤ ls (fun i => (fun _ => 1) (constCell hs i)) (List.range hs.2.1) := h1
  omega
theorem ts_pick (G : mx_G) {M : mx_M} {σ : Sg} (h : CInv M σ) (hg : GOk σ) (t k w : Int32) : sOk G m_TS_pick [.ref 0, .int t, .int k, .int w] M (COk M (sp_pick σ t k w)) := by
  have hH := h.2.2.1
  have h8 := hg.1.1.1
  by_cases hc : vp_in t (gH σ).1 ∧ (nI 1 ≤ k ∧ k ≤ nI 4) ∧ vp_in w 2
  · obtain ⟨hp, ⟨h1, h4⟩, hw⟩ := id hc
    obtain ⟨x, hx, rfl⟩ := vp_in_of hp (by omega)
    obtain ⟨j, j1, j4, rfl⟩ := in14 h1 h4
    obtain ⟨y, hy, rfl⟩ := vp_in_of hw (by decide)
    have hy0 : ¬ nI y < 0 := fun q => hw (Or.inl q)
    have hcc := hg.1.2.2 (by omega)
    have b1 := Nat.le_trans (PS_le hg.1.1 j (φ := fun q => bt q x) (fun q => bt_le q x)) (PSb_4 j4)
    have b2 := Nat.le_trans (PS_le hg.1.1 j (φ := fun _ => 1) (fun _ => Nat.le_refl 1)) (PSb_4 j4)
    have b3 := PS_pos hcc j1
    unfold sp_pick
    rw [cif_t hc, show tn (nI x) = x from nI_clamp (by omega), show tn (nI j) = j from nI_clamp (by omega)]
    refine sOk_of ⟨by decide +kernel, by decide +kernel, Nat.le_of_ble_eq_true rfl⟩ ?_
    show sW G m_TS_pick 0 ([], [some (.ref 0), some (.int (nI x)), some (.int (nI j)), some (.int (nI y)), none, none, none], M) _
    refine sW_go b_TS_pick_0 (st' := ([.int (nI x), .ref 7], [some (.ref 0), some (.int (nI x)), some (.int (nI j)), some (.int (nI y)), none, none, none], M)) (φ := mx_ocl LAY 0 = 9 ∧ True) rfl ⟨oc_0, trivial⟩ ?_
    refine sW_callV 3 [.int (nI x)] [] d_TS_pick_5 c_TS_pick_5 ⟨rfl, rfl, rfl, Nat.le_of_ble_eq_true rfl, rfl, rfl⟩ oc_7 (k_House_has G oc_7 hH.1 h8 (nI x)) ?_
    rintro _ M₁ ⟨rfl, h₁⟩
    rw [h₁]
    show sW G m_TS_pick 8 ([.int (tf (vp_in (nI x) (gH σ).1))], [some (.ref 0), some (.int (nI x)), some (.int (nI j)), some (.int (nI y)), none, none, none], M) _
    refine sW_if_eq 30 d_TS_pick_8 (by decide) (fun c_8 => ?_) (fun c_8 => ?_)
    · skip
      replace c_8 := tf_z.mp c_8
      refine sW_go b_TS_pick_30 (st' := ([.int (-1000001)], [some (.ref 0), some (.int (nI x)), some (.int (nI j)), some (.int (nI y)), none, none, none], M)) (φ := True) rfl trivial ?_
      refine sW_retI d_TS_pick_32 rfl (vp_nar_int _) ?_
      exact absurd hp c_8
    · skip
      replace c_8 := tf_nz.mp c_8
      refine sW_go b_TS_pick_11 (st' := ([.int (nI 1), .int (nI j)], [some (.ref 0), some (.int (nI x)), some (.int (nI j)), some (.int (nI y)), none, none, none], M)) (φ := True) rfl trivial ?_
      refine sW_ic_lt 30 d_TS_pick_13 (by decide) (fun c_13 => ?_) (fun c_13 => ?_)
      · skip
        simp (disch := omega) only [nI_ltI] at c_13
        refine sW_go b_TS_pick_30 (st' := ([.int (-1000001)], [some (.ref 0), some (.int (nI x)), some (.int (nI j)), some (.int (nI y)), none, none, none], M)) (φ := True) rfl trivial ?_
        refine sW_retI d_TS_pick_32 rfl (vp_nar_int _) ?_
        omega
      · skip
        simp (disch := omega) only [nI_ltI] at c_13
        refine sW_go b_TS_pick_16 (st' := ([.int (nI 4), .int (nI j)], [some (.ref 0), some (.int (nI x)), some (.int (nI j)), some (.int (nI y)), none, none, none], M)) (φ := True) rfl trivial ?_
        refine sW_ic_gt 30 d_TS_pick_18 (by decide) (fun c_18 => ?_) (fun c_18 => ?_)
        · skip
          simp (disch := omega) only [nI_ltI] at c_18
          refine sW_go b_TS_pick_30 (st' := ([.int (-1000001)], [some (.ref 0), some (.int (nI x)), some (.int (nI j)), some (.int (nI y)), none, none, none], M)) (φ := True) rfl trivial ?_
          refine sW_retI d_TS_pick_32 rfl (vp_nar_int _) ?_
          omega
        · skip
          simp (disch := omega) only [nI_ltI] at c_18
          refine sW_go b_TS_pick_21 (st' := ([.int (nI y)], [some (.ref 0), some (.int (nI x)), some (.int (nI j)), some (.int (nI y)), none, none, none], M)) (φ := True) rfl trivial ?_
          refine sW_if_lt 30 d_TS_pick_22 (by decide) (fun c_22 => ?_) (fun c_22 => ?_)
          · skip
            refine sW_go b_TS_pick_30 (st' := ([.int (-1000001)], [some (.ref 0), some (.int (nI x)), some (.int (nI j)), some (.int (nI y)), none, none, none], M)) (φ := True) rfl trivial ?_
            refine sW_retI d_TS_pick_32 rfl (vp_nar_int _) ?_
            exact absurd c_22 hy0
          · skip
            refine sW_go b_TS_pick_25 (st' := ([.int (nI 1), .int (nI y)], [some (.ref 0), some (.int (nI x)), some (.int (nI j)), some (.int (nI y)), none, none, none], M)) (φ := True) rfl trivial ?_
            refine sW_ic_le 33 d_TS_pick_27 (by decide) (fun c_27 => ?_) (fun c_27 => ?_)
            · skip
              simp (disch := omega) only [nI_leI] at c_27
              have kh := fun (M2 : mx_M) (hP : PlainOK M2 102 (gH σ)) => k_howMany G (M := M2) (t := x) (h := j) oc_102 hP (by omega) j1 j4
              have ka := fun (M2 : mx_M) (hP : PlainOK M2 102 (gH σ)) => k_ofAny G (M := M2) (h := j) oc_102 hP j1 j4
              generalize hAb : PS (gH σ) j (fun q => bt q x) = ab at b1 kh ⊢
              generalize hBe : PS (gH σ) j (fun _ => 1) = be at b2 b3 ka ⊢
              have kg := fun (M2 : mx_M) => k_gcd G (M := M2) (a := ab) (b := be) (by omega) (by omega)
              have g1 : Nat.gcd ab be ≤ be := Nat.gcd_le_right ab b3
              have g2' : 0 < Nat.gcd ab be := Nat.gcd_pos_of_pos_right ab b3
              generalize hgg : Nat.gcd ab be = gg at kg g1 g2' ⊢
              have hnz : ¬ nI gg = 0 := fun q => by rw [nI_z (by omega)] at q; omega
              have d1 : nI ab / nI gg = nI (ab / gg) := pk_div (by omega) g2' (by omega)
              have d2 : nI be / nI gg = nI (be / gg) := pk_div (by omega) g2' (by omega)
              refine sW_go b_TS_pick_33 (st' := ([.ref 0], [some (.ref 0), some (.int (nI x)), some (.int (nI j)), some (.int (nI y)), none, none, none], M)) (φ := True) rfl trivial ?_
              refine sW_callV 9 [] [] d_TS_pick_34 c_TS_pick_34 ⟨rfl, rfl, rfl, Nat.le_of_ble_eq_true rfl, rfl, rfl⟩ oc_0 (k_plainNow G h hg) ?_
              rintro _ M2 ⟨rfl, f2, g2, hP⟩
              show sW G m_TS_pick 37 ([.ref 102], [some (.ref 0), some (.int (nI x)), some (.int (nI j)), some (.int (nI y)), none, none, none], M2) _
              refine sW_go b_TS_pick_37 (st' := ([.int (nI j), .int (nI x), .ref 102], [some (.ref 0), some (.int (nI x)), some (.int (nI j)), some (.int (nI y)), none, none, none], M2)) (φ := True) rfl trivial ?_
              refine sW_callV 4 [.int (nI x), .int (nI j)] [] d_TS_pick_39 c_TS_pick_39 ⟨rfl, rfl, rfl, Nat.le_of_ble_eq_true rfl, rfl, rfl⟩ oc_102 (kh M2 hP) ?_
              rintro _ M₁ ⟨rfl, h₁⟩
              rw [h₁]
              show sW G m_TS_pick 42 ([.int (nI ab)], [some (.ref 0), some (.int (nI x)), some (.int (nI j)), some (.int (nI y)), none, none, none], M2) _
              refine sW_go b_TS_pick_42 (st' := ([.ref 0], [some (.ref 0), some (.int (nI x)), some (.int (nI j)), some (.int (nI y)), some (.int (nI ab)), none, none], M2)) (φ := True) rfl trivial ?_
              refine sW_callV 9 [] [] d_TS_pick_45 c_TS_pick_45 ⟨rfl, rfl, rfl, Nat.le_of_ble_eq_true rfl, rfl, rfl⟩ oc_0 (k_plainNow G g2 hg) ?_
              rintro _ M3 ⟨rfl, f3, g3, hP3⟩
              show sW G m_TS_pick 48 ([.ref 102], [some (.ref 0), some (.int (nI x)), some (.int (nI j)), some (.int (nI y)), some (.int (nI ab)), none, none], M3) _
              refine sW_go b_TS_pick_48 (st' := ([.int (nI j), .ref 102], [some (.ref 0), some (.int (nI x)), some (.int (nI j)), some (.int (nI y)), some (.int (nI ab)), none, none], M3)) (φ := True) rfl trivial ?_
              refine sW_callV 4 [.int (nI j)] [] d_TS_pick_49 c_TS_pick_49 ⟨rfl, rfl, rfl, Nat.le_of_ble_eq_true rfl, rfl, rfl⟩ oc_102 (ka M3 hP3) ?_
              rintro _ M₁ ⟨rfl, h₁⟩
              rw [h₁]
              show sW G m_TS_pick 52 ([.int (nI be)], [some (.ref 0), some (.int (nI x)), some (.int (nI j)), some (.int (nI y)), some (.int (nI ab)), none, none], M3) _
              refine sW_go b_TS_pick_52 (st' := ([.int (nI be), .int (nI ab)], [some (.ref 0), some (.int (nI x)), some (.int (nI j)), some (.int (nI y)), some (.int (nI ab)), some (.int (nI be)), none], M3)) (φ := True) rfl trivial ?_
              refine sW_callS [.int (nI ab), .int (nI be)] [] d_TS_pick_58 c_TS_pick_58 ⟨rfl, rfl, Nat.le_of_ble_eq_true rfl, rfl, rfl⟩ (kg M3) ?_
              rintro _ M₁ ⟨rfl, h₁⟩
              rw [h₁]
              show sW G m_TS_pick 61 ([.int (nI gg)], [some (.ref 0), some (.int (nI x)), some (.int (nI j)), some (.int (nI y)), some (.int (nI ab)), some (.int (nI be)), none], M3) _
              refine sW_go b_TS_pick_61 (st' := ([.int (nI 1), .int (nI gg)], [some (.ref 0), some (.int (nI x)), some (.int (nI j)), some (.int (nI y)), some (.int (nI ab)), some (.int (nI be)), some (.int (nI gg))], M3)) (φ := True) rfl trivial ?_
              refine sW_ic_ge 72 d_TS_pick_66 (by decide) (fun c_66 => ?_) (fun c_66 => ?_)
              · skip
                simp (disch := omega) only [nI_leI] at c_66
                refine sW_go b_TS_pick_72 (st' := ([.int (nI y)], [some (.ref 0), some (.int (nI x)), some (.int (nI j)), some (.int (nI y)), some (.int (nI ab)), some (.int (nI be)), some (.int (nI gg))], M3)) (φ := True) rfl trivial ?_
                refine sW_if_ne 81 d_TS_pick_73 (by decide) (fun c_73 => ?_) (fun c_73 => ?_)
                · skip
                  simp (disch := omega) only [nI_z] at c_73
                  refine sW_go b_TS_pick_81 (st' := ([.int (nI be)], [some (.ref 0), some (.int (nI x)), some (.int (nI j)), some (.int (nI y)), some (.int (nI ab)), some (.int (nI be)), some (.int (nI gg))], M3)) (φ := True) rfl trivial ?_
                  refine sW_go b_TS_pick_83 (st' := ([.int (nI be / nI gg)], [some (.ref 0), some (.int (nI x)), some (.int (nI j)), some (.int (nI y)), some (.int (nI ab)), some (.int (nI be)), some (.int (nI gg))], M3)) (φ := ¬ (nI gg) = 0 ∧ True) rfl ⟨(by assumption), trivial⟩ ?_
                  refine sW_eq (st' := ([.int (nI (be / gg))], [some (.ref 0), some (.int (nI x)), some (.int (nI j)), some (.int (nI y)), some (.int (nI ab)), some (.int (nI be)), some (.int (nI gg))], M3)) (by simp (disch := omega) only [d2]) ?_
                  refine sW_retI d_TS_pick_86 rfl (vp_nar_int _) ?_
                  have hw0 : ¬ nI y = nI 0 := fun q => c_73 ((nI_eq (by omega) (by decide)).mp q)
                  rw [cif_f hw0]
                  exact ⟨rfl, f2.tr f3, g3⟩
                · skip
                  simp (disch := omega) only [nI_z] at c_73
                  refine sW_go b_TS_pick_76 (st' := ([.int (nI ab)], [some (.ref 0), some (.int (nI x)), some (.int (nI j)), some (.int (nI y)), some (.int (nI ab)), some (.int (nI be)), some (.int (nI gg))], M3)) (φ := True) rfl trivial ?_
                  refine sW_goto 83 d_TS_pick_78 (by decide) ?_
                  refine sW_go b_TS_pick_83 (st' := ([.int (nI ab / nI gg)], [some (.ref 0), some (.int (nI x)), some (.int (nI j)), some (.int (nI y)), some (.int (nI ab)), some (.int (nI be)), some (.int (nI gg))], M3)) (φ := ¬ (nI gg) = 0 ∧ True) rfl ⟨(by assumption), trivial⟩ ?_
                  refine sW_eq (st' := ([.int (nI (ab / gg))], [some (.ref 0), some (.int (nI x)), some (.int (nI j)), some (.int (nI y)), some (.int (nI ab)), some (.int (nI be)), some (.int (nI gg))], M3)) (by simp (disch := omega) only [d1]) ?_
                  refine sW_retI d_TS_pick_86 rfl (vp_nar_int _) ?_
                  have hw0 : nI y = nI 0 := by rw [c_73]
                  rw [cif_t hw0]
                  exact ⟨rfl, f2.tr f3, g3⟩
              · skip
                simp (disch := omega) only [nI_leI] at c_66
                refine sW_go b_TS_pick_69 (st' := ([.int (-1000001)], [some (.ref 0), some (.int (nI x)), some (.int (nI j)), some (.int (nI y)), some (.int (nI ab)), some (.int (nI be)), some (.int (nI gg))], M3)) (φ := True) rfl trivial ?_
                refine sW_retI d_TS_pick_71 rfl (vp_nar_int _) ?_
                omega
            · skip
              simp (disch := omega) only [nI_leI] at c_27
              refine sW_go b_TS_pick_30 (st' := ([.int (-1000001)], [some (.ref 0), some (.int (nI x)), some (.int (nI j)), some (.int (nI y)), none, none, none], M)) (φ := True) rfl trivial ?_
              refine sW_retI d_TS_pick_32 rfl (vp_nar_int _) ?_
              omega
  · have hc2 := hc
    unfold sp_pick
    rw [cif_f hc]
    refine sOk_of ⟨by decide +kernel, by decide +kernel, Nat.le_of_ble_eq_true rfl⟩ ?_
    show sW G m_TS_pick 0 ([], [some (.ref 0), some (.int t), some (.int k), some (.int w), none, none, none], M) _
    refine sW_go b_TS_pick_0 (st' := ([.int t, .ref 7], [some (.ref 0), some (.int t), some (.int k), some (.int w), none, none, none], M)) (φ := mx_ocl LAY 0 = 9 ∧ True) rfl ⟨oc_0, trivial⟩ ?_
    refine sW_callV 3 [.int t] [] d_TS_pick_5 c_TS_pick_5 ⟨rfl, rfl, rfl, Nat.le_of_ble_eq_true rfl, rfl, rfl⟩ oc_7 (k_House_has G oc_7 hH.1 h8 t) ?_
    rintro _ M₁ ⟨rfl, h₁⟩
    rw [h₁]
    show sW G m_TS_pick 8 ([.int (tf (vp_in t (gH σ).1))], [some (.ref 0), some (.int t), some (.int k), some (.int w), none, none, none], M) _
    refine sW_if_eq 30 d_TS_pick_8 (by decide) (fun c_8 => ?_) (fun c_8 => ?_)
    · skip
      replace c_8 := tf_z.mp c_8
      refine sW_go b_TS_pick_30 (st' := ([.int (-1000001)], [some (.ref 0), some (.int t), some (.int k), some (.int w), none, none, none], M)) (φ := True) rfl trivial ?_
      refine sW_retI d_TS_pick_32 rfl (vp_nar_int _) ?_
      exact ⟨rfl, Fr.rf, h⟩
    · skip
      replace c_8 := tf_nz.mp c_8
      refine sW_go b_TS_pick_11 (st' := ([.int (nI 1), .int k], [some (.ref 0), some (.int t), some (.int k), some (.int w), none, none, none], M)) (φ := True) rfl trivial ?_
      refine sW_ic_lt 30 d_TS_pick_13 (by decide) (fun c_13 => ?_) (fun c_13 => ?_)
      · skip
        refine sW_go b_TS_pick_30 (st' := ([.int (-1000001)], [some (.ref 0), some (.int t), some (.int k), some (.int w), none, none, none], M)) (φ := True) rfl trivial ?_
        refine sW_retI d_TS_pick_32 rfl (vp_nar_int _) ?_
        exact ⟨rfl, Fr.rf, h⟩
      · skip
        refine sW_go b_TS_pick_16 (st' := ([.int (nI 4), .int k], [some (.ref 0), some (.int t), some (.int k), some (.int w), none, none, none], M)) (φ := True) rfl trivial ?_
        refine sW_ic_gt 30 d_TS_pick_18 (by decide) (fun c_18 => ?_) (fun c_18 => ?_)
        · skip
          refine sW_go b_TS_pick_30 (st' := ([.int (-1000001)], [some (.ref 0), some (.int t), some (.int k), some (.int w), none, none, none], M)) (φ := True) rfl trivial ?_
          refine sW_retI d_TS_pick_32 rfl (vp_nar_int _) ?_
          exact ⟨rfl, Fr.rf, h⟩
        · skip
          refine sW_go b_TS_pick_21 (st' := ([.int w], [some (.ref 0), some (.int t), some (.int k), some (.int w), none, none, none], M)) (φ := True) rfl trivial ?_
          refine sW_if_lt 30 d_TS_pick_22 (by decide) (fun c_22 => ?_) (fun c_22 => ?_)
          · skip
            refine sW_go b_TS_pick_30 (st' := ([.int (-1000001)], [some (.ref 0), some (.int t), some (.int k), some (.int w), none, none, none], M)) (φ := True) rfl trivial ?_
            refine sW_retI d_TS_pick_32 rfl (vp_nar_int _) ?_
            exact ⟨rfl, Fr.rf, h⟩
          · skip
            refine sW_go b_TS_pick_25 (st' := ([.int (nI 1), .int w], [some (.ref 0), some (.int t), some (.int k), some (.int w), none, none, none], M)) (φ := True) rfl trivial ?_
            refine sW_ic_le 33 d_TS_pick_27 (by decide) (fun c_27 => ?_) (fun c_27 => ?_)
            · skip
              exact absurd ⟨c_8, ⟨(by rw [Int32.le_iff_toInt_le]; rw [Int32.lt_iff_toInt_lt] at c_13; omega), (by rw [Int32.le_iff_toInt_le]; rw [Int32.lt_iff_toInt_lt] at c_18; omega)⟩, vp_in_iff.mpr (by
                rw [Int32.lt_iff_toInt_lt] at c_22
                rw [Int32.le_iff_toInt_le, nI_toInt (by decide)] at c_27
                have : (0 : Int32).toInt = 0 := by decide
                omega)⟩ hc
            · skip
              refine sW_go b_TS_pick_30 (st' := ([.int (-1000001)], [some (.ref 0), some (.int t), some (.int k), some (.int w), none, none, none], M)) (φ := True) rfl trivial ?_
              refine sW_retI d_TS_pick_32 rfl (vp_nar_int _) ?_
              exact ⟨rfl, Fr.rf, h⟩

