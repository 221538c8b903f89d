/-! ===== TypeSets: who ===== -/
theorem HsOk.tell {hs : Hs} {j s a b : Nat} (h : HsOk hs) (hs5 : s ≤ 5) (ha : a ≤ 7) (hb : b ≤ 7) : HsOk (hsTell hs j s a b) := by
  refine ⟨h.1, h.2.1, fun k hk => ?_⟩
  show updN hs.2.2.1 j s k ≤ 5 ∧ updN hs.2.2.2.1 j a k ≤ 7 ∧ updN hs.2.2.2.2 j b k ≤ 7
  by_cases hx : k = j
  · rw [hx, updN_s, updN_s, updN_s]; omega
  · rw [updN_n _ _ hx, updN_n _ _ hx, updN_n _ _ hx]
    exact h.2.2 k hk
/-- the first n types that lie in j when j is told anew are the wanted ones -/
def fitP (hs : Hs) (j s a b wd n : Nat) : Prop := mayP hs.1 (nI j) (nI s) (nI a) (nI b) ∧ (mk8 (fun k => k < hs.1 ∧ LiesIn (hsTell hs j s a b) k j)) &&& (2 ^ n - 1) = wd
theorem k_fits57 (G : mx_G) {M : mx_M} {σ : Sg} (h : CInv M σ) (hg : GOk σ) {j w v wd n s a b : Nat} (hj : j < (gH σ).1) (hwd : wd < 256) (hn : n ≤ 8) (hs7 : s ≤ 7) (ha : a ≤ 7) (hb : b ≤ 7) : sW G m_TS_fits 57 ([.int (nI b)], [some (.ref 0), some (.int (nI j)), some (.int (nI w)), some (.int (nI v)), some (.int (nI wd)), some (.int (nI n)), some (.int (nI s)), some (.int (nI a)), none], M) (fun r M' => r = some (.int (tf (fitP (gH σ) j s a b wd n))) ∧ Fr M M' 0 119 ∧ CInv M' σ) := by
  have hH := h.2.2.1
  have h8 := hg.1.1.1
  have hal := all_n hn
  have hp8 := p8 hn
  refine sW_go b_TS_fits_57 (st' := ([.int (nI b), .int (nI a), .int (nI s), .int (nI j), .ref 7], [some (.ref 0), some (.int (nI j)), some (.int (nI w)), some (.int (nI v)), some (.int (nI wd)), some (.int (nI n)), some (.int (nI s)), some (.int (nI a)), some (.int (nI b))], M)) (φ := mx_ocl LAY 0 = 9 ∧ True) rfl ⟨oc_0, trivial⟩ ?_
  refine sW_callV 3 [.int (nI j), .int (nI s), .int (nI a), .int (nI b)] [] d_TS_fits_70 c_TS_fits_70 ⟨rfl, rfl, rfl, Nat.le_of_ble_eq_true rfl, rfl, rfl⟩ oc_7 (k_House_mayStand G oc_7 hH.1 h8 (nI j) (nI s) (nI a) (nI b)) ?_
  rintro _ M₁ ⟨rfl, h₁⟩
  rw [h₁]
  show sW G m_TS_fits 73 ([.int (tf (mayP (gH σ).1 (nI j) (nI s) (nI a) (nI b)))], [some (.ref 0), some (.int (nI j)), some (.int (nI w)), some (.int (nI v)), some (.int (nI wd)), some (.int (nI n)), some (.int (nI s)), some (.int (nI a)), some (.int (nI b))], M) _
  refine sW_if_ne 78 d_TS_fits_73 (by decide) (fun c_73 => ?_) (fun c_73 => ?_)
  · skip
    replace c_73 := tf_nz.mp c_73
    have hs5 : s ≤ 5 := by
      have := c_73.2.1.2
      rw [nI_toInt (by omega)] at this
      omega
    have hW : HsOk (hsTell (gH σ) j s a b) := hg.1.1.tell hs5 ha hb
    refine sW_go b_TS_fits_78 (st' := ([.ref 7, .ref 11], [some (.ref 0), some (.int (nI j)), some (.int (nI w)), some (.int (nI v)), some (.int (nI wd)), some (.int (nI n)), some (.int (nI s)), some (.int (nI a)), some (.int (nI b))], M)) (φ := mx_ocl LAY 0 = 9 ∧ mx_ocl LAY 0 = 9 ∧ True) rfl ⟨oc_0, oc_0, trivial⟩ ?_
    refine sW_callV 3 [.ref 7] [] d_TS_fits_86 c_TS_fits_86 ⟨rfl, rfl, rfl, Nat.le_of_ble_eq_true rfl, rfl, rfl⟩ oc_11 (k_House_takeFrom G oc_11 oc_7 (by decide)) ?_
    rintro _ M1 ⟨rfl, f1, a1, a2, a3⟩
    have hT1 : HsAt M1 11 (gH σ) := hH.take h8 a1 a2 a3
    have i1 := h.trial f1
    show sW G m_TS_fits 89 ([], [some (.ref 0), some (.int (nI j)), some (.int (nI w)), some (.int (nI v)), some (.int (nI wd)), some (.int (nI n)), some (.int (nI s)), some (.int (nI a)), some (.int (nI b))], M1) _
    refine sW_go b_TS_fits_89 (st' := ([.int (nI b), .int (nI a), .int (nI s), .int (nI j), .ref 11], [some (.ref 0), some (.int (nI j)), some (.int (nI w)), some (.int (nI v)), some (.int (nI wd)), some (.int (nI n)), some (.int (nI s)), some (.int (nI a)), some (.int (nI b))], M1)) (φ := mx_ocl LAY 0 = 9 ∧ True) rfl ⟨oc_0, trivial⟩ ?_
    refine sW_callV 3 [.int (nI j), .int (nI s), .int (nI a), .int (nI b)] [] d_TS_fits_100 c_TS_fits_100 ⟨rfl, rfl, rfl, Nat.le_of_ble_eq_true rfl, rfl, rfl⟩ oc_11 (k_House_tell G oc_11 (by omega) (nI s) (nI a) (nI b)) ?_
    rintro _ M2 ⟨rfl, g2⟩
    have f2 : Fr M1 M2 11 15 := by rw [g2]; exact ((Fr.rf.wr (by decide) (by decide)).wr (by decide) (by decide)).wr (by decide) (by decide)
    have hT2 : HsAt M2 11 (hsTell (gH σ) j s a b) := by rw [g2]; exact hT1.tell hj
    have i2 := i1.trial f2
    show sW G m_TS_fits 103 ([], [some (.ref 0), some (.int (nI j)), some (.int (nI w)), some (.int (nI v)), some (.int (nI wd)), some (.int (nI n)), some (.int (nI s)), some (.int (nI a)), some (.int (nI b))], M2) _
    refine sW_go b_TS_fits_103 (st' := ([.ref 11, .ref 65], [some (.ref 0), some (.int (nI j)), some (.int (nI w)), some (.int (nI v)), some (.int (nI wd)), some (.int (nI n)), some (.int (nI s)), some (.int (nI a)), some (.int (nI b))], M2)) (φ := mx_ocl LAY 0 = 9 ∧ mx_ocl LAY 0 = 9 ∧ True) rfl ⟨oc_0, oc_0, trivial⟩ ?_
    refine sW_callV 2 [.ref 11] [] d_TS_fits_111 c_TS_fits_111 ⟨rfl, rfl, rfl, Nat.le_of_ble_eq_true rfl, rfl, rfl⟩ oc_65 (k_measure G oc_65 oc_11 (by decide) hT2 hW i2.2.2.2.2.2.2.2.1) ?_
    rintro _ M3 ⟨rfl, f3, X, hD, hR⟩
    have i3 := i2.trialC f3 hD.1.sh
    show sW G m_TS_fits 114 ([], [some (.ref 0), some (.int (nI j)), some (.int (nI w)), some (.int (nI v)), some (.int (nI wd)), some (.int (nI n)), some (.int (nI s)), some (.int (nI a)), some (.int (nI b))], M3) _
    refine sW_go b_TS_fits_114 (st' := ([.int (nI j), .ref 65], [some (.ref 0), some (.int (nI j)), some (.int (nI w)), some (.int (nI v)), some (.int (nI wd)), some (.int (nI n)), some (.int (nI s)), some (.int (nI a)), some (.int (nI b))], M3)) (φ := mx_ocl LAY 0 = 9 ∧ True) rfl ⟨oc_0, trivial⟩ ?_
    refine sW_callV 2 [.int (nI j)] [] d_TS_fits_119 c_TS_fits_119 ⟨rfl, rfl, rfl, Nat.le_of_ble_eq_true rfl, rfl, rfl⟩ oc_65 (k_lyingIn G oc_65 hW hD hR hj) ?_
    rintro _ M₁ ⟨rfl, h₁⟩
    rw [h₁]
    have lm := mk8_lt (fun k => k < (gH σ).1 ∧ LiesIn (hsTell (gH σ) j s a b) k j)
    have lm2 : mk8 (fun k => k < (gH σ).1 ∧ LiesIn (hsTell (gH σ) j s a b) k j) &&& (2 ^ n - 1) < 256 := Nat.lt_of_le_of_lt Nat.and_le_left lm
    show sW G m_TS_fits 122 ([.int (nI (mk8 (fun k => k < (gH σ).1 ∧ LiesIn (hsTell (gH σ) j s a b) k j)))], [some (.ref 0), some (.int (nI j)), some (.int (nI w)), some (.int (nI v)), some (.int (nI wd)), some (.int (nI n)), some (.int (nI s)), some (.int (nI a)), some (.int (nI b))], M3) _
    refine sW_go b_TS_fits_122 (st' := ([.int (nI wd), .int (nI (mk8 (fun k => k < (gH σ).1 ∧ LiesIn (hsTell (gH σ) j s a b) k j)) &&& ((nI 1 <<< (nI n &&& 31)) - nI 1))], [some (.ref 0), some (.int (nI j)), some (.int (nI w)), some (.int (nI v)), some (.int (nI wd)), some (.int (nI n)), some (.int (nI s)), some (.int (nI a)), some (.int (nI b))], M3)) (φ := True) rfl trivial ?_
    refine sW_eq (st' := ([.int (nI wd), .int (nI (mk8 (fun k => k < (gH σ).1 ∧ LiesIn (hsTell (gH σ) j s a b) k j) &&& (2 ^ n - 1)))], [some (.ref 0), some (.int (nI j)), some (.int (nI w)), some (.int (nI v)), some (.int (nI wd)), some (.int (nI n)), some (.int (nI s)), some (.int (nI a)), some (.int (nI b))], M3)) (by simp (disch := omega) only [hal, nx_and]) ?_
    refine sW_ic_ne 138 d_TS_fits_131 (by decide) (fun c_131 => ?_) (fun c_131 => ?_)
    · skip
      simp (disch := omega) only [nI_eq] at c_131
      refine sW_go b_TS_fits_138 (st' := ([.int (nI 0)], [some (.ref 0), some (.int (nI j)), some (.int (nI w)), some (.int (nI v)), some (.int (nI wd)), some (.int (nI n)), some (.int (nI s)), some (.int (nI a)), some (.int (nI b))], M3)) (φ := True) rfl trivial ?_
      refine sW_retI d_TS_fits_139 rfl nb_0 ?_
      rw [tf_f (fun q => c_131 q.2)]
      exact ⟨rfl, ((f1.tr f2).mono (by decide) (by decide)).tr (f3.mono (by decide) (by decide)), i3⟩
    · skip
      simp (disch := omega) only [nI_eq] at c_131
      refine sW_go b_TS_fits_134 (st' := ([.int (nI 1)], [some (.ref 0), some (.int (nI j)), some (.int (nI w)), some (.int (nI v)), some (.int (nI wd)), some (.int (nI n)), some (.int (nI s)), some (.int (nI a)), some (.int (nI b))], M3)) (φ := True) rfl trivial ?_
      refine sW_goto 139 d_TS_fits_135 (by decide) ?_
      refine sW_retI d_TS_fits_139 rfl nb_1 ?_
      rw [tf_t ⟨c_73, c_131⟩]
      exact ⟨rfl, ((f1.tr f2).mono (by decide) (by decide)).tr (f3.mono (by decide) (by decide)), i3⟩
  · skip
    replace c_73 := tf_z.mp c_73
    refine sW_go b_TS_fits_76 (st' := ([.int (nI 0)], [some (.ref 0), some (.int (nI j)), some (.int (nI w)), some (.int (nI v)), some (.int (nI wd)), some (.int (nI n)), some (.int (nI s)), some (.int (nI a)), some (.int (nI b))], M)) (φ := True) rfl trivial ?_
    refine sW_retI d_TS_fits_77 rfl nb_0 ?_
    rw [tf_f (fun q => c_73 q.1)]
    exact ⟨rfl, Fr.rf, h⟩

