noncomputable def drI (p : Nat × Hs) : Nat → Nat × Hs
  | 0 => p
  | k + 1 => ((drI p k).1 * 16807 % 2147483647, drwH (drI p k).2 ((drI p k).1 * 16807 % 2147483647))
theorem drwH_ok {H : Hs} (hw : HsOk H) (x : Nat) : HsOk (drwH H x) ∧ (drwH H x).1 = H.1 := by
  unfold drwH
  by_cases h : mayP H.1 (nI (x % H.1)) (nI (x / 8 % 6)) (nI (x / 64 % 8)) (nI (x / 512 % 8))
  · rw [cif_t h]
    exact ⟨hw.tell (by omega) (by omega) (by omega), rfl⟩
  · rw [cif_f h]
    exact ⟨hw, rfl⟩
noncomputable def sp_drawn (σ : Sg) (n s w : Int32) : Int32 × Sg := (if (gH σ).1 = 0 then (-1000002) else cif (vp_in n 21 ∧ (nI 1 ≤ s ∧ s ≤ nI 999999) ∧ vp_in w 2) (cif (w = nI 0) (nI (gH σ).1 - nI (pop (empM (drI (tn s, gH σ) (tn n)).2))) (nI (cntK (Kw (drI (tn s, gH σ) (tn n)).2) 256))) (-1000001), σ)
theorem k_drawn94 (G : mx_G) {M M0 : mx_M} {σ : Sg} {H : Hs} {n s x w k : Nat} (h : CInv M σ) (hf : Fr M0 M 0 119) (hT : HsAt M 11 H) (hw : HsOk H) (h1 : H.1 = (gH σ).1) (hw1 : w ≤ 1) : sW G m_TS_drawn 94 ([], [some (.ref 0), some (.int (nI n)), some (.int (nI s)), some (.int (nI w)), some (.long (lN x)), none, some (.int (nI k))], M) (fun r M' => r = some (.int (cif (nI w = nI 0) (nI (gH σ).1 - nI (pop (empM H))) (nI (cntK (Kw H) 256)))) ∧ Fr M0 M' 0 119 ∧ CInv M' σ) := by
  refine sW_go b_TS_drawn_94 (st' := ([.ref 11, .ref 65], [some (.ref 0), some (.int (nI n)), some (.int (nI s)), some (.int (nI w)), some (.long (lN x)), none, some (.int (nI k))], M)) (φ := mx_ocl LAY 0 = 9 ∧ mx_ocl LAY 0 = 9 ∧ True) rfl ⟨oc_0, oc_0, trivial⟩ ?_
  refine sW_callV 2 [.ref 11] [] d_TS_drawn_102 c_TS_drawn_102 ⟨rfl, rfl, rfl, Nat.le_of_ble_eq_true rfl, rfl, rfl⟩ oc_65 (k_measure G oc_65 oc_11 (by decide) hT hw h.2.2.2.2.2.2.2.1) ?_
  rintro _ M2 ⟨rfl, f2, X, hD, hR⟩
  have i2 := h.trialC f2 hD.1.sh
  have z1 : M2 11 3 = nI (gH σ).1 := by rw [f2 11 (by decide), hT.1, h1]
  have z2 : M2 70 2 = nI (cntK (Kw H) 256) := by rw [← hD.cnt]; exact hD.1.2.2.2.2.2.2.1.1
  show sW G m_TS_drawn 105 ([], [some (.ref 0), some (.int (nI n)), some (.int (nI s)), some (.int (nI w)), some (.long (lN x)), none, some (.int (nI k))], M2) _
  refine sW_go b_TS_drawn_105 (st' := ([.int (nI w)], [some (.ref 0), some (.int (nI n)), some (.int (nI s)), some (.int (nI w)), some (.long (lN x)), none, some (.int (nI k))], M2)) (φ := True) rfl trivial ?_
  refine sW_if_ne 130 d_TS_drawn_106 (by decide) (fun c_106 => ?_) (fun c_106 => ?_)
  · skip
    simp (disch := omega) only [nI_z] at c_106
    refine sW_go b_TS_drawn_130 (st' := ([.int (M2 70 2)], [some (.ref 0), some (.int (nI n)), some (.int (nI s)), some (.int (nI w)), some (.long (lN x)), none, some (.int (nI k))], M2)) (φ := mx_ocl LAY 0 = 9 ∧ mx_ocl LAY 65 = 2 ∧ mx_ocl LAY 70 = 6 ∧ True) rfl ⟨oc_0, oc_65, oc_70, trivial⟩ ?_
    refine sW_eq (st' := ([.int (nI (cntK (Kw H) 256))], [some (.ref 0), some (.int (nI n)), some (.int (nI s)), some (.int (nI w)), some (.long (lN x)), none, some (.int (nI k))], M2)) (by simp (disch := omega) only [z2]) ?_
    refine sW_retI d_TS_drawn_140 rfl (vp_nar_int _) ?_
    rw [cif_f (fun q => c_106 ((nI_eq (by omega) (by decide)).mp q))]
    exact ⟨rfl, hf.tr (f2.mono (by decide) (by decide)), i2⟩
  · skip
    simp (disch := omega) only [nI_z] at c_106
    refine sW_go b_TS_drawn_109 (st' := ([.ref 65, .int (M2 11 3)], [some (.ref 0), some (.int (nI n)), some (.int (nI s)), some (.int (nI w)), some (.long (lN x)), none, some (.int (nI k))], M2)) (φ := mx_ocl LAY 0 = 9 ∧ mx_ocl LAY 11 = 3 ∧ mx_ocl LAY 0 = 9 ∧ True) rfl ⟨oc_0, oc_11, oc_0, trivial⟩ ?_
    refine sW_eq (st' := ([.ref 65, .int (nI (gH σ).1)], [some (.ref 0), some (.int (nI n)), some (.int (nI s)), some (.int (nI w)), some (.long (lN x)), none, some (.int (nI k))], M2)) (by simp (disch := omega) only [z1]) ?_
    refine sW_callV 2 [] [.int (nI (gH σ).1)] d_TS_drawn_120 c_TS_drawn_120 ⟨rfl, rfl, rfl, Nat.le_of_ble_eq_true rfl, rfl, rfl⟩ oc_65 (k_withoutValue G oc_65 hw hD) ?_
    rintro _ M₁ ⟨rfl, h₁⟩
    rw [h₁]
    show sW G m_TS_drawn 123 ([.int (nI (empM H)), .int (nI (gH σ).1)], [some (.ref 0), some (.int (nI n)), some (.int (nI s)), some (.int (nI w)), some (.long (lN x)), none, some (.int (nI k))], M2) _
    refine sW_callS [.int (nI (empM H))] [.int (nI (gH σ).1)] d_TS_drawn_123 c_TS_drawn_123 ⟨rfl, rfl, Nat.le_of_ble_eq_true rfl, rfl, rfl⟩ (k_bitCount G (mk8_lt _)) ?_
    rintro _ M₁ ⟨rfl, h₁⟩
    rw [h₁]
    show sW G m_TS_drawn 126 ([.int (nI (pop (empM H))), .int (nI (gH σ).1)], [some (.ref 0), some (.int (nI n)), some (.int (nI s)), some (.int (nI w)), some (.long (lN x)), none, some (.int (nI k))], M2) _
    refine sW_go b_TS_drawn_126 (st' := ([.int (nI (gH σ).1 - nI (pop (empM H)))], [some (.ref 0), some (.int (nI n)), some (.int (nI s)), some (.int (nI w)), some (.long (lN x)), none, some (.int (nI k))], M2)) (φ := True) rfl trivial ?_
    refine sW_goto 140 d_TS_drawn_127 (by decide) ?_
    refine sW_retI d_TS_drawn_140 rfl (vp_nar_int _) ?_
    rw [cif_t (by rw [c_106])]
    exact ⟨rfl, hf.tr (f2.mono (by decide) (by decide)), i2⟩

