theorem CInv.image {M M' : mx_M} {σ : Sg} {x : Hs × Hs} (h : CInv M σ) (f : Fr M M' 15 23) (hI : HsAt M' 15 x.1) (hJ : HsAt M' 19 x.2) : CInv M' (wI σ x) := by
  obtain ⟨h1, ⟨h2, h2'⟩, h3, h4, h5, h6, h7, h8, h9, h10, h11⟩ := h
  refine ⟨h1.fr f (by decide), ⟨h2.fr f (by decide), ?_⟩, h3.fr f (by decide), hI, hJ, h6.fr f (by decide), h7.of f (by rw [f 0 (by decide)]) (by decide), h8.fr f (by decide), h9.of f (by rw [f 0 (by decide)]) (by decide), h10.fr f (by decide), ?_⟩
  · rw [f 5 (by decide)]; exact h2'
  · rw [f 0 (by decide)]; exact h11
theorem k_imageOf0 (G : mx_G) {M : mx_M} : sOk G m_TS_imageOf [.ref 0, .int (nI 0)] M (fun r M' => r = some (.ref 15) ∧ M' = M) := by
  refine sOk_of ⟨by decide +kernel, by decide +kernel, Nat.le_of_ble_eq_true rfl⟩ ?_
  show sW G m_TS_imageOf 0 ([], [some (.ref 0), some (.int (nI 0))], M) _
  refine sW_go b_TS_imageOf_0 (st' := ([.int (nI 0)], [some (.ref 0), some (.int (nI 0))], M)) (φ := True) rfl trivial ?_
  refine sW_if_ne 11 d_TS_imageOf_1 (by decide) (fun c_1 => ?_) (fun c_1 => ?_)
  · skip
    simp (disch := omega) only [nI_z] at c_1
    refine sW_go b_TS_imageOf_11 (st' := ([.ref 19], [some (.ref 0), some (.int (nI 0))], M)) (φ := mx_ocl LAY 0 = 9 ∧ True) rfl ⟨oc_0, trivial⟩ ?_
    refine sW_retA d_TS_imageOf_15 rfl ?_
    exact absurd trivial c_1
  · skip
    simp (disch := omega) only [nI_z] at c_1
    refine sW_go b_TS_imageOf_4 (st' := ([.ref 15], [some (.ref 0), some (.int (nI 0))], M)) (φ := mx_ocl LAY 0 = 9 ∧ True) rfl ⟨oc_0, trivial⟩ ?_
    refine sW_goto 15 d_TS_imageOf_8 (by decide) ?_
    refine sW_retA d_TS_imageOf_15 rfl ?_
    exact ⟨rfl, rfl⟩
theorem k_imageOf1 (G : mx_G) {M : mx_M} : sOk G m_TS_imageOf [.ref 0, .int (nI 1)] M (fun r M' => r = some (.ref 19) ∧ M' = M) := by
  refine sOk_of ⟨by decide +kernel, by decide +kernel, Nat.le_of_ble_eq_true rfl⟩ ?_
  show sW G m_TS_imageOf 0 ([], [some (.ref 0), some (.int (nI 1))], M) _
  refine sW_go b_TS_imageOf_0 (st' := ([.int (nI 1)], [some (.ref 0), some (.int (nI 1))], M)) (φ := True) rfl trivial ?_
  refine sW_if_ne 11 d_TS_imageOf_1 (by decide) (fun c_1 => ?_) (fun c_1 => ?_)
  · skip
    simp (disch := omega) only [nI_z] at c_1
    refine sW_go b_TS_imageOf_11 (st' := ([.ref 19], [some (.ref 0), some (.int (nI 1))], M)) (φ := mx_ocl LAY 0 = 9 ∧ True) rfl ⟨oc_0, trivial⟩ ?_
    refine sW_retA d_TS_imageOf_15 rfl ?_
    exact ⟨rfl, rfl⟩
  · skip
    simp (disch := omega) only [nI_z] at c_1
    refine sW_go b_TS_imageOf_4 (st' := ([.ref 15], [some (.ref 0), some (.int (nI 1))], M)) (φ := mx_ocl LAY 0 = 9 ∧ True) rfl ⟨oc_0, trivial⟩ ?_
    refine sW_goto 15 d_TS_imageOf_8 (by decide) ?_
    refine sW_retA d_TS_imageOf_15 rfl ?_
    exact absurd c_1 (by decide)
theorem HsAt.take {M M' : mx_M} {h o : Nat} {X : Hs} (hX : HsAt M o X) (h8 : X.1 ≤ 8) (a1 : M' h 3 = M o 3) (a2 : M' h 4 = M o 4) (a3 : ∀ k, k < 8 → M' (h + 1) k = M (o + 1) k ∧ M' (h + 2) k = M (o + 2) k ∧ M' (h + 3) k = M (o + 3) k) : HsAt M' h X := by
  refine ⟨a1.trans hX.1, a2.trans hX.2.1, fun k hk => ?_⟩
  obtain ⟨b1, b2, b3⟩ := a3 k (by omega)
  obtain ⟨d1, d2, d3⟩ := hX.2.2 k hk
  exact ⟨b1.trans d1, b2.trans d2, b3.trans d3⟩
theorem in2 {k : Int32} (h : vp_in k 2) : k = nI 0 ∨ k = nI 1 := by
  obtain ⟨j, hj, rfl⟩ := vp_in_of h (by decide)
  rcases (by omega : j = 0 ∨ j = 1) with rfl | rfl
  · exact Or.inl rfl
  · exact Or.inr rfl
noncomputable def sp_image (σ : Sg) (k : Int32) : Int32 × Sg := cif (vp_in k 2) (if (gH σ).1 = 0 then ((-1000002), σ) else (nI 1, wI σ (cif (k = nI 0) (gH σ, gJ σ) (gI σ, gH σ)))) ((-1000001), σ)
theorem ts_image (G : mx_G) {M : mx_M} {σ : Sg} (h : CInv M σ) (hg : GOk σ) (k : Int32) : sOk G m_TS_image [.ref 0, .int k] M (COk M (sp_image σ k)) := by
  have hH := h.2.2.1
  have hI := h.2.2.2.1
  have hJ := h.2.2.2.2.1
  have h8 := hg.1.1.1
  by_cases hk : vp_in k 2
  · rcases in2 hk with rfl | rfl
    · have hc := hk
      refine sOk_of ⟨by decide +kernel, by decide +kernel, Nat.le_of_ble_eq_true rfl⟩ ?_
      show sW G m_TS_image 0 ([], [some (.ref 0), some (.int (nI 0))], M) _
      refine sW_go b_TS_image_0 (st' := ([.int (nI 0)], [some (.ref 0), some (.int (nI 0))], M)) (φ := True) rfl trivial ?_
      refine sW_if_lt 9 d_TS_image_1 (by decide) (fun c_1 => ?_) (fun c_1 => ?_)
      · skip
        refine sW_go b_TS_image_9 (st' := ([.int (-1000001)], [some (.ref 0), some (.int (nI 0))], M)) (φ := True) rfl trivial ?_
        refine sW_retI d_TS_image_11 rfl (vp_nar_int _) ?_
        exact absurd c_1 (by decide)
      · skip
        refine sW_go b_TS_image_4 (st' := ([.int (nI 2), .int (nI 0)], [some (.ref 0), some (.int (nI 0))], M)) (φ := True) rfl trivial ?_
        refine sW_ic_lt 12 d_TS_image_6 (by decide) (fun c_6 => ?_) (fun c_6 => ?_)
        · skip
          simp (disch := omega) only [nI_ltI] at c_6
          refine sW_go b_TS_image_12 (st' := ([.ref 7], [some (.ref 0), some (.int (nI 0))], M)) (φ := mx_ocl LAY 0 = 9 ∧ True) rfl ⟨oc_0, trivial⟩ ?_
          refine sW_callV 3 [] [] d_TS_image_16 c_TS_image_16 ⟨rfl, rfl, rfl, Nat.le_of_ble_eq_true rfl, rfl, rfl⟩ oc_7 (k_House_isNone G oc_7 hH.1 h8) ?_
          rintro _ M₁ ⟨rfl, h₁⟩
          rw [h₁]
          show sW G m_TS_image 19 ([.int (tf ((gH σ).1 = 0))], [some (.ref 0), some (.int (nI 0))], M) _
          refine sW_if_eq 25 d_TS_image_19 (by decide) (fun c_19 => ?_) (fun c_19 => ?_)
          · skip
            replace c_19 := tf_z.mp c_19
            refine sW_go b_TS_image_25 (st' := ([.int (nI 0), .ref 0], [some (.ref 0), some (.int (nI 0))], M)) (φ := True) rfl trivial ?_
            refine sW_callV 9 [.int (nI 0)] [] d_TS_image_27 c_TS_image_27 ⟨rfl, rfl, rfl, Nat.le_of_ble_eq_true rfl, rfl, rfl⟩ oc_0 (k_imageOf0 G) ?_
            rintro _ M₁ ⟨rfl, h₁⟩
            rw [h₁]
            show sW G m_TS_image 30 ([.ref 15], [some (.ref 0), some (.int (nI 0))], M) _
            refine sW_go b_TS_image_30 (st' := ([.ref 7, .ref 15], [some (.ref 0), some (.int (nI 0))], M)) (φ := mx_ocl LAY 0 = 9 ∧ True) rfl ⟨oc_0, trivial⟩ ?_
            refine sW_callV 3 [.ref 7] [] d_TS_image_34 c_TS_image_34 ⟨rfl, rfl, rfl, Nat.le_of_ble_eq_true rfl, rfl, rfl⟩ oc_15 (k_House_takeFrom G oc_15 oc_7 (by decide)) ?_
            rintro _ M2 ⟨rfl, f2, a1, a2, a3⟩
            show sW G m_TS_image 37 ([], [some (.ref 0), some (.int (nI 0))], M2) _
            refine sW_go b_TS_image_37 (st' := ([.int (nI 1)], [some (.ref 0), some (.int (nI 0))], M2)) (φ := True) rfl trivial ?_
            refine sW_retI d_TS_image_38 rfl (vp_nar_int _) ?_
            unfold sp_image
            rw [cif_t hk, if_neg c_19, cif_t rfl]
            exact ⟨rfl, f2.mono (by decide) (by decide), h.image (f2.mono (by decide) (by decide)) (hH.take h8 a1 a2 a3) (hJ.fr f2 (by decide))⟩
          · skip
            replace c_19 := tf_nz.mp c_19
            refine sW_go b_TS_image_22 (st' := ([.int (-1000002)], [some (.ref 0), some (.int (nI 0))], M)) (φ := True) rfl trivial ?_
            refine sW_retI d_TS_image_24 rfl (vp_nar_int _) ?_
            unfold sp_image
            rw [cif_t hk, if_pos c_19]
            exact ⟨rfl, Fr.rf, h⟩
        · skip
          simp (disch := omega) only [nI_ltI] at c_6
          refine sW_go b_TS_image_9 (st' := ([.int (-1000001)], [some (.ref 0), some (.int (nI 0))], M)) (φ := True) rfl trivial ?_
          refine sW_retI d_TS_image_11 rfl (vp_nar_int _) ?_
          exact absurd c_6 (by decide)
    · have hc := hk
      refine sOk_of ⟨by decide +kernel, by decide +kernel, Nat.le_of_ble_eq_true rfl⟩ ?_
      show sW G m_TS_image 0 ([], [some (.ref 0), some (.int (nI 1))], M) _
      refine sW_go b_TS_image_0 (st' := ([.int (nI 1)], [some (.ref 0), some (.int (nI 1))], M)) (φ := True) rfl trivial ?_
      refine sW_if_lt 9 d_TS_image_1 (by decide) (fun c_1 => ?_) (fun c_1 => ?_)
      · skip
        refine sW_go b_TS_image_9 (st' := ([.int (-1000001)], [some (.ref 0), some (.int (nI 1))], M)) (φ := True) rfl trivial ?_
        refine sW_retI d_TS_image_11 rfl (vp_nar_int _) ?_
        exact absurd c_1 (by decide)
      · skip
        refine sW_go b_TS_image_4 (st' := ([.int (nI 2), .int (nI 1)], [some (.ref 0), some (.int (nI 1))], M)) (φ := True) rfl trivial ?_
        refine sW_ic_lt 12 d_TS_image_6 (by decide) (fun c_6 => ?_) (fun c_6 => ?_)
        · skip
          simp (disch := omega) only [nI_ltI] at c_6
          refine sW_go b_TS_image_12 (st' := ([.ref 7], [some (.ref 0), some (.int (nI 1))], M)) (φ := mx_ocl LAY 0 = 9 ∧ True) rfl ⟨oc_0, trivial⟩ ?_
          refine sW_callV 3 [] [] d_TS_image_16 c_TS_image_16 ⟨rfl, rfl, rfl, Nat.le_of_ble_eq_true rfl, rfl, rfl⟩ oc_7 (k_House_isNone G oc_7 hH.1 h8) ?_
          rintro _ M₁ ⟨rfl, h₁⟩
          rw [h₁]
          show sW G m_TS_image 19 ([.int (tf ((gH σ).1 = 0))], [some (.ref 0), some (.int (nI 1))], M) _
          refine sW_if_eq 25 d_TS_image_19 (by decide) (fun c_19 => ?_) (fun c_19 => ?_)
          · skip
            replace c_19 := tf_z.mp c_19
            refine sW_go b_TS_image_25 (st' := ([.int (nI 1), .ref 0], [some (.ref 0), some (.int (nI 1))], M)) (φ := True) rfl trivial ?_
            refine sW_callV 9 [.int (nI 1)] [] d_TS_image_27 c_TS_image_27 ⟨rfl, rfl, rfl, Nat.le_of_ble_eq_true rfl, rfl, rfl⟩ oc_0 (k_imageOf1 G) ?_
            rintro _ M₁ ⟨rfl, h₁⟩
            rw [h₁]
            show sW G m_TS_image 30 ([.ref 19], [some (.ref 0), some (.int (nI 1))], M) _
            refine sW_go b_TS_image_30 (st' := ([.ref 7, .ref 19], [some (.ref 0), some (.int (nI 1))], M)) (φ := mx_ocl LAY 0 = 9 ∧ True) rfl ⟨oc_0, trivial⟩ ?_
            refine sW_callV 3 [.ref 7] [] d_TS_image_34 c_TS_image_34 ⟨rfl, rfl, rfl, Nat.le_of_ble_eq_true rfl, rfl, rfl⟩ oc_19 (k_House_takeFrom G oc_19 oc_7 (by decide)) ?_
            rintro _ M2 ⟨rfl, f2, a1, a2, a3⟩
            show sW G m_TS_image 37 ([], [some (.ref 0), some (.int (nI 1))], M2) _
            refine sW_go b_TS_image_37 (st' := ([.int (nI 1)], [some (.ref 0), some (.int (nI 1))], M2)) (φ := True) rfl trivial ?_
            refine sW_retI d_TS_image_38 rfl (vp_nar_int _) ?_
            unfold sp_image
            rw [cif_t hk, if_neg c_19, cif_f (by decide)]
            exact ⟨rfl, f2.mono (by decide) (by decide), h.image (f2.mono (by decide) (by decide)) (hI.fr f2 (by decide)) (hH.take h8 a1 a2 a3)⟩
          · skip
            replace c_19 := tf_nz.mp c_19
            refine sW_go b_TS_image_22 (st' := ([.int (-1000002)], [some (.ref 0), some (.int (nI 1))], M)) (φ := True) rfl trivial ?_
            refine sW_retI d_TS_image_24 rfl (vp_nar_int _) ?_
            unfold sp_image
            rw [cif_t hk, if_pos c_19]
            exact ⟨rfl, Fr.rf, h⟩
        · skip
          simp (disch := omega) only [nI_ltI] at c_6
          refine sW_go b_TS_image_9 (st' := ([.int (-1000001)], [some (.ref 0), some (.int (nI 1))], M)) (φ := True) rfl trivial ?_
          refine sW_retI d_TS_image_11 rfl (vp_nar_int _) ?_
          exact absurd c_6 (by decide)
  · have e : sp_image σ k = ((-1000001), σ) := by unfold sp_image; rw [cif_f hk]
    rw [e]
    refine sOk_of ⟨by decide +kernel, by decide +kernel, Nat.le_of_ble_eq_true rfl⟩ ?_
    show sW G m_TS_image 0 ([], [some (.ref 0), some (.int k)], M) _
    refine sW_go b_TS_image_0 (st' := ([.int k], [some (.ref 0), some (.int k)], M)) (φ := True) rfl trivial ?_
    refine sW_if_lt 9 d_TS_image_1 (by decide) (fun c_1 => ?_) (fun c_1 => ?_)
    · skip
      refine sW_go b_TS_image_9 (st' := ([.int (-1000001)], [some (.ref 0), some (.int k)], M)) (φ := True) rfl trivial ?_
      refine sW_retI d_TS_image_11 rfl (vp_nar_int _) ?_
      exact ⟨rfl, Fr.rf, h⟩
    · skip
      refine sW_go b_TS_image_4 (st' := ([.int (nI 2), .int k], [some (.ref 0), some (.int k)], M)) (φ := True) rfl trivial ?_
      refine sW_ic_lt 12 d_TS_image_6 (by decide) (fun c_6 => ?_) (fun c_6 => ?_)
      · skip
        exact absurd (vp_in_iff.mpr (by
          rw [Int32.lt_iff_toInt_lt] at c_1
          rw [Int32.lt_iff_toInt_lt, nI_toInt (by decide)] at c_6
          have : (0 : Int32).toInt = 0 := by decide
          omega)) hk
      · skip
        refine sW_go b_TS_image_9 (st' := ([.int (-1000001)], [some (.ref 0), some (.int k)], M)) (φ := True) rfl trivial ?_
        refine sW_retI d_TS_image_11 rfl (vp_nar_int _) ?_
        exact ⟨rfl, Fr.rf, h⟩
noncomputable def sp_restore (σ : Sg) (k : Int32) : Int32 × Sg := cif (vp_in k 2) (if (cif (k = nI 0) (gI σ) (gJ σ)).1 = 0 then ((-1000002), σ) else (nI 1, wH σ (cif (k = nI 0) (gI σ) (gJ σ), []))) ((-1000001), σ)
theorem ts_restore (G : mx_G) {M : mx_M} {σ : Sg} (h : CInv M σ) (hg : GOk σ) (k : Int32) : sOk G m_TS_restore [.ref 0, .int k] M (COk M (sp_restore σ k)) := by
  have hI := h.2.2.2.1
  have hJ := h.2.2.2.2.1
  have i8 := hg.2.1.1.1
  have j8 := hg.2.2.1.1.1
  by_cases hk : vp_in k 2
  · rcases in2 hk with rfl | rfl
    · have hc := hk
      unfold sp_restore
      rw [cif_t hk, cif_t rfl]
      refine sOk_of ⟨by decide +kernel, by decide +kernel, Nat.le_of_ble_eq_true rfl⟩ ?_
      show sW G m_TS_restore 0 ([], [some (.ref 0), some (.int (nI 0))], M) _
      refine sW_go b_TS_restore_0 (st' := ([.int (nI 0)], [some (.ref 0), some (.int (nI 0))], M)) (φ := True) rfl trivial ?_
      refine sW_if_lt 9 d_TS_restore_1 (by decide) (fun c_1 => ?_) (fun c_1 => ?_)
      · skip
        refine sW_go b_TS_restore_9 (st' := ([.int (-1000001)], [some (.ref 0), some (.int (nI 0))], M)) (φ := True) rfl trivial ?_
        refine sW_retI d_TS_restore_11 rfl (vp_nar_int _) ?_
        exact absurd c_1 (by decide)
      · skip
        refine sW_go b_TS_restore_4 (st' := ([.int (nI 2), .int (nI 0)], [some (.ref 0), some (.int (nI 0))], M)) (φ := True) rfl trivial ?_
        refine sW_ic_lt 12 d_TS_restore_6 (by decide) (fun c_6 => ?_) (fun c_6 => ?_)
        · skip
          simp (disch := omega) only [nI_ltI] at c_6
          refine sW_go b_TS_restore_12 (st' := ([.int (nI 0), .ref 0], [some (.ref 0), some (.int (nI 0))], M)) (φ := True) rfl trivial ?_
          refine sW_callV 9 [.int (nI 0)] [] d_TS_restore_14 c_TS_restore_14 ⟨rfl, rfl, rfl, Nat.le_of_ble_eq_true rfl, rfl, rfl⟩ oc_0 (k_imageOf0 G) ?_
          rintro _ M₁ ⟨rfl, h₁⟩
          rw [h₁]
          show sW G m_TS_restore 17 ([.ref 15], [some (.ref 0), some (.int (nI 0))], M) _
          refine sW_callV 3 [] [] d_TS_restore_17 c_TS_restore_17 ⟨rfl, rfl, rfl, Nat.le_of_ble_eq_true rfl, rfl, rfl⟩ oc_15 (k_House_isNone G oc_15 hI.1 i8) ?_
          rintro _ M₁ ⟨rfl, h₁⟩
          rw [h₁]
          show sW G m_TS_restore 20 ([.int (tf ((gI σ).1 = 0))], [some (.ref 0), some (.int (nI 0))], M) _
          refine sW_if_eq 26 d_TS_restore_20 (by decide) (fun c_20 => ?_) (fun c_20 => ?_)
          · skip
            replace c_20 := tf_z.mp c_20
            refine sW_go b_TS_restore_26 (st' := ([.int (nI 0), .ref 0, .ref 0], [some (.ref 0), some (.int (nI 0))], M)) (φ := True) rfl trivial ?_
            refine sW_callV 9 [.int (nI 0)] [.ref 0] d_TS_restore_29 c_TS_restore_29 ⟨rfl, rfl, rfl, Nat.le_of_ble_eq_true rfl, rfl, rfl⟩ oc_0 (k_imageOf0 G) ?_
            rintro _ M₁ ⟨rfl, h₁⟩
            rw [h₁]
            show sW G m_TS_restore 32 ([.ref 15, .ref 0], [some (.ref 0), some (.int (nI 0))], M) _
            refine sW_callV 9 [.ref 15] [] d_TS_restore_32 c_TS_restore_32 ⟨rfl, rfl, rfl, Nat.le_of_ble_eq_true rfl, rfl, rfl⟩ oc_0 (ts_standIn G h oc_15 (by decide) hI i8) ?_
            rintro _ M2 ⟨rfl, f2, g2⟩
            show sW G m_TS_restore 35 ([], [some (.ref 0), some (.int (nI 0))], M2) _
            refine sW_go b_TS_restore_35 (st' := ([.int (nI 1)], [some (.ref 0), some (.int (nI 0))], M2)) (φ := True) rfl trivial ?_
            refine sW_retI d_TS_restore_36 rfl (vp_nar_int _) ?_
            rw [if_neg c_20]
            exact ⟨rfl, f2, g2⟩
          · skip
            replace c_20 := tf_nz.mp c_20
            refine sW_go b_TS_restore_23 (st' := ([.int (-1000002)], [some (.ref 0), some (.int (nI 0))], M)) (φ := True) rfl trivial ?_
            refine sW_retI d_TS_restore_25 rfl (vp_nar_int _) ?_
            rw [if_pos c_20]
            exact ⟨rfl, Fr.rf, h⟩
        · skip
          simp (disch := omega) only [nI_ltI] at c_6
          refine sW_go b_TS_restore_9 (st' := ([.int (-1000001)], [some (.ref 0), some (.int (nI 0))], M)) (φ := True) rfl trivial ?_
          refine sW_retI d_TS_restore_11 rfl (vp_nar_int _) ?_
          exact absurd c_6 (by decide)
    · have hc := hk
      unfold sp_restore
      rw [cif_t hk, cif_f (by decide)]
      refine sOk_of ⟨by decide +kernel, by decide +kernel, Nat.le_of_ble_eq_true rfl⟩ ?_
      show sW G m_TS_restore 0 ([], [some (.ref 0), some (.int (nI 1))], M) _
      refine sW_go b_TS_restore_0 (st' := ([.int (nI 1)], [some (.ref 0), some (.int (nI 1))], M)) (φ := True) rfl trivial ?_
      refine sW_if_lt 9 d_TS_restore_1 (by decide) (fun c_1 => ?_) (fun c_1 => ?_)
      · skip
        refine sW_go b_TS_restore_9 (st' := ([.int (-1000001)], [some (.ref 0), some (.int (nI 1))], M)) (φ := True) rfl trivial ?_
        refine sW_retI d_TS_restore_11 rfl (vp_nar_int _) ?_
        exact absurd c_1 (by decide)
      · skip
        refine sW_go b_TS_restore_4 (st' := ([.int (nI 2), .int (nI 1)], [some (.ref 0), some (.int (nI 1))], M)) (φ := True) rfl trivial ?_
        refine sW_ic_lt 12 d_TS_restore_6 (by decide) (fun c_6 => ?_) (fun c_6 => ?_)
        · skip
          simp (disch := omega) only [nI_ltI] at c_6
          refine sW_go b_TS_restore_12 (st' := ([.int (nI 1), .ref 0], [some (.ref 0), some (.int (nI 1))], M)) (φ := True) rfl trivial ?_
          refine sW_callV 9 [.int (nI 1)] [] d_TS_restore_14 c_TS_restore_14 ⟨rfl, rfl, rfl, Nat.le_of_ble_eq_true rfl, rfl, rfl⟩ oc_0 (k_imageOf1 G) ?_
          rintro _ M₁ ⟨rfl, h₁⟩
          rw [h₁]
          show sW G m_TS_restore 17 ([.ref 19], [some (.ref 0), some (.int (nI 1))], M) _
          refine sW_callV 3 [] [] d_TS_restore_17 c_TS_restore_17 ⟨rfl, rfl, rfl, Nat.le_of_ble_eq_true rfl, rfl, rfl⟩ oc_19 (k_House_isNone G oc_19 hJ.1 j8) ?_
          rintro _ M₁ ⟨rfl, h₁⟩
          rw [h₁]
          show sW G m_TS_restore 20 ([.int (tf ((gJ σ).1 = 0))], [some (.ref 0), some (.int (nI 1))], M) _
          refine sW_if_eq 26 d_TS_restore_20 (by decide) (fun c_20 => ?_) (fun c_20 => ?_)
          · skip
            replace c_20 := tf_z.mp c_20
            refine sW_go b_TS_restore_26 (st' := ([.int (nI 1), .ref 0, .ref 0], [some (.ref 0), some (.int (nI 1))], M)) (φ := True) rfl trivial ?_
            refine sW_callV 9 [.int (nI 1)] [.ref 0] d_TS_restore_29 c_TS_restore_29 ⟨rfl, rfl, rfl, Nat.le_of_ble_eq_true rfl, rfl, rfl⟩ oc_0 (k_imageOf1 G) ?_
            rintro _ M₁ ⟨rfl, h₁⟩
            rw [h₁]
            show sW G m_TS_restore 32 ([.ref 19, .ref 0], [some (.ref 0), some (.int (nI 1))], M) _
            refine sW_callV 9 [.ref 19] [] d_TS_restore_32 c_TS_restore_32 ⟨rfl, rfl, rfl, Nat.le_of_ble_eq_true rfl, rfl, rfl⟩ oc_0 (ts_standIn G h oc_19 (by decide) hJ j8) ?_
            rintro _ M2 ⟨rfl, f2, g2⟩
            show sW G m_TS_restore 35 ([], [some (.ref 0), some (.int (nI 1))], M2) _
            refine sW_go b_TS_restore_35 (st' := ([.int (nI 1)], [some (.ref 0), some (.int (nI 1))], M2)) (φ := True) rfl trivial ?_
            refine sW_retI d_TS_restore_36 rfl (vp_nar_int _) ?_
            rw [if_neg c_20]
            exact ⟨rfl, f2, g2⟩
          · skip
            replace c_20 := tf_nz.mp c_20
            refine sW_go b_TS_restore_23 (st' := ([.int (-1000002)], [some (.ref 0), some (.int (nI 1))], M)) (φ := True) rfl trivial ?_
            refine sW_retI d_TS_restore_25 rfl (vp_nar_int _) ?_
            rw [if_pos c_20]
            exact ⟨rfl, Fr.rf, h⟩
        · skip
          simp (disch := omega) only [nI_ltI] at c_6
          refine sW_go b_TS_restore_9 (st' := ([.int (-1000001)], [some (.ref 0), some (.int (nI 1))], M)) (φ := True) rfl trivial ?_
          refine sW_retI d_TS_restore_11 rfl (vp_nar_int _) ?_
          exact absurd c_6 (by decide)
  · have e : sp_restore σ k = ((-1000001), σ) := by unfold sp_restore; rw [cif_f hk]
    rw [e]
    refine sOk_of ⟨by decide +kernel, by decide +kernel, Nat.le_of_ble_eq_true rfl⟩ ?_
    show sW G m_TS_restore 0 ([], [some (.ref 0), some (.int k)], M) _
    refine sW_go b_TS_restore_0 (st' := ([.int k], [some (.ref 0), some (.int k)], M)) (φ := True) rfl trivial ?_
    refine sW_if_lt 9 d_TS_restore_1 (by decide) (fun c_1 => ?_) (fun c_1 => ?_)
    · skip
      refine sW_go b_TS_restore_9 (st' := ([.int (-1000001)], [some (.ref 0), some (.int k)], M)) (φ := True) rfl trivial ?_
      refine sW_retI d_TS_restore_11 rfl (vp_nar_int _) ?_
      exact ⟨rfl, Fr.rf, h⟩
    · skip
      refine sW_go b_TS_restore_4 (st' := ([.int (nI 2), .int k], [some (.ref 0), some (.int k)], M)) (φ := True) rfl trivial ?_
      refine sW_ic_lt 12 d_TS_restore_6 (by decide) (fun c_6 => ?_) (fun c_6 => ?_)
      · skip
        exact absurd (vp_in_iff.mpr (by
          rw [Int32.lt_iff_toInt_lt] at c_1
          rw [Int32.lt_iff_toInt_lt, nI_toInt (by decide)] at c_6
          have : (0 : Int32).toInt = 0 := by decide
          omega)) hk
      · skip
        refine sW_go b_TS_restore_9 (st' := ([.int (-1000001)], [some (.ref 0), some (.int k)], M)) (φ := True) rfl trivial ?_
        refine sW_retI d_TS_restore_11 rfl (vp_nar_int _) ?_
        exact ⟨rfl, Fr.rf, h⟩
theorem k_cellsNow (G : mx_G) {M : mx_M} {σ : Sg} (h : CInv M σ) (hg : GOk σ) : sOk G m_TS_cellsNow [.ref 0] M (fun r M' => r = some (.ref 28) ∧ Fr M M' 0 119 ∧ CInv M' σ ∧ CellsOK M' 28 (gH σ)) := by
  have hH := h.2.2.1
  have hC := h.2.2.2.2.2.2.1
  have hw := hg.1.1
  by_cases hs : M 0 11 = nI 0
  · have hs2 := hs
    refine sOk_of ⟨by decide +kernel, by decide +kernel, Nat.le_of_ble_eq_true rfl⟩ ?_
    show sW G m_TS_cellsNow 0 ([], [some (.ref 0)], M) _
    refine sW_go b_TS_cellsNow_0 (st' := ([.int (M 0 11)], [some (.ref 0)], M)) (φ := mx_ocl LAY 0 = 9 ∧ True) rfl ⟨oc_0, trivial⟩ ?_
    refine sW_eq (st' := ([.int (nI 0)], [some (.ref 0)], M)) (by simp (disch := omega) only [hs]) ?_
    refine sW_if_ne 23 d_TS_cellsNow_4 (by decide) (fun c_4 => ?_) (fun c_4 => ?_)
    · skip
      simp (disch := omega) only [nI_z] at c_4
      refine sW_go b_TS_cellsNow_23 (st' := ([.ref 28], [some (.ref 0)], M)) (φ := mx_ocl LAY 0 = 9 ∧ True) rfl ⟨oc_0, trivial⟩ ?_
      refine sW_retA d_TS_cellsNow_27 rfl ?_
      exact absurd trivial c_4
    · skip
      simp (disch := omega) only [nI_z] at c_4
      refine sW_go b_TS_cellsNow_7 (st' := ([.ref 7, .ref 28], [some (.ref 0)], M)) (φ := mx_ocl LAY 0 = 9 ∧ mx_ocl LAY 0 = 9 ∧ True) rfl ⟨oc_0, oc_0, trivial⟩ ?_
      refine sW_callV 2 [.ref 7] [] d_TS_cellsNow_15 c_TS_cellsNow_15 ⟨rfl, rfl, rfl, Nat.le_of_ble_eq_true rfl, rfl, rfl⟩ oc_28 (k_measure G oc_28 oc_7 (by decide) hH hw hC.1) ?_
      rintro _ M2 ⟨rfl, f2, g2⟩
      show sW G m_TS_cellsNow 18 ([], [some (.ref 0)], M2) _
      refine sW_go b_TS_cellsNow_18 (st' := ([], [some (.ref 0)], mx_wr M2 0 11 (nI 1))) (φ := (mx_ocl LAY 0 = 9 ∧ ((nI 1) = 0 ∨ (nI 1) = 1)) ∧ True) rfl ⟨⟨oc_0, (by decide)⟩, trivial⟩ ?_
      refine sW_go b_TS_cellsNow_23 (st' := ([.ref 28], [some (.ref 0)], mx_wr M2 0 11 (nI 1))) (φ := mx_ocl LAY 0 = 9 ∧ True) rfl ⟨oc_0, trivial⟩ ?_
      refine sW_retA d_TS_cellsNow_27 rfl ?_
      have f3 : Fr M2 (mx_wr M2 0 11 (nI 1)) 0 1 := Fr.rf.wr (by decide) (by decide)
      have g3 := g2.fr f3 (by decide)
      refine ⟨rfl, fun a ha => (f3 a (by omega)).trans (f2 a (by omega)), h.cells (fun a h1 h2 => (f3 a (by omega)).trans (f2 a (by omega))) ?_ ?_ ?_ g3, g3⟩
      · rw [mx_wr_s, pk_us]
      · rw [wr0 (by decide), f2 0 (by decide)]
      · rw [wr0 (by decide), f2 0 (by decide)]
  · obtain ⟨q1, q2⟩ := hC.2.resolve_left hs
    refine sOk_of ⟨by decide +kernel, by decide +kernel, Nat.le_of_ble_eq_true rfl⟩ ?_
    show sW G m_TS_cellsNow 0 ([], [some (.ref 0)], M) _
    refine sW_go b_TS_cellsNow_0 (st' := ([.int (M 0 11)], [some (.ref 0)], M)) (φ := mx_ocl LAY 0 = 9 ∧ True) rfl ⟨oc_0, trivial⟩ ?_
    refine sW_eq (st' := ([.int (nI 1)], [some (.ref 0)], M)) (by simp (disch := omega) only [q1]) ?_
    refine sW_if_ne 23 d_TS_cellsNow_4 (by decide) (fun c_4 => ?_) (fun c_4 => ?_)
    · skip
      simp (disch := omega) only [nI_z] at c_4
      refine sW_go b_TS_cellsNow_23 (st' := ([.ref 28], [some (.ref 0)], M)) (φ := mx_ocl LAY 0 = 9 ∧ True) rfl ⟨oc_0, trivial⟩ ?_
      refine sW_retA d_TS_cellsNow_27 rfl ?_
      exact ⟨rfl, Fr.rf, h, q2⟩
    · skip
      simp (disch := omega) only [nI_z] at c_4
      exact absurd c_4 (by decide)
theorem k_plainNow (G : mx_G) {M : mx_M} {σ : Sg} (h : CInv M σ) (hg : GOk σ) : sOk G m_TS_plainNow [.ref 0] M (fun r M' => r = some (.ref 102) ∧ Fr M M' 0 119 ∧ CInv M' σ ∧ PlainOK M' 102 (gH σ)) := by
  have hH := h.2.2.1
  have hC := h.2.2.2.2.2.2.2.2.1
  have hw := hg.1.1
  by_cases hs : M 0 12 = nI 0
  · have hs2 := hs
    refine sOk_of ⟨by decide +kernel, by decide +kernel, Nat.le_of_ble_eq_true rfl⟩ ?_
    show sW G m_TS_plainNow 0 ([], [some (.ref 0)], M) _
    refine sW_go b_TS_plainNow_0 (st' := ([.int (M 0 12)], [some (.ref 0)], M)) (φ := mx_ocl LAY 0 = 9 ∧ True) rfl ⟨oc_0, trivial⟩ ?_
    refine sW_eq (st' := ([.int (nI 0)], [some (.ref 0)], M)) (by simp (disch := omega) only [hs]) ?_
    refine sW_if_ne 23 d_TS_plainNow_4 (by decide) (fun c_4 => ?_) (fun c_4 => ?_)
    · skip
      simp (disch := omega) only [nI_z] at c_4
      refine sW_go b_TS_plainNow_23 (st' := ([.ref 102], [some (.ref 0)], M)) (φ := mx_ocl LAY 0 = 9 ∧ True) rfl ⟨oc_0, trivial⟩ ?_
      refine sW_retA d_TS_plainNow_27 rfl ?_
      exact absurd trivial c_4
    · skip
      simp (disch := omega) only [nI_z] at c_4
      refine sW_go b_TS_plainNow_7 (st' := ([.ref 7, .ref 102], [some (.ref 0)], M)) (φ := mx_ocl LAY 0 = 9 ∧ mx_ocl LAY 0 = 9 ∧ True) rfl ⟨oc_0, oc_0, trivial⟩ ?_
      refine sW_callV 4 [.ref 7] [] d_TS_plainNow_15 c_TS_plainNow_15 ⟨rfl, rfl, rfl, Nat.le_of_ble_eq_true rfl, rfl, rfl⟩ oc_102 (k_plmeasure G oc_102 oc_7 (by decide) hH hw hC.1) ?_
      rintro _ M2 ⟨rfl, f2, g2⟩
      show sW G m_TS_plainNow 18 ([], [some (.ref 0)], M2) _
      refine sW_go b_TS_plainNow_18 (st' := ([], [some (.ref 0)], mx_wr M2 0 12 (nI 1))) (φ := (mx_ocl LAY 0 = 9 ∧ ((nI 1) = 0 ∨ (nI 1) = 1)) ∧ True) rfl ⟨⟨oc_0, (by decide)⟩, trivial⟩ ?_
      refine sW_go b_TS_plainNow_23 (st' := ([.ref 102], [some (.ref 0)], mx_wr M2 0 12 (nI 1))) (φ := mx_ocl LAY 0 = 9 ∧ True) rfl ⟨oc_0, trivial⟩ ?_
      refine sW_retA d_TS_plainNow_27 rfl ?_
      have f3 : Fr M2 (mx_wr M2 0 12 (nI 1)) 0 1 := Fr.rf.wr (by decide) (by decide)
      have g3 := g2.fr f3 (by decide)
      refine ⟨rfl, fun a ha => (f3 a (by omega)).trans (f2 a (by omega)), h.plain (fun a h1 h2 => (f3 a (by omega)).trans (f2 a (by omega))) ?_ ?_ ?_ g3, g3⟩
      · rw [wr0 (by decide), f2 0 (by decide)]
      · rw [mx_wr_s, pk_us]
      · rw [wr0 (by decide), f2 0 (by decide)]
  · obtain ⟨q1, q2⟩ := hC.2.resolve_left hs
    refine sOk_of ⟨by decide +kernel, by decide +kernel, Nat.le_of_ble_eq_true rfl⟩ ?_
    show sW G m_TS_plainNow 0 ([], [some (.ref 0)], M) _
    refine sW_go b_TS_plainNow_0 (st' := ([.int (M 0 12)], [some (.ref 0)], M)) (φ := mx_ocl LAY 0 = 9 ∧ True) rfl ⟨oc_0, trivial⟩ ?_
    refine sW_eq (st' := ([.int (nI 1)], [some (.ref 0)], M)) (by simp (disch := omega) only [q1]) ?_
    refine sW_if_ne 23 d_TS_plainNow_4 (by decide) (fun c_4 => ?_) (fun c_4 => ?_)
    · skip
      simp (disch := omega) only [nI_z] at c_4
      refine sW_go b_TS_plainNow_23 (st' := ([.ref 102], [some (.ref 0)], M)) (φ := mx_ocl LAY 0 = 9 ∧ True) rfl ⟨oc_0, trivial⟩ ?_
      refine sW_retA d_TS_plainNow_27 rfl ?_
      exact ⟨rfl, Fr.rf, h, q2⟩
    · skip
      simp (disch := omega) only [nI_z] at c_4
      exact absurd c_4 (by decide)

