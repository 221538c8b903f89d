/-! ===== TypeSets: types, images, asks ===== -/
noncomputable def sp_type (σ : Sg) (t w : Int32) : Int32 × Sg := (cif (vp_in t (gH σ).1) (cif (w = nI 0) (nI (Sf (gH σ) (tn t))) (cif (w = nI 1) (nI (Af (gH σ) (tn t))) (cif (w = nI 2) (nI (Bf (gH σ) (tn t))) (-1000001)))) (-1000001), σ)
theorem ts_type (G : mx_G) {M : mx_M} {σ : Sg} (h : CInv M σ) (hg : GOk σ) (t w : Int32) : sOk G m_TS_type [.ref 0, .int t, .int w] M (COk M (sp_type σ t w)) := by
  have hH := h.2.2.1
  have h8 := hg.1.1.1
  by_cases ht : vp_in t (gH σ).1
  · obtain ⟨j, hj, rfl⟩ := vp_in_of ht (by omega)
    have ct : tn (nI j) = j := nI_clamp (by omega)
    obtain ⟨x1, x2, x3⟩ := hH.2.2 j hj
    have x1 : M 8 j = nI (Sf (gH σ) j) := x1
    have x2 : M 9 j = nI (Af (gH σ) j) := x2
    have x3 : M 10 j = nI (Bf (gH σ) j) := x3
    have e : sp_type σ (nI j) w = (cif (w = nI 0) (nI (Sf (gH σ) j)) (cif (w = nI 1) (nI (Af (gH σ) j)) (cif (w = nI 2) (nI (Bf (gH σ) j)) (-1000001))), σ) := by unfold sp_type; rw [cif_t ht, ct]
    rw [e]
    refine sOk_of ⟨by decide +kernel, by decide +kernel, Nat.le_of_ble_eq_true rfl⟩ ?_
    show sW G m_TS_type 0 ([], [some (.ref 0), some (.int (nI j)), some (.int w)], M) _
    refine sW_go b_TS_type_0 (st' := ([.int (nI j), .ref 7], [some (.ref 0), some (.int (nI j)), some (.int w)], M)) (φ := mx_ocl LAY 0 = 9 ∧ True) rfl ⟨oc_0, trivial⟩ ?_
    refine sW_callV 3 [.int (nI j)] [] d_TS_type_5 c_TS_type_5 ⟨rfl, rfl, rfl, Nat.le_of_ble_eq_true rfl, rfl, rfl⟩ oc_7 (k_House_has G oc_7 hH.1 h8 (nI j)) ?_
    rintro _ M₁ ⟨rfl, h₁⟩
    rw [h₁]
    show sW G m_TS_type 8 ([.int (tf (vp_in (nI j) (gH σ).1))], [some (.ref 0), some (.int (nI j)), some (.int w)], M) _
    refine sW_if_ne 14 d_TS_type_8 (by decide) (fun c_8 => ?_) (fun c_8 => ?_)
    · skip
      replace c_8 := tf_nz.mp c_8
      refine sW_go b_TS_type_14 (st' := ([.int w], [some (.ref 0), some (.int (nI j)), some (.int w)], M)) (φ := True) rfl trivial ?_
      refine sW_tsw 0 70 [40, 50, 60] d_TS_type_15 (by decide) (by decide) (fun c_15 => ?_) ⟨fun c_15 => ?_, fun c_15 => ?_, fun c_15 => ?_, trivial⟩
      · skip
        refine sW_go b_TS_type_70 (st' := ([.int (-1000001)], [some (.ref 0), some (.int (nI j)), some (.int w)], M)) (φ := True) rfl trivial ?_
        refine sW_retI d_TS_type_72 rfl (vp_nar_int _) ?_
        have n0 : ¬ w = nI 0 := fun q => by rw [q, nI_toInt (by decide)] at c_15; omega
        have n1 : ¬ w = nI 1 := fun q => by rw [q, nI_toInt (by decide)] at c_15; omega
        have n2 : ¬ w = nI 2 := fun q => by rw [q, nI_toInt (by decide)] at c_15; omega
        rw [cif_f n0, cif_f n1, cif_f n2]
        exact ⟨rfl, Fr.rf, h⟩
      · skip
        refine sW_go b_TS_type_40 (st' := ([.int (M 8 (nI j).toNatClampNeg)], [some (.ref 0), some (.int (nI j)), some (.int w)], M)) (φ := mx_ocl LAY 0 = 9 ∧ mx_ocl LAY 7 = 3 ∧ vp_in (nI j) (mx_len LAY false 8) ∧ True) rfl ⟨oc_0, oc_7, (by simp (disch := omega) only [ln_8]; exact vp_in_nI (by omega) (by decide)), trivial⟩ ?_
        refine sW_eq (st' := ([.int (nI (Sf (gH σ) j))], [some (.ref 0), some (.int (nI j)), some (.int w)], M)) (by simp (disch := omega) only [nI_clamp, x1]) ?_
        refine sW_retI d_TS_type_49 rfl (vp_nar_int _) ?_
        rw [cif_t c_15]; exact ⟨rfl, Fr.rf, h⟩
      · skip
        refine sW_go b_TS_type_50 (st' := ([.int (M 9 (nI j).toNatClampNeg)], [some (.ref 0), some (.int (nI j)), some (.int w)], M)) (φ := mx_ocl LAY 0 = 9 ∧ mx_ocl LAY 7 = 3 ∧ vp_in (nI j) (mx_len LAY false 9) ∧ True) rfl ⟨oc_0, oc_7, (by simp (disch := omega) only [ln_9]; exact vp_in_nI (by omega) (by decide)), trivial⟩ ?_
        refine sW_eq (st' := ([.int (nI (Af (gH σ) j))], [some (.ref 0), some (.int (nI j)), some (.int w)], M)) (by simp (disch := omega) only [nI_clamp, x2]) ?_
        refine sW_retI d_TS_type_59 rfl (vp_nar_int _) ?_
        rw [cif_f (by rw [c_15]; decide), cif_t c_15]; exact ⟨rfl, Fr.rf, h⟩
      · skip
        refine sW_go b_TS_type_60 (st' := ([.int (M 10 (nI j).toNatClampNeg)], [some (.ref 0), some (.int (nI j)), some (.int w)], M)) (φ := mx_ocl LAY 0 = 9 ∧ mx_ocl LAY 7 = 3 ∧ vp_in (nI j) (mx_len LAY false 10) ∧ True) rfl ⟨oc_0, oc_7, (by simp (disch := omega) only [ln_10]; exact vp_in_nI (by omega) (by decide)), trivial⟩ ?_
        refine sW_eq (st' := ([.int (nI (Bf (gH σ) j))], [some (.ref 0), some (.int (nI j)), some (.int w)], M)) (by simp (disch := omega) only [nI_clamp, x3]) ?_
        refine sW_retI d_TS_type_69 rfl (vp_nar_int _) ?_
        rw [cif_f (by rw [c_15]; decide), cif_f (by rw [c_15]; decide), cif_t c_15]; exact ⟨rfl, Fr.rf, h⟩
    · skip
      replace c_8 := tf_z.mp c_8
      refine sW_go b_TS_type_11 (st' := ([.int (-1000001)], [some (.ref 0), some (.int (nI j)), some (.int w)], M)) (φ := True) rfl trivial ?_
      refine sW_retI d_TS_type_13 rfl (vp_nar_int _) ?_
      exact absurd ht c_8
  · have e : sp_type σ t w = ((-1000001), σ) := by unfold sp_type; rw [cif_f ht]
    rw [e]
    refine sOk_of ⟨by decide +kernel, by decide +kernel, Nat.le_of_ble_eq_true rfl⟩ ?_
    show sW G m_TS_type 0 ([], [some (.ref 0), some (.int t), some (.int w)], M) _
    refine sW_go b_TS_type_0 (st' := ([.int t, .ref 7], [some (.ref 0), some (.int t), some (.int w)], M)) (φ := mx_ocl LAY 0 = 9 ∧ True) rfl ⟨oc_0, trivial⟩ ?_
    refine sW_callV 3 [.int t] [] d_TS_type_5 c_TS_type_5 ⟨rfl, rfl, rfl, Nat.le_of_ble_eq_true rfl, rfl, rfl⟩ oc_7 (k_House_has G oc_7 hH.1 h8 t) ?_
    rintro _ M₁ ⟨rfl, h₁⟩
    rw [h₁]
    show sW G m_TS_type 8 ([.int (tf (vp_in t (gH σ).1))], [some (.ref 0), some (.int t), some (.int w)], M) _
    refine sW_if_ne 14 d_TS_type_8 (by decide) (fun c_8 => ?_) (fun c_8 => ?_)
    · skip
      replace c_8 := tf_nz.mp c_8
      exact absurd c_8 ht
    · skip
      replace c_8 := tf_z.mp c_8
      refine sW_go b_TS_type_11 (st' := ([.int (-1000001)], [some (.ref 0), some (.int t), some (.int w)], M)) (φ := True) rfl trivial ?_
      refine sW_retI d_TS_type_13 rfl (vp_nar_int _) ?_
      exact ⟨rfl, Fr.rf, h⟩
noncomputable def sp_kind (σ : Sg) (t : Int32) : Int32 × Sg := (cif (vp_in t (gH σ).1) (nI (kindN (Sf (gH σ) (tn t)))) (-1000001), σ)
theorem ts_kind (G : mx_G) {M : mx_M} {σ : Sg} (h : CInv M σ) (hg : GOk σ) (t : Int32) : sOk G m_TS_kind [.ref 0, .int t] M (COk M (sp_kind σ t)) := by
  have hH := h.2.2.1
  have h8 := hg.1.1.1
  by_cases ht : vp_in t (gH σ).1
  · obtain ⟨j, hj, rfl⟩ := vp_in_of ht (by omega)
    have ct : tn (nI j) = j := nI_clamp (by omega)
    have x1 : M 8 j = nI (Sf (gH σ) j) := (hH.2.2 j hj).1
    have w1 := (hg.1.1.2.2 j hj).1
    have e : sp_kind σ (nI j) = (nI (kindN (Sf (gH σ) j)), σ) := by unfold sp_kind; rw [cif_t ht, ct]
    rw [e]
    refine sOk_of ⟨by decide +kernel, by decide +kernel, Nat.le_of_ble_eq_true rfl⟩ ?_
    show sW G m_TS_kind 0 ([], [some (.ref 0), some (.int (nI j))], M) _
    refine sW_go b_TS_kind_0 (st' := ([.int (nI j), .ref 7], [some (.ref 0), some (.int (nI j))], M)) (φ := mx_ocl LAY 0 = 9 ∧ True) rfl ⟨oc_0, trivial⟩ ?_
    refine sW_callV 3 [.int (nI j)] [] d_TS_kind_5 c_TS_kind_5 ⟨rfl, rfl, rfl, Nat.le_of_ble_eq_true rfl, rfl, rfl⟩ oc_7 (k_House_has G oc_7 hH.1 h8 (nI j)) ?_
    rintro _ M₁ ⟨rfl, h₁⟩
    rw [h₁]
    show sW G m_TS_kind 8 ([.int (tf (vp_in (nI j) (gH σ).1))], [some (.ref 0), some (.int (nI j))], M) _
    refine sW_if_eq 26 d_TS_kind_8 (by decide) (fun c_8 => ?_) (fun c_8 => ?_)
    · skip
      replace c_8 := tf_z.mp c_8
      refine sW_go b_TS_kind_26 (st' := ([.int (-1000001)], [some (.ref 0), some (.int (nI j))], M)) (φ := True) rfl trivial ?_
      refine sW_retI d_TS_kind_28 rfl (vp_nar_int _) ?_
      exact absurd ht c_8
    · skip
      replace c_8 := tf_nz.mp c_8
      refine sW_go b_TS_kind_11 (st' := ([.int (M 8 (nI j).toNatClampNeg)], [some (.ref 0), some (.int (nI j))], M)) (φ := mx_ocl LAY 0 = 9 ∧ mx_ocl LAY 7 = 3 ∧ vp_in (nI j) (mx_len LAY false 8) ∧ True) rfl ⟨oc_0, oc_7, (by simp (disch := omega) only [ln_8]; exact vp_in_nI (by omega) (by decide)), trivial⟩ ?_
      refine sW_eq (st' := ([.int (nI (Sf (gH σ) j))], [some (.ref 0), some (.int (nI j))], M)) (by simp (disch := omega) only [nI_clamp, x1]) ?_
      refine sW_callS [.int (nI (Sf (gH σ) j))] [] d_TS_kind_20 c_TS_kind_20 ⟨rfl, rfl, Nat.le_of_ble_eq_true rfl, rfl, rfl⟩ (k_kindOf G w1) ?_
      rintro _ M₁ ⟨rfl, h₁⟩
      rw [h₁]
      show sW G m_TS_kind 23 ([.int (nI (kindN (Sf (gH σ) j)))], [some (.ref 0), some (.int (nI j))], M) _
      refine sW_goto 28 d_TS_kind_23 (by decide) ?_
      refine sW_retI d_TS_kind_28 rfl (vp_nar_int _) ?_
      exact ⟨rfl, Fr.rf, h⟩
  · have e : sp_kind σ t = ((-1000001), σ) := by unfold sp_kind; rw [cif_f ht]
    rw [e]
    refine sOk_of ⟨by decide +kernel, by decide +kernel, Nat.le_of_ble_eq_true rfl⟩ ?_
    show sW G m_TS_kind 0 ([], [some (.ref 0), some (.int t)], M) _
    refine sW_go b_TS_kind_0 (st' := ([.int t, .ref 7], [some (.ref 0), some (.int t)], M)) (φ := mx_ocl LAY 0 = 9 ∧ True) rfl ⟨oc_0, trivial⟩ ?_
    refine sW_callV 3 [.int t] [] d_TS_kind_5 c_TS_kind_5 ⟨rfl, rfl, rfl, Nat.le_of_ble_eq_true rfl, rfl, rfl⟩ oc_7 (k_House_has G oc_7 hH.1 h8 t) ?_
    rintro _ M₁ ⟨rfl, h₁⟩
    rw [h₁]
    show sW G m_TS_kind 8 ([.int (tf (vp_in t (gH σ).1))], [some (.ref 0), some (.int t)], M) _
    refine sW_if_eq 26 d_TS_kind_8 (by decide) (fun c_8 => ?_) (fun c_8 => ?_)
    · skip
      replace c_8 := tf_z.mp c_8
      refine sW_go b_TS_kind_26 (st' := ([.int (-1000001)], [some (.ref 0), some (.int t)], M)) (φ := True) rfl trivial ?_
      refine sW_retI d_TS_kind_28 rfl (vp_nar_int _) ?_
      exact ⟨rfl, Fr.rf, h⟩
    · skip
      replace c_8 := tf_nz.mp c_8
      exact absurd c_8 ht
noncomputable def sp_as (σ : Sg) (t w : Int32) : Int32 × Sg := cif (vp_in t (gH σ).1 ∧ vp_in w 6) (cif (isO (kindN (Sf (gH σ) (tn t))) (tn w)) (t, ws σ 0) ((-1000010) - nI 3, ws σ 3)) ((-1000001), σ)
theorem ts_as (G : mx_G) {M : mx_M} {σ : Sg} (h : CInv M σ) (hg : GOk σ) (t w : Int32) : sOk G m_TS_as [.ref 0, .int t, .int w] M (COk M (sp_as σ t w)) := by
  have hH := h.2.2.1
  have h8 := hg.1.1.1
  by_cases hc : vp_in t (gH σ).1 ∧ vp_in w 6
  · obtain ⟨ht, hw⟩ := id hc
    obtain ⟨j, hj, rfl⟩ := vp_in_of ht (by omega)
    obtain ⟨k, hk, rfl⟩ := vp_in_of hw (by decide)
    have ct : tn (nI j) = j := nI_clamp (by omega)
    have ck : tn (nI k) = k := nI_clamp (by omega)
    have x1 : M 8 j = nI (Sf (gH σ) j) := (hH.2.2 j hj).1
    have w1 := (hg.1.1.2.2 j hj).1
    have wk := kindN_le (Sf (gH σ) j)
    have z0 : (mx_wr M 0 13 (nI 0)) 0 13 = nI 0 := wr13
    have z3 : (mx_wr M 0 13 (nI 3)) 0 13 = nI 3 := wr13
    have hk0 : ¬ nI k < 0 := fun q => hw (Or.inl q)
    refine sOk_of ⟨by decide +kernel, by decide +kernel, Nat.le_of_ble_eq_true rfl⟩ ?_
    show sW G m_TS_as 0 ([], [some (.ref 0), some (.int (nI j)), some (.int (nI k))], M) _
    refine sW_go b_TS_as_0 (st' := ([.int (nI j), .ref 7], [some (.ref 0), some (.int (nI j)), some (.int (nI k))], M)) (φ := mx_ocl LAY 0 = 9 ∧ True) rfl ⟨oc_0, trivial⟩ ?_
    refine sW_callV 3 [.int (nI j)] [] d_TS_as_5 c_TS_as_5 ⟨rfl, rfl, rfl, Nat.le_of_ble_eq_true rfl, rfl, rfl⟩ oc_7 (k_House_has G oc_7 hH.1 h8 (nI j)) ?_
    rintro _ M₁ ⟨rfl, h₁⟩
    rw [h₁]
    show sW G m_TS_as 8 ([.int (tf (vp_in (nI j) (gH σ).1))], [some (.ref 0), some (.int (nI j)), some (.int (nI k))], M) _
    refine sW_if_eq 20 d_TS_as_8 (by decide) (fun c_8 => ?_) (fun c_8 => ?_)
    · skip
      replace c_8 := tf_z.mp c_8
      refine sW_go b_TS_as_20 (st' := ([.int (-1000001)], [some (.ref 0), some (.int (nI j)), some (.int (nI k))], M)) (φ := True) rfl trivial ?_
      refine sW_retI d_TS_as_22 rfl (vp_nar_int _) ?_
      exact absurd ht c_8
    · skip
      replace c_8 := tf_nz.mp c_8
      refine sW_go b_TS_as_11 (st' := ([.int (nI k)], [some (.ref 0), some (.int (nI j)), some (.int (nI k))], M)) (φ := True) rfl trivial ?_
      refine sW_if_lt 20 d_TS_as_12 (by decide) (fun c_12 => ?_) (fun c_12 => ?_)
      · skip
        refine sW_go b_TS_as_20 (st' := ([.int (-1000001)], [some (.ref 0), some (.int (nI j)), some (.int (nI k))], M)) (φ := True) rfl trivial ?_
        refine sW_retI d_TS_as_22 rfl (vp_nar_int _) ?_
        exact absurd c_12 hk0
      · skip
        refine sW_go b_TS_as_15 (st' := ([.int (nI 5), .int (nI k)], [some (.ref 0), some (.int (nI j)), some (.int (nI k))], M)) (φ := True) rfl trivial ?_
        refine sW_ic_le 23 d_TS_as_17 (by decide) (fun c_17 => ?_) (fun c_17 => ?_)
        · skip
          simp (disch := omega) only [nI_leI] at c_17
          refine sW_go b_TS_as_23 (st' := ([.int (M 8 (nI j).toNatClampNeg), .ref 0], [some (.ref 0), some (.int (nI j)), some (.int (nI k))], M)) (φ := mx_ocl LAY 0 = 9 ∧ mx_ocl LAY 7 = 3 ∧ vp_in (nI j) (mx_len LAY false 8) ∧ True) rfl ⟨oc_0, oc_7, (by simp (disch := omega) only [ln_8]; exact vp_in_nI (by omega) (by decide)), trivial⟩ ?_
          refine sW_eq (st' := ([.int (nI (Sf (gH σ) j)), .ref 0], [some (.ref 0), some (.int (nI j)), some (.int (nI k))], M)) (by simp (disch := omega) only [nI_clamp, x1]) ?_
          refine sW_callS [.int (nI (Sf (gH σ) j))] [.ref 0] d_TS_as_33 c_TS_as_33 ⟨rfl, rfl, Nat.le_of_ble_eq_true rfl, rfl, rfl⟩ (k_kindOf G w1) ?_
          rintro _ M₁ ⟨rfl, h₁⟩
          rw [h₁]
          show sW G m_TS_as 36 ([.int (nI (kindN (Sf (gH σ) j))), .ref 0], [some (.ref 0), some (.int (nI j)), some (.int (nI k))], M) _
          refine sW_go b_TS_as_36 (st' := ([.int (nI k), .int (nI (kindN (Sf (gH σ) j))), .ref 0], [some (.ref 0), some (.int (nI j)), some (.int (nI k))], M)) (φ := True) rfl trivial ?_
          refine sW_callS [.int (nI (kindN (Sf (gH σ) j))), .int (nI k)] [.ref 0] d_TS_as_37 c_TS_as_37 ⟨rfl, rfl, Nat.le_of_ble_eq_true rfl, rfl, rfl⟩ (k_isOne G wk (by omega)) ?_
          rintro _ M₁ ⟨rfl, h₁⟩
          rw [h₁]
          show sW G m_TS_as 40 ([.int (tf (isO (kindN (Sf (gH σ) j)) k)), .ref 0], [some (.ref 0), some (.int (nI j)), some (.int (nI k))], M) _
          refine sW_if_eq 47 d_TS_as_40 (by decide) (fun c_40 => ?_) (fun c_40 => ?_)
          · skip
            replace c_40 := tf_z.mp c_40
            refine sW_go b_TS_as_47 (st' := ([.int (nI 3), .ref 0], [some (.ref 0), some (.int (nI j)), some (.int (nI k))], M)) (φ := True) rfl trivial ?_
            refine sW_go b_TS_as_48 (st' := ([.int ((mx_wr M 0 13 (nI 3)) 0 13)], [some (.ref 0), some (.int (nI j)), some (.int (nI k))], mx_wr M 0 13 (nI 3))) (φ := mx_ocl LAY 0 = 9 ∧ mx_ocl LAY 0 = 9 ∧ True) rfl ⟨oc_0, oc_0, trivial⟩ ?_
            refine sW_eq (st' := ([.int (nI 3)], [some (.ref 0), some (.int (nI j)), some (.int (nI k))], mx_wr M 0 13 (nI 3))) (by simp (disch := omega) only [z3]) ?_
            refine sW_if_eq 68 d_TS_as_55 (by decide) (fun c_55 => ?_) (fun c_55 => ?_)
            · skip
              simp (disch := omega) only [nI_z] at c_55
              refine sW_go b_TS_as_68 (st' := ([.int (nI j)], [some (.ref 0), some (.int (nI j)), some (.int (nI k))], mx_wr M 0 13 (nI 3))) (φ := True) rfl trivial ?_
              refine sW_retI d_TS_as_69 rfl (vp_nar_int _) ?_
              exact absurd c_55 (by decide)
            · skip
              simp (disch := omega) only [nI_z] at c_55
              refine sW_go b_TS_as_58 (st' := ([.int ((-1000010) - (mx_wr M 0 13 (nI 3)) 0 13)], [some (.ref 0), some (.int (nI j)), some (.int (nI k))], mx_wr M 0 13 (nI 3))) (φ := mx_ocl LAY 0 = 9 ∧ True) rfl ⟨oc_0, trivial⟩ ?_
              refine sW_eq (st' := ([.int ((-1000010) - nI 3)], [some (.ref 0), some (.int (nI j)), some (.int (nI k))], mx_wr M 0 13 (nI 3))) (by simp (disch := omega) only [z3]) ?_
              refine sW_goto 69 d_TS_as_65 (by decide) ?_
              refine sW_retI d_TS_as_69 rfl (vp_nar_int _) ?_
              have e : sp_as σ (nI j) (nI k) = ((-1000010) - nI 3, ws σ 3) := by unfold sp_as; rw [cif_t hc, ct, ck, cif_f c_40]
              rw [e]
              exact ⟨rfl, Fr.rf.wr (by decide) (by decide), h.st 3⟩
          · skip
            replace c_40 := tf_nz.mp c_40
            refine sW_go b_TS_as_43 (st' := ([.int (nI 0), .ref 0], [some (.ref 0), some (.int (nI j)), some (.int (nI k))], M)) (φ := True) rfl trivial ?_
            refine sW_goto 48 d_TS_as_44 (by decide) ?_
            refine sW_go b_TS_as_48 (st' := ([.int ((mx_wr M 0 13 (nI 0)) 0 13)], [some (.ref 0), some (.int (nI j)), some (.int (nI k))], mx_wr M 0 13 (nI 0))) (φ := mx_ocl LAY 0 = 9 ∧ mx_ocl LAY 0 = 9 ∧ True) rfl ⟨oc_0, oc_0, trivial⟩ ?_
            refine sW_eq (st' := ([.int (nI 0)], [some (.ref 0), some (.int (nI j)), some (.int (nI k))], mx_wr M 0 13 (nI 0))) (by simp (disch := omega) only [z0]) ?_
            refine sW_if_eq 68 d_TS_as_55 (by decide) (fun c_55 => ?_) (fun c_55 => ?_)
            · skip
              simp (disch := omega) only [nI_z] at c_55
              refine sW_go b_TS_as_68 (st' := ([.int (nI j)], [some (.ref 0), some (.int (nI j)), some (.int (nI k))], mx_wr M 0 13 (nI 0))) (φ := True) rfl trivial ?_
              refine sW_retI d_TS_as_69 rfl (vp_nar_int _) ?_
              have e : sp_as σ (nI j) (nI k) = (nI j, ws σ 0) := by unfold sp_as; rw [cif_t hc, ct, ck, cif_t c_40]
              rw [e]
              exact ⟨rfl, Fr.rf.wr (by decide) (by decide), h.st 0⟩
            · skip
              simp (disch := omega) only [nI_z] at c_55
              refine sW_go b_TS_as_58 (st' := ([.int ((-1000010) - (mx_wr M 0 13 (nI 0)) 0 13)], [some (.ref 0), some (.int (nI j)), some (.int (nI k))], mx_wr M 0 13 (nI 0))) (φ := mx_ocl LAY 0 = 9 ∧ True) rfl ⟨oc_0, trivial⟩ ?_
              refine sW_eq (st' := ([.int ((-1000010) - nI 0)], [some (.ref 0), some (.int (nI j)), some (.int (nI k))], mx_wr M 0 13 (nI 0))) (by simp (disch := omega) only [z0]) ?_
              refine sW_goto 69 d_TS_as_65 (by decide) ?_
              refine sW_retI d_TS_as_69 rfl (vp_nar_int _) ?_
              exact absurd trivial c_55
        · skip
          simp (disch := omega) only [nI_leI] at c_17
          refine sW_go b_TS_as_20 (st' := ([.int (-1000001)], [some (.ref 0), some (.int (nI j)), some (.int (nI k))], M)) (φ := True) rfl trivial ?_
          refine sW_retI d_TS_as_22 rfl (vp_nar_int _) ?_
          omega
  · have e : sp_as σ t w = ((-1000001), σ) := by unfold sp_as; rw [cif_f hc]
    rw [e]
    refine sOk_of ⟨by decide +kernel, by decide +kernel, Nat.le_of_ble_eq_true rfl⟩ ?_
    show sW G m_TS_as 0 ([], [some (.ref 0), some (.int t), some (.int w)], M) _
    refine sW_go b_TS_as_0 (st' := ([.int t, .ref 7], [some (.ref 0), some (.int t), some (.int w)], M)) (φ := mx_ocl LAY 0 = 9 ∧ True) rfl ⟨oc_0, trivial⟩ ?_
    refine sW_callV 3 [.int t] [] d_TS_as_5 c_TS_as_5 ⟨rfl, rfl, rfl, Nat.le_of_ble_eq_true rfl, rfl, rfl⟩ oc_7 (k_House_has G oc_7 hH.1 h8 t) ?_
    rintro _ M₁ ⟨rfl, h₁⟩
    rw [h₁]
    show sW G m_TS_as 8 ([.int (tf (vp_in t (gH σ).1))], [some (.ref 0), some (.int t), some (.int w)], M) _
    refine sW_if_eq 20 d_TS_as_8 (by decide) (fun c_8 => ?_) (fun c_8 => ?_)
    · skip
      replace c_8 := tf_z.mp c_8
      refine sW_go b_TS_as_20 (st' := ([.int (-1000001)], [some (.ref 0), some (.int t), some (.int w)], M)) (φ := True) rfl trivial ?_
      refine sW_retI d_TS_as_22 rfl (vp_nar_int _) ?_
      exact ⟨rfl, Fr.rf, h⟩
    · skip
      replace c_8 := tf_nz.mp c_8
      refine sW_go b_TS_as_11 (st' := ([.int w], [some (.ref 0), some (.int t), some (.int w)], M)) (φ := True) rfl trivial ?_
      refine sW_if_lt 20 d_TS_as_12 (by decide) (fun c_12 => ?_) (fun c_12 => ?_)
      · skip
        refine sW_go b_TS_as_20 (st' := ([.int (-1000001)], [some (.ref 0), some (.int t), some (.int w)], M)) (φ := True) rfl trivial ?_
        refine sW_retI d_TS_as_22 rfl (vp_nar_int _) ?_
        exact ⟨rfl, Fr.rf, h⟩
      · skip
        refine sW_go b_TS_as_15 (st' := ([.int (nI 5), .int w], [some (.ref 0), some (.int t), some (.int w)], M)) (φ := True) rfl trivial ?_
        refine sW_ic_le 23 d_TS_as_17 (by decide) (fun c_17 => ?_) (fun c_17 => ?_)
        · skip
          exact absurd ⟨c_8, vp_in_iff.mpr (by
            rw [Int32.lt_iff_toInt_lt] at c_12
            rw [Int32.le_iff_toInt_le, nI_toInt (by decide)] at c_17
            have : (0 : Int32).toInt = 0 := by decide
            omega)⟩ hc
        · skip
          refine sW_go b_TS_as_20 (st' := ([.int (-1000001)], [some (.ref 0), some (.int t), some (.int w)], M)) (φ := True) rfl trivial ?_
          refine sW_retI d_TS_as_22 rfl (vp_nar_int _) ?_
          exact ⟨rfl, Fr.rf, h⟩
noncomputable def sp_ask (σ : Sg) (t w : Int32) : Int32 × Sg := cif (vp_in t (gH σ).1 ∧ vp_in w 2) (cif (w = nI 0) (szV (kindN (Sf (gH σ) (tn t))) t (nI (Af (gH σ) (tn t))) (nI (Bf (gH σ) (tn t))), wT σ (szT (kindN (Sf (gH σ) (tn t))))) (mkV (kindN (Sf (gH σ) (tn t))) t (nI (Af (gH σ) (tn t))) (nI (Bf (gH σ) (tn t))), wT σ (mkT (kindN (Sf (gH σ) (tn t)))))) ((-1000001), σ)
theorem ts_ask (G : mx_G) {M : mx_M} {σ : Sg} (h : CInv M σ) (hg : GOk σ) (t w : Int32) : sOk G m_TS_ask [.ref 0, .int t, .int w] M (COk M (sp_ask σ t w)) := by
  have hH := h.2.2.1
  have h8 := hg.1.1.1
  by_cases hc : vp_in t (gH σ).1 ∧ vp_in w 2
  · obtain ⟨ht, hw⟩ := id hc
    obtain ⟨j, hj, rfl⟩ := vp_in_of ht (by omega)
    obtain ⟨k, hk, rfl⟩ := vp_in_of hw (by decide)
    have ct : tn (nI j) = j := nI_clamp (by omega)
    have wk := kindN_le (Sf (gH σ) j)
    have hk0 : ¬ nI k < 0 := fun q => hw (Or.inl q)
    refine sOk_of ⟨by decide +kernel, by decide +kernel, Nat.le_of_ble_eq_true rfl⟩ ?_
    show sW G m_TS_ask 0 ([], [some (.ref 0), some (.int (nI j)), some (.int (nI k))], M) _
    refine sW_go b_TS_ask_0 (st' := ([.int (nI j), .ref 7], [some (.ref 0), some (.int (nI j)), some (.int (nI k))], M)) (φ := mx_ocl LAY 0 = 9 ∧ True) rfl ⟨oc_0, trivial⟩ ?_
    refine sW_callV 3 [.int (nI j)] [] d_TS_ask_5 c_TS_ask_5 ⟨rfl, rfl, rfl, Nat.le_of_ble_eq_true rfl, rfl, rfl⟩ oc_7 (k_House_has G oc_7 hH.1 h8 (nI j)) ?_
    rintro _ M₁ ⟨rfl, h₁⟩
    rw [h₁]
    show sW G m_TS_ask 8 ([.int (tf (vp_in (nI j) (gH σ).1))], [some (.ref 0), some (.int (nI j)), some (.int (nI k))], M) _
    refine sW_if_eq 20 d_TS_ask_8 (by decide) (fun c_8 => ?_) (fun c_8 => ?_)
    · skip
      replace c_8 := tf_z.mp c_8
      refine sW_go b_TS_ask_20 (st' := ([.int (-1000001)], [some (.ref 0), some (.int (nI j)), some (.int (nI k))], M)) (φ := True) rfl trivial ?_
      refine sW_retI d_TS_ask_22 rfl (vp_nar_int _) ?_
      exact absurd ht c_8
    · skip
      replace c_8 := tf_nz.mp c_8
      refine sW_go b_TS_ask_11 (st' := ([.int (nI k)], [some (.ref 0), some (.int (nI j)), some (.int (nI k))], M)) (φ := True) rfl trivial ?_
      refine sW_if_lt 20 d_TS_ask_12 (by decide) (fun c_12 => ?_) (fun c_12 => ?_)
      · skip
        refine sW_go b_TS_ask_20 (st' := ([.int (-1000001)], [some (.ref 0), some (.int (nI j)), some (.int (nI k))], M)) (φ := True) rfl trivial ?_
        refine sW_retI d_TS_ask_22 rfl (vp_nar_int _) ?_
        exact absurd c_12 hk0
      · skip
        refine sW_go b_TS_ask_15 (st' := ([.int (nI 1), .int (nI k)], [some (.ref 0), some (.int (nI j)), some (.int (nI k))], M)) (φ := True) rfl trivial ?_
        refine sW_ic_le 23 d_TS_ask_17 (by decide) (fun c_17 => ?_) (fun c_17 => ?_)
        · skip
          simp (disch := omega) only [nI_leI] at c_17
          refine sW_go b_TS_ask_23 (st' := ([.int (nI j), .ref 7, .ref 117], [some (.ref 0), some (.int (nI j)), some (.int (nI k))], M)) (φ := mx_ocl LAY 0 = 9 ∧ mx_ocl LAY 0 = 9 ∧ True) rfl ⟨oc_0, oc_0, trivial⟩ ?_
          refine sW_callV 1 [.ref 7, .int (nI j)] [] d_TS_ask_32 c_TS_ask_32 ⟨rfl, rfl, rfl, Nat.le_of_ble_eq_true rfl, rfl, rfl⟩ oc_117 (k_abegin G hH hg.1.1 hj) ?_
          rintro _ M2 ⟨rfl, f2, g2⟩
          show sW G m_TS_ask 35 ([], [some (.ref 0), some (.int (nI j)), some (.int (nI k))], M2) _
          refine sW_go b_TS_ask_35 (st' := ([.int (nI k)], [some (.ref 0), some (.int (nI j)), some (.int (nI k))], M2)) (φ := True) rfl trivial ?_
          refine sW_if_ne 49 d_TS_ask_36 (by decide) (fun c_36 => ?_) (fun c_36 => ?_)
          · skip
            simp (disch := omega) only [nI_z] at c_36
            refine sW_go b_TS_ask_49 (st' := ([.ref 117], [some (.ref 0), some (.int (nI j)), some (.int (nI k))], M2)) (φ := mx_ocl LAY 0 = 9 ∧ True) rfl ⟨oc_0, trivial⟩ ?_
            refine sW_callV 1 [] [] d_TS_ask_53 c_TS_ask_53 ⟨rfl, rfl, rfl, Nat.le_of_ble_eq_true rfl, rfl, rfl⟩ oc_117 (k_markOfOne G g2 wk) ?_
            rintro _ M3 ⟨rfl, f3, g3⟩
            show sW G m_TS_ask 56 ([.int (mkV (kindN (Sf (gH σ) j)) (nI j) (nI (Af (gH σ) j)) (nI (Bf (gH σ) j)))], [some (.ref 0), some (.int (nI j)), some (.int (nI k))], M3) _
            refine sW_retI d_TS_ask_56 rfl (vp_nar_int _) ?_
            have hk1 : ¬ nI k = nI 0 := fun q => c_36 ((nI_eq (by omega) (by decide)).mp q)
            unfold sp_ask
            rw [cif_t hc, cif_f hk1, ct]
            exact ⟨rfl, (f2.tr f3).mono (by decide) (by decide), h.trace (f2.tr f3) g3.1⟩
          · skip
            simp (disch := omega) only [nI_z] at c_36
            refine sW_go b_TS_ask_39 (st' := ([.ref 117], [some (.ref 0), some (.int (nI j)), some (.int (nI k))], M2)) (φ := mx_ocl LAY 0 = 9 ∧ True) rfl ⟨oc_0, trivial⟩ ?_
            refine sW_callV 1 [] [] d_TS_ask_43 c_TS_ask_43 ⟨rfl, rfl, rfl, Nat.le_of_ble_eq_true rfl, rfl, rfl⟩ oc_117 (k_sizeOfOne G g2 wk) ?_
            rintro _ M3 ⟨rfl, f3, g3⟩
            show sW G m_TS_ask 46 ([.int (szV (kindN (Sf (gH σ) j)) (nI j) (nI (Af (gH σ) j)) (nI (Bf (gH σ) j)))], [some (.ref 0), some (.int (nI j)), some (.int (nI k))], M3) _
            refine sW_goto 56 d_TS_ask_46 (by decide) ?_
            refine sW_retI d_TS_ask_56 rfl (vp_nar_int _) ?_
            have hk1 : nI k = nI 0 := by rw [c_36]
            unfold sp_ask
            rw [cif_t hc, cif_t hk1, ct]
            exact ⟨rfl, (f2.tr f3).mono (by decide) (by decide), h.trace (f2.tr f3) g3.1⟩
        · skip
          simp (disch := omega) only [nI_leI] at c_17
          refine sW_go b_TS_ask_20 (st' := ([.int (-1000001)], [some (.ref 0), some (.int (nI j)), some (.int (nI k))], M)) (φ := True) rfl trivial ?_
          refine sW_retI d_TS_ask_22 rfl (vp_nar_int _) ?_
          omega
  · have e : sp_ask σ t w = ((-1000001), σ) := by unfold sp_ask; rw [cif_f hc]
    rw [e]
    refine sOk_of ⟨by decide +kernel, by decide +kernel, Nat.le_of_ble_eq_true rfl⟩ ?_
    show sW G m_TS_ask 0 ([], [some (.ref 0), some (.int t), some (.int w)], M) _
    refine sW_go b_TS_ask_0 (st' := ([.int t, .ref 7], [some (.ref 0), some (.int t), some (.int w)], M)) (φ := mx_ocl LAY 0 = 9 ∧ True) rfl ⟨oc_0, trivial⟩ ?_
    refine sW_callV 3 [.int t] [] d_TS_ask_5 c_TS_ask_5 ⟨rfl, rfl, rfl, Nat.le_of_ble_eq_true rfl, rfl, rfl⟩ oc_7 (k_House_has G oc_7 hH.1 h8 t) ?_
    rintro _ M₁ ⟨rfl, h₁⟩
    rw [h₁]
    show sW G m_TS_ask 8 ([.int (tf (vp_in t (gH σ).1))], [some (.ref 0), some (.int t), some (.int w)], M) _
    refine sW_if_eq 20 d_TS_ask_8 (by decide) (fun c_8 => ?_) (fun c_8 => ?_)
    · skip
      replace c_8 := tf_z.mp c_8
      refine sW_go b_TS_ask_20 (st' := ([.int (-1000001)], [some (.ref 0), some (.int t), some (.int w)], M)) (φ := True) rfl trivial ?_
      refine sW_retI d_TS_ask_22 rfl (vp_nar_int _) ?_
      exact ⟨rfl, Fr.rf, h⟩
    · skip
      replace c_8 := tf_nz.mp c_8
      refine sW_go b_TS_ask_11 (st' := ([.int w], [some (.ref 0), some (.int t), some (.int w)], M)) (φ := True) rfl trivial ?_
      refine sW_if_lt 20 d_TS_ask_12 (by decide) (fun c_12 => ?_) (fun c_12 => ?_)
      · skip
        refine sW_go b_TS_ask_20 (st' := ([.int (-1000001)], [some (.ref 0), some (.int t), some (.int w)], M)) (φ := True) rfl trivial ?_
        refine sW_retI d_TS_ask_22 rfl (vp_nar_int _) ?_
        exact ⟨rfl, Fr.rf, h⟩
      · skip
        refine sW_go b_TS_ask_15 (st' := ([.int (nI 1), .int w], [some (.ref 0), some (.int t), some (.int w)], M)) (φ := True) rfl trivial ?_
        refine sW_ic_le 23 d_TS_ask_17 (by decide) (fun c_17 => ?_) (fun c_17 => ?_)
        · skip
          exact absurd ⟨c_8, vp_in_iff.mpr (by
            rw [Int32.lt_iff_toInt_lt] at c_12
            rw [Int32.le_iff_toInt_le, nI_toInt (by decide)] at c_17
            have : (0 : Int32).toInt = 0 := by decide
            omega)⟩ hc
        · skip
          refine sW_go b_TS_ask_20 (st' := ([.int (-1000001)], [some (.ref 0), some (.int t), some (.int w)], M)) (φ := True) rfl trivial ?_
          refine sW_retI d_TS_ask_22 rfl (vp_nar_int _) ?_
          exact ⟨rfl, Fr.rf, h⟩
noncomputable def sp_trace (σ : Sg) (i : Int32) : Int32 × Sg := (cif (vp_in i (gT σ).length) (nI ((gT σ).getD (tn i) 0)) (-1000000), σ)
theorem ts_trace (G : mx_G) {M : mx_M} {σ : Sg} (h : CInv M σ) (hg : GOk σ) (i : Int32) : sOk G m_TS_trace [.ref 0, .int i] M (COk M (sp_trace σ i)) := by
  have hT : TrcAt M (gT σ) := h.2.2.2.2.2.2.2.2.2.1
  have hl := hg.2.2.2.2.2.2
  have z := hT.1
  by_cases hi : vp_in i (gT σ).length
  · obtain ⟨j, hj, rfl⟩ := vp_in_of hi (by omega)
    have e : sp_trace σ (nI j) = (nI ((gT σ).getD j 0), σ) := by unfold sp_trace tn; rw [cif_t hi, nI_clamp (by omega)]
    have z2 := hT.2 j hj
    have hk0 : ¬ nI j < 0 := fun q => hi (Or.inl q)
    rw [e]
    refine sOk_of ⟨by decide +kernel, by decide +kernel, Nat.le_of_ble_eq_true rfl⟩ ?_
    show sW G m_TS_trace 0 ([], [some (.ref 0), some (.int (nI j))], M) _
    refine sW_go b_TS_trace_0 (st' := ([.int (nI j)], [some (.ref 0), some (.int (nI j))], M)) (φ := True) rfl trivial ?_
    refine sW_if_lt 15 d_TS_trace_1 (by decide) (fun c_1 => ?_) (fun c_1 => ?_)
    · skip
      refine sW_go b_TS_trace_15 (st' := ([.int (-1000000)], [some (.ref 0), some (.int (nI j))], M)) (φ := True) rfl trivial ?_
      refine sW_goto 30 d_TS_trace_18 (by decide) ?_
      refine sW_retI d_TS_trace_30 rfl (vp_nar_int _) ?_
      exact absurd c_1 hk0
    · skip
      refine sW_go b_TS_trace_4 (st' := ([.int (M 117 1), .int (nI j)], [some (.ref 0), some (.int (nI j))], M)) (φ := mx_ocl LAY 0 = 9 ∧ mx_ocl LAY 117 = 1 ∧ True) rfl ⟨oc_0, oc_117, trivial⟩ ?_
      refine sW_eq (st' := ([.int (nI (gT σ).length), .int (nI j)], [some (.ref 0), some (.int (nI j))], M)) (by simp (disch := omega) only [z]) ?_
      refine sW_ic_lt 21 d_TS_trace_12 (by decide) (fun c_12 => ?_) (fun c_12 => ?_)
      · skip
        simp (disch := omega) only [nI_ltI] at c_12
        refine sW_go b_TS_trace_21 (st' := ([.int (M 118 (nI j).toNatClampNeg)], [some (.ref 0), some (.int (nI j))], M)) (φ := mx_ocl LAY 0 = 9 ∧ mx_ocl LAY 117 = 1 ∧ vp_in (nI j) (mx_len LAY false 118) ∧ True) rfl ⟨oc_0, oc_117, (by simp (disch := omega) only [ln_118]; exact vp_in_nI (by omega) (by decide)), trivial⟩ ?_
        refine sW_eq (st' := ([.int (nI ((gT σ).getD j 0))], [some (.ref 0), some (.int (nI j))], M)) (by simp (disch := omega) only [nI_clamp, z2]) ?_
        refine sW_retI d_TS_trace_30 rfl (vp_nar_int _) ?_
        exact ⟨rfl, Fr.rf, h⟩
      · skip
        simp (disch := omega) only [nI_ltI] at c_12
        refine sW_go b_TS_trace_15 (st' := ([.int (-1000000)], [some (.ref 0), some (.int (nI j))], M)) (φ := True) rfl trivial ?_
        refine sW_goto 30 d_TS_trace_18 (by decide) ?_
        refine sW_retI d_TS_trace_30 rfl (vp_nar_int _) ?_
        omega
  · have e : sp_trace σ i = ((-1000000), σ) := by unfold sp_trace; rw [cif_f hi]
    rw [e]
    refine sOk_of ⟨by decide +kernel, by decide +kernel, Nat.le_of_ble_eq_true rfl⟩ ?_
    show sW G m_TS_trace 0 ([], [some (.ref 0), some (.int i)], M) _
    refine sW_go b_TS_trace_0 (st' := ([.int i], [some (.ref 0), some (.int i)], M)) (φ := True) rfl trivial ?_
    refine sW_if_lt 15 d_TS_trace_1 (by decide) (fun c_1 => ?_) (fun c_1 => ?_)
    · skip
      refine sW_go b_TS_trace_15 (st' := ([.int (-1000000)], [some (.ref 0), some (.int i)], M)) (φ := True) rfl trivial ?_
      refine sW_goto 30 d_TS_trace_18 (by decide) ?_
      refine sW_retI d_TS_trace_30 rfl (vp_nar_int _) ?_
      exact ⟨rfl, Fr.rf, h⟩
    · skip
      refine sW_go b_TS_trace_4 (st' := ([.int (M 117 1), .int i], [some (.ref 0), some (.int i)], M)) (φ := mx_ocl LAY 0 = 9 ∧ mx_ocl LAY 117 = 1 ∧ True) rfl ⟨oc_0, oc_117, trivial⟩ ?_
      refine sW_eq (st' := ([.int (nI (gT σ).length), .int i], [some (.ref 0), some (.int i)], M)) (by simp (disch := omega) only [z]) ?_
      refine sW_ic_lt 21 d_TS_trace_12 (by decide) (fun c_12 => ?_) (fun c_12 => ?_)
      · skip
        exact absurd (vp_in_iff.mpr (by
          rw [Int32.lt_iff_toInt_lt] at c_1
          rw [Int32.lt_iff_toInt_lt, nI_toInt (by omega)] at c_12
          have : (0 : Int32).toInt = 0 := by decide
          omega)) hi
      · skip
        refine sW_go b_TS_trace_15 (st' := ([.int (-1000000)], [some (.ref 0), some (.int i)], M)) (φ := True) rfl trivial ?_
        refine sW_goto 30 d_TS_trace_18 (by decide) ?_
        refine sW_retI d_TS_trace_30 rfl (vp_nar_int _) ?_
        exact ⟨rfl, Fr.rf, h⟩
def sp_status (σ : Sg) : Int32 × Sg := (nI (gs σ), σ)
theorem ts_status (G : mx_G) {M : mx_M} {σ : Sg} (h : CInv M σ) : sOk G m_TS_status [.ref 0] M (COk M (sp_status σ)) := by
  have z := h.2.2.2.2.2.2.2.2.2.2
  refine sOk_of ⟨by decide +kernel, by decide +kernel, Nat.le_of_ble_eq_true rfl⟩ ?_
  show sW G m_TS_status 0 ([], [some (.ref 0)], M) _
  refine sW_go b_TS_status_0 (st' := ([.int (M 0 13)], [some (.ref 0)], M)) (φ := mx_ocl LAY 0 = 9 ∧ True) rfl ⟨oc_0, trivial⟩ ?_
  refine sW_eq (st' := ([.int (nI (gs σ))], [some (.ref 0)], M)) (by simp (disch := omega) only [z]) ?_
  refine sW_retI d_TS_status_4 rfl (vp_nar_int _) ?_
  exact ⟨rfl, Fr.rf, h⟩

