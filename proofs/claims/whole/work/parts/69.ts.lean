noncomputable def othM (hs : Hs) (t w : Nat) : Nat := mk8 (fun o => o < hs.1 ∧ (if w = 2 then ¬ Meets hs t o else LiesIn hs t o ∧ (w = 0 ∨ LiesIn hs o t)))
noncomputable def sp_others (σ : Sg) (t w : Int32) : Int32 × Sg := (cif (vp_in t (gH σ).1 ∧ vp_in w 3) (nI (othM (gH σ) (tn t) (tn w))) (-1000001), σ)
theorem ts_others (G : mx_G) {M : mx_M} {σ : Sg} (h : CInv M σ) (hg : GOk σ) (t w : Int32) : sOk G m_TS_others [.ref 0, .int t, .int w] M (COk M (sp_others σ t w)) := by
  have hH := h.2.2.1
  have h8 := hg.1.1.1
  by_cases hp : vp_in t (gH σ).1
  · obtain ⟨x, hx, rfl⟩ := vp_in_of hp (by omega)
    have cx : tn (nI x) = x := nI_clamp (by omega)
    refine sOk_of ⟨by decide +kernel, by decide +kernel, Nat.le_of_ble_eq_true rfl⟩ ?_
    show sW G m_TS_others 0 ([], [some (.ref 0), some (.int (nI x)), some (.int w)], M) _
    refine sW_go b_TS_others_0 (st' := ([.int (nI x), .ref 7], [some (.ref 0), some (.int (nI x)), some (.int w)], M)) (φ := mx_ocl LAY 0 = 9 ∧ True) rfl ⟨oc_0, trivial⟩ ?_
    refine sW_callV 3 [.int (nI x)] [] d_TS_others_5 c_TS_others_5 ⟨rfl, rfl, rfl, Nat.le_of_ble_eq_true rfl, rfl, rfl⟩ oc_7 (k_House_has G oc_7 hH.1 h8 (nI x)) ?_
    rintro _ M₁ ⟨rfl, h₁⟩
    rw [h₁]
    show sW G m_TS_others 8 ([.int (tf (vp_in (nI x) (gH σ).1))], [some (.ref 0), some (.int (nI x)), some (.int w)], M) _
    refine sW_if_ne 14 d_TS_others_8 (by decide) (fun c_8 => ?_) (fun c_8 => ?_)
    · skip
      replace c_8 := tf_nz.mp c_8
      refine sW_go b_TS_others_14 (st' := ([.int w], [some (.ref 0), some (.int (nI x)), some (.int w)], M)) (φ := True) rfl trivial ?_
      refine sW_tsw 0 89 [40, 50, 69] d_TS_others_15 (by decide) (by decide) (fun c_15 => ?_) ⟨fun c_15 => ?_, fun c_15 => ?_, fun c_15 => ?_, trivial⟩
      · skip
        have hw : ¬ vp_in w 3 := fun q => by
          rw [vp_in_iff] at q
          omega
        unfold sp_others
        rw [cif_f (fun q => hw q.2)]
        refine sW_go b_TS_others_89 (st' := ([.int (-1000001)], [some (.ref 0), some (.int (nI x)), some (.int w)], M)) (φ := True) rfl trivial ?_
        refine sW_retI d_TS_others_91 rfl (vp_nar_int _) ?_
        exact ⟨rfl, Fr.rf, h⟩
      · skip
        subst c_15
        have hc : vp_in (nI x) (gH σ).1 ∧ vp_in (nI 0) 3 := ⟨hp, vp_in_nI (by decide) (by decide)⟩
        unfold sp_others
        rw [cif_t hc, cx, show tn (nI 0) = 0 from nI_clamp (by decide)]
        refine sW_go b_TS_others_40 (st' := ([.ref 0], [some (.ref 0), some (.int (nI x)), some (.int (nI 0))], M)) (φ := True) rfl trivial ?_
        refine sW_callV 9 [] [] d_TS_others_41 c_TS_others_41 ⟨rfl, rfl, rfl, Nat.le_of_ble_eq_true rfl, rfl, rfl⟩ oc_0 (k_cellsNow G h hg) ?_
        rintro _ M2 ⟨rfl, f2, g2, X, hD, hR⟩
        have z1 : M2 63 x = nI (supP (cF X) (gH σ).1 x (cF X).length) := (hR x hx).1
        show sW G m_TS_others 44 ([.ref 28], [some (.ref 0), some (.int (nI x)), some (.int (nI 0))], M2) _
        refine sW_go b_TS_others_44 (st' := ([.int (M2 63 (nI x).toNatClampNeg)], [some (.ref 0), some (.int (nI x)), some (.int (nI 0))], M2)) (φ := mx_ocl LAY 28 = 2 ∧ vp_in (nI x) (mx_len LAY false 63) ∧ True) rfl ⟨oc_28, (by simp (disch := omega) only [ln_63]; exact vp_in_nI (by omega) (by decide)), trivial⟩ ?_
        refine sW_eq (st' := ([.int (nI (supP (cF X) (gH σ).1 x (cF X).length))], [some (.ref 0), some (.int (nI x)), some (.int (nI 0))], M2)) (by simp (disch := omega) only [nI_clamp, z1]) ?_
        refine sW_retI d_TS_others_49 rfl (vp_nar_int _) ?_
        have e : supP (cF X) (gH σ).1 x (cF X).length = othM (gH σ) x 0 := mk8_of (supP_lt (cF X) h8 x _) (fun k _ => by
          rw [supP_lies hD, if_neg (by decide)]
          exact ⟨fun q => ⟨q.1, q.2, Or.inl rfl⟩, fun q => ⟨q.1, q.2.1⟩⟩)
        rw [← e]
        exact ⟨rfl, f2, g2⟩
      · skip
        subst c_15
        have hc : vp_in (nI x) (gH σ).1 ∧ vp_in (nI 1) 3 := ⟨hp, vp_in_nI (by decide) (by decide)⟩
        unfold sp_others
        rw [cif_t hc, cx, show tn (nI 1) = 1 from nI_clamp (by decide)]
        refine sW_go b_TS_others_50 (st' := ([.ref 0], [some (.ref 0), some (.int (nI x)), some (.int (nI 1))], M)) (φ := True) rfl trivial ?_
        refine sW_callV 9 [] [] d_TS_others_51 c_TS_others_51 ⟨rfl, rfl, rfl, Nat.le_of_ble_eq_true rfl, rfl, rfl⟩ oc_0 (k_cellsNow G h hg) ?_
        rintro _ M2 ⟨rfl, f2, g2, X, hD, hR⟩
        have z1 : M2 63 x = nI (supP (cF X) (gH σ).1 x (cF X).length) := (hR x hx).1
        show sW G m_TS_others 54 ([.ref 28], [some (.ref 0), some (.int (nI x)), some (.int (nI 1))], M2) _
        refine sW_go b_TS_others_54 (st' := ([.ref 0, .int (M2 63 (nI x).toNatClampNeg)], [some (.ref 0), some (.int (nI x)), some (.int (nI 1))], M2)) (φ := mx_ocl LAY 28 = 2 ∧ vp_in (nI x) (mx_len LAY false 63) ∧ True) rfl ⟨oc_28, (by simp (disch := omega) only [ln_63]; exact vp_in_nI (by omega) (by decide)), trivial⟩ ?_
        refine sW_eq (st' := ([.ref 0, .int (nI (supP (cF X) (gH σ).1 x (cF X).length))], [some (.ref 0), some (.int (nI x)), some (.int (nI 1))], M2)) (by simp (disch := omega) only [nI_clamp, z1]) ?_
        refine sW_callV 9 [] [.int (nI (supP (cF X) (gH σ).1 x (cF X).length))] d_TS_others_60 c_TS_others_60 ⟨rfl, rfl, rfl, Nat.le_of_ble_eq_true rfl, rfl, rfl⟩ oc_0 (k_cellsNow G g2 hg) ?_
        rintro _ M3 ⟨rfl, f3, g3, X3, hD3, hR3⟩
        show sW G m_TS_others 63 ([.ref 28, .int (nI (supP (cF X) (gH σ).1 x (cF X).length))], [some (.ref 0), some (.int (nI x)), some (.int (nI 1))], M3) _
        refine sW_go b_TS_others_63 (st' := ([.int (nI x), .ref 28, .int (nI (supP (cF X) (gH σ).1 x (cF X).length))], [some (.ref 0), some (.int (nI x)), some (.int (nI 1))], M3)) (φ := True) rfl trivial ?_
        refine sW_callV 2 [.int (nI x)] [.int (nI (supP (cF X) (gH σ).1 x (cF X).length))] d_TS_others_64 c_TS_others_64 ⟨rfl, rfl, rfl, Nat.le_of_ble_eq_true rfl, rfl, rfl⟩ oc_28 (k_lyingIn G oc_28 hg.1.1 hD3 hR3 hx) ?_
        rintro _ M₁ ⟨rfl, h₁⟩
        rw [h₁]
        show sW G m_TS_others 67 ([.int (nI (mk8 (fun k => k < (gH σ).1 ∧ LiesIn (gH σ) k x))), .int (nI (supP (cF X) (gH σ).1 x (cF X).length))], [some (.ref 0), some (.int (nI x)), some (.int (nI 1))], M3) _
        refine sW_go b_TS_others_67 (st' := ([.int (nI (supP (cF X) (gH σ).1 x (cF X).length) &&& nI (mk8 (fun k => k < (gH σ).1 ∧ LiesIn (gH σ) k x)))], [some (.ref 0), some (.int (nI x)), some (.int (nI 1))], M3)) (φ := True) rfl trivial ?_
        refine sW_eq (st' := ([.int (nI (supP (cF X) (gH σ).1 x (cF X).length &&& mk8 (fun k => k < (gH σ).1 ∧ LiesIn (gH σ) k x)))], [some (.ref 0), some (.int (nI x)), some (.int (nI 1))], M3)) (by simp (disch := omega) only [nx_and]) ?_
        refine sW_retI d_TS_others_68 rfl (vp_nar_int _) ?_
        have e : supP (cF X) (gH σ).1 x (cF X).length &&& mk8 (fun k => k < (gH σ).1 ∧ LiesIn (gH σ) k x) = othM (gH σ) x 1 := mk8_of (Nat.lt_of_le_of_lt Nat.and_le_left (supP_lt (cF X) h8 x _)) (fun k hk => by
          rw [bt_and, supP_lies hD, mk8_bt, if_neg (by decide)]
          exact ⟨fun q => ⟨q.1.1, q.1.2, Or.inr q.2.2.2⟩, fun q => ⟨⟨q.1, q.2.1⟩, hk, q.1, q.2.2.resolve_left (by decide)⟩⟩)
        rw [← e]
        exact ⟨rfl, f2.tr f3, g3⟩
      · skip
        subst c_15
        have hc : vp_in (nI x) (gH σ).1 ∧ vp_in (nI 2) 3 := ⟨hp, vp_in_nI (by decide) (by decide)⟩
        unfold sp_others
        rw [cif_t hc, cx, show tn (nI 2) = 2 from nI_clamp (by decide)]
        refine sW_go b_TS_others_69 (st' := ([.ref 7], [some (.ref 0), some (.int (nI x)), some (.int (nI 2))], M)) (φ := mx_ocl LAY 0 = 9 ∧ True) rfl ⟨oc_0, trivial⟩ ?_
        refine sW_callV 3 [] [] d_TS_others_73 c_TS_others_73 ⟨rfl, rfl, rfl, Nat.le_of_ble_eq_true rfl, rfl, rfl⟩ oc_7 (k_House_all G oc_7 hH.1 h8) ?_
        rintro _ M₁ ⟨rfl, h₁⟩
        rw [h₁]
        show sW G m_TS_others 76 ([.int (nI (2 ^ (gH σ).1 - 1))], [some (.ref 0), some (.int (nI x)), some (.int (nI 2))], M) _
        refine sW_go b_TS_others_76 (st' := ([.ref 0, .int (nI (2 ^ (gH σ).1 - 1))], [some (.ref 0), some (.int (nI x)), some (.int (nI 2))], M)) (φ := True) rfl trivial ?_
        refine sW_callV 9 [] [.int (nI (2 ^ (gH σ).1 - 1))] d_TS_others_77 c_TS_others_77 ⟨rfl, rfl, rfl, Nat.le_of_ble_eq_true rfl, rfl, rfl⟩ oc_0 (k_cellsNow G h hg) ?_
        rintro _ M2 ⟨rfl, f2, g2, X, hD, hR⟩
        have z1 : M2 64 x = nI (meetP (cF X) x (cF X).length) := (hR x hx).2
        have z2 := an_i (2 ^ (gH σ).1 - 1) (meetP (cF X) x (cF X).length)
        show sW G m_TS_others 80 ([.ref 28, .int (nI (2 ^ (gH σ).1 - 1))], [some (.ref 0), some (.int (nI x)), some (.int (nI 2))], M2) _
        refine sW_go b_TS_others_80 (st' := ([.int (nI (2 ^ (gH σ).1 - 1) &&& (M2 64 (nI x).toNatClampNeg ^^^ (-1)))], [some (.ref 0), some (.int (nI x)), some (.int (nI 2))], M2)) (φ := mx_ocl LAY 28 = 2 ∧ vp_in (nI x) (mx_len LAY false 64) ∧ True) rfl ⟨oc_28, (by simp (disch := omega) only [ln_64]; exact vp_in_nI (by omega) (by decide)), trivial⟩ ?_
        refine sW_eq (st' := ([.int (nI (andn (2 ^ (gH σ).1 - 1) (meetP (cF X) x (cF X).length)))], [some (.ref 0), some (.int (nI x)), some (.int (nI 2))], M2)) (by simp (disch := omega) only [nI_clamp, z1, z2]) ?_
        refine sW_retI d_TS_others_88 rfl (vp_nar_int _) ?_
        have hp8 := p8 h8
        have e : andn (2 ^ (gH σ).1 - 1) (meetP (cF X) x (cF X).length) = othM (gH σ) x 2 := mk8_of (Nat.lt_of_le_of_lt (andn_le _ _) (by omega)) (fun k hk => by
          rw [bt_andn, bt_all, meetP_meets hD, if_pos rfl])
        rw [← e]
        exact ⟨rfl, f2, g2⟩
    · skip
      replace c_8 := tf_z.mp c_8
      refine sW_go b_TS_others_11 (st' := ([.int (-1000001)], [some (.ref 0), some (.int (nI x)), some (.int w)], M)) (φ := True) rfl trivial ?_
      refine sW_retI d_TS_others_13 rfl (vp_nar_int _) ?_
      exact absurd hp c_8
  · have hc2 := hp
    unfold sp_others
    rw [cif_f (fun q => hp q.1)]
    refine sOk_of ⟨by decide +kernel, by decide +kernel, Nat.le_of_ble_eq_true rfl⟩ ?_
    show sW G m_TS_others 0 ([], [some (.ref 0), some (.int t), some (.int w)], M) _
    refine sW_go b_TS_others_0 (st' := ([.int t, .ref 7], [some (.ref 0), some (.int t), some (.int w)], M)) (φ := mx_ocl LAY 0 = 9 ∧ True) rfl ⟨oc_0, trivial⟩ ?_
    refine sW_callV 3 [.int t] [] d_TS_others_5 c_TS_others_5 ⟨rfl, rfl, rfl, Nat.le_of_ble_eq_true rfl, rfl, rfl⟩ oc_7 (k_House_has G oc_7 hH.1 h8 t) ?_
    rintro _ M₁ ⟨rfl, h₁⟩
    rw [h₁]
    show sW G m_TS_others 8 ([.int (tf (vp_in t (gH σ).1))], [some (.ref 0), some (.int t), some (.int w)], M) _
    refine sW_if_ne 14 d_TS_others_8 (by decide) (fun c_8 => ?_) (fun c_8 => ?_)
    · skip
      replace c_8 := tf_nz.mp c_8
      exact absurd c_8 hp
    · skip
      replace c_8 := tf_z.mp c_8
      refine sW_go b_TS_others_11 (st' := ([.int (-1000001)], [some (.ref 0), some (.int t), some (.int w)], M)) (φ := True) rfl trivial ?_
      refine sW_retI d_TS_others_13 rfl (vp_nar_int _) ?_
      exact ⟨rfl, Fr.rf, h⟩
noncomputable def sp_count (σ : Sg) (w : Int32) : Int32 × Sg := (cif (w = nI 0) (nI (rwCnt (gR σ) 8)) (cif (w = nI 1) (nI (gH σ).1) (cif (w = nI 2) (nI (gH σ).2.1) (cif (w = nI 3) (nI (pop (empM (gH σ)))) (cif (w = nI 4) (nI (gA σ).length) (cif (w = nI 5) (nI (gn σ)) (-1000001)))))), σ)
theorem ts_count (G : mx_G) {M : mx_M} {σ : Sg} (h : CInv M σ) (hg : GOk σ) (w : Int32) : sOk G m_TS_count [.ref 0, .int w] M (COk M (sp_count σ w)) := by
  have hH := h.2.2.1
  have h8 := hg.1.1.1
  have z1 : M 7 3 = nI (gH σ).1 := hH.1
  have z2 : M 7 4 = nI (gH σ).2.1 := hH.2.1
  have z3 := h.2.2.2.2.2.1.1
  have z4 := h.2.1.1.1
  refine sOk_of ⟨by decide +kernel, by decide +kernel, Nat.le_of_ble_eq_true rfl⟩ ?_
  show sW G m_TS_count 0 ([], [some (.ref 0), some (.int w)], M) _
  refine sW_go b_TS_count_0 (st' := ([.int w], [some (.ref 0), some (.int w)], M)) (φ := True) rfl trivial ?_
  refine sW_tsw 0 91 [40, 48, 56, 64, 75, 83] d_TS_count_1 (by decide) (by decide) (fun c_1 => ?_) ⟨fun c_1 => ?_, fun c_1 => ?_, fun c_1 => ?_, fun c_1 => ?_, fun c_1 => ?_, fun c_1 => ?_, trivial⟩
  · skip
    refine sW_go b_TS_count_91 (st' := ([.int (-1000001)], [some (.ref 0), some (.int w)], M)) (φ := True) rfl trivial ?_
    refine sW_retI d_TS_count_93 rfl (vp_nar_int _) ?_
    have n0 : ∀ k, k < 6 → ¬ w = nI k := fun k hk q => by rw [q, nI_toInt (by omega)] at c_1; omega
    unfold sp_count
    rw [cif_f (n0 0 (by decide)), cif_f (n0 1 (by decide)), cif_f (n0 2 (by decide)), cif_f (n0 3 (by decide)), cif_f (n0 4 (by decide)), cif_f (n0 5 (by decide))]
    exact ⟨rfl, Fr.rf, h⟩
  · skip
    refine sW_go b_TS_count_40 (st' := ([.ref 1], [some (.ref 0), some (.int w)], M)) (φ := mx_ocl LAY 0 = 9 ∧ True) rfl ⟨oc_0, trivial⟩ ?_
    refine sW_callV 5 [] [] d_TS_count_44 c_TS_count_44 ⟨rfl, rfl, rfl, Nat.le_of_ble_eq_true rfl, rfl, rfl⟩ oc_1 (k_present G h.1) ?_
    rintro _ M₁ ⟨rfl, h₁⟩
    rw [h₁]
    show sW G m_TS_count 47 ([.int (nI (rwCnt (gR σ) 8))], [some (.ref 0), some (.int w)], M) _
    refine sW_retI d_TS_count_47 rfl (vp_nar_int _) ?_
    unfold sp_count
    rw [cif_t c_1]
    exact ⟨rfl, Fr.rf, h⟩
  · skip
    refine sW_go b_TS_count_48 (st' := ([.int (M 7 3)], [some (.ref 0), some (.int w)], M)) (φ := mx_ocl LAY 0 = 9 ∧ mx_ocl LAY 7 = 3 ∧ True) rfl ⟨oc_0, oc_7, trivial⟩ ?_
    refine sW_eq (st' := ([.int (nI (gH σ).1)], [some (.ref 0), some (.int w)], M)) (by simp (disch := omega) only [z1]) ?_
    refine sW_retI d_TS_count_55 rfl (vp_nar_int _) ?_
    subst c_1
    unfold sp_count
    rw [cif_f (by decide), cif_t rfl]
    exact ⟨rfl, Fr.rf, h⟩
  · skip
    refine sW_go b_TS_count_56 (st' := ([.int (M 7 4)], [some (.ref 0), some (.int w)], M)) (φ := mx_ocl LAY 0 = 9 ∧ mx_ocl LAY 7 = 3 ∧ True) rfl ⟨oc_0, oc_7, trivial⟩ ?_
    refine sW_eq (st' := ([.int (nI (gH σ).2.1)], [some (.ref 0), some (.int w)], M)) (by simp (disch := omega) only [z2]) ?_
    refine sW_retI d_TS_count_63 rfl (vp_nar_int _) ?_
    subst c_1
    unfold sp_count
    rw [cif_f (by decide), cif_f (by decide), cif_t rfl]
    exact ⟨rfl, Fr.rf, h⟩
  · skip
    refine sW_go b_TS_count_64 (st' := ([.ref 0], [some (.ref 0), some (.int w)], M)) (φ := True) rfl trivial ?_
    refine sW_callV 9 [] [] d_TS_count_65 c_TS_count_65 ⟨rfl, rfl, rfl, Nat.le_of_ble_eq_true rfl, rfl, rfl⟩ oc_0 (k_cellsNow G h hg) ?_
    rintro _ M2 ⟨rfl, f2, g2, X, hD, hR⟩
    show sW G m_TS_count 68 ([.ref 28], [some (.ref 0), some (.int w)], M2) _
    refine sW_callV 2 [] [] d_TS_count_68 c_TS_count_68 ⟨rfl, rfl, rfl, Nat.le_of_ble_eq_true rfl, rfl, rfl⟩ oc_28 (k_withoutValue G oc_28 hg.1.1 hD) ?_
    rintro _ M₁ ⟨rfl, h₁⟩
    rw [h₁]
    show sW G m_TS_count 71 ([.int (nI (empM (gH σ)))], [some (.ref 0), some (.int w)], M2) _
    refine sW_callS [.int (nI (empM (gH σ)))] [] d_TS_count_71 c_TS_count_71 ⟨rfl, rfl, Nat.le_of_ble_eq_true rfl, rfl, rfl⟩ (k_bitCount G (mk8_lt _)) ?_
    rintro _ M₁ ⟨rfl, h₁⟩
    rw [h₁]
    show sW G m_TS_count 74 ([.int (nI (pop (empM (gH σ))))], [some (.ref 0), some (.int w)], M2) _
    refine sW_retI d_TS_count_74 rfl (vp_nar_int _) ?_
    subst c_1
    unfold sp_count
    rw [cif_f (by decide), cif_f (by decide), cif_f (by decide), cif_t rfl]
    exact ⟨rfl, f2, g2⟩
  · skip
    refine sW_go b_TS_count_75 (st' := ([.int (M 23 4)], [some (.ref 0), some (.int w)], M)) (φ := mx_ocl LAY 0 = 9 ∧ mx_ocl LAY 23 = 0 ∧ True) rfl ⟨oc_0, oc_23, trivial⟩ ?_
    refine sW_eq (st' := ([.int (nI (gA σ).length)], [some (.ref 0), some (.int w)], M)) (by simp (disch := omega) only [z3]) ?_
    refine sW_retI d_TS_count_82 rfl (vp_nar_int _) ?_
    subst c_1
    unfold sp_count
    rw [cif_f (by decide), cif_f (by decide), cif_f (by decide), cif_f (by decide), cif_t rfl]
    exact ⟨rfl, Fr.rf, h⟩
  · skip
    refine sW_go b_TS_count_83 (st' := ([.int (M 5 1)], [some (.ref 0), some (.int w)], M)) (φ := mx_ocl LAY 0 = 9 ∧ mx_ocl LAY 5 = 8 ∧ True) rfl ⟨oc_0, oc_5, trivial⟩ ?_
    refine sW_eq (st' := ([.int (nI (gn σ))], [some (.ref 0), some (.int w)], M)) (by simp (disch := omega) only [z4]) ?_
    refine sW_retI d_TS_count_90 rfl (vp_nar_int _) ?_
    subst c_1
    unfold sp_count
    rw [cif_f (by decide), cif_f (by decide), cif_f (by decide), cif_f (by decide), cif_f (by decide), cif_t rfl]
    exact ⟨rfl, Fr.rf, h⟩
noncomputable def sp_cellAt (σ : Sg) (k : Int32) : Int32 × Sg := (if (gH σ).1 = 0 then (-1000002) else cif (k < -1) (-1000001) (cif (k = -1) (nI (cntK (Kw (gH σ)) 256)) (nthV (Kw (gH σ)) (tn k))), σ)
theorem ts_cellAt (G : mx_G) {M : mx_M} {σ : Sg} (h : CInv M σ) (hg : GOk σ) (k : Int32) : sOk G m_TS_cellAt [.ref 0, .int k] M (COk M (sp_cellAt σ k)) := by
  have hH := h.2.2.1
  have h8 := hg.1.1.1
  have m1 : (-1 : Int32).toInt = -1 := by decide
  have m0 : (0 : Int32).toInt = 0 := by decide
  refine sOk_of ⟨by decide +kernel, by decide +kernel, Nat.le_of_ble_eq_true rfl⟩ ?_
  show sW G m_TS_cellAt 0 ([], [some (.ref 0), some (.int k)], M) _
  refine sW_go b_TS_cellAt_0 (st' := ([.ref 7], [some (.ref 0), some (.int k)], M)) (φ := mx_ocl LAY 0 = 9 ∧ True) rfl ⟨oc_0, trivial⟩ ?_
  refine sW_callV 3 [] [] d_TS_cellAt_4 c_TS_cellAt_4 ⟨rfl, rfl, rfl, Nat.le_of_ble_eq_true rfl, rfl, rfl⟩ oc_7 (k_House_isNone G oc_7 hH.1 h8) ?_
  rintro _ M₁ ⟨rfl, h₁⟩
  rw [h₁]
  show sW G m_TS_cellAt 7 ([.int (tf ((gH σ).1 = 0))], [some (.ref 0), some (.int k)], M) _
  refine sW_if_eq 13 d_TS_cellAt_7 (by decide) (fun c_7 => ?_) (fun c_7 => ?_)
  · skip
    replace c_7 := tf_z.mp c_7
    refine sW_go b_TS_cellAt_13 (st' := ([.int (-1), .int k], [some (.ref 0), some (.int k)], M)) (φ := True) rfl trivial ?_
    refine sW_ic_ge 21 d_TS_cellAt_15 (by decide) (fun c_15 => ?_) (fun c_15 => ?_)
    · skip
      refine sW_go b_TS_cellAt_21 (st' := ([.int (-1), .int k], [some (.ref 0), some (.int k)], M)) (φ := True) rfl trivial ?_
      refine sW_ic_ne 39 d_TS_cellAt_23 (by decide) (fun c_23 => ?_) (fun c_23 => ?_)
      · skip
        have hk : ¬ k < -1 := fun q => by
          rw [Int32.lt_iff_toInt_lt] at q
          rw [Int32.le_iff_toInt_le] at c_15
          omega
        unfold sp_cellAt
        rw [if_neg c_7, cif_f hk, cif_f c_23]
        have hk0 : ¬ k < 0 := fun q => by
          rw [Int32.lt_iff_toInt_lt] at q
          rw [Int32.le_iff_toInt_le] at c_15
          exact c_23 (Int32.toInt_inj.mp (by omega))
        obtain ⟨j, hj, rfl⟩ := nI_of hk0
        rw [show tn (nI j) = j from nI_clamp hj]
        refine sW_go b_TS_cellAt_39 (st' := ([.ref 0], [some (.ref 0), some (.int (nI j))], M)) (φ := True) rfl trivial ?_
        refine sW_callV 9 [] [] d_TS_cellAt_40 c_TS_cellAt_40 ⟨rfl, rfl, rfl, Nat.le_of_ble_eq_true rfl, rfl, rfl⟩ oc_0 (k_cellsNow G h hg) ?_
        rintro _ M2 ⟨rfl, f2, g2, X, hD, hR⟩
        show sW G m_TS_cellAt 43 ([.ref 28], [some (.ref 0), some (.int (nI j))], M2) _
        refine sW_go b_TS_cellAt_43 (st' := ([.int (nI j), .ref 28], [some (.ref 0), some (.int (nI j))], M2)) (φ := True) rfl trivial ?_
        refine sW_callV 2 [.int (nI j)] [] d_TS_cellAt_44 c_TS_cellAt_44 ⟨rfl, rfl, rfl, Nat.le_of_ble_eq_true rfl, rfl, rfl⟩ oc_28 (k_inOrder G oc_28 hD hj) ?_
        rintro _ M3 ⟨⟨v, rfl, hv⟩, h3⟩
        show sW G m_TS_cellAt 47 ([.int v], [some (.ref 0), some (.int (nI j))], M3) _
        refine sW_retI d_TS_cellAt_47 rfl (vp_nar_int _) ?_
        rw [← nthV_eq hv, h3]
        exact ⟨rfl, f2, g2⟩
      · skip
        unfold sp_cellAt
        rw [if_neg c_7, cif_f (fun q => by rw [c_23] at q; exact absurd q (by decide)), cif_t c_23]
        refine sW_go b_TS_cellAt_26 (st' := ([.ref 0], [some (.ref 0), some (.int k)], M)) (φ := True) rfl trivial ?_
        refine sW_callV 9 [] [] d_TS_cellAt_27 c_TS_cellAt_27 ⟨rfl, rfl, rfl, Nat.le_of_ble_eq_true rfl, rfl, rfl⟩ oc_0 (k_cellsNow G h hg) ?_
        rintro _ M2 ⟨rfl, f2, g2, X, hD, hR⟩
        have z : M2 33 2 = nI (cntK (Kw (gH σ)) 256) := by rw [← hD.cnt]; exact hD.1.2.2.2.2.2.2.1.1
        show sW G m_TS_cellAt 30 ([.ref 28], [some (.ref 0), some (.int k)], M2) _
        refine sW_go b_TS_cellAt_30 (st' := ([.int (M2 33 2)], [some (.ref 0), some (.int k)], M2)) (φ := mx_ocl LAY 28 = 2 ∧ mx_ocl LAY 33 = 6 ∧ True) rfl ⟨oc_28, oc_33, trivial⟩ ?_
        refine sW_eq (st' := ([.int (nI (cntK (Kw (gH σ)) 256))], [some (.ref 0), some (.int k)], M2)) (by simp (disch := omega) only [z]) ?_
        refine sW_goto 47 d_TS_cellAt_36 (by decide) ?_
        refine sW_retI d_TS_cellAt_47 rfl (vp_nar_int _) ?_
        exact ⟨rfl, f2, g2⟩
    · skip
      refine sW_go b_TS_cellAt_18 (st' := ([.int (-1000001)], [some (.ref 0), some (.int k)], M)) (φ := True) rfl trivial ?_
      refine sW_retI d_TS_cellAt_20 rfl (vp_nar_int _) ?_
      have hk : k < -1 := by
        rw [Int32.lt_iff_toInt_lt]
        rw [Int32.le_iff_toInt_le] at c_15
        omega
      unfold sp_cellAt
      rw [if_neg c_7, cif_t hk]
      exact ⟨rfl, Fr.rf, h⟩
  · skip
    replace c_7 := tf_nz.mp c_7
    refine sW_go b_TS_cellAt_10 (st' := ([.int (-1000002)], [some (.ref 0), some (.int k)], M)) (φ := True) rfl trivial ?_
    refine sW_retI d_TS_cellAt_12 rfl (vp_nar_int _) ?_
    unfold sp_cellAt
    rw [if_pos c_7]
    exact ⟨rfl, Fr.rf, h⟩
noncomputable def sp_plain (σ : Sg) (t k : Int32) : Int32 × Sg := (cif (vp_in t (gH σ).1 ∧ nI 1 ≤ k ∧ k ≤ nI 4) (nI (PS (gH σ) (tn k) (fun x => bt x (tn t)))) (-1000001), σ)
theorem in14 {k : Int32} (h1 : nI 1 ≤ k) (h2 : k ≤ nI 4) : ∃ j : Nat, 1 ≤ j ∧ j ≤ 4 ∧ k = nI j := by
  rw [Int32.le_iff_toInt_le, nI_toInt (by decide)] at h1 h2
  obtain ⟨j, hj, rfl⟩ := nat_of (i := k) (by omega)
  rw [nI_toInt hj] at h1 h2
  exact ⟨j, by omega, by omega, rfl⟩
theorem ts_plain (G : mx_G) {M : mx_M} {σ : Sg} (h : CInv M σ) (hg : GOk σ) (t k : Int32) : sOk G m_TS_plain [.ref 0, .int t, .int k] M (COk M (sp_plain σ t k)) := by
  have hH := h.2.2.1
  have h8 := hg.1.1.1
  by_cases hc : vp_in t (gH σ).1 ∧ nI 1 ≤ k ∧ k ≤ nI 4
  · obtain ⟨hp, h1, h4⟩ := id hc
    obtain ⟨x, hx, rfl⟩ := vp_in_of hp (by omega)
    obtain ⟨j, j1, j4, rfl⟩ := in14 h1 h4
    unfold sp_plain
    rw [cif_t hc, show tn (nI x) = x from nI_clamp (by omega), show tn (nI j) = j from nI_clamp (by omega)]
    refine sOk_of ⟨by decide +kernel, by decide +kernel, Nat.le_of_ble_eq_true rfl⟩ ?_
    show sW G m_TS_plain 0 ([], [some (.ref 0), some (.int (nI x)), some (.int (nI j))], M) _
    refine sW_go b_TS_plain_0 (st' := ([.int (nI x), .ref 7], [some (.ref 0), some (.int (nI x)), some (.int (nI j))], M)) (φ := mx_ocl LAY 0 = 9 ∧ True) rfl ⟨oc_0, trivial⟩ ?_
    refine sW_callV 3 [.int (nI x)] [] d_TS_plain_5 c_TS_plain_5 ⟨rfl, rfl, rfl, Nat.le_of_ble_eq_true rfl, rfl, rfl⟩ oc_7 (k_House_has G oc_7 hH.1 h8 (nI x)) ?_
    rintro _ M₁ ⟨rfl, h₁⟩
    rw [h₁]
    show sW G m_TS_plain 8 ([.int (tf (vp_in (nI x) (gH σ).1))], [some (.ref 0), some (.int (nI x)), some (.int (nI j))], M) _
    refine sW_if_eq 21 d_TS_plain_8 (by decide) (fun c_8 => ?_) (fun c_8 => ?_)
    · skip
      replace c_8 := tf_z.mp c_8
      refine sW_go b_TS_plain_21 (st' := ([.int (-1000001)], [some (.ref 0), some (.int (nI x)), some (.int (nI j))], M)) (φ := True) rfl trivial ?_
      refine sW_retI d_TS_plain_23 rfl (vp_nar_int _) ?_
      exact absurd hp c_8
    · skip
      replace c_8 := tf_nz.mp c_8
      refine sW_go b_TS_plain_11 (st' := ([.int (nI 1), .int (nI j)], [some (.ref 0), some (.int (nI x)), some (.int (nI j))], M)) (φ := True) rfl trivial ?_
      refine sW_ic_lt 21 d_TS_plain_13 (by decide) (fun c_13 => ?_) (fun c_13 => ?_)
      · skip
        simp (disch := omega) only [nI_ltI] at c_13
        refine sW_go b_TS_plain_21 (st' := ([.int (-1000001)], [some (.ref 0), some (.int (nI x)), some (.int (nI j))], M)) (φ := True) rfl trivial ?_
        refine sW_retI d_TS_plain_23 rfl (vp_nar_int _) ?_
        omega
      · skip
        simp (disch := omega) only [nI_ltI] at c_13
        refine sW_go b_TS_plain_16 (st' := ([.int (nI 4), .int (nI j)], [some (.ref 0), some (.int (nI x)), some (.int (nI j))], M)) (φ := True) rfl trivial ?_
        refine sW_ic_le 24 d_TS_plain_18 (by decide) (fun c_18 => ?_) (fun c_18 => ?_)
        · skip
          simp (disch := omega) only [nI_leI] at c_18
          refine sW_go b_TS_plain_24 (st' := ([.ref 0], [some (.ref 0), some (.int (nI x)), some (.int (nI j))], M)) (φ := True) rfl trivial ?_
          refine sW_callV 9 [] [] d_TS_plain_25 c_TS_plain_25 ⟨rfl, rfl, rfl, Nat.le_of_ble_eq_true rfl, rfl, rfl⟩ oc_0 (k_plainNow G h hg) ?_
          rintro _ M2 ⟨rfl, f2, g2, hP⟩
          show sW G m_TS_plain 28 ([.ref 102], [some (.ref 0), some (.int (nI x)), some (.int (nI j))], M2) _
          refine sW_go b_TS_plain_28 (st' := ([.int (nI j), .int (nI x), .ref 102], [some (.ref 0), some (.int (nI x)), some (.int (nI j))], M2)) (φ := True) rfl trivial ?_
          refine sW_callV 4 [.int (nI x), .int (nI j)] [] d_TS_plain_30 c_TS_plain_30 ⟨rfl, rfl, rfl, Nat.le_of_ble_eq_true rfl, rfl, rfl⟩ oc_102 (k_howMany G oc_102 hP (by omega) j1 j4) ?_
          rintro _ M₁ ⟨rfl, h₁⟩
          rw [h₁]
          show sW G m_TS_plain 33 ([.int (nI (PS (gH σ) j (fun q => bt q x)))], [some (.ref 0), some (.int (nI x)), some (.int (nI j))], M2) _
          refine sW_retI d_TS_plain_33 rfl (vp_nar_int _) ?_
          exact ⟨rfl, f2, g2⟩
        · skip
          simp (disch := omega) only [nI_leI] at c_18
          refine sW_go b_TS_plain_21 (st' := ([.int (-1000001)], [some (.ref 0), some (.int (nI x)), some (.int (nI j))], M)) (φ := True) rfl trivial ?_
          refine sW_retI d_TS_plain_23 rfl (vp_nar_int _) ?_
          omega
  · have hc2 := hc
    unfold sp_plain
    rw [cif_f hc]
    refine sOk_of ⟨by decide +kernel, by decide +kernel, Nat.le_of_ble_eq_true rfl⟩ ?_
    show sW G m_TS_plain 0 ([], [some (.ref 0), some (.int t), some (.int k)], M) _
    refine sW_go b_TS_plain_0 (st' := ([.int t, .ref 7], [some (.ref 0), some (.int t), some (.int k)], M)) (φ := mx_ocl LAY 0 = 9 ∧ True) rfl ⟨oc_0, trivial⟩ ?_
    refine sW_callV 3 [.int t] [] d_TS_plain_5 c_TS_plain_5 ⟨rfl, rfl, rfl, Nat.le_of_ble_eq_true rfl, rfl, rfl⟩ oc_7 (k_House_has G oc_7 hH.1 h8 t) ?_
    rintro _ M₁ ⟨rfl, h₁⟩
    rw [h₁]
    show sW G m_TS_plain 8 ([.int (tf (vp_in t (gH σ).1))], [some (.ref 0), some (.int t), some (.int k)], M) _
    refine sW_if_eq 21 d_TS_plain_8 (by decide) (fun c_8 => ?_) (fun c_8 => ?_)
    · skip
      replace c_8 := tf_z.mp c_8
      refine sW_go b_TS_plain_21 (st' := ([.int (-1000001)], [some (.ref 0), some (.int t), some (.int k)], M)) (φ := True) rfl trivial ?_
      refine sW_retI d_TS_plain_23 rfl (vp_nar_int _) ?_
      exact ⟨rfl, Fr.rf, h⟩
    · skip
      replace c_8 := tf_nz.mp c_8
      refine sW_go b_TS_plain_11 (st' := ([.int (nI 1), .int k], [some (.ref 0), some (.int t), some (.int k)], M)) (φ := True) rfl trivial ?_
      refine sW_ic_lt 21 d_TS_plain_13 (by decide) (fun c_13 => ?_) (fun c_13 => ?_)
      · skip
        refine sW_go b_TS_plain_21 (st' := ([.int (-1000001)], [some (.ref 0), some (.int t), some (.int k)], M)) (φ := True) rfl trivial ?_
        refine sW_retI d_TS_plain_23 rfl (vp_nar_int _) ?_
        exact ⟨rfl, Fr.rf, h⟩
      · skip
        refine sW_go b_TS_plain_16 (st' := ([.int (nI 4), .int k], [some (.ref 0), some (.int t), some (.int k)], M)) (φ := True) rfl trivial ?_
        refine sW_ic_le 24 d_TS_plain_18 (by decide) (fun c_18 => ?_) (fun c_18 => ?_)
        · skip
          exact absurd ⟨c_8, (by rw [Int32.le_iff_toInt_le]; rw [Int32.lt_iff_toInt_lt] at c_13; omega), c_18⟩ hc
        · skip
          refine sW_go b_TS_plain_21 (st' := ([.int (-1000001)], [some (.ref 0), some (.int t), some (.int k)], M)) (φ := True) rfl trivial ?_
          refine sW_retI d_TS_plain_23 rfl (vp_nar_int _) ?_
          exact ⟨rfl, Fr.rf, h⟩

