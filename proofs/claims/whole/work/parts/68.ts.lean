/-! ===== TypeSets: what lies in what ===== -/
noncomputable def lowV (hs : Hs) (p q : Nat) : Int32 := Classical.epsilon (fun x => LowR hs p q x)
theorem lowV_eq {hs : Hs} {p q : Nat} {x : Int32} (h : LowR hs p q x) : x = lowV hs p q := LowR_uniq h (Classical.epsilon_spec (p := fun x => LowR hs p q x) ⟨x, h⟩)
noncomputable def nthV (K : Nat → Prop) (k : Nat) : Int32 := Classical.epsilon (fun x => NthR K k x)
theorem nthV_eq {K : Nat → Prop} {k : Nat} {x : Int32} (h : NthR K k x) : x = nthV K k := NthR_uniq h (Classical.epsilon_spec (p := fun x => NthR K k x) ⟨x, h⟩)
theorem p8 {n : Nat} (h : n ≤ 8) : 2 ^ n ≤ 256 := by
  have : 2 ^ n ≤ 2 ^ 8 := Nat.pow_le_pow_right (by decide) h
  omega
noncomputable def sp_lowest (σ : Sg) (p q : Int32) : Int32 × Sg := (if (gH σ).1 = 0 then (-1000002) else cif (vp_in p (2 ^ (gH σ).1) ∧ vp_in q (2 ^ (gH σ).1)) (lowV (gH σ) (tn p) (tn q)) (-1000001), σ)
theorem ts_lowest (G : mx_G) {M : mx_M} {σ : Sg} (h : CInv M σ) (hg : GOk σ) (p q : Int32) : sOk G m_TS_lowest [.ref 0, .int p, .int q] M (COk M (sp_lowest σ p q)) := by
  have hH := h.2.2.1
  have h8 := hg.1.1.1
  have hp8 := p8 h8
  by_cases hc : vp_in p (2 ^ (gH σ).1) ∧ vp_in q (2 ^ (gH σ).1)
  · obtain ⟨hp, hq⟩ := id hc
    obtain ⟨x, hx, rfl⟩ := vp_in_of hp (by omega)
    obtain ⟨y, hy, rfl⟩ := vp_in_of hq (by omega)
    have cx : tn (nI x) = x := nI_clamp (by omega)
    have cy : tn (nI y) = y := nI_clamp (by omega)
    refine sOk_of ⟨by decide +kernel, by decide +kernel, Nat.le_of_ble_eq_true rfl⟩ ?_
    show sW G m_TS_lowest 0 ([], [some (.ref 0), some (.int (nI x)), some (.int (nI y))], M) _
    refine sW_go b_TS_lowest_0 (st' := ([.ref 7], [some (.ref 0), some (.int (nI x)), some (.int (nI y))], M)) (φ := mx_ocl LAY 0 = 9 ∧ True) rfl ⟨oc_0, trivial⟩ ?_
    refine sW_callV 3 [] [] d_TS_lowest_4 c_TS_lowest_4 ⟨rfl, rfl, rfl, Nat.le_of_ble_eq_true rfl, rfl, rfl⟩ oc_7 (k_House_isNone G oc_7 hH.1 h8) ?_
    rintro _ M₁ ⟨rfl, h₁⟩
    rw [h₁]
    show sW G m_TS_lowest 7 ([.int (tf ((gH σ).1 = 0))], [some (.ref 0), some (.int (nI x)), some (.int (nI y))], M) _
    refine sW_if_eq 13 d_TS_lowest_7 (by decide) (fun c_7 => ?_) (fun c_7 => ?_)
    · skip
      replace c_7 := tf_z.mp c_7
      refine sW_go b_TS_lowest_13 (st' := ([.int (nI x), .ref 7], [some (.ref 0), some (.int (nI x)), some (.int (nI y))], M)) (φ := mx_ocl LAY 0 = 9 ∧ True) rfl ⟨oc_0, trivial⟩ ?_
      refine sW_callV 3 [.int (nI x)] [] d_TS_lowest_18 c_TS_lowest_18 ⟨rfl, rfl, rfl, Nat.le_of_ble_eq_true rfl, rfl, rfl⟩ oc_7 (k_House_isSet G oc_7 hH.1 h8 (nI x)) ?_
      rintro _ M₁ ⟨rfl, h₁⟩
      rw [h₁]
      show sW G m_TS_lowest 21 ([.int (tf (vp_in (nI x) (2 ^ (gH σ).1)))], [some (.ref 0), some (.int (nI x)), some (.int (nI y))], M) _
      refine sW_if_eq 35 d_TS_lowest_21 (by decide) (fun c_21 => ?_) (fun c_21 => ?_)
      · skip
        replace c_21 := tf_z.mp c_21
        refine sW_go b_TS_lowest_35 (st' := ([.int (-1000001)], [some (.ref 0), some (.int (nI x)), some (.int (nI y))], M)) (φ := True) rfl trivial ?_
        refine sW_retI d_TS_lowest_37 rfl (vp_nar_int _) ?_
        exact absurd hp c_21
      · skip
        replace c_21 := tf_nz.mp c_21
        refine sW_go b_TS_lowest_24 (st' := ([.int (nI y), .ref 7], [some (.ref 0), some (.int (nI x)), some (.int (nI y))], M)) (φ := mx_ocl LAY 0 = 9 ∧ True) rfl ⟨oc_0, trivial⟩ ?_
        refine sW_callV 3 [.int (nI y)] [] d_TS_lowest_29 c_TS_lowest_29 ⟨rfl, rfl, rfl, Nat.le_of_ble_eq_true rfl, rfl, rfl⟩ oc_7 (k_House_isSet G oc_7 hH.1 h8 (nI y)) ?_
        rintro _ M₁ ⟨rfl, h₁⟩
        rw [h₁]
        show sW G m_TS_lowest 32 ([.int (tf (vp_in (nI y) (2 ^ (gH σ).1)))], [some (.ref 0), some (.int (nI x)), some (.int (nI y))], M) _
        refine sW_if_ne 38 d_TS_lowest_32 (by decide) (fun c_32 => ?_) (fun c_32 => ?_)
        · skip
          replace c_32 := tf_nz.mp c_32
          refine sW_go b_TS_lowest_38 (st' := ([.ref 0], [some (.ref 0), some (.int (nI x)), some (.int (nI y))], M)) (φ := True) rfl trivial ?_
          refine sW_callV 9 [] [] d_TS_lowest_39 c_TS_lowest_39 ⟨rfl, rfl, rfl, Nat.le_of_ble_eq_true rfl, rfl, rfl⟩ oc_0 (k_cellsNow G h hg) ?_
          rintro _ M2 ⟨rfl, f2, g2, X, hD, hR⟩
          show sW G m_TS_lowest 42 ([.ref 28], [some (.ref 0), some (.int (nI x)), some (.int (nI y))], M2) _
          refine sW_go b_TS_lowest_42 (st' := ([.int (nI y), .int (nI x), .ref 28], [some (.ref 0), some (.int (nI x)), some (.int (nI y))], M2)) (φ := True) rfl trivial ?_
          refine sW_callV 2 [.int (nI x), .int (nI y)] [] d_TS_lowest_44 c_TS_lowest_44 ⟨rfl, rfl, rfl, Nat.le_of_ble_eq_true rfl, rfl, rfl⟩ oc_28 (k_leastHeight G oc_28 hD (by omega) (by omega)) ?_
          rintro _ M3 ⟨⟨v, rfl, hv⟩, h3⟩
          show sW G m_TS_lowest 47 ([.int v], [some (.ref 0), some (.int (nI x)), some (.int (nI y))], M3) _
          refine sW_retI d_TS_lowest_47 rfl (vp_nar_int _) ?_
          unfold sp_lowest
          rw [if_neg c_7, cif_t hc, cx, cy, ← lowV_eq hv, h3]
          exact ⟨rfl, f2, g2⟩
        · skip
          replace c_32 := tf_z.mp c_32
          refine sW_go b_TS_lowest_35 (st' := ([.int (-1000001)], [some (.ref 0), some (.int (nI x)), some (.int (nI y))], M)) (φ := True) rfl trivial ?_
          refine sW_retI d_TS_lowest_37 rfl (vp_nar_int _) ?_
          exact absurd hq c_32
    · skip
      replace c_7 := tf_nz.mp c_7
      refine sW_go b_TS_lowest_10 (st' := ([.int (-1000002)], [some (.ref 0), some (.int (nI x)), some (.int (nI y))], M)) (φ := True) rfl trivial ?_
      refine sW_retI d_TS_lowest_12 rfl (vp_nar_int _) ?_
      unfold sp_lowest
      rw [if_pos c_7]
      exact ⟨rfl, Fr.rf, h⟩
  · have hc2 := hc
    refine sOk_of ⟨by decide +kernel, by decide +kernel, Nat.le_of_ble_eq_true rfl⟩ ?_
    show sW G m_TS_lowest 0 ([], [some (.ref 0), some (.int p), some (.int q)], M) _
    refine sW_go b_TS_lowest_0 (st' := ([.ref 7], [some (.ref 0), some (.int p), some (.int q)], M)) (φ := mx_ocl LAY 0 = 9 ∧ True) rfl ⟨oc_0, trivial⟩ ?_
    refine sW_callV 3 [] [] d_TS_lowest_4 c_TS_lowest_4 ⟨rfl, rfl, rfl, Nat.le_of_ble_eq_true rfl, rfl, rfl⟩ oc_7 (k_House_isNone G oc_7 hH.1 h8) ?_
    rintro _ M₁ ⟨rfl, h₁⟩
    rw [h₁]
    show sW G m_TS_lowest 7 ([.int (tf ((gH σ).1 = 0))], [some (.ref 0), some (.int p), some (.int q)], M) _
    refine sW_if_eq 13 d_TS_lowest_7 (by decide) (fun c_7 => ?_) (fun c_7 => ?_)
    · skip
      replace c_7 := tf_z.mp c_7
      refine sW_go b_TS_lowest_13 (st' := ([.int p, .ref 7], [some (.ref 0), some (.int p), some (.int q)], M)) (φ := mx_ocl LAY 0 = 9 ∧ True) rfl ⟨oc_0, trivial⟩ ?_
      refine sW_callV 3 [.int p] [] d_TS_lowest_18 c_TS_lowest_18 ⟨rfl, rfl, rfl, Nat.le_of_ble_eq_true rfl, rfl, rfl⟩ oc_7 (k_House_isSet G oc_7 hH.1 h8 p) ?_
      rintro _ M₁ ⟨rfl, h₁⟩
      rw [h₁]
      show sW G m_TS_lowest 21 ([.int (tf (vp_in p (2 ^ (gH σ).1)))], [some (.ref 0), some (.int p), some (.int q)], M) _
      refine sW_if_eq 35 d_TS_lowest_21 (by decide) (fun c_21 => ?_) (fun c_21 => ?_)
      · skip
        replace c_21 := tf_z.mp c_21
        refine sW_go b_TS_lowest_35 (st' := ([.int (-1000001)], [some (.ref 0), some (.int p), some (.int q)], M)) (φ := True) rfl trivial ?_
        refine sW_retI d_TS_lowest_37 rfl (vp_nar_int _) ?_
        unfold sp_lowest
        rw [if_neg c_7, cif_f hc]
        exact ⟨rfl, Fr.rf, h⟩
      · skip
        replace c_21 := tf_nz.mp c_21
        refine sW_go b_TS_lowest_24 (st' := ([.int q, .ref 7], [some (.ref 0), some (.int p), some (.int q)], M)) (φ := mx_ocl LAY 0 = 9 ∧ True) rfl ⟨oc_0, trivial⟩ ?_
        refine sW_callV 3 [.int q] [] d_TS_lowest_29 c_TS_lowest_29 ⟨rfl, rfl, rfl, Nat.le_of_ble_eq_true rfl, rfl, rfl⟩ oc_7 (k_House_isSet G oc_7 hH.1 h8 q) ?_
        rintro _ M₁ ⟨rfl, h₁⟩
        rw [h₁]
        show sW G m_TS_lowest 32 ([.int (tf (vp_in q (2 ^ (gH σ).1)))], [some (.ref 0), some (.int p), some (.int q)], M) _
        refine sW_if_ne 38 d_TS_lowest_32 (by decide) (fun c_32 => ?_) (fun c_32 => ?_)
        · skip
          replace c_32 := tf_nz.mp c_32
          exact absurd ⟨c_21, c_32⟩ hc
        · skip
          replace c_32 := tf_z.mp c_32
          refine sW_go b_TS_lowest_35 (st' := ([.int (-1000001)], [some (.ref 0), some (.int p), some (.int q)], M)) (φ := True) rfl trivial ?_
          refine sW_retI d_TS_lowest_37 rfl (vp_nar_int _) ?_
          unfold sp_lowest
          rw [if_neg c_7, cif_f hc]
          exact ⟨rfl, Fr.rf, h⟩
    · skip
      replace c_7 := tf_nz.mp c_7
      refine sW_go b_TS_lowest_10 (st' := ([.int (-1000002)], [some (.ref 0), some (.int p), some (.int q)], M)) (φ := True) rfl trivial ?_
      refine sW_retI d_TS_lowest_12 rfl (vp_nar_int _) ?_
      unfold sp_lowest
      rw [if_pos c_7]
      exact ⟨rfl, Fr.rf, h⟩
noncomputable def sp_lies (σ : Sg) (a b : Int32) : Int32 × Sg := (cif (vp_in a (gH σ).1 ∧ vp_in b (gH σ).1) (tf (LiesIn (gH σ) (tn a) (tn b))) (-1000001), σ)
theorem bt_tf {x k : Nat} {P : Prop} (h : bt x k = 1 ↔ P) : nI (bt x k) = tf P := by
  have := bt_le x k
  by_cases hp : P
  · rw [tf_t hp, h.mpr hp]
  · rw [tf_f hp, show bt x k = 0 by have : ¬ bt x k = 1 := fun q => hp (h.mp q); omega]
theorem ts_lies (G : mx_G) {M : mx_M} {σ : Sg} (h : CInv M σ) (hg : GOk σ) (a b : Int32) : sOk G m_TS_lies [.ref 0, .int a, .int b] M (COk M (sp_lies σ a b)) := by
  have hH := h.2.2.1
  have h8 := hg.1.1.1
  by_cases hc : vp_in a (gH σ).1 ∧ vp_in b (gH σ).1
  · obtain ⟨hp, hq⟩ := id hc
    obtain ⟨x, hx, rfl⟩ := vp_in_of hp (by omega)
    obtain ⟨y, hy, rfl⟩ := vp_in_of hq (by omega)
    have cx : tn (nI x) = x := nI_clamp (by omega)
    have cy : tn (nI y) = y := nI_clamp (by omega)
    refine sOk_of ⟨by decide +kernel, by decide +kernel, Nat.le_of_ble_eq_true rfl⟩ ?_
    show sW G m_TS_lies 0 ([], [some (.ref 0), some (.int (nI x)), some (.int (nI y))], M) _
    refine sW_go b_TS_lies_0 (st' := ([.int (nI x), .ref 7], [some (.ref 0), some (.int (nI x)), some (.int (nI y))], M)) (φ := mx_ocl LAY 0 = 9 ∧ True) rfl ⟨oc_0, trivial⟩ ?_
    refine sW_callV 3 [.int (nI x)] [] d_TS_lies_5 c_TS_lies_5 ⟨rfl, rfl, rfl, Nat.le_of_ble_eq_true rfl, rfl, rfl⟩ oc_7 (k_House_has G oc_7 hH.1 h8 (nI x)) ?_
    rintro _ M₁ ⟨rfl, h₁⟩
    rw [h₁]
    show sW G m_TS_lies 8 ([.int (tf (vp_in (nI x) (gH σ).1))], [some (.ref 0), some (.int (nI x)), some (.int (nI y))], M) _
    refine sW_if_eq 22 d_TS_lies_8 (by decide) (fun c_8 => ?_) (fun c_8 => ?_)
    · skip
      replace c_8 := tf_z.mp c_8
      refine sW_go b_TS_lies_22 (st' := ([.int (-1000001)], [some (.ref 0), some (.int (nI x)), some (.int (nI y))], M)) (φ := True) rfl trivial ?_
      refine sW_retI d_TS_lies_24 rfl (vp_nar_int _) ?_
      exact absurd hp c_8
    · skip
      replace c_8 := tf_nz.mp c_8
      refine sW_go b_TS_lies_11 (st' := ([.int (nI y), .ref 7], [some (.ref 0), some (.int (nI x)), some (.int (nI y))], M)) (φ := mx_ocl LAY 0 = 9 ∧ True) rfl ⟨oc_0, trivial⟩ ?_
      refine sW_callV 3 [.int (nI y)] [] d_TS_lies_16 c_TS_lies_16 ⟨rfl, rfl, rfl, Nat.le_of_ble_eq_true rfl, rfl, rfl⟩ oc_7 (k_House_has G oc_7 hH.1 h8 (nI y)) ?_
      rintro _ M₁ ⟨rfl, h₁⟩
      rw [h₁]
      show sW G m_TS_lies 19 ([.int (tf (vp_in (nI y) (gH σ).1))], [some (.ref 0), some (.int (nI x)), some (.int (nI y))], M) _
      refine sW_if_ne 25 d_TS_lies_19 (by decide) (fun c_19 => ?_) (fun c_19 => ?_)
      · skip
        replace c_19 := tf_nz.mp c_19
        refine sW_go b_TS_lies_25 (st' := ([.ref 0], [some (.ref 0), some (.int (nI x)), some (.int (nI y))], M)) (φ := True) rfl trivial ?_
        refine sW_callV 9 [] [] d_TS_lies_26 c_TS_lies_26 ⟨rfl, rfl, rfl, Nat.le_of_ble_eq_true rfl, rfl, rfl⟩ oc_0 (k_cellsNow G h hg) ?_
        rintro _ M2 ⟨rfl, f2, g2, X, hD, hR⟩
        have z1 : M2 63 x = nI (supP (cF X) (gH σ).1 x (cF X).length) := (hR x hx).1
        have z2 := supP_lt (cF X) h8 x (cF X).length
        have z3 : (nI (supP (cF X) (gH σ).1 x (cF X).length) >>> (nI y &&& 31)) &&& nI 1 = nI (bt (supP (cF X) (gH σ).1 x (cF X).length) y) := sh_b (by omega) (by omega)
        show sW G m_TS_lies 29 ([.ref 28], [some (.ref 0), some (.int (nI x)), some (.int (nI y))], M2) _
        refine sW_go b_TS_lies_29 (st' := ([.int ((M2 63 (nI x).toNatClampNeg >>> (nI y &&& 31)) &&& nI 1)], [some (.ref 0), some (.int (nI x)), some (.int (nI y))], M2)) (φ := mx_ocl LAY 28 = 2 ∧ vp_in (nI x) (mx_len LAY false 63) ∧ True) rfl ⟨oc_28, (by simp (disch := omega) only [ln_63]; exact vp_in_nI (by omega) (by decide)), trivial⟩ ?_
        refine sW_eq (st' := ([.int (nI (bt (supP (cF X) (gH σ).1 x (cF X).length) y))], [some (.ref 0), some (.int (nI x)), some (.int (nI y))], M2)) (by simp (disch := omega) only [nI_clamp, z1, z3]) ?_
        refine sW_retI d_TS_lies_38 rfl (vp_nar_int _) ?_
        have e := bt_tf (P := LiesIn (gH σ) x y) ((supP_lies hD x y).trans ⟨fun w => w.2, fun w => ⟨hy, w⟩⟩)
        unfold sp_lies
        rw [cif_t hc, cx, cy, e]
        exact ⟨rfl, f2, g2⟩
      · skip
        replace c_19 := tf_z.mp c_19
        refine sW_go b_TS_lies_22 (st' := ([.int (-1000001)], [some (.ref 0), some (.int (nI x)), some (.int (nI y))], M)) (φ := True) rfl trivial ?_
        refine sW_retI d_TS_lies_24 rfl (vp_nar_int _) ?_
        exact absurd hq c_19
  · have hc2 := hc
    unfold sp_lies
    rw [cif_f hc]
    refine sOk_of ⟨by decide +kernel, by decide +kernel, Nat.le_of_ble_eq_true rfl⟩ ?_
    show sW G m_TS_lies 0 ([], [some (.ref 0), some (.int a), some (.int b)], M) _
    refine sW_go b_TS_lies_0 (st' := ([.int a, .ref 7], [some (.ref 0), some (.int a), some (.int b)], M)) (φ := mx_ocl LAY 0 = 9 ∧ True) rfl ⟨oc_0, trivial⟩ ?_
    refine sW_callV 3 [.int a] [] d_TS_lies_5 c_TS_lies_5 ⟨rfl, rfl, rfl, Nat.le_of_ble_eq_true rfl, rfl, rfl⟩ oc_7 (k_House_has G oc_7 hH.1 h8 a) ?_
    rintro _ M₁ ⟨rfl, h₁⟩
    rw [h₁]
    show sW G m_TS_lies 8 ([.int (tf (vp_in a (gH σ).1))], [some (.ref 0), some (.int a), some (.int b)], M) _
    refine sW_if_eq 22 d_TS_lies_8 (by decide) (fun c_8 => ?_) (fun c_8 => ?_)
    · skip
      replace c_8 := tf_z.mp c_8
      refine sW_go b_TS_lies_22 (st' := ([.int (-1000001)], [some (.ref 0), some (.int a), some (.int b)], M)) (φ := True) rfl trivial ?_
      refine sW_retI d_TS_lies_24 rfl (vp_nar_int _) ?_
      exact ⟨rfl, Fr.rf, h⟩
    · skip
      replace c_8 := tf_nz.mp c_8
      refine sW_go b_TS_lies_11 (st' := ([.int b, .ref 7], [some (.ref 0), some (.int a), some (.int b)], M)) (φ := mx_ocl LAY 0 = 9 ∧ True) rfl ⟨oc_0, trivial⟩ ?_
      refine sW_callV 3 [.int b] [] d_TS_lies_16 c_TS_lies_16 ⟨rfl, rfl, rfl, Nat.le_of_ble_eq_true rfl, rfl, rfl⟩ oc_7 (k_House_has G oc_7 hH.1 h8 b) ?_
      rintro _ M₁ ⟨rfl, h₁⟩
      rw [h₁]
      show sW G m_TS_lies 19 ([.int (tf (vp_in b (gH σ).1))], [some (.ref 0), some (.int a), some (.int b)], M) _
      refine sW_if_ne 25 d_TS_lies_19 (by decide) (fun c_19 => ?_) (fun c_19 => ?_)
      · skip
        replace c_19 := tf_nz.mp c_19
        exact absurd ⟨c_8, c_19⟩ hc
      · skip
        replace c_19 := tf_z.mp c_19
        refine sW_go b_TS_lies_22 (st' := ([.int (-1000001)], [some (.ref 0), some (.int a), some (.int b)], M)) (φ := True) rfl trivial ?_
        refine sW_retI d_TS_lies_24 rfl (vp_nar_int _) ?_
        exact ⟨rfl, Fr.rf, h⟩
noncomputable def empM (hs : Hs) : Nat := mk8 (fun k => k < hs.1 ∧ ¬ HasV hs k)
noncomputable def sp_empties (σ : Sg) : Int32 × Sg := (if (gH σ).1 = 0 then (-1000002) else nI (empM (gH σ)), σ)
theorem ts_empties (G : mx_G) {M : mx_M} {σ : Sg} (h : CInv M σ) (hg : GOk σ) : sOk G m_TS_empties [.ref 0] M (COk M (sp_empties σ)) := by
  have hH := h.2.2.1
  have h8 := hg.1.1.1
  refine sOk_of ⟨by decide +kernel, by decide +kernel, Nat.le_of_ble_eq_true rfl⟩ ?_
  show sW G m_TS_empties 0 ([], [some (.ref 0)], M) _
  refine sW_go b_TS_empties_0 (st' := ([.ref 7], [some (.ref 0)], M)) (φ := mx_ocl LAY 0 = 9 ∧ True) rfl ⟨oc_0, trivial⟩ ?_
  refine sW_callV 3 [] [] d_TS_empties_4 c_TS_empties_4 ⟨rfl, rfl, rfl, Nat.le_of_ble_eq_true rfl, rfl, rfl⟩ oc_7 (k_House_isNone G oc_7 hH.1 h8) ?_
  rintro _ M₁ ⟨rfl, h₁⟩
  rw [h₁]
  show sW G m_TS_empties 7 ([.int (tf ((gH σ).1 = 0))], [some (.ref 0)], M) _
  refine sW_if_eq 15 d_TS_empties_7 (by decide) (fun c_7 => ?_) (fun c_7 => ?_)
  · skip
    replace c_7 := tf_z.mp c_7
    refine sW_go b_TS_empties_15 (st' := ([.ref 0], [some (.ref 0)], M)) (φ := True) rfl trivial ?_
    refine sW_callV 9 [] [] d_TS_empties_16 c_TS_empties_16 ⟨rfl, rfl, rfl, Nat.le_of_ble_eq_true rfl, rfl, rfl⟩ oc_0 (k_cellsNow G h hg) ?_
    rintro _ M2 ⟨rfl, f2, g2, X, hD, hR⟩
    show sW G m_TS_empties 19 ([.ref 28], [some (.ref 0)], M2) _
    refine sW_callV 2 [] [] d_TS_empties_19 c_TS_empties_19 ⟨rfl, rfl, rfl, Nat.le_of_ble_eq_true rfl, rfl, rfl⟩ oc_28 (k_withoutValue G oc_28 hg.1.1 hD) ?_
    rintro _ M₁ ⟨rfl, h₁⟩
    rw [h₁]
    show sW G m_TS_empties 22 ([.int (nI (empM (gH σ)))], [some (.ref 0)], M2) _
    refine sW_retI d_TS_empties_22 rfl (vp_nar_int _) ?_
    unfold sp_empties
    rw [if_neg c_7]
    exact ⟨rfl, f2, g2⟩
  · skip
    replace c_7 := tf_nz.mp c_7
    refine sW_go b_TS_empties_10 (st' := ([.int (-1000002)], [some (.ref 0)], M)) (φ := True) rfl trivial ?_
    refine sW_goto 22 d_TS_empties_12 (by decide) ?_
    refine sW_retI d_TS_empties_22 rfl (vp_nar_int _) ?_
    unfold sp_empties
    rw [if_pos c_7]
    exact ⟨rfl, Fr.rf, h⟩
noncomputable def sp_answers (σ : Sg) (a b : Int32) : Int32 × Sg := (cif (vp_in a (gH σ).1 ∧ vp_in b (gH σ).1) (nI (answM (gH σ) (tn a) (tn b))) (-1000001), σ)
theorem ts_answers (G : mx_G) {M : mx_M} {σ : Sg} (h : CInv M σ) (hg : GOk σ) (a b : Int32) : sOk G m_TS_answers [.ref 0, .int a, .int b] M (COk M (sp_answers σ a b)) := by
  have hH := h.2.2.1
  have h8 := hg.1.1.1
  by_cases hc : vp_in a (gH σ).1 ∧ vp_in b (gH σ).1
  · obtain ⟨hp, hq⟩ := id hc
    obtain ⟨x, hx, rfl⟩ := vp_in_of hp (by omega)
    obtain ⟨y, hy, rfl⟩ := vp_in_of hq (by omega)
    have cx : tn (nI x) = x := nI_clamp (by omega)
    have cy : tn (nI y) = y := nI_clamp (by omega)
    refine sOk_of ⟨by decide +kernel, by decide +kernel, Nat.le_of_ble_eq_true rfl⟩ ?_
    show sW G m_TS_answers 0 ([], [some (.ref 0), some (.int (nI x)), some (.int (nI y))], M) _
    refine sW_go b_TS_answers_0 (st' := ([.int (nI x), .ref 7], [some (.ref 0), some (.int (nI x)), some (.int (nI y))], M)) (φ := mx_ocl LAY 0 = 9 ∧ True) rfl ⟨oc_0, trivial⟩ ?_
    refine sW_callV 3 [.int (nI x)] [] d_TS_answers_5 c_TS_answers_5 ⟨rfl, rfl, rfl, Nat.le_of_ble_eq_true rfl, rfl, rfl⟩ oc_7 (k_House_has G oc_7 hH.1 h8 (nI x)) ?_
    rintro _ M₁ ⟨rfl, h₁⟩
    rw [h₁]
    show sW G m_TS_answers 8 ([.int (tf (vp_in (nI x) (gH σ).1))], [some (.ref 0), some (.int (nI x)), some (.int (nI y))], M) _
    refine sW_if_eq 34 d_TS_answers_8 (by decide) (fun c_8 => ?_) (fun c_8 => ?_)
    · skip
      replace c_8 := tf_z.mp c_8
      refine sW_go b_TS_answers_34 (st' := ([.int (-1000001)], [some (.ref 0), some (.int (nI x)), some (.int (nI y))], M)) (φ := True) rfl trivial ?_
      refine sW_retI d_TS_answers_36 rfl (vp_nar_int _) ?_
      exact absurd hp c_8
    · skip
      replace c_8 := tf_nz.mp c_8
      refine sW_go b_TS_answers_11 (st' := ([.int (nI y), .ref 7], [some (.ref 0), some (.int (nI x)), some (.int (nI y))], M)) (φ := mx_ocl LAY 0 = 9 ∧ True) rfl ⟨oc_0, trivial⟩ ?_
      refine sW_callV 3 [.int (nI y)] [] d_TS_answers_16 c_TS_answers_16 ⟨rfl, rfl, rfl, Nat.le_of_ble_eq_true rfl, rfl, rfl⟩ oc_7 (k_House_has G oc_7 hH.1 h8 (nI y)) ?_
      rintro _ M₁ ⟨rfl, h₁⟩
      rw [h₁]
      show sW G m_TS_answers 19 ([.int (tf (vp_in (nI y) (gH σ).1))], [some (.ref 0), some (.int (nI x)), some (.int (nI y))], M) _
      refine sW_if_eq 34 d_TS_answers_19 (by decide) (fun c_19 => ?_) (fun c_19 => ?_)
      · skip
        replace c_19 := tf_z.mp c_19
        refine sW_go b_TS_answers_34 (st' := ([.int (-1000001)], [some (.ref 0), some (.int (nI x)), some (.int (nI y))], M)) (φ := True) rfl trivial ?_
        refine sW_retI d_TS_answers_36 rfl (vp_nar_int _) ?_
        exact absurd hq c_19
      · skip
        replace c_19 := tf_nz.mp c_19
        refine sW_go b_TS_answers_22 (st' := ([.ref 0], [some (.ref 0), some (.int (nI x)), some (.int (nI y))], M)) (φ := True) rfl trivial ?_
        refine sW_callV 9 [] [] d_TS_answers_23 c_TS_answers_23 ⟨rfl, rfl, rfl, Nat.le_of_ble_eq_true rfl, rfl, rfl⟩ oc_0 (k_cellsNow G h hg) ?_
        rintro _ M2 ⟨rfl, f2, g2, X, hD, hR⟩
        show sW G m_TS_answers 26 ([.ref 28], [some (.ref 0), some (.int (nI x)), some (.int (nI y))], M2) _
        refine sW_go b_TS_answers_26 (st' := ([.int (nI y), .int (nI x), .ref 28], [some (.ref 0), some (.int (nI x)), some (.int (nI y))], M2)) (φ := True) rfl trivial ?_
        refine sW_callV 2 [.int (nI x), .int (nI y)] [] d_TS_answers_28 c_TS_answers_28 ⟨rfl, rfl, rfl, Nat.le_of_ble_eq_true rfl, rfl, rfl⟩ oc_28 (k_holdingAnswers G oc_28 hg.1.1 hD hx hy) ?_
        rintro _ M3 ⟨rfl, f3⟩
        show sW G m_TS_answers 31 ([.int (nI (answM (gH σ) x y))], [some (.ref 0), some (.int (nI x)), some (.int (nI y))], M3) _
        refine sW_goto 36 d_TS_answers_31 (by decide) ?_
        refine sW_retI d_TS_answers_36 rfl (vp_nar_int _) ?_
        unfold sp_answers
        rw [cif_t hc, cx, cy]
        exact ⟨rfl, f2.tr (f3.mono (by decide) (by decide)), g2.opn f3⟩
  · have hc2 := hc
    unfold sp_answers
    rw [cif_f hc]
    refine sOk_of ⟨by decide +kernel, by decide +kernel, Nat.le_of_ble_eq_true rfl⟩ ?_
    show sW G m_TS_answers 0 ([], [some (.ref 0), some (.int a), some (.int b)], M) _
    refine sW_go b_TS_answers_0 (st' := ([.int a, .ref 7], [some (.ref 0), some (.int a), some (.int b)], M)) (φ := mx_ocl LAY 0 = 9 ∧ True) rfl ⟨oc_0, trivial⟩ ?_
    refine sW_callV 3 [.int a] [] d_TS_answers_5 c_TS_answers_5 ⟨rfl, rfl, rfl, Nat.le_of_ble_eq_true rfl, rfl, rfl⟩ oc_7 (k_House_has G oc_7 hH.1 h8 a) ?_
    rintro _ M₁ ⟨rfl, h₁⟩
    rw [h₁]
    show sW G m_TS_answers 8 ([.int (tf (vp_in a (gH σ).1))], [some (.ref 0), some (.int a), some (.int b)], M) _
    refine sW_if_eq 34 d_TS_answers_8 (by decide) (fun c_8 => ?_) (fun c_8 => ?_)
    · skip
      replace c_8 := tf_z.mp c_8
      refine sW_go b_TS_answers_34 (st' := ([.int (-1000001)], [some (.ref 0), some (.int a), some (.int b)], M)) (φ := True) rfl trivial ?_
      refine sW_retI d_TS_answers_36 rfl (vp_nar_int _) ?_
      exact ⟨rfl, Fr.rf, h⟩
    · skip
      replace c_8 := tf_nz.mp c_8
      refine sW_go b_TS_answers_11 (st' := ([.int b, .ref 7], [some (.ref 0), some (.int a), some (.int b)], M)) (φ := mx_ocl LAY 0 = 9 ∧ True) rfl ⟨oc_0, trivial⟩ ?_
      refine sW_callV 3 [.int b] [] d_TS_answers_16 c_TS_answers_16 ⟨rfl, rfl, rfl, Nat.le_of_ble_eq_true rfl, rfl, rfl⟩ oc_7 (k_House_has G oc_7 hH.1 h8 b) ?_
      rintro _ M₁ ⟨rfl, h₁⟩
      rw [h₁]
      show sW G m_TS_answers 19 ([.int (tf (vp_in b (gH σ).1))], [some (.ref 0), some (.int a), some (.int b)], M) _
      refine sW_if_eq 34 d_TS_answers_19 (by decide) (fun c_19 => ?_) (fun c_19 => ?_)
      · skip
        replace c_19 := tf_z.mp c_19
        refine sW_go b_TS_answers_34 (st' := ([.int (-1000001)], [some (.ref 0), some (.int a), some (.int b)], M)) (φ := True) rfl trivial ?_
        refine sW_retI d_TS_answers_36 rfl (vp_nar_int _) ?_
        exact ⟨rfl, Fr.rf, h⟩
      · skip
        replace c_19 := tf_nz.mp c_19
        exact absurd ⟨c_8, c_19⟩ hc
noncomputable def sp_askable (σ : Sg) (a : Int32) : Int32 × Sg := (cif (vp_in a (gH σ).1) (nI (askM (gH σ) (tn a))) (-1000001), σ)
theorem ts_askable (G : mx_G) {M : mx_M} {σ : Sg} (h : CInv M σ) (hg : GOk σ) (a : Int32) : sOk G m_TS_askable [.ref 0, .int a] M (COk M (sp_askable σ a)) := by
  have hH := h.2.2.1
  have h8 := hg.1.1.1
  by_cases hp : vp_in a (gH σ).1
  · obtain ⟨x, hx, rfl⟩ := vp_in_of hp (by omega)
    have cx : tn (nI x) = x := nI_clamp (by omega)
    refine sOk_of ⟨by decide +kernel, by decide +kernel, Nat.le_of_ble_eq_true rfl⟩ ?_
    show sW G m_TS_askable 0 ([], [some (.ref 0), some (.int (nI x))], M) _
    refine sW_go b_TS_askable_0 (st' := ([.int (nI x), .ref 7], [some (.ref 0), some (.int (nI x))], M)) (φ := mx_ocl LAY 0 = 9 ∧ True) rfl ⟨oc_0, trivial⟩ ?_
    refine sW_callV 3 [.int (nI x)] [] d_TS_askable_5 c_TS_askable_5 ⟨rfl, rfl, rfl, Nat.le_of_ble_eq_true rfl, rfl, rfl⟩ oc_7 (k_House_has G oc_7 hH.1 h8 (nI x)) ?_
    rintro _ M₁ ⟨rfl, h₁⟩
    rw [h₁]
    show sW G m_TS_askable 8 ([.int (tf (vp_in (nI x) (gH σ).1))], [some (.ref 0), some (.int (nI x))], M) _
    refine sW_if_eq 22 d_TS_askable_8 (by decide) (fun c_8 => ?_) (fun c_8 => ?_)
    · skip
      replace c_8 := tf_z.mp c_8
      refine sW_go b_TS_askable_22 (st' := ([.int (-1000001)], [some (.ref 0), some (.int (nI x))], M)) (φ := True) rfl trivial ?_
      refine sW_retI d_TS_askable_24 rfl (vp_nar_int _) ?_
      exact absurd hp c_8
    · skip
      replace c_8 := tf_nz.mp c_8
      refine sW_go b_TS_askable_11 (st' := ([.ref 0], [some (.ref 0), some (.int (nI x))], M)) (φ := True) rfl trivial ?_
      refine sW_callV 9 [] [] d_TS_askable_12 c_TS_askable_12 ⟨rfl, rfl, rfl, Nat.le_of_ble_eq_true rfl, rfl, rfl⟩ oc_0 (k_cellsNow G h hg) ?_
      rintro _ M2 ⟨rfl, f2, g2, X, hD, hR⟩
      show sW G m_TS_askable 15 ([.ref 28], [some (.ref 0), some (.int (nI x))], M2) _
      refine sW_go b_TS_askable_15 (st' := ([.int (nI x), .ref 28], [some (.ref 0), some (.int (nI x))], M2)) (φ := True) rfl trivial ?_
      refine sW_callV 2 [.int (nI x)] [] d_TS_askable_16 c_TS_askable_16 ⟨rfl, rfl, rfl, Nat.le_of_ble_eq_true rfl, rfl, rfl⟩ oc_28 (k_alwaysAnswered G oc_28 hg.1.1 hD hx) ?_
      rintro _ M3 ⟨rfl, f3⟩
      show sW G m_TS_askable 19 ([.int (nI (askM (gH σ) x))], [some (.ref 0), some (.int (nI x))], M3) _
      refine sW_goto 24 d_TS_askable_19 (by decide) ?_
      refine sW_retI d_TS_askable_24 rfl (vp_nar_int _) ?_
      unfold sp_askable
      rw [cif_t hp, cx]
      exact ⟨rfl, f2.tr (f3.mono (by decide) (by decide)), g2.opn f3⟩
  · have hc2 := hp
    unfold sp_askable
    rw [cif_f hp]
    refine sOk_of ⟨by decide +kernel, by decide +kernel, Nat.le_of_ble_eq_true rfl⟩ ?_
    show sW G m_TS_askable 0 ([], [some (.ref 0), some (.int a)], M) _
    refine sW_go b_TS_askable_0 (st' := ([.int a, .ref 7], [some (.ref 0), some (.int a)], M)) (φ := mx_ocl LAY 0 = 9 ∧ True) rfl ⟨oc_0, trivial⟩ ?_
    refine sW_callV 3 [.int a] [] d_TS_askable_5 c_TS_askable_5 ⟨rfl, rfl, rfl, Nat.le_of_ble_eq_true rfl, rfl, rfl⟩ oc_7 (k_House_has G oc_7 hH.1 h8 a) ?_
    rintro _ M₁ ⟨rfl, h₁⟩
    rw [h₁]
    show sW G m_TS_askable 8 ([.int (tf (vp_in a (gH σ).1))], [some (.ref 0), some (.int a)], M) _
    refine sW_if_eq 22 d_TS_askable_8 (by decide) (fun c_8 => ?_) (fun c_8 => ?_)
    · skip
      replace c_8 := tf_z.mp c_8
      refine sW_go b_TS_askable_22 (st' := ([.int (-1000001)], [some (.ref 0), some (.int a)], M)) (φ := True) rfl trivial ?_
      refine sW_retI d_TS_askable_24 rfl (vp_nar_int _) ?_
      exact ⟨rfl, Fr.rf, h⟩
    · skip
      replace c_8 := tf_nz.mp c_8
      exact absurd c_8 hp
noncomputable def sp_ends (σ : Sg) (a b : Int32) : Int32 × Sg := (cif (vp_in a (gH σ).1 ∧ vp_in b 2) (nI (endM (gH σ) (tn a) (tn b))) (-1000001), σ)
theorem ts_ends (G : mx_G) {M : mx_M} {σ : Sg} (h : CInv M σ) (hg : GOk σ) (a b : Int32) : sOk G m_TS_ends [.ref 0, .int a, .int b] M (COk M (sp_ends σ a b)) := by
  have hH := h.2.2.1
  have h8 := hg.1.1.1
  by_cases hc : vp_in a (gH σ).1 ∧ vp_in b 2
  · obtain ⟨hp, hq⟩ := id hc
    obtain ⟨x, hx, rfl⟩ := vp_in_of hp (by omega)
    obtain ⟨y, hy, rfl⟩ := vp_in_of hq (by decide)
    have cx : tn (nI x) = x := nI_clamp (by omega)
    have cy : tn (nI y) = y := nI_clamp (by omega)
    have hy0 : ¬ nI y < 0 := fun q => hq (Or.inl q)
    refine sOk_of ⟨by decide +kernel, by decide +kernel, Nat.le_of_ble_eq_true rfl⟩ ?_
    show sW G m_TS_ends 0 ([], [some (.ref 0), some (.int (nI x)), some (.int (nI y))], M) _
    refine sW_go b_TS_ends_0 (st' := ([.int (nI x), .ref 7], [some (.ref 0), some (.int (nI x)), some (.int (nI y))], M)) (φ := mx_ocl LAY 0 = 9 ∧ True) rfl ⟨oc_0, trivial⟩ ?_
    refine sW_callV 3 [.int (nI x)] [] d_TS_ends_5 c_TS_ends_5 ⟨rfl, rfl, rfl, Nat.le_of_ble_eq_true rfl, rfl, rfl⟩ oc_7 (k_House_has G oc_7 hH.1 h8 (nI x)) ?_
    rintro _ M₁ ⟨rfl, h₁⟩
    rw [h₁]
    show sW G m_TS_ends 8 ([.int (tf (vp_in (nI x) (gH σ).1))], [some (.ref 0), some (.int (nI x)), some (.int (nI y))], M) _
    refine sW_if_eq 20 d_TS_ends_8 (by decide) (fun c_8 => ?_) (fun c_8 => ?_)
    · skip
      replace c_8 := tf_z.mp c_8
      refine sW_go b_TS_ends_20 (st' := ([.int (-1000001)], [some (.ref 0), some (.int (nI x)), some (.int (nI y))], M)) (φ := True) rfl trivial ?_
      refine sW_retI d_TS_ends_22 rfl (vp_nar_int _) ?_
      exact absurd hp c_8
    · skip
      replace c_8 := tf_nz.mp c_8
      refine sW_go b_TS_ends_11 (st' := ([.int (nI y)], [some (.ref 0), some (.int (nI x)), some (.int (nI y))], M)) (φ := True) rfl trivial ?_
      refine sW_if_lt 20 d_TS_ends_12 (by decide) (fun c_12 => ?_) (fun c_12 => ?_)
      · skip
        refine sW_go b_TS_ends_20 (st' := ([.int (-1000001)], [some (.ref 0), some (.int (nI x)), some (.int (nI y))], M)) (φ := True) rfl trivial ?_
        refine sW_retI d_TS_ends_22 rfl (vp_nar_int _) ?_
        exact absurd c_12 hy0
      · skip
        refine sW_go b_TS_ends_15 (st' := ([.int (nI 1), .int (nI y)], [some (.ref 0), some (.int (nI x)), some (.int (nI y))], M)) (φ := True) rfl trivial ?_
        refine sW_ic_le 23 d_TS_ends_17 (by decide) (fun c_17 => ?_) (fun c_17 => ?_)
        · skip
          simp (disch := omega) only [nI_leI] at c_17
          refine sW_go b_TS_ends_23 (st' := ([.ref 0], [some (.ref 0), some (.int (nI x)), some (.int (nI y))], M)) (φ := True) rfl trivial ?_
          refine sW_callV 9 [] [] d_TS_ends_24 c_TS_ends_24 ⟨rfl, rfl, rfl, Nat.le_of_ble_eq_true rfl, rfl, rfl⟩ oc_0 (k_cellsNow G h hg) ?_
          rintro _ M2 ⟨rfl, f2, g2, X, hD, hR⟩
          show sW G m_TS_ends 27 ([.ref 28], [some (.ref 0), some (.int (nI x)), some (.int (nI y))], M2) _
          refine sW_go b_TS_ends_27 (st' := ([.int (nI y), .int (nI x), .ref 28], [some (.ref 0), some (.int (nI x)), some (.int (nI y))], M2)) (φ := True) rfl trivial ?_
          refine sW_callV 2 [.int (nI x), .int (nI y)] [] d_TS_ends_29 c_TS_ends_29 ⟨rfl, rfl, rfl, Nat.le_of_ble_eq_true rfl, rfl, rfl⟩ oc_28 (k_holdingSide G oc_28 hg.1.1 hD hx (by omega)) ?_
          rintro _ M₁ ⟨rfl, h₁⟩
          rw [h₁]
          show sW G m_TS_ends 32 ([.int (nI (endM (gH σ) x y))], [some (.ref 0), some (.int (nI x)), some (.int (nI y))], M2) _
          refine sW_retI d_TS_ends_32 rfl (vp_nar_int _) ?_
          unfold sp_ends
          rw [cif_t hc, cx, cy]
          exact ⟨rfl, f2, g2⟩
        · skip
          simp (disch := omega) only [nI_leI] at c_17
          refine sW_go b_TS_ends_20 (st' := ([.int (-1000001)], [some (.ref 0), some (.int (nI x)), some (.int (nI y))], M)) (φ := True) rfl trivial ?_
          refine sW_retI d_TS_ends_22 rfl (vp_nar_int _) ?_
          omega
  · have hc2 := hc
    unfold sp_ends
    rw [cif_f hc]
    refine sOk_of ⟨by decide +kernel, by decide +kernel, Nat.le_of_ble_eq_true rfl⟩ ?_
    show sW G m_TS_ends 0 ([], [some (.ref 0), some (.int a), some (.int b)], M) _
    refine sW_go b_TS_ends_0 (st' := ([.int a, .ref 7], [some (.ref 0), some (.int a), some (.int b)], M)) (φ := mx_ocl LAY 0 = 9 ∧ True) rfl ⟨oc_0, trivial⟩ ?_
    refine sW_callV 3 [.int a] [] d_TS_ends_5 c_TS_ends_5 ⟨rfl, rfl, rfl, Nat.le_of_ble_eq_true rfl, rfl, rfl⟩ oc_7 (k_House_has G oc_7 hH.1 h8 a) ?_
    rintro _ M₁ ⟨rfl, h₁⟩
    rw [h₁]
    show sW G m_TS_ends 8 ([.int (tf (vp_in a (gH σ).1))], [some (.ref 0), some (.int a), some (.int b)], M) _
    refine sW_if_eq 20 d_TS_ends_8 (by decide) (fun c_8 => ?_) (fun c_8 => ?_)
    · skip
      replace c_8 := tf_z.mp c_8
      refine sW_go b_TS_ends_20 (st' := ([.int (-1000001)], [some (.ref 0), some (.int a), some (.int b)], M)) (φ := True) rfl trivial ?_
      refine sW_retI d_TS_ends_22 rfl (vp_nar_int _) ?_
      exact ⟨rfl, Fr.rf, h⟩
    · skip
      replace c_8 := tf_nz.mp c_8
      refine sW_go b_TS_ends_11 (st' := ([.int b], [some (.ref 0), some (.int a), some (.int b)], M)) (φ := True) rfl trivial ?_
      refine sW_if_lt 20 d_TS_ends_12 (by decide) (fun c_12 => ?_) (fun c_12 => ?_)
      · skip
        refine sW_go b_TS_ends_20 (st' := ([.int (-1000001)], [some (.ref 0), some (.int a), some (.int b)], M)) (φ := True) rfl trivial ?_
        refine sW_retI d_TS_ends_22 rfl (vp_nar_int _) ?_
        exact ⟨rfl, Fr.rf, h⟩
      · skip
        refine sW_go b_TS_ends_15 (st' := ([.int (nI 1), .int b], [some (.ref 0), some (.int a), some (.int b)], M)) (φ := True) rfl trivial ?_
        refine sW_ic_le 23 d_TS_ends_17 (by decide) (fun c_17 => ?_) (fun c_17 => ?_)
        · skip
          exact absurd ⟨c_8, vp_in_iff.mpr (by
            rw [Int32.lt_iff_toInt_lt] at c_12
            rw [Int32.le_iff_toInt_le, nI_toInt (by decide)] at c_17
            have : (0 : Int32).toInt = 0 := by decide
            omega)⟩ hc
        · skip
          refine sW_go b_TS_ends_20 (st' := ([.int (-1000001)], [some (.ref 0), some (.int a), some (.int b)], M)) (φ := True) rfl trivial ?_
          refine sW_retI d_TS_ends_22 rfl (vp_nar_int _) ?_
          exact ⟨rfl, Fr.rf, h⟩

