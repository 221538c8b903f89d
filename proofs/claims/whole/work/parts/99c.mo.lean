/-! ===== the model: what lies in what ===== -/
theorem rk_inv {M0 M1 : mx_M} {σ : Sg} {hs : Hs} (h0 : MInv M0 σ) (f : MFr M0 M1 [128, 129, 130, 131, 132, 133] [22]) (r : RowAt M1 133 0 hs) (hw : WHs hs) (c : hs.1 ≠ 0 → MCells M1 hs) : MInv M1 σ := h0.rk (f.mono (by decide) (by decide)) ⟨hs, hw, r, c⟩
theorem k_rkH (G : mx_G) {M : mx_M} {σ : Sg} (h : MInv M σ) (hg : GOk σ) : sOk G m_Mo_reckon [.ref 119, .ref 123] M (fun r M' => r = none ∧ Fr M M' 119 139 ∧ MInv M' σ ∧ RowAt M' 123 0 (gH σ) ∧ ((gH σ).1 ≠ 0 → MCells M' (gH σ))) := by
  have hR : RowAt M 123 0 (gH σ) := h.2.2.1.1
  have kk := k_reckon G ln_123 (Or.inl rfl) hR hg.1 h.2.2.2.2.2.2
  refine sOk_mono kk ?_
  rintro r M' ⟨x1, x2, x3, x4⟩
  exact ⟨x1, x2.fr (by decide), rk_inv h x2 x3 hg.1 x4, hR.eq (x2.1 _ (by decide) (by decide)), x4⟩
theorem mo_lies (G : mx_G) {M : mx_M} {σ : Sg} (h : MInv M σ) (hg : GOk σ) (a b : Int32) : sOk G m_Mo_lies [.ref 119, .int a, .int b] M (MOk M (sp_lies σ a b)) := by
  obtain ⟨M0, e0, h0, f0, g0⟩ := h.th
  have hR : RowAt M0 123 0 (gH σ) := h0.2.2.1.1
  have h8 := hg.1.1.1
  by_cases hc : vp_in a (gH σ).1 ∧ vp_in b (gH σ).1
  · obtain ⟨va, vb⟩ := id hc
    obtain ⟨x, hx, rfl⟩ := vp_in_of va (by omega)
    obtain ⟨y, hy, rfl⟩ := vp_in_of vb (by omega)
    have e : sp_lies σ (nI x) (nI y) = (tf (LiesIn (gH σ) x y), σ) := by
      unfold sp_lies; rw [cif_t hc, show tn (nI x) = x from nI_clamp (by omega), show tn (nI y) = y from nI_clamp (by omega)]
    rw [e]
    refine sOk_of ⟨by decide +kernel, by decide +kernel, Nat.le_of_ble_eq_true rfl⟩ ?_
    show sW G m_Mo_lies 0 ([], [some (.ref 119), some (.int (nI x)), some (.int (nI y))], M) _
    refine sW_go b_Mo_lies_0 (st' := ([.int (nI x), .ref 119], [some (.ref 119), some (.int (nI x)), some (.int (nI y))], mx_wr M 119 0 (nI 0))) (φ := mx_ocl LAY 119 = 10 ∧ True) rfl ⟨oc_119, trivial⟩ ?_
    refine sW_eq (st' := ([.int (nI x), .ref 119], [some (.ref 119), some (.int (nI x)), some (.int (nI y))], M0)) (by simp (disch := omega) only [e0]) ?_
    refine sW_callV 10 [.int (nI x)] [] d_Mo_lies_7 c_Mo_lies_7 ⟨rfl, rfl, rfl, Nat.le_of_ble_eq_true rfl, rfl, rfl⟩ oc_119 (k_isType G hR h8 (nI x)) ?_
    rintro _ M₁ ⟨rfl, h₁⟩
    rw [h₁]
    show sW G m_Mo_lies 10 ([.int (tf (vp_in (nI x) (gH σ).1))], [some (.ref 119), some (.int (nI x)), some (.int (nI y))], M0) _
    refine sW_if_eq 21 d_Mo_lies_10 (by decide) (fun c_10 => ?_) (fun c_10 => ?_)
    · skip
      replace c_10 := tf_z.mp c_10
      refine sW_go b_Mo_lies_21 (st' := ([.int (-1000001)], [some (.ref 119), some (.int (nI x)), some (.int (nI y))], M0)) (φ := True) rfl trivial ?_
      refine sW_retI d_Mo_lies_23 rfl (vp_nar_int _) ?_
      exact absurd va c_10
    · skip
      replace c_10 := tf_nz.mp c_10
      refine sW_go b_Mo_lies_13 (st' := ([.int (nI y), .ref 119], [some (.ref 119), some (.int (nI x)), some (.int (nI y))], M0)) (φ := True) rfl trivial ?_
      refine sW_callV 10 [.int (nI y)] [] d_Mo_lies_15 c_Mo_lies_15 ⟨rfl, rfl, rfl, Nat.le_of_ble_eq_true rfl, rfl, rfl⟩ oc_119 (k_isType G hR h8 (nI y)) ?_
      rintro _ M₁ ⟨rfl, h₁⟩
      rw [h₁]
      show sW G m_Mo_lies 18 ([.int (tf (vp_in (nI y) (gH σ).1))], [some (.ref 119), some (.int (nI x)), some (.int (nI y))], M0) _
      refine sW_if_ne 24 d_Mo_lies_18 (by decide) (fun c_18 => ?_) (fun c_18 => ?_)
      · skip
        replace c_18 := tf_nz.mp c_18
        refine sW_go b_Mo_lies_24 (st' := ([.ref 123, .ref 119], [some (.ref 119), some (.int (nI x)), some (.int (nI y))], M0)) (φ := mx_ocl LAY 119 = 10 ∧ True) rfl ⟨oc_119, trivial⟩ ?_
        refine sW_callV 10 [.ref 123] [] d_Mo_lies_29 c_Mo_lies_29 ⟨rfl, rfl, rfl, Nat.le_of_ble_eq_true rfl, rfl, rfl⟩ oc_119 (k_rkH G h0 hg) ?_
        rintro _ M1 ⟨rfl, f1, h1, r1, q1⟩
        obtain ⟨n, H, S, hM⟩ := q1 (by omega)
        have hM : MC M1 (gH σ) n H S := hM
        show sW G m_Mo_lies 32 ([], [some (.ref 119), some (.int (nI x)), some (.int (nI y))], M1) _
        refine sW_go b_Mo_lies_32 (st' := ([.int (nI y), .int (nI x), .ref 119], [some (.ref 119), some (.int (nI x)), some (.int (nI y))], M1)) (φ := True) rfl trivial ?_
        refine sW_callV 10 [.int (nI x), .int (nI y)] [] d_Mo_lies_35 c_Mo_lies_35 ⟨rfl, rfl, rfl, Nat.le_of_ble_eq_true rfl, rfl, rfl⟩ oc_119 (k_liesIn G hg.1.1 hM (by omega) (by omega)) ?_
        rintro _ M₁ ⟨rfl, h₁⟩
        rw [h₁]
        show sW G m_Mo_lies 38 ([.int (tf (LiesIn (gH σ) x y))], [some (.ref 119), some (.int (nI x)), some (.int (nI y))], M1) _
        refine sW_if_eq 45 d_Mo_lies_38 (by decide) (fun c_38 => ?_) (fun c_38 => ?_)
        · skip
          replace c_38 := tf_z.mp c_38
          refine sW_go b_Mo_lies_45 (st' := ([.int (nI 0)], [some (.ref 119), some (.int (nI x)), some (.int (nI y))], M1)) (φ := True) rfl trivial ?_
          refine sW_retI d_Mo_lies_46 rfl (vp_nar_int _) ?_
          exact ⟨by rw [tf_f c_38], f0.tr f1, h1⟩
        · skip
          replace c_38 := tf_nz.mp c_38
          refine sW_go b_Mo_lies_41 (st' := ([.int (nI 1)], [some (.ref 119), some (.int (nI x)), some (.int (nI y))], M1)) (φ := True) rfl trivial ?_
          refine sW_goto 46 d_Mo_lies_42 (by decide) ?_
          refine sW_retI d_Mo_lies_46 rfl (vp_nar_int _) ?_
          exact ⟨by rw [tf_t c_38], f0.tr f1, h1⟩
      · skip
        replace c_18 := tf_z.mp c_18
        refine sW_go b_Mo_lies_21 (st' := ([.int (-1000001)], [some (.ref 119), some (.int (nI x)), some (.int (nI y))], M0)) (φ := True) rfl trivial ?_
        refine sW_retI d_Mo_lies_23 rfl (vp_nar_int _) ?_
        exact absurd vb c_18
  · have e : sp_lies σ a b = ((-1000001), σ) := by unfold sp_lies; rw [cif_f hc]
    rw [e]
    refine sOk_of ⟨by decide +kernel, by decide +kernel, Nat.le_of_ble_eq_true rfl⟩ ?_
    show sW G m_Mo_lies 0 ([], [some (.ref 119), some (.int a), some (.int b)], M) _
    refine sW_go b_Mo_lies_0 (st' := ([.int a, .ref 119], [some (.ref 119), some (.int a), some (.int b)], mx_wr M 119 0 (nI 0))) (φ := mx_ocl LAY 119 = 10 ∧ True) rfl ⟨oc_119, trivial⟩ ?_
    refine sW_eq (st' := ([.int a, .ref 119], [some (.ref 119), some (.int a), some (.int b)], M0)) (by simp (disch := omega) only [e0]) ?_
    refine sW_callV 10 [.int a] [] d_Mo_lies_7 c_Mo_lies_7 ⟨rfl, rfl, rfl, Nat.le_of_ble_eq_true rfl, rfl, rfl⟩ oc_119 (k_isType G hR h8 a) ?_
    rintro _ M₁ ⟨rfl, h₁⟩
    rw [h₁]
    show sW G m_Mo_lies 10 ([.int (tf (vp_in a (gH σ).1))], [some (.ref 119), some (.int a), some (.int b)], M0) _
    refine sW_if_eq 21 d_Mo_lies_10 (by decide) (fun c_10 => ?_) (fun c_10 => ?_)
    · skip
      replace c_10 := tf_z.mp c_10
      refine sW_go b_Mo_lies_21 (st' := ([.int (-1000001)], [some (.ref 119), some (.int a), some (.int b)], M0)) (φ := True) rfl trivial ?_
      refine sW_retI d_Mo_lies_23 rfl (vp_nar_int _) ?_
      exact ⟨rfl, f0, h0⟩
    · skip
      replace c_10 := tf_nz.mp c_10
      refine sW_go b_Mo_lies_13 (st' := ([.int b, .ref 119], [some (.ref 119), some (.int a), some (.int b)], M0)) (φ := True) rfl trivial ?_
      refine sW_callV 10 [.int b] [] d_Mo_lies_15 c_Mo_lies_15 ⟨rfl, rfl, rfl, Nat.le_of_ble_eq_true rfl, rfl, rfl⟩ oc_119 (k_isType G hR h8 b) ?_
      rintro _ M₁ ⟨rfl, h₁⟩
      rw [h₁]
      show sW G m_Mo_lies 18 ([.int (tf (vp_in b (gH σ).1))], [some (.ref 119), some (.int a), some (.int b)], M0) _
      refine sW_if_ne 24 d_Mo_lies_18 (by decide) (fun c_18 => ?_) (fun c_18 => ?_)
      · skip
        replace c_18 := tf_nz.mp c_18
        exact absurd ⟨c_10, c_18⟩ hc
      · skip
        replace c_18 := tf_z.mp c_18
        refine sW_go b_Mo_lies_21 (st' := ([.int (-1000001)], [some (.ref 119), some (.int a), some (.int b)], M0)) (φ := True) rfl trivial ?_
        refine sW_retI d_Mo_lies_23 rfl (vp_nar_int _) ?_
        exact ⟨rfl, f0, h0⟩
def othP (hs : Hs) (t w o : Nat) : Prop := if w = 2 then ¬ Meets hs t o else LiesIn hs t o ∧ (w = 0 ∨ LiesIn hs o t)
theorem mo_others (G : mx_G) {M : mx_M} {σ : Sg} (h : MInv M σ) (hg : GOk σ) (t w : Int32) : sOk G m_Mo_others [.ref 119, .int t, .int w] M (MOk M (sp_others σ t w)) := by
  obtain ⟨M0, e0, h0, f0, g0⟩ := h.th
  have hR : RowAt M0 123 0 (gH σ) := h0.2.2.1.1
  have h8 := hg.1.1.1
  by_cases hc : vp_in t (gH σ).1 ∧ vp_in w 3
  · obtain ⟨va, vb⟩ := id hc
    obtain ⟨x, hx, rfl⟩ := vp_in_of va (by omega)
    obtain ⟨v, hv, rfl⟩ := vp_in_of vb (by decide)
    have e : sp_others σ (nI x) (nI v) = (nI (othM (gH σ) x v), σ) := by
      unfold sp_others; rw [cif_t hc, show tn (nI x) = x from nI_clamp (by omega), show tn (nI v) = v from nI_clamp (by omega)]
    rw [e]
    refine sOk_of ⟨by decide +kernel, by decide +kernel, Nat.le_of_ble_eq_true rfl⟩ ?_
    show sW G m_Mo_others 0 ([], [some (.ref 119), some (.int (nI x)), some (.int (nI v)), none, none, none], M) _
    refine sW_go b_Mo_others_0 (st' := ([.int (nI x), .ref 119], [some (.ref 119), some (.int (nI x)), some (.int (nI v)), none, none, none], mx_wr M 119 0 (nI 0))) (φ := mx_ocl LAY 119 = 10 ∧ True) rfl ⟨oc_119, trivial⟩ ?_
    refine sW_eq (st' := ([.int (nI x), .ref 119], [some (.ref 119), some (.int (nI x)), some (.int (nI v)), none, none, none], M0)) (by simp (disch := omega) only [e0]) ?_
    refine sW_callV 10 [.int (nI x)] [] d_Mo_others_7 c_Mo_others_7 ⟨rfl, rfl, rfl, Nat.le_of_ble_eq_true rfl, rfl, rfl⟩ oc_119 (k_isType G hR h8 (nI x)) ?_
    rintro _ M₁ ⟨rfl, h₁⟩
    rw [h₁]
    show sW G m_Mo_others 10 ([.int (tf (vp_in (nI x) (gH σ).1))], [some (.ref 119), some (.int (nI x)), some (.int (nI v)), none, none, none], M0) _
    refine sW_if_eq 25 d_Mo_others_10 (by decide) (fun c_10 => ?_) (fun c_10 => ?_)
    · skip
      replace c_10 := tf_z.mp c_10
      refine sW_go b_Mo_others_25 (st' := ([.int (-1000001)], [some (.ref 119), some (.int (nI x)), some (.int (nI v)), none, none, none], M0)) (φ := True) rfl trivial ?_
      refine sW_retI d_Mo_others_27 rfl (vp_nar_int _) ?_
      exact absurd va c_10
    · skip
      replace c_10 := tf_nz.mp c_10
      refine sW_go b_Mo_others_13 (st' := ([.long (lN 2), .long (lN 0), .long (nI v).toInt64], [some (.ref 119), some (.int (nI x)), some (.int (nI v)), none, none, none], M0)) (φ := True) rfl trivial ?_
      refine sW_callS [.long (nI v).toInt64, .long (lN 0), .long (lN 2)] [] d_Mo_others_19 c_Mo_others_19 ⟨rfl, rfl, Nat.le_of_ble_eq_true rfl, rfl, rfl⟩ (k_in0 G (nI v) 2 (by decide)) ?_
      rintro _ M₁ ⟨rfl, h₁⟩
      rw [h₁]
      show sW G m_Mo_others 22 ([.int (tf (vp_in (nI v) 3))], [some (.ref 119), some (.int (nI x)), some (.int (nI v)), none, none, none], M0) _
      refine sW_if_ne 28 d_Mo_others_22 (by decide) (fun c_22 => ?_) (fun c_22 => ?_)
      · skip
        replace c_22 := tf_nz.mp c_22
        refine sW_go b_Mo_others_28 (st' := ([.ref 123, .ref 119], [some (.ref 119), some (.int (nI x)), some (.int (nI v)), none, none, none], M0)) (φ := mx_ocl LAY 119 = 10 ∧ True) rfl ⟨oc_119, trivial⟩ ?_
        refine sW_callV 10 [.ref 123] [] d_Mo_others_33 c_Mo_others_33 ⟨rfl, rfl, rfl, Nat.le_of_ble_eq_true rfl, rfl, rfl⟩ oc_119 (k_rkH G h0 hg) ?_
        rintro _ M1 ⟨rfl, f1, h1, r1, q1⟩
        show sW G m_Mo_others 36 ([], [some (.ref 119), some (.int (nI x)), some (.int (nI v)), none, none, none], M1) _
        refine sW_go b_Mo_others_36 (st' := ([], [some (.ref 119), some (.int (nI x)), some (.int (nI v)), some (.int (nI 0)), some (.int (nI 0)), none], M1)) (φ := True) rfl trivial ?_
        obtain ⟨n, H, S, hM⟩ := q1 (by omega)
        have hM : MC M1 (gH σ) n H S := hM
        have er := r1.n
        refine mx_ind (α := Nat) (fun o => (gH σ).1 - o) (fun o => o ≤ (gH σ).1 → sW G m_Mo_others 41 ([], [some (.ref 119), some (.int (nI x)), some (.int (nI v)), some (.int (nI (mkN (othP (gH σ) x v) o))), some (.int (nI o)), none], M1) _) ?_ 0 (Nat.zero_le _)
        intro o ih ho
        have hlt := mkN_lt (othP (gH σ) x v) (n := o) (by omega)
        by_cases hon : o < (gH σ).1
        · have q2 : nI 1 <<< (nI o &&& 31) = nI (1 * 2 ^ o) := sh_1 (by omega)
          have yes : othP (gH σ) x v o → sW G m_Mo_others 41 ([], [some (.ref 119), some (.int (nI x)), some (.int (nI v)), some (.int (nI (mkN (othP (gH σ) x v) o ||| (1 * 2 ^ o)))), some (.int (nI (o + 1))), none], M1) (MOk M (nI (othM (gH σ) x v), σ)) := fun q => by
            rw [mkN_1 q]; exact ih (o + 1) (by omega) (by omega)
          have no : ¬ othP (gH σ) x v o → sW G m_Mo_others 41 ([], [some (.ref 119), some (.int (nI x)), some (.int (nI v)), some (.int (nI (mkN (othP (gH σ) x v) o ||| 0))), some (.int (nI (o + 1))), none], M1) (MOk M (nI (othM (gH σ) x v), σ)) := fun q => by
            rw [mkN_0 q]; exact ih (o + 1) (by omega) (by omega)
          refine sW_go b_Mo_others_41 (st' := ([.int (M1 123 (nI 0).toNatClampNeg), .int (nI o)], [some (.ref 119), some (.int (nI x)), some (.int (nI v)), some (.int (nI (mkN (othP (gH σ) x v) o))), some (.int (nI o)), none], M1)) (φ := mx_ocl LAY 119 = 10 ∧ vp_in (nI 0) (mx_len LAY false 123) ∧ True) rfl ⟨oc_119, (by simp (disch := omega) only [ln_123]; exact vp_in_nI (by omega) (by decide)), trivial⟩ ?_
          refine sW_eq (st' := ([.int (nI (gH σ).1), .int (nI o)], [some (.ref 119), some (.int (nI x)), some (.int (nI v)), some (.int (nI (mkN (othP (gH σ) x v) o))), some (.int (nI o)), none], M1)) (by simp (disch := omega) only [er, nI_clamp]) ?_
          refine sW_ic_ge 120 d_Mo_others_49 (by decide) (fun c_49 => ?_) (fun c_49 => ?_)
          · skip
            simp (disch := omega) only [nI_leI] at c_49
            omega
          · skip
            simp (disch := omega) only [nI_leI] at c_49
            refine sW_go b_Mo_others_52 (st' := ([.int (nI 2), .int (nI v)], [some (.ref 119), some (.int (nI x)), some (.int (nI v)), some (.int (nI (mkN (othP (gH σ) x v) o))), some (.int (nI o)), none], M1)) (φ := True) rfl trivial ?_
            refine sW_ic_ne 67 d_Mo_others_54 (by decide) (fun c_54 => ?_) (fun c_54 => ?_)
            · skip
              simp (disch := omega) only [nI_eq] at c_54
              refine sW_go b_Mo_others_67 (st' := ([.int (nI o), .int (nI x), .ref 119], [some (.ref 119), some (.int (nI x)), some (.int (nI v)), some (.int (nI (mkN (othP (gH σ) x v) o))), some (.int (nI o)), none], M1)) (φ := True) rfl trivial ?_
              refine sW_callV 10 [.int (nI x), .int (nI o)] [] d_Mo_others_71 c_Mo_others_71 ⟨rfl, rfl, rfl, Nat.le_of_ble_eq_true rfl, rfl, rfl⟩ oc_119 (k_liesIn G hg.1.1 hM (by omega) (by omega)) ?_
              rintro _ M₁ ⟨rfl, h₁⟩
              rw [h₁]
              show sW G m_Mo_others 74 ([.int (tf (LiesIn (gH σ) x o))], [some (.ref 119), some (.int (nI x)), some (.int (nI v)), some (.int (nI (mkN (othP (gH σ) x v) o))), some (.int (nI o)), none], M1) _
              refine sW_if_eq 95 d_Mo_others_74 (by decide) (fun c_74 => ?_) (fun c_74 => ?_)
              · skip
                replace c_74 := tf_z.mp c_74
                refine sW_go b_Mo_others_95 (st' := ([.int (nI 0)], [some (.ref 119), some (.int (nI x)), some (.int (nI v)), some (.int (nI (mkN (othP (gH σ) x v) o))), some (.int (nI o)), none], M1)) (φ := True) rfl trivial ?_
                refine sW_go b_Mo_others_96 (st' := ([.int (nI 0), .int (nI (mkN (othP (gH σ) x v) o))], [some (.ref 119), some (.int (nI x)), some (.int (nI v)), some (.int (nI (mkN (othP (gH σ) x v) o))), some (.int (nI o)), some (.int (nI 0))], M1)) (φ := True) rfl trivial ?_
                refine sW_if_eq 111 d_Mo_others_101 (by decide) (fun c_101 => ?_) (fun c_101 => ?_)
                · skip
                  simp (disch := omega) only [nI_z] at c_101
                  refine sW_go b_Mo_others_111 (st' := ([.int (nI 0), .int (nI (mkN (othP (gH σ) x v) o))], [some (.ref 119), some (.int (nI x)), some (.int (nI v)), some (.int (nI (mkN (othP (gH σ) x v) o))), some (.int (nI o)), some (.int (nI 0))], M1)) (φ := True) rfl trivial ?_
                  refine sW_go b_Mo_others_112 (st' := ([], [some (.ref 119), some (.int (nI x)), some (.int (nI v)), some (.int (nI (mkN (othP (gH σ) x v) o) ||| nI 0)), some (.int (nI o + nI 1)), some (.int (nI 0))], M1)) (φ := True) rfl trivial ?_
                  refine sW_eq (st' := ([], [some (.ref 119), some (.int (nI x)), some (.int (nI v)), some (.int (nI (mkN (othP (gH σ) x v) o ||| 0))), some (.int (nI (o + 1))), some (.int (nI 0))], M1)) (by simp (disch := omega) only [nI_add, nx_or]) ?_
                  refine sW_goto 41 d_Mo_others_117 (by decide) ?_
                  refine sW_fg [false, false, false, false, false, true] ?_
                  show sW G m_Mo_others 41 ([], [some (.ref 119), some (.int (nI x)), some (.int (nI v)), some (.int (nI (mkN (othP (gH σ) x v) o ||| 0))), some (.int (nI (o + 1))), none], M1) _
                  exact no (fun q => by unfold othP at q; rw [if_neg c_54] at q; exact c_74 q.1)
                · skip
                  exact absurd (by decide +kernel) c_101
              · skip
                replace c_74 := tf_nz.mp c_74
                refine sW_go b_Mo_others_77 (st' := ([.int (nI v)], [some (.ref 119), some (.int (nI x)), some (.int (nI v)), some (.int (nI (mkN (othP (gH σ) x v) o))), some (.int (nI o)), none], M1)) (φ := True) rfl trivial ?_
                refine sW_if_eq 91 d_Mo_others_78 (by decide) (fun c_78 => ?_) (fun c_78 => ?_)
                · skip
                  simp (disch := omega) only [nI_z] at c_78
                  refine sW_go b_Mo_others_91 (st' := ([.int (nI 1)], [some (.ref 119), some (.int (nI x)), some (.int (nI v)), some (.int (nI (mkN (othP (gH σ) x v) o))), some (.int (nI o)), none], M1)) (φ := True) rfl trivial ?_
                  refine sW_goto 96 d_Mo_others_92 (by decide) ?_
                  refine sW_go b_Mo_others_96 (st' := ([.int (nI 1), .int (nI (mkN (othP (gH σ) x v) o))], [some (.ref 119), some (.int (nI x)), some (.int (nI v)), some (.int (nI (mkN (othP (gH σ) x v) o))), some (.int (nI o)), some (.int (nI 1))], M1)) (φ := True) rfl trivial ?_
                  refine sW_if_eq 111 d_Mo_others_101 (by decide) (fun c_101 => ?_) (fun c_101 => ?_)
                  · skip
                    exact absurd c_101 (by decide +kernel)
                  · skip
                    simp (disch := omega) only [nI_z] at c_101
                    refine sW_go b_Mo_others_104 (st' := ([.int (nI 1 <<< (nI o &&& 31)), .int (nI (mkN (othP (gH σ) x v) o))], [some (.ref 119), some (.int (nI x)), some (.int (nI v)), some (.int (nI (mkN (othP (gH σ) x v) o))), some (.int (nI o)), some (.int (nI 1))], M1)) (φ := True) rfl trivial ?_
                    refine sW_eq (st' := ([.int (nI (1 * 2 ^ o)), .int (nI (mkN (othP (gH σ) x v) o))], [some (.ref 119), some (.int (nI x)), some (.int (nI v)), some (.int (nI (mkN (othP (gH σ) x v) o))), some (.int (nI o)), some (.int (nI 1))], M1)) (by simp (disch := omega) only [q2]) ?_
                    refine sW_goto 112 d_Mo_others_108 (by decide) ?_
                    refine sW_go b_Mo_others_112 (st' := ([], [some (.ref 119), some (.int (nI x)), some (.int (nI v)), some (.int (nI (mkN (othP (gH σ) x v) o) ||| nI (1 * 2 ^ o))), some (.int (nI o + nI 1)), some (.int (nI 1))], M1)) (φ := True) rfl trivial ?_
                    refine sW_eq (st' := ([], [some (.ref 119), some (.int (nI x)), some (.int (nI v)), some (.int (nI (mkN (othP (gH σ) x v) o ||| (1 * 2 ^ o)))), some (.int (nI (o + 1))), some (.int (nI 1))], M1)) (by simp (disch := omega) only [nI_add, nx_or]) ?_
                    refine sW_goto 41 d_Mo_others_117 (by decide) ?_
                    refine sW_fg [false, false, false, false, false, true] ?_
                    show sW G m_Mo_others 41 ([], [some (.ref 119), some (.int (nI x)), some (.int (nI v)), some (.int (nI (mkN (othP (gH σ) x v) o ||| (1 * 2 ^ o)))), some (.int (nI (o + 1))), none], M1) _
                    exact yes (by unfold othP; rw [if_neg c_54]; exact ⟨c_74, Or.inl c_78⟩)
                · skip
                  simp (disch := omega) only [nI_z] at c_78
                  refine sW_go b_Mo_others_81 (st' := ([.int (nI x), .int (nI o), .ref 119], [some (.ref 119), some (.int (nI x)), some (.int (nI v)), some (.int (nI (mkN (othP (gH σ) x v) o))), some (.int (nI o)), none], M1)) (φ := True) rfl trivial ?_
                  refine sW_callV 10 [.int (nI o), .int (nI x)] [] d_Mo_others_85 c_Mo_others_85 ⟨rfl, rfl, rfl, Nat.le_of_ble_eq_true rfl, rfl, rfl⟩ oc_119 (k_liesIn G hg.1.1 hM (by omega) (by omega)) ?_
                  rintro _ M₁ ⟨rfl, h₁⟩
                  rw [h₁]
                  show sW G m_Mo_others 88 ([.int (tf (LiesIn (gH σ) o x))], [some (.ref 119), some (.int (nI x)), some (.int (nI v)), some (.int (nI (mkN (othP (gH σ) x v) o))), some (.int (nI o)), none], M1) _
                  refine sW_if_eq 95 d_Mo_others_88 (by decide) (fun c_88 => ?_) (fun c_88 => ?_)
                  · skip
                    replace c_88 := tf_z.mp c_88
                    refine sW_go b_Mo_others_95 (st' := ([.int (nI 0)], [some (.ref 119), some (.int (nI x)), some (.int (nI v)), some (.int (nI (mkN (othP (gH σ) x v) o))), some (.int (nI o)), none], M1)) (φ := True) rfl trivial ?_
                    refine sW_go b_Mo_others_96 (st' := ([.int (nI 0), .int (nI (mkN (othP (gH σ) x v) o))], [some (.ref 119), some (.int (nI x)), some (.int (nI v)), some (.int (nI (mkN (othP (gH σ) x v) o))), some (.int (nI o)), some (.int (nI 0))], M1)) (φ := True) rfl trivial ?_
                    refine sW_if_eq 111 d_Mo_others_101 (by decide) (fun c_101 => ?_) (fun c_101 => ?_)
                    · skip
                      simp (disch := omega) only [nI_z] at c_101
                      refine sW_go b_Mo_others_111 (st' := ([.int (nI 0), .int (nI (mkN (othP (gH σ) x v) o))], [some (.ref 119), some (.int (nI x)), some (.int (nI v)), some (.int (nI (mkN (othP (gH σ) x v) o))), some (.int (nI o)), some (.int (nI 0))], M1)) (φ := True) rfl trivial ?_
                      refine sW_go b_Mo_others_112 (st' := ([], [some (.ref 119), some (.int (nI x)), some (.int (nI v)), some (.int (nI (mkN (othP (gH σ) x v) o) ||| nI 0)), some (.int (nI o + nI 1)), some (.int (nI 0))], M1)) (φ := True) rfl trivial ?_
                      refine sW_eq (st' := ([], [some (.ref 119), some (.int (nI x)), some (.int (nI v)), some (.int (nI (mkN (othP (gH σ) x v) o ||| 0))), some (.int (nI (o + 1))), some (.int (nI 0))], M1)) (by simp (disch := omega) only [nI_add, nx_or]) ?_
                      refine sW_goto 41 d_Mo_others_117 (by decide) ?_
                      refine sW_fg [false, false, false, false, false, true] ?_
                      show sW G m_Mo_others 41 ([], [some (.ref 119), some (.int (nI x)), some (.int (nI v)), some (.int (nI (mkN (othP (gH σ) x v) o ||| 0))), some (.int (nI (o + 1))), none], M1) _
                      exact no (fun q => by unfold othP at q; rw [if_neg c_54] at q; exact q.2.elim c_78 c_88)
                    · skip
                      exact absurd (by decide +kernel) c_101
                  · skip
                    replace c_88 := tf_nz.mp c_88
                    refine sW_go b_Mo_others_91 (st' := ([.int (nI 1)], [some (.ref 119), some (.int (nI x)), some (.int (nI v)), some (.int (nI (mkN (othP (gH σ) x v) o))), some (.int (nI o)), none], M1)) (φ := True) rfl trivial ?_
                    refine sW_goto 96 d_Mo_others_92 (by decide) ?_
                    refine sW_go b_Mo_others_96 (st' := ([.int (nI 1), .int (nI (mkN (othP (gH σ) x v) o))], [some (.ref 119), some (.int (nI x)), some (.int (nI v)), some (.int (nI (mkN (othP (gH σ) x v) o))), some (.int (nI o)), some (.int (nI 1))], M1)) (φ := True) rfl trivial ?_
                    refine sW_if_eq 111 d_Mo_others_101 (by decide) (fun c_101 => ?_) (fun c_101 => ?_)
                    · skip
                      exact absurd c_101 (by decide +kernel)
                    · skip
                      simp (disch := omega) only [nI_z] at c_101
                      refine sW_go b_Mo_others_104 (st' := ([.int (nI 1 <<< (nI o &&& 31)), .int (nI (mkN (othP (gH σ) x v) o))], [some (.ref 119), some (.int (nI x)), some (.int (nI v)), some (.int (nI (mkN (othP (gH σ) x v) o))), some (.int (nI o)), some (.int (nI 1))], M1)) (φ := True) rfl trivial ?_
                      refine sW_eq (st' := ([.int (nI (1 * 2 ^ o)), .int (nI (mkN (othP (gH σ) x v) o))], [some (.ref 119), some (.int (nI x)), some (.int (nI v)), some (.int (nI (mkN (othP (gH σ) x v) o))), some (.int (nI o)), some (.int (nI 1))], M1)) (by simp (disch := omega) only [q2]) ?_
                      refine sW_goto 112 d_Mo_others_108 (by decide) ?_
                      refine sW_go b_Mo_others_112 (st' := ([], [some (.ref 119), some (.int (nI x)), some (.int (nI v)), some (.int (nI (mkN (othP (gH σ) x v) o) ||| nI (1 * 2 ^ o))), some (.int (nI o + nI 1)), some (.int (nI 1))], M1)) (φ := True) rfl trivial ?_
                      refine sW_eq (st' := ([], [some (.ref 119), some (.int (nI x)), some (.int (nI v)), some (.int (nI (mkN (othP (gH σ) x v) o ||| (1 * 2 ^ o)))), some (.int (nI (o + 1))), some (.int (nI 1))], M1)) (by simp (disch := omega) only [nI_add, nx_or]) ?_
                      refine sW_goto 41 d_Mo_others_117 (by decide) ?_
                      refine sW_fg [false, false, false, false, false, true] ?_
                      show sW G m_Mo_others 41 ([], [some (.ref 119), some (.int (nI x)), some (.int (nI v)), some (.int (nI (mkN (othP (gH σ) x v) o ||| (1 * 2 ^ o)))), some (.int (nI (o + 1))), none], M1) _
                      exact yes (by unfold othP; rw [if_neg c_54]; exact ⟨c_74, Or.inr c_88⟩)
            · skip
              simp (disch := omega) only [nI_eq] at c_54
              refine sW_go b_Mo_others_57 (st' := ([.int (nI o), .int (nI x), .ref 119], [some (.ref 119), some (.int (nI x)), some (.int (nI v)), some (.int (nI (mkN (othP (gH σ) x v) o))), some (.int (nI o)), none], M1)) (φ := True) rfl trivial ?_
              refine sW_callV 10 [.int (nI x), .int (nI o)] [] d_Mo_others_61 c_Mo_others_61 ⟨rfl, rfl, rfl, Nat.le_of_ble_eq_true rfl, rfl, rfl⟩ oc_119 (k_areApart G hg.1.1 hM (by omega) (by omega)) ?_
              rintro _ M₁ ⟨rfl, h₁⟩
              rw [h₁]
              show sW G m_Mo_others 64 ([.int (tf (¬ Meets (gH σ) x o))], [some (.ref 119), some (.int (nI x)), some (.int (nI v)), some (.int (nI (mkN (othP (gH σ) x v) o))), some (.int (nI o)), none], M1) _
              refine sW_goto 96 d_Mo_others_64 (by decide) ?_
              refine sW_go b_Mo_others_96 (st' := ([.int (tf (¬ Meets (gH σ) x o)), .int (nI (mkN (othP (gH σ) x v) o))], [some (.ref 119), some (.int (nI x)), some (.int (nI v)), some (.int (nI (mkN (othP (gH σ) x v) o))), some (.int (nI o)), some (.int (tf (¬ Meets (gH σ) x o)))], M1)) (φ := True) rfl trivial ?_
              refine sW_if_eq 111 d_Mo_others_101 (by decide) (fun c_101 => ?_) (fun c_101 => ?_)
              · skip
                replace c_101 := tf_z.mp c_101
                refine sW_go b_Mo_others_111 (st' := ([.int (nI 0), .int (nI (mkN (othP (gH σ) x v) o))], [some (.ref 119), some (.int (nI x)), some (.int (nI v)), some (.int (nI (mkN (othP (gH σ) x v) o))), some (.int (nI o)), some (.int (tf (¬ Meets (gH σ) x o)))], M1)) (φ := True) rfl trivial ?_
                refine sW_go b_Mo_others_112 (st' := ([], [some (.ref 119), some (.int (nI x)), some (.int (nI v)), some (.int (nI (mkN (othP (gH σ) x v) o) ||| nI 0)), some (.int (nI o + nI 1)), some (.int (tf (¬ Meets (gH σ) x o)))], M1)) (φ := True) rfl trivial ?_
                refine sW_eq (st' := ([], [some (.ref 119), some (.int (nI x)), some (.int (nI v)), some (.int (nI (mkN (othP (gH σ) x v) o ||| 0))), some (.int (nI (o + 1))), some (.int (tf (¬ Meets (gH σ) x o)))], M1)) (by simp (disch := omega) only [nI_add, nx_or]) ?_
                refine sW_goto 41 d_Mo_others_117 (by decide) ?_
                refine sW_fg [false, false, false, false, false, true] ?_
                show sW G m_Mo_others 41 ([], [some (.ref 119), some (.int (nI x)), some (.int (nI v)), some (.int (nI (mkN (othP (gH σ) x v) o ||| 0))), some (.int (nI (o + 1))), none], M1) _
                exact no (fun q => by unfold othP at q; rw [if_pos c_54] at q; exact c_101 q)
              · skip
                replace c_101 := tf_nz.mp c_101
                refine sW_go b_Mo_others_104 (st' := ([.int (nI 1 <<< (nI o &&& 31)), .int (nI (mkN (othP (gH σ) x v) o))], [some (.ref 119), some (.int (nI x)), some (.int (nI v)), some (.int (nI (mkN (othP (gH σ) x v) o))), some (.int (nI o)), some (.int (tf (¬ Meets (gH σ) x o)))], M1)) (φ := True) rfl trivial ?_
                refine sW_eq (st' := ([.int (nI (1 * 2 ^ o)), .int (nI (mkN (othP (gH σ) x v) o))], [some (.ref 119), some (.int (nI x)), some (.int (nI v)), some (.int (nI (mkN (othP (gH σ) x v) o))), some (.int (nI o)), some (.int (tf (¬ Meets (gH σ) x o)))], M1)) (by simp (disch := omega) only [q2]) ?_
                refine sW_goto 112 d_Mo_others_108 (by decide) ?_
                refine sW_go b_Mo_others_112 (st' := ([], [some (.ref 119), some (.int (nI x)), some (.int (nI v)), some (.int (nI (mkN (othP (gH σ) x v) o) ||| nI (1 * 2 ^ o))), some (.int (nI o + nI 1)), some (.int (tf (¬ Meets (gH σ) x o)))], M1)) (φ := True) rfl trivial ?_
                refine sW_eq (st' := ([], [some (.ref 119), some (.int (nI x)), some (.int (nI v)), some (.int (nI (mkN (othP (gH σ) x v) o ||| (1 * 2 ^ o)))), some (.int (nI (o + 1))), some (.int (tf (¬ Meets (gH σ) x o)))], M1)) (by simp (disch := omega) only [nI_add, nx_or]) ?_
                refine sW_goto 41 d_Mo_others_117 (by decide) ?_
                refine sW_fg [false, false, false, false, false, true] ?_
                show sW G m_Mo_others 41 ([], [some (.ref 119), some (.int (nI x)), some (.int (nI v)), some (.int (nI (mkN (othP (gH σ) x v) o ||| (1 * 2 ^ o)))), some (.int (nI (o + 1))), none], M1) _
                exact yes (by unfold othP; rw [if_pos c_54]; exact c_101)
        · have hoe : o = (gH σ).1 := by omega
          subst hoe
          refine sW_go b_Mo_others_41 (st' := ([.int (M1 123 (nI 0).toNatClampNeg), .int (nI (gH σ).1)], [some (.ref 119), some (.int (nI x)), some (.int (nI v)), some (.int (nI (mkN (othP (gH σ) x v) (gH σ).1))), some (.int (nI (gH σ).1)), none], M1)) (φ := mx_ocl LAY 119 = 10 ∧ vp_in (nI 0) (mx_len LAY false 123) ∧ True) rfl ⟨oc_119, (by simp (disch := omega) only [ln_123]; exact vp_in_nI (by omega) (by decide)), trivial⟩ ?_
          refine sW_eq (st' := ([.int (nI (gH σ).1), .int (nI (gH σ).1)], [some (.ref 119), some (.int (nI x)), some (.int (nI v)), some (.int (nI (mkN (othP (gH σ) x v) (gH σ).1))), some (.int (nI (gH σ).1)), none], M1)) (by simp (disch := omega) only [er, nI_clamp]) ?_
          refine sW_ic_ge 120 d_Mo_others_49 (by decide) (fun c_49 => ?_) (fun c_49 => ?_)
          · skip
            simp (disch := omega) only [nI_leI] at c_49
            refine sW_go b_Mo_others_120 (st' := ([.int (nI (mkN (othP (gH σ) x v) (gH σ).1))], [some (.ref 119), some (.int (nI x)), some (.int (nI v)), some (.int (nI (mkN (othP (gH σ) x v) (gH σ).1))), some (.int (nI (gH σ).1)), none], M1)) (φ := True) rfl trivial ?_
            refine sW_retI d_Mo_others_121 rfl (vp_nar_int _) ?_
            exact ⟨by rw [mkN_8 h8]; rfl, f0.tr f1, h1⟩
          · skip
            simp (disch := omega) only [nI_leI] at c_49
            omega
      · skip
        replace c_22 := tf_z.mp c_22
        refine sW_go b_Mo_others_25 (st' := ([.int (-1000001)], [some (.ref 119), some (.int (nI x)), some (.int (nI v)), none, none, none], M0)) (φ := True) rfl trivial ?_
        refine sW_retI d_Mo_others_27 rfl (vp_nar_int _) ?_
        exact absurd vb c_22
  · have e : sp_others σ t w = ((-1000001), σ) := by unfold sp_others; rw [cif_f hc]
    rw [e]
    refine sOk_of ⟨by decide +kernel, by decide +kernel, Nat.le_of_ble_eq_true rfl⟩ ?_
    show sW G m_Mo_others 0 ([], [some (.ref 119), some (.int t), some (.int w), none, none, none], M) _
    refine sW_go b_Mo_others_0 (st' := ([.int t, .ref 119], [some (.ref 119), some (.int t), some (.int w), none, none, none], mx_wr M 119 0 (nI 0))) (φ := mx_ocl LAY 119 = 10 ∧ True) rfl ⟨oc_119, trivial⟩ ?_
    refine sW_eq (st' := ([.int t, .ref 119], [some (.ref 119), some (.int t), some (.int w), none, none, none], M0)) (by simp (disch := omega) only [e0]) ?_
    refine sW_callV 10 [.int t] [] d_Mo_others_7 c_Mo_others_7 ⟨rfl, rfl, rfl, Nat.le_of_ble_eq_true rfl, rfl, rfl⟩ oc_119 (k_isType G hR h8 t) ?_
    rintro _ M₁ ⟨rfl, h₁⟩
    rw [h₁]
    show sW G m_Mo_others 10 ([.int (tf (vp_in t (gH σ).1))], [some (.ref 119), some (.int t), some (.int w), none, none, none], M0) _
    refine sW_if_eq 25 d_Mo_others_10 (by decide) (fun c_10 => ?_) (fun c_10 => ?_)
    · skip
      replace c_10 := tf_z.mp c_10
      refine sW_go b_Mo_others_25 (st' := ([.int (-1000001)], [some (.ref 119), some (.int t), some (.int w), none, none, none], M0)) (φ := True) rfl trivial ?_
      refine sW_retI d_Mo_others_27 rfl (vp_nar_int _) ?_
      exact ⟨rfl, f0, h0⟩
    · skip
      replace c_10 := tf_nz.mp c_10
      refine sW_go b_Mo_others_13 (st' := ([.long (lN 2), .long (lN 0), .long w.toInt64], [some (.ref 119), some (.int t), some (.int w), none, none, none], M0)) (φ := True) rfl trivial ?_
      refine sW_callS [.long w.toInt64, .long (lN 0), .long (lN 2)] [] d_Mo_others_19 c_Mo_others_19 ⟨rfl, rfl, Nat.le_of_ble_eq_true rfl, rfl, rfl⟩ (k_in0 G w 2 (by decide)) ?_
      rintro _ M₁ ⟨rfl, h₁⟩
      rw [h₁]
      show sW G m_Mo_others 22 ([.int (tf (vp_in w 3))], [some (.ref 119), some (.int t), some (.int w), none, none, none], M0) _
      refine sW_if_ne 28 d_Mo_others_22 (by decide) (fun c_22 => ?_) (fun c_22 => ?_)
      · skip
        replace c_22 := tf_nz.mp c_22
        exact absurd ⟨c_10, c_22⟩ hc
      · skip
        replace c_22 := tf_z.mp c_22
        refine sW_go b_Mo_others_25 (st' := ([.int (-1000001)], [some (.ref 119), some (.int t), some (.int w), none, none, none], M0)) (φ := True) rfl trivial ?_
        refine sW_retI d_Mo_others_27 rfl (vp_nar_int _) ?_
        exact ⟨rfl, f0, h0⟩
theorem mo_empties (G : mx_G) {M : mx_M} {σ : Sg} (h : MInv M σ) (hg : GOk σ) : sOk G m_Mo_empties [.ref 119] M (MOk M (sp_empties σ)) := by
  obtain ⟨M0, e0, h0, f0, g0⟩ := h.th
  have hR : RowAt M0 123 0 (gH σ) := h0.2.2.1.1
  have h8 := hg.1.1.1
  refine sOk_of ⟨by decide +kernel, by decide +kernel, Nat.le_of_ble_eq_true rfl⟩ ?_
  show sW G m_Mo_empties 0 ([], [some (.ref 119)], M) _
  refine sW_go b_Mo_empties_0 (st' := ([.ref 119], [some (.ref 119)], mx_wr M 119 0 (nI 0))) (φ := mx_ocl LAY 119 = 10 ∧ True) rfl ⟨oc_119, trivial⟩ ?_
  refine sW_eq (st' := ([.ref 119], [some (.ref 119)], M0)) (by simp (disch := omega) only [e0]) ?_
  refine sW_callV 10 [] [] d_Mo_empties_6 c_Mo_empties_6 ⟨rfl, rfl, rfl, Nat.le_of_ble_eq_true rfl, rfl, rfl⟩ oc_119 (k_isThere G hR h8) ?_
  rintro _ M₁ ⟨rfl, h₁⟩
  rw [h₁]
  show sW G m_Mo_empties 9 ([.int (tf ((gH σ).1 ≠ 0))], [some (.ref 119)], M0) _
  refine sW_if_ne 15 d_Mo_empties_9 (by decide) (fun c_9 => ?_) (fun c_9 => ?_)
  · skip
    replace c_9 := tf_nz.mp c_9
    refine sW_go b_Mo_empties_15 (st' := ([.ref 123, .ref 119], [some (.ref 119)], M0)) (φ := mx_ocl LAY 119 = 10 ∧ True) rfl ⟨oc_119, trivial⟩ ?_
    refine sW_callV 10 [.ref 123] [] d_Mo_empties_20 c_Mo_empties_20 ⟨rfl, rfl, rfl, Nat.le_of_ble_eq_true rfl, rfl, rfl⟩ oc_119 (k_rkH G h0 hg) ?_
    rintro _ M1 ⟨rfl, f1, h1, r1, q1⟩
    show sW G m_Mo_empties 23 ([], [some (.ref 119)], M1) _
    refine sW_go b_Mo_empties_23 (st' := ([.ref 123, .ref 119], [some (.ref 119)], M1)) (φ := mx_ocl LAY 119 = 10 ∧ True) rfl ⟨oc_119, trivial⟩ ?_
    refine sW_callV 10 [.ref 123] [] d_Mo_empties_28 c_Mo_empties_28 ⟨rfl, rfl, rfl, Nat.le_of_ble_eq_true rfl, rfl, rfl⟩ oc_119 (k_emptySet G ln_123 r1 hg.1.1 q1) ?_
    rintro _ M₁ ⟨rfl, h₁⟩
    rw [h₁]
    show sW G m_Mo_empties 31 ([.int (nI (empM (gH σ)))], [some (.ref 119)], M1) _
    refine sW_retI d_Mo_empties_31 rfl (vp_nar_int _) ?_
    have e : sp_empties σ = (nI (empM (gH σ)), σ) := by unfold sp_empties; rw [if_neg c_9]
    rw [e]
    exact ⟨rfl, f0.tr f1, h1⟩
  · skip
    replace c_9 := tf_z.mp c_9
    refine sW_go b_Mo_empties_12 (st' := ([.int (-1000002)], [some (.ref 119)], M0)) (φ := True) rfl trivial ?_
    refine sW_retI d_Mo_empties_14 rfl (vp_nar_int _) ?_
    have e : sp_empties σ = ((-1000002), σ) := by unfold sp_empties; rw [if_pos (Classical.not_not.mp c_9)]
    rw [e]
    exact ⟨rfl, f0, h0⟩
theorem gatN_cnt {H : Nat → Nat} {K : Nat → Prop} (h : ∀ c, c < 256 → (H c ≠ 0 ↔ K c)) : ∀ n, n ≤ 256 → (gatN H n).length = cntK K n ∧ ∀ i, i < (gatN H n).length → cntK K ((gatN H n).getD i 0) = i
  | 0, _ => ⟨rfl, fun i hi => absurd hi (Nat.not_lt_zero i)⟩
  | n + 1, hn => by
    obtain ⟨h1, h2⟩ := gatN_cnt h n (by omega)
    have e : cntK K (n + 1) = cntK K n + cif (K n) 1 0 := rfl
    by_cases q : H n ≠ 0
    · rw [gatN_1 q, e, cif_t ((h n (by omega)).mp q)]
      have hl : (gatN H n ++ [n]).length = (gatN H n).length + 1 := by rw [List.length_append]; rfl
      refine ⟨by omega, fun i hi => ?_⟩
      by_cases hx : i = (gatN H n).length
      · have e2 : (gatN H n ++ [n]).getD i 0 = n := by
          rw [hx, List.getD_eq_getElem?_getD, List.getElem?_append_right (Nat.le_refl _), Nat.sub_self]
          rfl
        rw [e2]
        omega
      · rw [getD_app (by omega)]
        exact h2 i (by omega)
    · rw [gatN_0 q, e, cif_f (fun z => q ((h n (by omega)).mpr z))]
      exact ⟨by omega, h2⟩
theorem MC.nth {M : mx_M} {hs : Hs} {n : Nat} {H S : Nat → Nat} (hw : HsOk hs) (h : MC M hs n H S) : (gat H).length = cntK (Kw hs) 256 ∧ ∀ i, i < (gat H).length → NthR (Kw hs) i (nI ((gat H).getD i 0)) := by
  have hk : ∀ c, c < 256 → (H c ≠ 0 ↔ Kw hs c) := fun c hc => by
    rw [← h.mem hw, mem_gat]
    exact ⟨fun q => ⟨hc, q⟩, fun q => q.2⟩
  have hg : gat H = gatN H 256 := rfl
  obtain ⟨a, b⟩ := gatN_cnt hk 256 (Nat.le_refl _)
  rw [← hg] at a b
  exact ⟨a, fun i hi => Or.inl ⟨_, (gat_at hi).1, (h.mem hw _).mp (getD_mem hi), b i hi, rfl⟩⟩
theorem mo_cellAt (G : mx_G) {M : mx_M} {σ : Sg} (h : MInv M σ) (hg : GOk σ) (k : Int32) : sOk G m_Mo_cellAt [.ref 119, .int k] M (MOk M (sp_cellAt σ k)) := by
  obtain ⟨M0, e0, h0, f0, g0⟩ := h.th
  have hR : RowAt M0 123 0 (gH σ) := h0.2.2.1.1
  have h8 := hg.1.1.1
  have em : (-1 : Int32).toInt = -1 := by decide
  refine sOk_of ⟨by decide +kernel, by decide +kernel, Nat.le_of_ble_eq_true rfl⟩ ?_
  show sW G m_Mo_cellAt 0 ([], [some (.ref 119), some (.int k)], M) _
  refine sW_go b_Mo_cellAt_0 (st' := ([.ref 119], [some (.ref 119), some (.int k)], mx_wr M 119 0 (nI 0))) (φ := mx_ocl LAY 119 = 10 ∧ True) rfl ⟨oc_119, trivial⟩ ?_
  refine sW_eq (st' := ([.ref 119], [some (.ref 119), some (.int k)], M0)) (by simp (disch := omega) only [e0]) ?_
  refine sW_callV 10 [] [] d_Mo_cellAt_6 c_Mo_cellAt_6 ⟨rfl, rfl, rfl, Nat.le_of_ble_eq_true rfl, rfl, rfl⟩ oc_119 (k_isThere G hR h8) ?_
  rintro _ M₁ ⟨rfl, h₁⟩
  rw [h₁]
  show sW G m_Mo_cellAt 9 ([.int (tf ((gH σ).1 ≠ 0))], [some (.ref 119), some (.int k)], M0) _
  refine sW_if_ne 15 d_Mo_cellAt_9 (by decide) (fun c_9 => ?_) (fun c_9 => ?_)
  · skip
    replace c_9 := tf_nz.mp c_9
    refine sW_go b_Mo_cellAt_15 (st' := ([.int (-1), .int k], [some (.ref 119), some (.int k)], M0)) (φ := True) rfl trivial ?_
    refine sW_ic_ge 23 d_Mo_cellAt_17 (by decide) (fun c_17 => ?_) (fun c_17 => ?_)
    · skip
      refine sW_go b_Mo_cellAt_23 (st' := ([.ref 123, .ref 119], [some (.ref 119), some (.int k)], M0)) (φ := mx_ocl LAY 119 = 10 ∧ True) rfl ⟨oc_119, trivial⟩ ?_
      refine sW_callV 10 [.ref 123] [] d_Mo_cellAt_28 c_Mo_cellAt_28 ⟨rfl, rfl, rfl, Nat.le_of_ble_eq_true rfl, rfl, rfl⟩ oc_119 (k_rkH G h0 hg) ?_
      rintro _ M1 ⟨rfl, f1, h1, r1, q1⟩
      show sW G m_Mo_cellAt 31 ([], [some (.ref 119), some (.int k)], M1) _
      obtain ⟨n, H, S, hM⟩ := q1 c_9
      have hM : MC M1 (gH σ) n H S := hM
      obtain ⟨n1, n2⟩ := hM.nth hg.1.1
      have e22 := hM.2.2.2.1.1
      have hlen := gat_len H
      have hge : ¬ k < -1 := fun q => by
        rw [Int32.lt_iff_toInt_lt] at q
        rw [Int32.le_iff_toInt_le] at c_17
        omega
      by_cases hk1 : k = -1
      · subst hk1
        have e : sp_cellAt σ (-1) = (nI (cntK (Kw (gH σ)) 256), σ) := by unfold sp_cellAt; rw [if_neg c_9, cif_f hge, cif_t rfl]
        rw [e, ← n1]
        refine sW_go b_Mo_cellAt_31 (st' := ([.int (-1), .int (-1)], [some (.ref 119), some (.int (-1))], M1)) (φ := True) rfl trivial ?_
        refine sW_ic_ne 43 d_Mo_cellAt_33 (by decide) (fun c_33 => ?_) (fun c_33 => ?_)
        · skip
          exact absurd (by decide +kernel) c_33
        · skip
          refine sW_go b_Mo_cellAt_36 (st' := ([.int (M1 119 22)], [some (.ref 119), some (.int (-1))], M1)) (φ := mx_ocl LAY 119 = 10 ∧ True) rfl ⟨oc_119, trivial⟩ ?_
          refine sW_eq (st' := ([.int (nI (gat H).length)], [some (.ref 119), some (.int (-1))], M1)) (by simp (disch := omega) only [e22]) ?_
          refine sW_goto 62 d_Mo_cellAt_40 (by decide) ?_
          refine sW_retI d_Mo_cellAt_62 rfl (vp_nar_int _) ?_
          exact ⟨rfl, f0.tr f1, h1⟩
      · obtain ⟨j, hj, rfl⟩ := nat_of (i := k) (by
          rw [Int32.lt_iff_toInt_lt] at hge
          have : k.toInt ≠ (-1 : Int32).toInt := fun q => hk1 (Int32.toInt_inj.mp q)
          omega)
        have e : sp_cellAt σ (nI j) = (nthV (Kw (gH σ)) j, σ) := by unfold sp_cellAt; rw [if_neg c_9, cif_f hge, cif_f hk1, show tn (nI j) = j from nI_clamp hj]
        rw [e]
        by_cases hjn : j < (gat H).length
        · have ec := hM.2.2.2.1.2 j hjn
          have en := nthV_eq (n2 j hjn)
          refine sW_go b_Mo_cellAt_31 (st' := ([.int (-1), .int (nI j)], [some (.ref 119), some (.int (nI j))], M1)) (φ := True) rfl trivial ?_
          refine sW_ic_ne 43 d_Mo_cellAt_33 (by decide) (fun c_33 => ?_) (fun c_33 => ?_)
          · skip
            refine sW_go b_Mo_cellAt_43 (st' := ([.int (M1 119 22), .int (nI j)], [some (.ref 119), some (.int (nI j))], M1)) (φ := mx_ocl LAY 119 = 10 ∧ True) rfl ⟨oc_119, trivial⟩ ?_
            refine sW_eq (st' := ([.int (nI (gat H).length), .int (nI j)], [some (.ref 119), some (.int (nI j))], M1)) (by simp (disch := omega) only [e22]) ?_
            refine sW_ic_ge 60 d_Mo_cellAt_48 (by decide) (fun c_48 => ?_) (fun c_48 => ?_)
            · skip
              simp (disch := omega) only [nI_leI] at c_48
              refine sW_go b_Mo_cellAt_60 (st' := ([.int (-1000000)], [some (.ref 119), some (.int (nI j))], M1)) (φ := True) rfl trivial ?_
              refine sW_retI d_Mo_cellAt_62 rfl (vp_nar_int _) ?_
              omega
            · skip
              simp (disch := omega) only [nI_leI] at c_48
              refine sW_go b_Mo_cellAt_51 (st' := ([.int (M1 130 (nI j).toNatClampNeg)], [some (.ref 119), some (.int (nI j))], M1)) (φ := mx_ocl LAY 119 = 10 ∧ vp_in (nI j) (mx_len LAY false 130) ∧ True) rfl ⟨oc_119, (by simp (disch := omega) only [ln_130]; exact vp_in_nI (by omega) (by decide)), trivial⟩ ?_
              refine sW_eq (st' := ([.int (nI ((gat H).getD j 0))], [some (.ref 119), some (.int (nI j))], M1)) (by simp (disch := omega) only [ec, nI_clamp]) ?_
              refine sW_goto 62 d_Mo_cellAt_57 (by decide) ?_
              refine sW_retI d_Mo_cellAt_62 rfl (vp_nar_int _) ?_
              exact ⟨by rw [en], f0.tr f1, h1⟩
          · skip
            exact absurd c_33 hk1
        · have en := nthV_eq (K := Kw (gH σ)) (k := j) (x := -1000000) (Or.inr ⟨by omega, rfl⟩)
          refine sW_go b_Mo_cellAt_31 (st' := ([.int (-1), .int (nI j)], [some (.ref 119), some (.int (nI j))], M1)) (φ := True) rfl trivial ?_
          refine sW_ic_ne 43 d_Mo_cellAt_33 (by decide) (fun c_33 => ?_) (fun c_33 => ?_)
          · skip
            refine sW_go b_Mo_cellAt_43 (st' := ([.int (M1 119 22), .int (nI j)], [some (.ref 119), some (.int (nI j))], M1)) (φ := mx_ocl LAY 119 = 10 ∧ True) rfl ⟨oc_119, trivial⟩ ?_
            refine sW_eq (st' := ([.int (nI (gat H).length), .int (nI j)], [some (.ref 119), some (.int (nI j))], M1)) (by simp (disch := omega) only [e22]) ?_
            refine sW_ic_ge 60 d_Mo_cellAt_48 (by decide) (fun c_48 => ?_) (fun c_48 => ?_)
            · skip
              simp (disch := omega) only [nI_leI] at c_48
              refine sW_go b_Mo_cellAt_60 (st' := ([.int (-1000000)], [some (.ref 119), some (.int (nI j))], M1)) (φ := True) rfl trivial ?_
              refine sW_retI d_Mo_cellAt_62 rfl (vp_nar_int _) ?_
              exact ⟨by rw [← en], f0.tr f1, h1⟩
            · skip
              simp (disch := omega) only [nI_leI] at c_48
              omega
          · skip
            exact absurd c_33 hk1
    · skip
      refine sW_go b_Mo_cellAt_20 (st' := ([.int (-1000001)], [some (.ref 119), some (.int k)], M0)) (φ := True) rfl trivial ?_
      refine sW_retI d_Mo_cellAt_22 rfl (vp_nar_int _) ?_
      have e : sp_cellAt σ k = ((-1000001), σ) := by
        unfold sp_cellAt
        rw [if_neg c_9, cif_t]
        rw [Int32.lt_iff_toInt_lt]
        rw [Int32.le_iff_toInt_le] at c_17
        omega
      rw [e]
      exact ⟨rfl, f0, h0⟩
  · skip
    replace c_9 := tf_z.mp c_9
    refine sW_go b_Mo_cellAt_12 (st' := ([.int (-1000002)], [some (.ref 119), some (.int k)], M0)) (φ := True) rfl trivial ?_
    refine sW_retI d_Mo_cellAt_14 rfl (vp_nar_int _) ?_
    have e : sp_cellAt σ k = ((-1000002), σ) := by unfold sp_cellAt; rw [if_pos (Classical.not_not.mp c_9)]
    rw [e]
    exact ⟨rfl, f0, h0⟩

