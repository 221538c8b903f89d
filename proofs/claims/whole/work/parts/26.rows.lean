/-! ===== rows ===== -/
noncomputable def cif {α : Type} (c : Prop) (a b : α) : α := @ite _ c (Classical.propDecidable c) a b
theorem cif_t {α : Type} {c : Prop} {a b : α} (h : c) : cif c a b = a := if_pos h
theorem cif_f {α : Type} {c : Prop} {a b : α} (h : ¬ c) : cif c a b = b := if_neg h
/-- lanes (-1: missing), lengths, items -/
abbrev Rw : Type := (Nat → Int32) × (Nat → Nat) × (Nat → Nat → Int32)
def RowsAt (M : mx_M) (la le it : Nat) (R : Rw) : Prop := ∀ r, r < 8 → M la r = R.1 r ∧ (R.1 r = -1 ∨ vp_in (R.1 r) 3) ∧ M le r = nI (R.2.1 r) ∧ R.2.1 r ≤ 40 ∧ (R.1 r ≠ -1 → ∀ i, i < R.2.1 r → M it (r * 40 + i) = R.2.2 r i)
theorem RowsAt.fr {M M' : mx_M} {la le it lo hi : Nat} {R : Rw} (h : RowsAt M la le it R) (hf : Fr M M' lo hi) (hd : (la < lo ∨ hi ≤ la) ∧ (le < lo ∨ hi ≤ le) ∧ (it < lo ∨ hi ≤ it)) : RowsAt M' la le it R := by
  unfold RowsAt
  rw [hf la hd.1, hf le hd.2.1, hf it hd.2.2]
  exact h
def placeP (len : Nat) (i n : Int32) : Prop := 0 ≤ i.toInt ∧ 0 ≤ n.toInt ∧ i.toInt + n.toInt ≤ len
theorem sub_ti {len : Nat} {i : Int32} (hl : len < 2 ^ 30) (h0 : ¬ i < 0) (h1 : ¬ nI len < i) : (nI len - i).toInt = (len : Int) - i.toInt := by
  obtain ⟨j, hj, rfl⟩ := nI_of h0
  rw [nI_ltI (by omega) hj] at h1
  rw [pk_sub_toInt hl (by omega), nI_toInt hj]
theorem k_isNumber (G : mx_G) {M : mx_M} (t : Int32) : sOk G m_Rows_isNumber [.int t] M (fun r M' => r = some (.int (tf (vp_in t 8))) ∧ M' = M) := by
  refine sOk_of ⟨by decide +kernel, by decide +kernel, Nat.le_of_ble_eq_true rfl⟩ ?_
  show sW G m_Rows_isNumber 0 ([], [some (.int t)], M) _
  refine sW_go b_Rows_isNumber_0 (st' := ([.int t], [some (.int t)], M)) (φ := True) rfl trivial ?_
  refine sW_if_lt 14 d_Rows_isNumber_1 (by decide) (fun c_1 => ?_) (fun c_1 => ?_)
  · skip
    refine sW_go b_Rows_isNumber_14 (st' := ([.int (nI 0)], [some (.int t)], M)) (φ := True) rfl trivial ?_
    refine sW_retI d_Rows_isNumber_15 rfl nb_0 ?_
    exact ⟨by rw [tf_f (vi_neg c_1)], rfl⟩
  · skip
    refine sW_go b_Rows_isNumber_4 (st' := ([.int (nI 8), .int t], [some (.int t)], M)) (φ := True) rfl trivial ?_
    refine sW_ic_ge 14 d_Rows_isNumber_7 (by decide) (fun c_7 => ?_) (fun c_7 => ?_)
    · skip
      refine sW_go b_Rows_isNumber_14 (st' := ([.int (nI 0)], [some (.int t)], M)) (φ := True) rfl trivial ?_
      refine sW_retI d_Rows_isNumber_15 rfl nb_0 ?_
      exact ⟨by rw [tf_f (vi_ge (by decide) c_7)], rfl⟩
    · skip
      refine sW_go b_Rows_isNumber_10 (st' := ([.int (nI 1)], [some (.int t)], M)) (φ := True) rfl trivial ?_
      refine sW_goto 15 d_Rows_isNumber_11 (by decide) ?_
      refine sW_retI d_Rows_isNumber_15 rfl nb_1 ?_
      exact ⟨by rw [tf_t (vi_mk (by decide) c_1 c_7)], rfl⟩
theorem k_isLane (G : mx_G) {M : mx_M} (t : Int32) : sOk G m_Rows_isLane [.int t] M (fun r M' => r = some (.int (tf (vp_in t 3))) ∧ M' = M) := by
  refine sOk_of ⟨by decide +kernel, by decide +kernel, Nat.le_of_ble_eq_true rfl⟩ ?_
  show sW G m_Rows_isLane 0 ([], [some (.int t)], M) _
  refine sW_go b_Rows_isLane_0 (st' := ([.int t], [some (.int t)], M)) (φ := True) rfl trivial ?_
  refine sW_if_lt 13 d_Rows_isLane_1 (by decide) (fun c_1 => ?_) (fun c_1 => ?_)
  · skip
    refine sW_go b_Rows_isLane_13 (st' := ([.int (nI 0)], [some (.int t)], M)) (φ := True) rfl trivial ?_
    refine sW_retI d_Rows_isLane_14 rfl nb_0 ?_
    exact ⟨by rw [tf_f (vi_neg c_1)], rfl⟩
  · skip
    refine sW_go b_Rows_isLane_4 (st' := ([.int (nI 2), .int t], [some (.int t)], M)) (φ := True) rfl trivial ?_
    refine sW_ic_gt 13 d_Rows_isLane_6 (by decide) (fun c_6 => ?_) (fun c_6 => ?_)
    · skip
      refine sW_go b_Rows_isLane_13 (st' := ([.int (nI 0)], [some (.int t)], M)) (φ := True) rfl trivial ?_
      refine sW_retI d_Rows_isLane_14 rfl nb_0 ?_
      exact ⟨by rw [tf_f]; (simp (disch := omega) only [vp_in_iff, Int32.lt_iff_toInt_lt, Int32.le_iff_toInt_le, Int32.toInt_zero, nI_toInt] at *; omega), rfl⟩
    · skip
      refine sW_go b_Rows_isLane_9 (st' := ([.int (nI 1)], [some (.int t)], M)) (φ := True) rfl trivial ?_
      refine sW_goto 14 d_Rows_isLane_10 (by decide) ?_
      refine sW_retI d_Rows_isLane_14 rfl nb_1 ?_
      exact ⟨by rw [tf_t]; (simp (disch := omega) only [vp_in_iff, Int32.lt_iff_toInt_lt, Int32.le_iff_toInt_le, Int32.toInt_zero, nI_toInt] at *; omega), rfl⟩
theorem k_isPlace (G : mx_G) {M : mx_M} {r len : Nat} (hr : r < 8) (hl : M 3 r = nI len) (h40 : len ≤ 40) (i n : Int32) : sOk G m_Rows_isPlace [.ref 1, .int (nI r), .int i, .int n] M (fun q M' => q = some (.int (tf (placeP len i n))) ∧ M' = M) := by
  refine sOk_of ⟨by decide +kernel, by decide +kernel, Nat.le_of_ble_eq_true rfl⟩ ?_
  show sW G m_Rows_isPlace 0 ([], [some (.ref 1), some (.int (nI r)), some (.int i), some (.int n)], M) _
  refine sW_go b_Rows_isPlace_0 (st' := ([.int i], [some (.ref 1), some (.int (nI r)), some (.int i), some (.int n)], M)) (φ := True) rfl trivial ?_
  refine sW_if_lt 34 d_Rows_isPlace_1 (by decide) (fun c_1 => ?_) (fun c_1 => ?_)
  · skip
    refine sW_go b_Rows_isPlace_34 (st' := ([.int (nI 0)], [some (.ref 1), some (.int (nI r)), some (.int i), some (.int n)], M)) (φ := True) rfl trivial ?_
    refine sW_retI d_Rows_isPlace_35 rfl nb_0 ?_
    exact ⟨by rw [tf_f]; unfold placeP; (simp (disch := omega) only [vp_in_iff, Int32.lt_iff_toInt_lt, Int32.le_iff_toInt_le, Int32.toInt_zero, nI_toInt] at *; omega), rfl⟩
  · skip
    refine sW_go b_Rows_isPlace_4 (st' := ([.int n], [some (.ref 1), some (.int (nI r)), some (.int i), some (.int n)], M)) (φ := True) rfl trivial ?_
    refine sW_if_lt 34 d_Rows_isPlace_5 (by decide) (fun c_5 => ?_) (fun c_5 => ?_)
    · skip
      refine sW_go b_Rows_isPlace_34 (st' := ([.int (nI 0)], [some (.ref 1), some (.int (nI r)), some (.int i), some (.int n)], M)) (φ := True) rfl trivial ?_
      refine sW_retI d_Rows_isPlace_35 rfl nb_0 ?_
      exact ⟨by rw [tf_f]; unfold placeP; (simp (disch := omega) only [vp_in_iff, Int32.lt_iff_toInt_lt, Int32.le_iff_toInt_le, Int32.toInt_zero, nI_toInt] at *; omega), rfl⟩
    · skip
      refine sW_go b_Rows_isPlace_8 (st' := ([.int (M 3 (nI r).toNatClampNeg), .int i], [some (.ref 1), some (.int (nI r)), some (.int i), some (.int n)], M)) (φ := mx_ocl LAY 1 = 5 ∧ vp_in (nI r) (mx_len LAY false 3) ∧ True) rfl ⟨oc_1, (by simp (disch := omega) only [ln_3]; exact vp_in_nI (by omega) (by decide)), trivial⟩ ?_
      refine sW_eq (st' := ([.int (nI len), .int i], [some (.ref 1), some (.int (nI r)), some (.int i), some (.int n)], M)) (by simp (disch := omega) only [hl, nI_clamp]) ?_
      refine sW_ic_gt 34 d_Rows_isPlace_15 (by decide) (fun c_15 => ?_) (fun c_15 => ?_)
      · skip
        refine sW_go b_Rows_isPlace_34 (st' := ([.int (nI 0)], [some (.ref 1), some (.int (nI r)), some (.int i), some (.int n)], M)) (φ := True) rfl trivial ?_
        refine sW_retI d_Rows_isPlace_35 rfl nb_0 ?_
        exact ⟨by rw [tf_f]; unfold placeP; (simp (disch := omega) only [vp_in_iff, Int32.lt_iff_toInt_lt, Int32.le_iff_toInt_le, Int32.toInt_zero, nI_toInt] at *; omega), rfl⟩
      · skip
        refine sW_go b_Rows_isPlace_18 (st' := ([.int (M 3 (nI r).toNatClampNeg - i), .int n], [some (.ref 1), some (.int (nI r)), some (.int i), some (.int n)], M)) (φ := mx_ocl LAY 1 = 5 ∧ vp_in (nI r) (mx_len LAY false 3) ∧ True) rfl ⟨oc_1, (by simp (disch := omega) only [ln_3]; exact vp_in_nI (by omega) (by decide)), trivial⟩ ?_
        refine sW_eq (st' := ([.int (nI len - i), .int n], [some (.ref 1), some (.int (nI r)), some (.int i), some (.int n)], M)) (by simp (disch := omega) only [hl, nI_clamp]) ?_
        refine sW_ic_gt 34 d_Rows_isPlace_27 (by decide) (fun c_27 => ?_) (fun c_27 => ?_)
        · skip
          refine sW_go b_Rows_isPlace_34 (st' := ([.int (nI 0)], [some (.ref 1), some (.int (nI r)), some (.int i), some (.int n)], M)) (φ := True) rfl trivial ?_
          refine sW_retI d_Rows_isPlace_35 rfl nb_0 ?_
          have e := sub_ti (by omega) c_1 c_15
          exact ⟨by rw [tf_f]; unfold placeP; (simp (disch := omega) only [vp_in_iff, Int32.lt_iff_toInt_lt, Int32.le_iff_toInt_le, Int32.toInt_zero, nI_toInt] at *; omega), rfl⟩
        · skip
          refine sW_go b_Rows_isPlace_30 (st' := ([.int (nI 1)], [some (.ref 1), some (.int (nI r)), some (.int i), some (.int n)], M)) (φ := True) rfl trivial ?_
          refine sW_goto 35 d_Rows_isPlace_31 (by decide) ?_
          refine sW_retI d_Rows_isPlace_35 rfl nb_1 ?_
          have e := sub_ti (by omega) c_1 c_15
          exact ⟨by rw [tf_t]; unfold placeP; (simp (disch := omega) only [vp_in_iff, Int32.lt_iff_toInt_lt, Int32.le_iff_toInt_le, Int32.toInt_zero, nI_toInt] at *; omega), rfl⟩
/-- what is found of n items of a row, from i on -/
noncomputable def fndN (R : Rw) (r : Nat) (i n : Int32) : Nat := cif (R.1 r = -1) 1 (cif (placeP (R.2.1 r) i n) 0 2)
theorem k_findingAt (G : mx_G) {M : mx_M} {R : Rw} (hA : RowsAt M 2 3 4 R) {r : Nat} (hr : r < 8) (i n : Int32) : sOk G m_Rows_findingAt [.ref 1, .int (nI r), .int i, .int n] M (fun q M' => q = some (.int (nI (fndN R r i n))) ∧ M' = M) := by
  obtain ⟨a1, a2, a3, a4, a5⟩ := hA r hr
  refine sOk_of ⟨by decide +kernel, by decide +kernel, Nat.le_of_ble_eq_true rfl⟩ ?_
  show sW G m_Rows_findingAt 0 ([], [some (.ref 1), some (.int (nI r)), some (.int i), some (.int n)], M) _
  refine sW_go b_Rows_findingAt_0 (st' := ([.int (-1), .int (M 2 (nI r).toNatClampNeg)], [some (.ref 1), some (.int (nI r)), some (.int i), some (.int n)], M)) (φ := mx_ocl LAY 1 = 5 ∧ vp_in (nI r) (mx_len LAY false 2) ∧ True) rfl ⟨oc_1, (by simp (disch := omega) only [ln_2]; exact vp_in_nI (by omega) (by decide)), trivial⟩ ?_
  refine sW_eq (st' := ([.int (-1), .int (R.1 r)], [some (.ref 1), some (.int (nI r)), some (.int i), some (.int n)], M)) (by simp (disch := omega) only [a1, nI_clamp]) ?_
  refine sW_ic_ne 12 d_Rows_findingAt_7 (by decide) (fun c_7 => ?_) (fun c_7 => ?_)
  · skip
    refine sW_go b_Rows_findingAt_12 (st' := ([.int n, .int i, .int (nI r), .ref 1], [some (.ref 1), some (.int (nI r)), some (.int i), some (.int n)], M)) (φ := True) rfl trivial ?_
    refine sW_callV 5 [.int (nI r), .int i, .int n] [] d_Rows_findingAt_16 c_Rows_findingAt_16 ⟨rfl, rfl, rfl, Nat.le_of_ble_eq_true rfl, rfl, rfl⟩ oc_1 (k_isPlace G hr a3 a4 i n) ?_
    rintro _ M₁ ⟨rfl, h₁⟩
    rw [h₁]
    show sW G m_Rows_findingAt 19 ([.int (tf (placeP (R.2.1 r) i n))], [some (.ref 1), some (.int (nI r)), some (.int i), some (.int n)], M) _
    refine sW_if_eq 26 d_Rows_findingAt_19 (by decide) (fun c_19 => ?_) (fun c_19 => ?_)
    · skip
      replace c_19 := tf_z.mp c_19
      refine sW_go b_Rows_findingAt_26 (st' := ([.int (nI 2)], [some (.ref 1), some (.int (nI r)), some (.int i), some (.int n)], M)) (φ := True) rfl trivial ?_
      refine sW_retI d_Rows_findingAt_27 rfl (vp_nar_int _) ?_
      exact ⟨by unfold fndN; rw [cif_f c_7, cif_f c_19], rfl⟩
    · skip
      replace c_19 := tf_nz.mp c_19
      refine sW_go b_Rows_findingAt_22 (st' := ([.int (nI 0)], [some (.ref 1), some (.int (nI r)), some (.int i), some (.int n)], M)) (φ := True) rfl trivial ?_
      refine sW_goto 27 d_Rows_findingAt_23 (by decide) ?_
      refine sW_retI d_Rows_findingAt_27 rfl (vp_nar_int _) ?_
      exact ⟨by unfold fndN; rw [cif_f c_7, cif_t c_19], rfl⟩
  · skip
    refine sW_go b_Rows_findingAt_10 (st' := ([.int (nI 1)], [some (.ref 1), some (.int (nI r)), some (.int i), some (.int n)], M)) (φ := True) rfl trivial ?_
    refine sW_retI d_Rows_findingAt_11 rfl (vp_nar_int _) ?_
    exact ⟨by unfold fndN; rw [cif_t c_7], rfl⟩
noncomputable def fndM (R : Rw) (a : Nat) (i : Int32) (b : Nat) (j n : Int32) : Nat := cif (R.1 a = -1 ∨ R.1 b = -1) 1 (cif (R.1 a = R.1 b) (cif (placeP (R.2.1 a) i n ∧ placeP (R.2.1 b) j n) 0 2) 5)
theorem k_findingOfMove (G : mx_G) {M : mx_M} {R : Rw} (hA : RowsAt M 2 3 4 R) {a b : Nat} (ha : a < 8) (hb : b < 8) (i j n : Int32) : sOk G m_Rows_findingOfMove [.ref 1, .int (nI a), .int i, .int (nI b), .int j, .int n] M (fun q M' => q = some (.int (nI (fndM R a i b j n))) ∧ M' = M) := by
  obtain ⟨a1, a2, a3, a4, a5⟩ := hA a ha
  obtain ⟨b1, b2, b3, b4, b5⟩ := hA b hb
  refine sOk_of ⟨by decide +kernel, by decide +kernel, Nat.le_of_ble_eq_true rfl⟩ ?_
  show sW G m_Rows_findingOfMove 0 ([], [some (.ref 1), some (.int (nI a)), some (.int i), some (.int (nI b)), some (.int j), some (.int n)], M) _
  refine sW_go b_Rows_findingOfMove_0 (st' := ([.int (-1), .int (M 2 (nI a).toNatClampNeg)], [some (.ref 1), some (.int (nI a)), some (.int i), some (.int (nI b)), some (.int j), some (.int n)], M)) (φ := mx_ocl LAY 1 = 5 ∧ vp_in (nI a) (mx_len LAY false 2) ∧ True) rfl ⟨oc_1, (by simp (disch := omega) only [ln_2]; exact vp_in_nI (by omega) (by decide)), trivial⟩ ?_
  refine sW_eq (st' := ([.int (-1), .int (R.1 a)], [some (.ref 1), some (.int (nI a)), some (.int i), some (.int (nI b)), some (.int j), some (.int n)], M)) (by simp (disch := omega) only [a1, nI_clamp]) ?_
  refine sW_ic_eq 20 d_Rows_findingOfMove_7 (by decide) (fun c_7 => ?_) (fun c_7 => ?_)
  · skip
    refine sW_go b_Rows_findingOfMove_20 (st' := ([.int (nI 1)], [some (.ref 1), some (.int (nI a)), some (.int i), some (.int (nI b)), some (.int j), some (.int n)], M)) (φ := True) rfl trivial ?_
    refine sW_retI d_Rows_findingOfMove_21 rfl (vp_nar_int _) ?_
    exact ⟨by unfold fndM; rw [cif_t (Or.inl c_7)], rfl⟩
  · skip
    refine sW_go b_Rows_findingOfMove_10 (st' := ([.int (-1), .int (M 2 (nI b).toNatClampNeg)], [some (.ref 1), some (.int (nI a)), some (.int i), some (.int (nI b)), some (.int j), some (.int n)], M)) (φ := mx_ocl LAY 1 = 5 ∧ vp_in (nI b) (mx_len LAY false 2) ∧ True) rfl ⟨oc_1, (by simp (disch := omega) only [ln_2]; exact vp_in_nI (by omega) (by decide)), trivial⟩ ?_
    refine sW_eq (st' := ([.int (-1), .int (R.1 b)], [some (.ref 1), some (.int (nI a)), some (.int i), some (.int (nI b)), some (.int j), some (.int n)], M)) (by simp (disch := omega) only [b1, nI_clamp]) ?_
    refine sW_ic_ne 22 d_Rows_findingOfMove_17 (by decide) (fun c_17 => ?_) (fun c_17 => ?_)
    · skip
      refine sW_go b_Rows_findingOfMove_22 (st' := ([.int (M 2 (nI b).toNatClampNeg), .int (M 2 (nI a).toNatClampNeg)], [some (.ref 1), some (.int (nI a)), some (.int i), some (.int (nI b)), some (.int j), some (.int n)], M)) (φ := mx_ocl LAY 1 = 5 ∧ vp_in (nI a) (mx_len LAY false 2) ∧ mx_ocl LAY 1 = 5 ∧ vp_in (nI b) (mx_len LAY false 2) ∧ True) rfl ⟨oc_1, (by simp (disch := omega) only [ln_2]; exact vp_in_nI (by omega) (by decide)), oc_1, (by simp (disch := omega) only [ln_2]; exact vp_in_nI (by omega) (by decide)), trivial⟩ ?_
      refine sW_eq (st' := ([.int (R.1 b), .int (R.1 a)], [some (.ref 1), some (.int (nI a)), some (.int i), some (.int (nI b)), some (.int j), some (.int n)], M)) (by simp (disch := omega) only [a1, b1, nI_clamp]) ?_
      refine sW_ic_eq 39 d_Rows_findingOfMove_34 (by decide) (fun c_34 => ?_) (fun c_34 => ?_)
      · skip
        refine sW_go b_Rows_findingOfMove_39 (st' := ([.int n, .int i, .int (nI a), .ref 1], [some (.ref 1), some (.int (nI a)), some (.int i), some (.int (nI b)), some (.int j), some (.int n)], M)) (φ := True) rfl trivial ?_
        refine sW_callV 5 [.int (nI a), .int i, .int n] [] d_Rows_findingOfMove_44 c_Rows_findingOfMove_44 ⟨rfl, rfl, rfl, Nat.le_of_ble_eq_true rfl, rfl, rfl⟩ oc_1 (k_isPlace G ha a3 a4 i n) ?_
        rintro _ M₁ ⟨rfl, h₁⟩
        rw [h₁]
        show sW G m_Rows_findingOfMove 47 ([.int (tf (placeP (R.2.1 a) i n))], [some (.ref 1), some (.int (nI a)), some (.int i), some (.int (nI b)), some (.int j), some (.int n)], M) _
        refine sW_if_eq 66 d_Rows_findingOfMove_47 (by decide) (fun c_47 => ?_) (fun c_47 => ?_)
        · skip
          replace c_47 := tf_z.mp c_47
          refine sW_go b_Rows_findingOfMove_66 (st' := ([.int (nI 2)], [some (.ref 1), some (.int (nI a)), some (.int i), some (.int (nI b)), some (.int j), some (.int n)], M)) (φ := True) rfl trivial ?_
          refine sW_retI d_Rows_findingOfMove_67 rfl (vp_nar_int _) ?_
          exact ⟨by unfold fndM; rw [cif_f (fun q => q.elim c_7 c_17), cif_t c_34, cif_f (fun q => c_47 q.1)], rfl⟩
        · skip
          replace c_47 := tf_nz.mp c_47
          refine sW_go b_Rows_findingOfMove_50 (st' := ([.int n, .int j, .int (nI b), .ref 1], [some (.ref 1), some (.int (nI a)), some (.int i), some (.int (nI b)), some (.int j), some (.int n)], M)) (φ := True) rfl trivial ?_
          refine sW_callV 5 [.int (nI b), .int j, .int n] [] d_Rows_findingOfMove_56 c_Rows_findingOfMove_56 ⟨rfl, rfl, rfl, Nat.le_of_ble_eq_true rfl, rfl, rfl⟩ oc_1 (k_isPlace G hb b3 b4 j n) ?_
          rintro _ M₁ ⟨rfl, h₁⟩
          rw [h₁]
          show sW G m_Rows_findingOfMove 59 ([.int (tf (placeP (R.2.1 b) j n))], [some (.ref 1), some (.int (nI a)), some (.int i), some (.int (nI b)), some (.int j), some (.int n)], M) _
          refine sW_if_eq 66 d_Rows_findingOfMove_59 (by decide) (fun c_59 => ?_) (fun c_59 => ?_)
          · skip
            replace c_59 := tf_z.mp c_59
            refine sW_go b_Rows_findingOfMove_66 (st' := ([.int (nI 2)], [some (.ref 1), some (.int (nI a)), some (.int i), some (.int (nI b)), some (.int j), some (.int n)], M)) (φ := True) rfl trivial ?_
            refine sW_retI d_Rows_findingOfMove_67 rfl (vp_nar_int _) ?_
            exact ⟨by unfold fndM; rw [cif_f (fun q => q.elim c_7 c_17), cif_t c_34, cif_f (fun q => c_59 q.2)], rfl⟩
          · skip
            replace c_59 := tf_nz.mp c_59
            refine sW_go b_Rows_findingOfMove_62 (st' := ([.int (nI 0)], [some (.ref 1), some (.int (nI a)), some (.int i), some (.int (nI b)), some (.int j), some (.int n)], M)) (φ := True) rfl trivial ?_
            refine sW_goto 67 d_Rows_findingOfMove_63 (by decide) ?_
            refine sW_retI d_Rows_findingOfMove_67 rfl (vp_nar_int _) ?_
            exact ⟨by unfold fndM; rw [cif_f (fun q => q.elim c_7 c_17), cif_t c_34, cif_t ⟨c_47, c_59⟩], rfl⟩
      · skip
        refine sW_go b_Rows_findingOfMove_37 (st' := ([.int (nI 5)], [some (.ref 1), some (.int (nI a)), some (.int i), some (.int (nI b)), some (.int j), some (.int n)], M)) (φ := True) rfl trivial ?_
        refine sW_retI d_Rows_findingOfMove_38 rfl (vp_nar_int _) ?_
        exact ⟨by unfold fndM; rw [cif_f (fun q => q.elim c_7 c_17), cif_f c_34], rfl⟩
    · skip
      refine sW_go b_Rows_findingOfMove_20 (st' := ([.int (nI 1)], [some (.ref 1), some (.int (nI a)), some (.int i), some (.int (nI b)), some (.int j), some (.int n)], M)) (φ := True) rfl trivial ?_
      refine sW_retI d_Rows_findingOfMove_21 rfl (vp_nar_int _) ?_
      exact ⟨by unfold fndM; rw [cif_t (Or.inr c_17)], rfl⟩
/-- a row is made; an item is put; rows are moved; a row is lost -/
def rwMake (R : Rw) (r : Nat) (l : Int32) (n : Nat) : Rw := (upd R.1 r l, updN R.2.1 r n, fun a => if a = r then fun _ => 0 else R.2.2 a)
def rwPut (R : Rw) (r i : Nat) (v : Int32) : Rw := (R.1, R.2.1, fun a => if a = r then upd (R.2.2 r) i v else R.2.2 a)
def rwMove (R : Rw) (a i b j n : Nat) : Rw := (R.1, R.2.1, fun q => if q = b then va_cpy (R.2.2 a) (R.2.2 b) i j n else R.2.2 q)
def rwLose (R : Rw) (r : Nat) : Rw := (upd R.1 r (-1), R.2.1, R.2.2)
theorem k_make17 (G : mx_G) {M : mx_M} {R : Rw} (hA : RowsAt M 2 3 4 R) {r n : Nat} (hr : r < 8) (hn : n ≤ 40) {l : Int32} (hl : vp_in l 3) (k : Nat) (M2 : mx_M)
    (ih : ∀ M3 : mx_M, n - (k + 1) < n - k → k + 1 ≤ n → M3 2 = upd (M 2) r l → M3 3 = upd (M 3) r (nI n) → Fr M M3 2 5 → (∀ i, i < k + 1 → M3 4 (r * 40 + i) = 0) → (∀ i, (i < r * 40 ∨ r * 40 + 40 ≤ i) → M3 4 i = M 4 i) → sW G m_Rows_make 17 ([], [some (.ref 1), some (.int (nI r)), some (.int l), some (.int (nI n)), some (.int (nI (k + 1)))], M3) (fun q M' => q = none ∧ Fr M M' 2 5 ∧ RowsAt M' 2 3 4 (rwMake R r l n)))
    (hk : k ≤ n) (i1 : M2 2 = upd (M 2) r l) (i2 : M2 3 = upd (M 3) r (nI n)) (i3 : Fr M M2 2 5) (i4 : ∀ i, i < k → M2 4 (r * 40 + i) = 0) (i5 : ∀ i, (i < r * 40 ∨ r * 40 + 40 ≤ i) → M2 4 i = M 4 i) : sW G m_Rows_make 17 ([], [some (.ref 1), some (.int (nI r)), some (.int l), some (.int (nI n)), some (.int (nI k))], M2) (fun q M' => q = none ∧ Fr M M' 2 5 ∧ RowsAt M' 2 3 4 (rwMake R r l n)) := by
  by_cases hkn : k < n
  · skip
    refine sW_go b_Rows_make_17 (st' := ([.int (nI n), .int (nI k)], [some (.ref 1), some (.int (nI r)), some (.int l), some (.int (nI n)), some (.int (nI k))], M2)) (φ := True) rfl trivial ?_
    refine sW_ic_ge 42 d_Rows_make_20 (by decide) (fun c_20 => ?_) (fun c_20 => ?_)
    · skip
      simp (disch := omega) only [nI_leI] at c_20
      refine sW_retV d_Rows_make_42 rfl ?_
      omega
    · skip
      simp (disch := omega) only [nI_leI] at c_20
      refine sW_go b_Rows_make_23 (st' := ([], [some (.ref 1), some (.int (nI r)), some (.int l), some (.int (nI n)), some (.int (nI k + nI 1))], mx_wr M2 4 ((nI r * nI 40) + nI k).toNatClampNeg (nI 0))) (φ := mx_ocl LAY 1 = 5 ∧ vp_in ((nI r * nI 40) + nI k) (mx_len LAY false 4) ∧ True) rfl ⟨oc_1, (by simp (disch := omega) only [nI_add, pk_mul, ln_4]; exact vp_in_nI (by omega) (by decide)), trivial⟩ ?_
      refine sW_eq (st' := ([], [some (.ref 1), some (.int (nI r)), some (.int l), some (.int (nI n)), some (.int (nI (k + 1)))], mx_wr M2 4 (r * 40 + k) (nI 0))) (by simp (disch := omega) only [nI_add, nI_clamp, pk_mul]) ?_
      refine sW_goto 17 d_Rows_make_39 (by decide) ?_
      refine ih (mx_wr M2 4 (r * 40 + k) (nI 0)) (by omega) (by omega) ?_ ?_ (i3.wr (by decide) (by decide)) (fun i hi => ?_) (fun i hi => ?_)
      · rw [mx_wr_n _ _ _ (by decide)]; exact i1
      · rw [mx_wr_n _ _ _ (by decide)]; exact i2
      · rw [mx_wr_s]
        by_cases hx : i = k
        · rw [hx, pk_us]; rfl
        · rw [pk_un (by omega)]
          exact i4 i (by omega)
      · rw [mx_wr_s, pk_un (by omega)]
        exact i5 i hi
  · have hke : k = n := by omega
    subst hke
    refine sW_go b_Rows_make_17 (st' := ([.int (nI k), .int (nI k)], [some (.ref 1), some (.int (nI r)), some (.int l), some (.int (nI k)), some (.int (nI k))], M2)) (φ := True) rfl trivial ?_
    refine sW_ic_ge 42 d_Rows_make_20 (by decide) (fun c_20 => ?_) (fun c_20 => ?_)
    · skip
      simp (disch := omega) only [nI_leI] at c_20
      refine sW_retV d_Rows_make_42 rfl ?_
      refine ⟨rfl, i3, fun a ha => ?_⟩
      obtain ⟨a1, a2, a3, a4, a5⟩ := hA a ha
      by_cases hx : a = r
      · subst hx
        refine ⟨by rw [i1, pk_us]; exact pk_us.symm, Or.inr ?_, ?_, ?_, fun _ i hi => ?_⟩
        · show vp_in (upd R.1 a l a) 3
          rw [pk_us]; exact hl
        · rw [i2, pk_us]
          show nI k = nI (updN R.2.1 a k a)
          rw [updN_s]
        · show updN R.2.1 a k a ≤ 40
          rw [updN_s]; exact hn
        · have hi' : i < updN R.2.1 a k a := hi
          rw [updN_s] at hi'
          rw [i4 i hi']
          show (0 : Int32) = (if a = a then fun _ => 0 else R.2.2 a) i
          rw [if_pos rfl]
      · have e1 : (rwMake R r l k).1 a = R.1 a := pk_un hx
        have e2 : (rwMake R r l k).2.1 a = R.2.1 a := updN_n _ _ hx
        have e3 : (rwMake R r l k).2.2 a = R.2.2 a := if_neg hx
        rw [e1, e2, e3, i1, i2, pk_un hx, pk_un hx]
        refine ⟨a1, a2, a3, a4, fun q i hi => ?_⟩
        rw [i5 _ (by omega)]
        exact a5 q i hi
    · skip
      simp (disch := omega) only [nI_leI] at c_20
      exact absurd c_20 (by omega)
theorem k_make (G : mx_G) {M : mx_M} {R : Rw} (hA : RowsAt M 2 3 4 R) {r n : Nat} (hr : r < 8) (hn : n ≤ 40) {l : Int32} (hl : vp_in l 3) : sOk G m_Rows_make [.ref 1, .int (nI r), .int l, .int (nI n)] M (fun q M' => q = none ∧ Fr M M' 2 5 ∧ RowsAt M' 2 3 4 (rwMake R r l n)) := by
  refine sOk_of ⟨by decide +kernel, by decide +kernel, Nat.le_of_ble_eq_true rfl⟩ ?_
  show sW G m_Rows_make 0 ([], [some (.ref 1), some (.int (nI r)), some (.int l), some (.int (nI n)), none], M) _
  refine sW_go b_Rows_make_0 (st' := ([], [some (.ref 1), some (.int (nI r)), some (.int l), some (.int (nI n)), some (.int (nI 0))], mx_wr (mx_wr M 2 (nI r).toNatClampNeg l) 3 (nI r).toNatClampNeg (nI n))) (φ := mx_ocl LAY 1 = 5 ∧ vp_in (nI r) (mx_len LAY false 2) ∧ mx_ocl LAY 1 = 5 ∧ vp_in (nI r) (mx_len LAY false 3) ∧ True) rfl ⟨oc_1, (by simp (disch := omega) only [ln_2]; exact vp_in_nI (by omega) (by decide)), oc_1, (by simp (disch := omega) only [ln_3]; exact vp_in_nI (by omega) (by decide)), trivial⟩ ?_
  refine sW_eq (st' := ([], [some (.ref 1), some (.int (nI r)), some (.int l), some (.int (nI n)), some (.int (nI 0))], mx_wr (mx_wr M 2 r l) 3 r (nI n))) (by simp (disch := omega) only [nI_clamp]) ?_
  refine mx_ind (α := Nat × mx_M) (fun q => n - q.1) (fun q => q.1 ≤ n → q.2 2 = upd (M 2) r l → q.2 3 = upd (M 3) r (nI n) → Fr M q.2 2 5 → (∀ i, i < q.1 → q.2 4 (r * 40 + i) = 0) → (∀ i, (i < r * 40 ∨ r * 40 + 40 ≤ i) → q.2 4 i = M 4 i) → sW G m_Rows_make 17 ([], [some (.ref 1), some (.int (nI r)), some (.int l), some (.int (nI n)), some (.int (nI q.1))], q.2) _) ?_ (0, (mx_wr (mx_wr M 2 r l) 3 r (nI n))) (Nat.zero_le _) ?_ ?_ ?_ (fun i hi => absurd hi (Nat.not_lt_zero i)) (fun i _ => rfl)
  · rintro ⟨k, M2⟩ ih hk i1 i2 i3 i4 i5
    exact k_make17 G hA hr hn hl k M2 (fun M3 => ih (k + 1, M3)) hk i1 i2 i3 i4 i5
  · dsimp only
    rw [mx_wr_n _ _ _ (by decide), mx_wr_s]
  · dsimp only
    rw [mx_wr_s, mx_wr_n _ _ _ (by decide)]
  · exact (Fr.rf.wr (by decide) (by decide)).wr (by decide) (by decide)

