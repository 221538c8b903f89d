theorem fnd0 {R : Rw} {j : Nat} {i n : Int32} (h : fndN R j i n = 0) : R.1 j ≠ -1 ∧ placeP (R.2.1 j) i n := by
  unfold fndN at h
  by_cases h1 : R.1 j = -1
  · rw [cif_t h1] at h; exact absurd h (by decide)
  · rw [cif_f h1] at h
    by_cases h2 : placeP (R.2.1 j) i n
    · exact ⟨h1, h2⟩
    · rw [cif_f h2] at h; exact absurd h (by decide)
theorem fndN_le (R : Rw) (j : Nat) (i n : Int32) : fndN R j i n ≤ 2 := by
  unfold fndN cif
  split
  · decide
  · split <;> decide
theorem fndM0 {R : Rw} {a b : Nat} {i j n : Int32} (h : fndM R a i b j n = 0) : R.1 a ≠ -1 ∧ R.1 b ≠ -1 ∧ R.1 a = R.1 b ∧ placeP (R.2.1 a) i n ∧ placeP (R.2.1 b) j n := by
  unfold fndM at h
  by_cases h1 : R.1 a = -1 ∨ R.1 b = -1
  · rw [cif_t h1] at h; exact absurd h (by decide)
  · rw [cif_f h1] at h
    by_cases h2 : R.1 a = R.1 b
    · rw [cif_t h2] at h
      by_cases h3 : placeP (R.2.1 a) i n ∧ placeP (R.2.1 b) j n
      · exact ⟨fun q => h1 (Or.inl q), fun q => h1 (Or.inr q), h2, h3.1, h3.2⟩
      · rw [cif_f h3] at h; exact absurd h (by decide)
    · rw [cif_f h2] at h; exact absurd h (by decide)
theorem fndM_le (R : Rw) (a b : Nat) (i j n : Int32) : fndM R a i b j n ≤ 5 := by
  unfold fndM cif
  split
  · decide
  · split
    · split <;> decide
    · decide
theorem nat_of {i : Int32} (h : 0 ≤ i.toInt) : ∃ k : Nat, k < 2 ^ 31 ∧ i = nI k := nI_of (fun q => by
  rw [Int32.lt_iff_toInt_lt] at q
  have : (0 : Int32).toInt = 0 := by decide
  omega)
noncomputable def sp_set (σ : Sg) (r i v : Int32) : Int32 × Sg := cif (vp_in r 8) (cif (fndN (gR σ) (tn r) i (nI 1) = 0) (narL ((gR σ).1 (tn r)) v, wR (ws σ 0) (rwPut (gR σ) (tn r) (tn i) (narL ((gR σ).1 (tn r)) v))) ((-1000010) - nI (fndN (gR σ) (tn r) i (nI 1)), ws σ (fndN (gR σ) (tn r) i (nI 1)))) ((-1000001), σ)
theorem ts_set (G : mx_G) {M : mx_M} {σ : Sg} (h : CInv M σ) (r i v : Int32) : sOk G m_TS_set [.ref 0, .int r, .int i, .int v] M (COk M (sp_set σ r i v)) := by
  by_cases hr : vp_in r 8
  · obtain ⟨j, hj, rfl⟩ := vp_in_of hr (by decide)
    have ct : tn (nI j) = j := nI_clamp (by omega)
    have hle := fndN_le (gR σ) j i (nI 1)
    by_cases hf : fndN (gR σ) j i (nI 1) = 0
    · obtain ⟨p1, p2, p3, p4⟩ := fnd0 hf
      obtain ⟨k, hk, rfl⟩ := nat_of p2
      rw [nI_toInt hk, nI_toInt (by decide)] at p4
      have e : sp_set σ (nI j) (nI k) v = (narL ((gR σ).1 j) v, wR (ws σ 0) (rwPut (gR σ) j k (narL ((gR σ).1 j) v))) := by
        unfold sp_set; rw [cif_t hr, ct, cif_t hf, show tn (nI k) = k from nI_clamp hk]
      have z : (mx_wr M 0 13 (nI 0)) 0 13 = nI 0 := wr13
      have h' := h.st 0
      have hkl : k < (gR σ).2.1 j := by omega
      have kf := k_findingAt G h.1 hj (nI k) (nI 1)
      rw [hf] at kf
      rw [e]
      refine sOk_of ⟨by decide +kernel, by decide +kernel, Nat.le_of_ble_eq_true rfl⟩ ?_
      show sW G m_TS_set 0 ([], [some (.ref 0), some (.int (nI j)), some (.int (nI k)), some (.int v)], M) _
      refine sW_go b_TS_set_0 (st' := ([.int (nI j)], [some (.ref 0), some (.int (nI j)), some (.int (nI k)), some (.int v)], M)) (φ := True) rfl trivial ?_
      refine sW_callS [.int (nI j)] [] d_TS_set_1 c_TS_set_1 ⟨rfl, rfl, Nat.le_of_ble_eq_true rfl, rfl, rfl⟩ (k_isNumber G (nI j)) ?_
      rintro _ M₁ ⟨rfl, h₁⟩
      rw [h₁]
      show sW G m_TS_set 4 ([.int (tf (vp_in (nI j) 8))], [some (.ref 0), some (.int (nI j)), some (.int (nI k)), some (.int v)], M) _
      refine sW_if_ne 10 d_TS_set_4 (by decide) (fun c_4 => ?_) (fun c_4 => ?_)
      · skip
        replace c_4 := tf_nz.mp c_4
        refine sW_go b_TS_set_10 (st' := ([.int (nI 1), .int (nI k), .int (nI j), .ref 1, .ref 0], [some (.ref 0), some (.int (nI j)), some (.int (nI k)), some (.int v)], M)) (φ := mx_ocl LAY 0 = 9 ∧ True) rfl ⟨oc_0, trivial⟩ ?_
        refine sW_callV 5 [.int (nI j), .int (nI k), .int (nI 1)] [.ref 0] d_TS_set_18 c_TS_set_18 ⟨rfl, rfl, rfl, Nat.le_of_ble_eq_true rfl, rfl, rfl⟩ oc_1 (kf) ?_
        rintro _ M₁ ⟨rfl, h₁⟩
        rw [h₁]
        show sW G m_TS_set 21 ([.int (nI 0), .ref 0], [some (.ref 0), some (.int (nI j)), some (.int (nI k)), some (.int v)], M) _
        refine sW_go b_TS_set_21 (st' := ([.int ((mx_wr M 0 13 (nI 0)) 0 13)], [some (.ref 0), some (.int (nI j)), some (.int (nI k)), some (.int v)], mx_wr M 0 13 (nI 0))) (φ := mx_ocl LAY 0 = 9 ∧ mx_ocl LAY 0 = 9 ∧ True) rfl ⟨oc_0, oc_0, trivial⟩ ?_
        refine sW_eq (st' := ([.int (nI 0)], [some (.ref 0), some (.int (nI j)), some (.int (nI k)), some (.int v)], mx_wr M 0 13 (nI 0))) (by simp (disch := omega) only [z]) ?_
        refine sW_if_eq 41 d_TS_set_28 (by decide) (fun c_28 => ?_) (fun c_28 => ?_)
        · skip
          simp (disch := omega) only [nI_z] at c_28
          refine sW_go b_TS_set_41 (st' := ([.int v, .int (nI k), .int (nI j), .ref 1], [some (.ref 0), some (.int (nI j)), some (.int (nI k)), some (.int v)], mx_wr M 0 13 (nI 0))) (φ := mx_ocl LAY 0 = 9 ∧ True) rfl ⟨oc_0, trivial⟩ ?_
          refine sW_callV 5 [.int (nI j), .int (nI k), .int v] [] d_TS_set_48 c_TS_set_48 ⟨rfl, rfl, rfl, Nat.le_of_ble_eq_true rfl, rfl, rfl⟩ oc_1 (k_put G h'.1 hj hkl v) ?_
          rintro _ M2 ⟨rfl, g2⟩
          show sW G m_TS_set 51 ([.int (narL ((gR σ).1 j) v)], [some (.ref 0), some (.int (nI j)), some (.int (nI k)), some (.int v)], M2) _
          refine sW_retI d_TS_set_51 rfl (vp_nar_int _) ?_
          rw [g2]
          exact ⟨rfl, (Fr.rf.wr (by decide) (by decide)).wr (by decide) (by decide), h'.rows (Fr.rf.wr (by decide) (by decide)) (h'.1.put (by decide) hj hkl _)⟩
        · skip
          simp (disch := omega) only [nI_z] at c_28
          refine sW_go b_TS_set_31 (st' := ([.int ((-1000010) - (mx_wr M 0 13 (nI 0)) 0 13)], [some (.ref 0), some (.int (nI j)), some (.int (nI k)), some (.int v)], mx_wr M 0 13 (nI 0))) (φ := mx_ocl LAY 0 = 9 ∧ True) rfl ⟨oc_0, trivial⟩ ?_
          refine sW_eq (st' := ([.int ((-1000010) - nI 0)], [some (.ref 0), some (.int (nI j)), some (.int (nI k)), some (.int v)], mx_wr M 0 13 (nI 0))) (by simp (disch := omega) only [z]) ?_
          refine sW_goto 51 d_TS_set_38 (by decide) ?_
          refine sW_retI d_TS_set_51 rfl (vp_nar_int _) ?_
          exact absurd trivial c_28
      · skip
        replace c_4 := tf_z.mp c_4
        refine sW_go b_TS_set_7 (st' := ([.int (-1000001)], [some (.ref 0), some (.int (nI j)), some (.int (nI k)), some (.int v)], M)) (φ := True) rfl trivial ?_
        refine sW_retI d_TS_set_9 rfl (vp_nar_int _) ?_
        exact absurd hr c_4
    · have e : sp_set σ (nI j) i v = ((-1000010) - nI (fndN (gR σ) j i (nI 1)), ws σ (fndN (gR σ) j i (nI 1))) := by
        unfold sp_set; rw [cif_t hr, ct, cif_f hf]
      have kf := k_findingAt G h.1 hj i (nI 1)
      rw [e]
      generalize hff : fndN (gR σ) j i (nI 1) = f at hf hle kf ⊢
      have z : (mx_wr M 0 13 (nI f)) 0 13 = nI f := wr13
      refine sOk_of ⟨by decide +kernel, by decide +kernel, Nat.le_of_ble_eq_true rfl⟩ ?_
      show sW G m_TS_set 0 ([], [some (.ref 0), some (.int (nI j)), some (.int i), some (.int v)], M) _
      refine sW_go b_TS_set_0 (st' := ([.int (nI j)], [some (.ref 0), some (.int (nI j)), some (.int i), some (.int v)], M)) (φ := True) rfl trivial ?_
      refine sW_callS [.int (nI j)] [] d_TS_set_1 c_TS_set_1 ⟨rfl, rfl, Nat.le_of_ble_eq_true rfl, rfl, rfl⟩ (k_isNumber G (nI j)) ?_
      rintro _ M₁ ⟨rfl, h₁⟩
      rw [h₁]
      show sW G m_TS_set 4 ([.int (tf (vp_in (nI j) 8))], [some (.ref 0), some (.int (nI j)), some (.int i), some (.int v)], M) _
      refine sW_if_ne 10 d_TS_set_4 (by decide) (fun c_4 => ?_) (fun c_4 => ?_)
      · skip
        replace c_4 := tf_nz.mp c_4
        refine sW_go b_TS_set_10 (st' := ([.int (nI 1), .int i, .int (nI j), .ref 1, .ref 0], [some (.ref 0), some (.int (nI j)), some (.int i), some (.int v)], M)) (φ := mx_ocl LAY 0 = 9 ∧ True) rfl ⟨oc_0, trivial⟩ ?_
        refine sW_callV 5 [.int (nI j), .int i, .int (nI 1)] [.ref 0] d_TS_set_18 c_TS_set_18 ⟨rfl, rfl, rfl, Nat.le_of_ble_eq_true rfl, rfl, rfl⟩ oc_1 (kf) ?_
        rintro _ M₁ ⟨rfl, h₁⟩
        rw [h₁]
        show sW G m_TS_set 21 ([.int (nI f), .ref 0], [some (.ref 0), some (.int (nI j)), some (.int i), some (.int v)], M) _
        refine sW_go b_TS_set_21 (st' := ([.int ((mx_wr M 0 13 (nI f)) 0 13)], [some (.ref 0), some (.int (nI j)), some (.int i), some (.int v)], mx_wr M 0 13 (nI f))) (φ := mx_ocl LAY 0 = 9 ∧ mx_ocl LAY 0 = 9 ∧ True) rfl ⟨oc_0, oc_0, trivial⟩ ?_
        refine sW_eq (st' := ([.int (nI f)], [some (.ref 0), some (.int (nI j)), some (.int i), some (.int v)], mx_wr M 0 13 (nI f))) (by simp (disch := omega) only [z]) ?_
        refine sW_if_eq 41 d_TS_set_28 (by decide) (fun c_28 => ?_) (fun c_28 => ?_)
        · skip
          simp (disch := omega) only [nI_z] at c_28
          exact absurd c_28 hf
        · skip
          simp (disch := omega) only [nI_z] at c_28
          refine sW_go b_TS_set_31 (st' := ([.int ((-1000010) - (mx_wr M 0 13 (nI f)) 0 13)], [some (.ref 0), some (.int (nI j)), some (.int i), some (.int v)], mx_wr M 0 13 (nI f))) (φ := mx_ocl LAY 0 = 9 ∧ True) rfl ⟨oc_0, trivial⟩ ?_
          refine sW_eq (st' := ([.int ((-1000010) - nI f)], [some (.ref 0), some (.int (nI j)), some (.int i), some (.int v)], mx_wr M 0 13 (nI f))) (by simp (disch := omega) only [z]) ?_
          refine sW_goto 51 d_TS_set_38 (by decide) ?_
          refine sW_retI d_TS_set_51 rfl (vp_nar_int _) ?_
          exact ⟨rfl, Fr.rf.wr (by decide) (by decide), h.st f⟩
      · skip
        replace c_4 := tf_z.mp c_4
        refine sW_go b_TS_set_7 (st' := ([.int (-1000001)], [some (.ref 0), some (.int (nI j)), some (.int i), some (.int v)], M)) (φ := True) rfl trivial ?_
        refine sW_retI d_TS_set_9 rfl (vp_nar_int _) ?_
        exact absurd hr c_4
  · have e : sp_set σ r i v = ((-1000001), σ) := by unfold sp_set; rw [cif_f hr]
    rw [e]
    refine sOk_of ⟨by decide +kernel, by decide +kernel, Nat.le_of_ble_eq_true rfl⟩ ?_
    show sW G m_TS_set 0 ([], [some (.ref 0), some (.int r), some (.int i), some (.int v)], M) _
    refine sW_go b_TS_set_0 (st' := ([.int r], [some (.ref 0), some (.int r), some (.int i), some (.int v)], M)) (φ := True) rfl trivial ?_
    refine sW_callS [.int r] [] d_TS_set_1 c_TS_set_1 ⟨rfl, rfl, Nat.le_of_ble_eq_true rfl, rfl, rfl⟩ (k_isNumber G r) ?_
    rintro _ M₁ ⟨rfl, h₁⟩
    rw [h₁]
    show sW G m_TS_set 4 ([.int (tf (vp_in r 8))], [some (.ref 0), some (.int r), some (.int i), some (.int v)], M) _
    refine sW_if_ne 10 d_TS_set_4 (by decide) (fun c_4 => ?_) (fun c_4 => ?_)
    · skip
      replace c_4 := tf_nz.mp c_4
      exact absurd c_4 hr
    · skip
      replace c_4 := tf_z.mp c_4
      refine sW_go b_TS_set_7 (st' := ([.int (-1000001)], [some (.ref 0), some (.int r), some (.int i), some (.int v)], M)) (φ := True) rfl trivial ?_
      refine sW_retI d_TS_set_9 rfl (vp_nar_int _) ?_
      exact ⟨rfl, Fr.rf, h⟩
noncomputable def sp_drop (σ : Sg) (r : Int32) : Int32 × Sg := cif (vp_in r 8) (cif ((gR σ).1 (tn r) = -1) ((-1000010) - nI 1, ws σ 1) (nI ((gR σ).2.1 (tn r)), wR (ws σ 0) (rwLose (gR σ) (tn r)))) ((-1000001), σ)
theorem ts_drop (G : mx_G) {M : mx_M} {σ : Sg} (h : CInv M σ) (r : Int32) : sOk G m_TS_drop [.ref 0, .int r] M (COk M (sp_drop σ r)) := by
  by_cases hr : vp_in r 8
  · obtain ⟨j, hj, rfl⟩ := vp_in_of hr (by decide)
    have ct : tn (nI j) = j := nI_clamp (by omega)
    have kf := k_findingAt G h.1 hj (nI 0) (nI 0)
    by_cases hl : (gR σ).1 j = -1
    · have e : sp_drop σ (nI j) = ((-1000010) - nI 1, ws σ 1) := by unfold sp_drop; rw [cif_t hr, ct, cif_t hl]
      have hf : fndN (gR σ) j (nI 0) (nI 0) = 1 := by unfold fndN; rw [cif_t hl]
      rw [hf] at kf
      have z : (mx_wr M 0 13 (nI 1)) 0 13 = nI 1 := wr13
      rw [e]
      refine sOk_of ⟨by decide +kernel, by decide +kernel, Nat.le_of_ble_eq_true rfl⟩ ?_
      show sW G m_TS_drop 0 ([], [some (.ref 0), some (.int (nI j))], M) _
      refine sW_go b_TS_drop_0 (st' := ([.int (nI j)], [some (.ref 0), some (.int (nI j))], M)) (φ := True) rfl trivial ?_
      refine sW_callS [.int (nI j)] [] d_TS_drop_1 c_TS_drop_1 ⟨rfl, rfl, Nat.le_of_ble_eq_true rfl, rfl, rfl⟩ (k_isNumber G (nI j)) ?_
      rintro _ M₁ ⟨rfl, h₁⟩
      rw [h₁]
      show sW G m_TS_drop 4 ([.int (tf (vp_in (nI j) 8))], [some (.ref 0), some (.int (nI j))], M) _
      refine sW_if_ne 10 d_TS_drop_4 (by decide) (fun c_4 => ?_) (fun c_4 => ?_)
      · skip
        replace c_4 := tf_nz.mp c_4
        refine sW_go b_TS_drop_10 (st' := ([.int (nI 0), .int (nI 0), .int (nI j), .ref 1, .ref 0], [some (.ref 0), some (.int (nI j))], M)) (φ := mx_ocl LAY 0 = 9 ∧ True) rfl ⟨oc_0, trivial⟩ ?_
        refine sW_callV 5 [.int (nI j), .int (nI 0), .int (nI 0)] [.ref 0] d_TS_drop_18 c_TS_drop_18 ⟨rfl, rfl, rfl, Nat.le_of_ble_eq_true rfl, rfl, rfl⟩ oc_1 (kf) ?_
        rintro _ M₁ ⟨rfl, h₁⟩
        rw [h₁]
        show sW G m_TS_drop 21 ([.int (nI 1), .ref 0], [some (.ref 0), some (.int (nI j))], M) _
        refine sW_go b_TS_drop_21 (st' := ([.int ((mx_wr M 0 13 (nI 1)) 0 13)], [some (.ref 0), some (.int (nI j))], mx_wr M 0 13 (nI 1))) (φ := mx_ocl LAY 0 = 9 ∧ mx_ocl LAY 0 = 9 ∧ True) rfl ⟨oc_0, oc_0, trivial⟩ ?_
        refine sW_eq (st' := ([.int (nI 1)], [some (.ref 0), some (.int (nI j))], mx_wr M 0 13 (nI 1))) (by simp (disch := omega) only [z]) ?_
        refine sW_if_eq 41 d_TS_drop_28 (by decide) (fun c_28 => ?_) (fun c_28 => ?_)
        · skip
          simp (disch := omega) only [nI_z] at c_28
          exact absurd c_28 (by decide)
        · skip
          simp (disch := omega) only [nI_z] at c_28
          refine sW_go b_TS_drop_31 (st' := ([.int ((-1000010) - (mx_wr M 0 13 (nI 1)) 0 13)], [some (.ref 0), some (.int (nI j))], mx_wr M 0 13 (nI 1))) (φ := mx_ocl LAY 0 = 9 ∧ True) rfl ⟨oc_0, trivial⟩ ?_
          refine sW_eq (st' := ([.int ((-1000010) - nI 1)], [some (.ref 0), some (.int (nI j))], mx_wr M 0 13 (nI 1))) (by simp (disch := omega) only [z]) ?_
          refine sW_goto 49 d_TS_drop_38 (by decide) ?_
          refine sW_retI d_TS_drop_49 rfl (vp_nar_int _) ?_
          exact ⟨rfl, Fr.rf.wr (by decide) (by decide), h.st 1⟩
      · skip
        replace c_4 := tf_z.mp c_4
        refine sW_go b_TS_drop_7 (st' := ([.int (-1000001)], [some (.ref 0), some (.int (nI j))], M)) (φ := True) rfl trivial ?_
        refine sW_retI d_TS_drop_9 rfl (vp_nar_int _) ?_
        exact absurd hr c_4
    · have e : sp_drop σ (nI j) = (nI ((gR σ).2.1 j), wR (ws σ 0) (rwLose (gR σ) j)) := by unfold sp_drop; rw [cif_t hr, ct, cif_f hl]
      have hpl : placeP ((gR σ).2.1 j) (nI 0) (nI 0) := by
        unfold placeP
        rw [nI_toInt (by decide)]
        omega
      have hf : fndN (gR σ) j (nI 0) (nI 0) = 0 := by unfold fndN; rw [cif_f hl, cif_t hpl]
      rw [hf] at kf
      have z : (mx_wr M 0 13 (nI 0)) 0 13 = nI 0 := wr13
      have h' := h.st 0
      rw [e]
      refine sOk_of ⟨by decide +kernel, by decide +kernel, Nat.le_of_ble_eq_true rfl⟩ ?_
      show sW G m_TS_drop 0 ([], [some (.ref 0), some (.int (nI j))], M) _
      refine sW_go b_TS_drop_0 (st' := ([.int (nI j)], [some (.ref 0), some (.int (nI j))], M)) (φ := True) rfl trivial ?_
      refine sW_callS [.int (nI j)] [] d_TS_drop_1 c_TS_drop_1 ⟨rfl, rfl, Nat.le_of_ble_eq_true rfl, rfl, rfl⟩ (k_isNumber G (nI j)) ?_
      rintro _ M₁ ⟨rfl, h₁⟩
      rw [h₁]
      show sW G m_TS_drop 4 ([.int (tf (vp_in (nI j) 8))], [some (.ref 0), some (.int (nI j))], M) _
      refine sW_if_ne 10 d_TS_drop_4 (by decide) (fun c_4 => ?_) (fun c_4 => ?_)
      · skip
        replace c_4 := tf_nz.mp c_4
        refine sW_go b_TS_drop_10 (st' := ([.int (nI 0), .int (nI 0), .int (nI j), .ref 1, .ref 0], [some (.ref 0), some (.int (nI j))], M)) (φ := mx_ocl LAY 0 = 9 ∧ True) rfl ⟨oc_0, trivial⟩ ?_
        refine sW_callV 5 [.int (nI j), .int (nI 0), .int (nI 0)] [.ref 0] d_TS_drop_18 c_TS_drop_18 ⟨rfl, rfl, rfl, Nat.le_of_ble_eq_true rfl, rfl, rfl⟩ oc_1 (kf) ?_
        rintro _ M₁ ⟨rfl, h₁⟩
        rw [h₁]
        show sW G m_TS_drop 21 ([.int (nI 0), .ref 0], [some (.ref 0), some (.int (nI j))], M) _
        refine sW_go b_TS_drop_21 (st' := ([.int ((mx_wr M 0 13 (nI 0)) 0 13)], [some (.ref 0), some (.int (nI j))], mx_wr M 0 13 (nI 0))) (φ := mx_ocl LAY 0 = 9 ∧ mx_ocl LAY 0 = 9 ∧ True) rfl ⟨oc_0, oc_0, trivial⟩ ?_
        refine sW_eq (st' := ([.int (nI 0)], [some (.ref 0), some (.int (nI j))], mx_wr M 0 13 (nI 0))) (by simp (disch := omega) only [z]) ?_
        refine sW_if_eq 41 d_TS_drop_28 (by decide) (fun c_28 => ?_) (fun c_28 => ?_)
        · skip
          simp (disch := omega) only [nI_z] at c_28
          refine sW_go b_TS_drop_41 (st' := ([.int (nI j), .ref 1], [some (.ref 0), some (.int (nI j))], mx_wr M 0 13 (nI 0))) (φ := mx_ocl LAY 0 = 9 ∧ True) rfl ⟨oc_0, trivial⟩ ?_
          refine sW_callV 5 [.int (nI j)] [] d_TS_drop_46 c_TS_drop_46 ⟨rfl, rfl, rfl, Nat.le_of_ble_eq_true rfl, rfl, rfl⟩ oc_1 (k_lose G h'.1 hj) ?_
          rintro _ M2 ⟨rfl, g2⟩
          show sW G m_TS_drop 49 ([.int (nI ((gR σ).2.1 j))], [some (.ref 0), some (.int (nI j))], M2) _
          refine sW_retI d_TS_drop_49 rfl (vp_nar_int _) ?_
          rw [g2]
          exact ⟨rfl, (Fr.rf.wr (by decide) (by decide)).wr (by decide) (by decide), h'.rows (Fr.rf.wr (by decide) (by decide)) (h'.1.lose (by decide) j)⟩
        · skip
          simp (disch := omega) only [nI_z] at c_28
          refine sW_go b_TS_drop_31 (st' := ([.int ((-1000010) - (mx_wr M 0 13 (nI 0)) 0 13)], [some (.ref 0), some (.int (nI j))], mx_wr M 0 13 (nI 0))) (φ := mx_ocl LAY 0 = 9 ∧ True) rfl ⟨oc_0, trivial⟩ ?_
          refine sW_eq (st' := ([.int ((-1000010) - nI 0)], [some (.ref 0), some (.int (nI j))], mx_wr M 0 13 (nI 0))) (by simp (disch := omega) only [z]) ?_
          refine sW_goto 49 d_TS_drop_38 (by decide) ?_
          refine sW_retI d_TS_drop_49 rfl (vp_nar_int _) ?_
          exact absurd trivial c_28
      · skip
        replace c_4 := tf_z.mp c_4
        refine sW_go b_TS_drop_7 (st' := ([.int (-1000001)], [some (.ref 0), some (.int (nI j))], M)) (φ := True) rfl trivial ?_
        refine sW_retI d_TS_drop_9 rfl (vp_nar_int _) ?_
        exact absurd hr c_4
  · have e : sp_drop σ r = ((-1000001), σ) := by unfold sp_drop; rw [cif_f hr]
    rw [e]
    refine sOk_of ⟨by decide +kernel, by decide +kernel, Nat.le_of_ble_eq_true rfl⟩ ?_
    show sW G m_TS_drop 0 ([], [some (.ref 0), some (.int r)], M) _
    refine sW_go b_TS_drop_0 (st' := ([.int r], [some (.ref 0), some (.int r)], M)) (φ := True) rfl trivial ?_
    refine sW_callS [.int r] [] d_TS_drop_1 c_TS_drop_1 ⟨rfl, rfl, Nat.le_of_ble_eq_true rfl, rfl, rfl⟩ (k_isNumber G r) ?_
    rintro _ M₁ ⟨rfl, h₁⟩
    rw [h₁]
    show sW G m_TS_drop 4 ([.int (tf (vp_in r 8))], [some (.ref 0), some (.int r)], M) _
    refine sW_if_ne 10 d_TS_drop_4 (by decide) (fun c_4 => ?_) (fun c_4 => ?_)
    · skip
      replace c_4 := tf_nz.mp c_4
      exact absurd c_4 hr
    · skip
      replace c_4 := tf_z.mp c_4
      refine sW_go b_TS_drop_7 (st' := ([.int (-1000001)], [some (.ref 0), some (.int r)], M)) (φ := True) rfl trivial ?_
      refine sW_retI d_TS_drop_9 rfl (vp_nar_int _) ?_
      exact ⟨rfl, Fr.rf, h⟩

