theorem k_may29 (G : mx_G) {M : mx_M} {h n j : Nat} (ho : mx_ocl LAY h = 3) (hn : M h 3 = nI n) (h8 : n ≤ 8) {s a b : Int32} (hj : j < n) (c9 : ¬ s < 0) (c15 : ¬ nI 6 ≤ s) (c19 : ¬ a < 0) (c24 : 0 ≤ b) : sW G m_House_mayStand 29 ([], [some (.ref h), some (.int (nI j)), some (.int s), some (.int a), some (.int b), none], M) (fun r M' => r = some (.int (tf (mayP n (nI j) s a b))) ∧ M' = M) := by
  refine sW_go b_House_mayStand_29 (st' := ([.int s], [some (.ref h), some (.int (nI j)), some (.int s), some (.int a), some (.int b), none], M)) (φ := True) rfl trivial ?_
  refine sW_if_ne 51 d_House_mayStand_30 (by decide) (fun c_30 => ?_) (fun c_30 => ?_)
  · skip
    refine sW_go b_House_mayStand_51 (st' := ([.int (nI 1), .int s], [some (.ref h), some (.int (nI j)), some (.int s), some (.int a), some (.int b), none], M)) (φ := True) rfl trivial ?_
    refine sW_ic_eq 61 d_House_mayStand_53 (by decide) (fun c_53 => ?_) (fun c_53 => ?_)
    · skip
      refine sW_go b_House_mayStand_61 (st' := ([.int (M h 3 - nI 1)], [some (.ref h), some (.int (nI j)), some (.int s), some (.int a), some (.int b), none], M)) (φ := mx_ocl LAY h = 3 ∧ True) rfl ⟨ho, trivial⟩ ?_
      refine sW_eq (st' := ([.int (nI n - nI 1)], [some (.ref h), some (.int (nI j)), some (.int s), some (.int a), some (.int b), none], M)) (by simp (disch := omega) only [hn]) ?_
      refine sW_goto 73 d_House_mayStand_67 (by decide) ?_
      refine sW_go b_House_mayStand_73 (st' := ([.int (nI n - nI 1), .int a], [some (.ref h), some (.int (nI j)), some (.int s), some (.int a), some (.int b), some (.int (nI n - nI 1))], M)) (φ := True) rfl trivial ?_
      refine sW_ic_gt 92 d_House_mayStand_78 (by decide) (fun c_78 => ?_) (fun c_78 => ?_)
      · skip
        refine sW_go b_House_mayStand_92 (st' := ([.int (nI 0)], [some (.ref h), some (.int (nI j)), some (.int s), some (.int a), some (.int b), some (.int (nI n - nI 1))], M)) (φ := True) rfl trivial ?_
        refine sW_retI d_House_mayStand_93 rfl nb_0 ?_
        first | exact ⟨by rw [tf_f]; unfold mayP mayZ; (simp (disch := omega) only [vp_in_iff, Int32.lt_iff_toInt_lt, Int32.le_iff_toInt_le, ← Int32.toInt_inj, Int32.toInt_zero, nI_toInt, pk_sub_toInt] at *; omega), rfl⟩ | exact ⟨by rw [tf_t]; unfold mayP mayZ; (simp (disch := omega) only [vp_in_iff, Int32.lt_iff_toInt_lt, Int32.le_iff_toInt_le, ← Int32.toInt_inj, Int32.toInt_zero, nI_toInt, pk_sub_toInt] at *; omega), rfl⟩
      · skip
        refine sW_go b_House_mayStand_81 (st' := ([.int (nI n - nI 1), .int b], [some (.ref h), some (.int (nI j)), some (.int s), some (.int a), some (.int b), some (.int (nI n - nI 1))], M)) (φ := True) rfl trivial ?_
        refine sW_ic_gt 92 d_House_mayStand_85 (by decide) (fun c_85 => ?_) (fun c_85 => ?_)
        · skip
          refine sW_go b_House_mayStand_92 (st' := ([.int (nI 0)], [some (.ref h), some (.int (nI j)), some (.int s), some (.int a), some (.int b), some (.int (nI n - nI 1))], M)) (φ := True) rfl trivial ?_
          refine sW_retI d_House_mayStand_93 rfl nb_0 ?_
          first | exact ⟨by rw [tf_f]; unfold mayP mayZ; (simp (disch := omega) only [vp_in_iff, Int32.lt_iff_toInt_lt, Int32.le_iff_toInt_le, ← Int32.toInt_inj, Int32.toInt_zero, nI_toInt, pk_sub_toInt] at *; omega), rfl⟩ | exact ⟨by rw [tf_t]; unfold mayP mayZ; (simp (disch := omega) only [vp_in_iff, Int32.lt_iff_toInt_lt, Int32.le_iff_toInt_le, ← Int32.toInt_inj, Int32.toInt_zero, nI_toInt, pk_sub_toInt] at *; omega), rfl⟩
        · skip
          refine sW_go b_House_mayStand_88 (st' := ([.int (nI 1)], [some (.ref h), some (.int (nI j)), some (.int s), some (.int a), some (.int b), some (.int (nI n - nI 1))], M)) (φ := True) rfl trivial ?_
          refine sW_goto 93 d_House_mayStand_89 (by decide) ?_
          refine sW_retI d_House_mayStand_93 rfl nb_1 ?_
          first | exact ⟨by rw [tf_f]; unfold mayP mayZ; (simp (disch := omega) only [vp_in_iff, Int32.lt_iff_toInt_lt, Int32.le_iff_toInt_le, ← Int32.toInt_inj, Int32.toInt_zero, nI_toInt, pk_sub_toInt] at *; omega), rfl⟩ | exact ⟨by rw [tf_t]; unfold mayP mayZ; (simp (disch := omega) only [vp_in_iff, Int32.lt_iff_toInt_lt, Int32.le_iff_toInt_le, ← Int32.toInt_inj, Int32.toInt_zero, nI_toInt, pk_sub_toInt] at *; omega), rfl⟩
    · skip
      refine sW_go b_House_mayStand_56 (st' := ([.int (nI 2), .int s], [some (.ref h), some (.int (nI j)), some (.int s), some (.int a), some (.int b), none], M)) (φ := True) rfl trivial ?_
      refine sW_ic_ne 70 d_House_mayStand_58 (by decide) (fun c_58 => ?_) (fun c_58 => ?_)
      · skip
        refine sW_go b_House_mayStand_70 (st' := ([.int (nI j - nI 1)], [some (.ref h), some (.int (nI j)), some (.int s), some (.int a), some (.int b), none], M)) (φ := True) rfl trivial ?_
        refine sW_go b_House_mayStand_73 (st' := ([.int (nI j - nI 1), .int a], [some (.ref h), some (.int (nI j)), some (.int s), some (.int a), some (.int b), some (.int (nI j - nI 1))], M)) (φ := True) rfl trivial ?_
        refine sW_ic_gt 92 d_House_mayStand_78 (by decide) (fun c_78 => ?_) (fun c_78 => ?_)
        · skip
          refine sW_go b_House_mayStand_92 (st' := ([.int (nI 0)], [some (.ref h), some (.int (nI j)), some (.int s), some (.int a), some (.int b), some (.int (nI j - nI 1))], M)) (φ := True) rfl trivial ?_
          refine sW_retI d_House_mayStand_93 rfl nb_0 ?_
          first | exact ⟨by rw [tf_f]; unfold mayP mayZ; (simp (disch := omega) only [vp_in_iff, Int32.lt_iff_toInt_lt, Int32.le_iff_toInt_le, ← Int32.toInt_inj, Int32.toInt_zero, nI_toInt, pk_sub_toInt] at *; omega), rfl⟩ | exact ⟨by rw [tf_t]; unfold mayP mayZ; (simp (disch := omega) only [vp_in_iff, Int32.lt_iff_toInt_lt, Int32.le_iff_toInt_le, ← Int32.toInt_inj, Int32.toInt_zero, nI_toInt, pk_sub_toInt] at *; omega), rfl⟩
        · skip
          refine sW_go b_House_mayStand_81 (st' := ([.int (nI j - nI 1), .int b], [some (.ref h), some (.int (nI j)), some (.int s), some (.int a), some (.int b), some (.int (nI j - nI 1))], M)) (φ := True) rfl trivial ?_
          refine sW_ic_gt 92 d_House_mayStand_85 (by decide) (fun c_85 => ?_) (fun c_85 => ?_)
          · skip
            refine sW_go b_House_mayStand_92 (st' := ([.int (nI 0)], [some (.ref h), some (.int (nI j)), some (.int s), some (.int a), some (.int b), some (.int (nI j - nI 1))], M)) (φ := True) rfl trivial ?_
            refine sW_retI d_House_mayStand_93 rfl nb_0 ?_
            first | exact ⟨by rw [tf_f]; unfold mayP mayZ; (simp (disch := omega) only [vp_in_iff, Int32.lt_iff_toInt_lt, Int32.le_iff_toInt_le, ← Int32.toInt_inj, Int32.toInt_zero, nI_toInt, pk_sub_toInt] at *; omega), rfl⟩ | exact ⟨by rw [tf_t]; unfold mayP mayZ; (simp (disch := omega) only [vp_in_iff, Int32.lt_iff_toInt_lt, Int32.le_iff_toInt_le, ← Int32.toInt_inj, Int32.toInt_zero, nI_toInt, pk_sub_toInt] at *; omega), rfl⟩
          · skip
            refine sW_go b_House_mayStand_88 (st' := ([.int (nI 1)], [some (.ref h), some (.int (nI j)), some (.int s), some (.int a), some (.int b), some (.int (nI j - nI 1))], M)) (φ := True) rfl trivial ?_
            refine sW_goto 93 d_House_mayStand_89 (by decide) ?_
            refine sW_retI d_House_mayStand_93 rfl nb_1 ?_
            first | exact ⟨by rw [tf_f]; unfold mayP mayZ; (simp (disch := omega) only [vp_in_iff, Int32.lt_iff_toInt_lt, Int32.le_iff_toInt_le, ← Int32.toInt_inj, Int32.toInt_zero, nI_toInt, pk_sub_toInt] at *; omega), rfl⟩ | exact ⟨by rw [tf_t]; unfold mayP mayZ; (simp (disch := omega) only [vp_in_iff, Int32.lt_iff_toInt_lt, Int32.le_iff_toInt_le, ← Int32.toInt_inj, Int32.toInt_zero, nI_toInt, pk_sub_toInt] at *; omega), rfl⟩
      · skip
        refine sW_go b_House_mayStand_61 (st' := ([.int (M h 3 - nI 1)], [some (.ref h), some (.int (nI j)), some (.int s), some (.int a), some (.int b), none], M)) (φ := mx_ocl LAY h = 3 ∧ True) rfl ⟨ho, trivial⟩ ?_
        refine sW_eq (st' := ([.int (nI n - nI 1)], [some (.ref h), some (.int (nI j)), some (.int s), some (.int a), some (.int b), none], M)) (by simp (disch := omega) only [hn]) ?_
        refine sW_goto 73 d_House_mayStand_67 (by decide) ?_
        refine sW_go b_House_mayStand_73 (st' := ([.int (nI n - nI 1), .int a], [some (.ref h), some (.int (nI j)), some (.int s), some (.int a), some (.int b), some (.int (nI n - nI 1))], M)) (φ := True) rfl trivial ?_
        refine sW_ic_gt 92 d_House_mayStand_78 (by decide) (fun c_78 => ?_) (fun c_78 => ?_)
        · skip
          refine sW_go b_House_mayStand_92 (st' := ([.int (nI 0)], [some (.ref h), some (.int (nI j)), some (.int s), some (.int a), some (.int b), some (.int (nI n - nI 1))], M)) (φ := True) rfl trivial ?_
          refine sW_retI d_House_mayStand_93 rfl nb_0 ?_
          first | exact ⟨by rw [tf_f]; unfold mayP mayZ; (simp (disch := omega) only [vp_in_iff, Int32.lt_iff_toInt_lt, Int32.le_iff_toInt_le, ← Int32.toInt_inj, Int32.toInt_zero, nI_toInt, pk_sub_toInt] at *; omega), rfl⟩ | exact ⟨by rw [tf_t]; unfold mayP mayZ; (simp (disch := omega) only [vp_in_iff, Int32.lt_iff_toInt_lt, Int32.le_iff_toInt_le, ← Int32.toInt_inj, Int32.toInt_zero, nI_toInt, pk_sub_toInt] at *; omega), rfl⟩
        · skip
          refine sW_go b_House_mayStand_81 (st' := ([.int (nI n - nI 1), .int b], [some (.ref h), some (.int (nI j)), some (.int s), some (.int a), some (.int b), some (.int (nI n - nI 1))], M)) (φ := True) rfl trivial ?_
          refine sW_ic_gt 92 d_House_mayStand_85 (by decide) (fun c_85 => ?_) (fun c_85 => ?_)
          · skip
            refine sW_go b_House_mayStand_92 (st' := ([.int (nI 0)], [some (.ref h), some (.int (nI j)), some (.int s), some (.int a), some (.int b), some (.int (nI n - nI 1))], M)) (φ := True) rfl trivial ?_
            refine sW_retI d_House_mayStand_93 rfl nb_0 ?_
            first | exact ⟨by rw [tf_f]; unfold mayP mayZ; (simp (disch := omega) only [vp_in_iff, Int32.lt_iff_toInt_lt, Int32.le_iff_toInt_le, ← Int32.toInt_inj, Int32.toInt_zero, nI_toInt, pk_sub_toInt] at *; omega), rfl⟩ | exact ⟨by rw [tf_t]; unfold mayP mayZ; (simp (disch := omega) only [vp_in_iff, Int32.lt_iff_toInt_lt, Int32.le_iff_toInt_le, ← Int32.toInt_inj, Int32.toInt_zero, nI_toInt, pk_sub_toInt] at *; omega), rfl⟩
          · skip
            refine sW_go b_House_mayStand_88 (st' := ([.int (nI 1)], [some (.ref h), some (.int (nI j)), some (.int s), some (.int a), some (.int b), some (.int (nI n - nI 1))], M)) (φ := True) rfl trivial ?_
            refine sW_goto 93 d_House_mayStand_89 (by decide) ?_
            refine sW_retI d_House_mayStand_93 rfl nb_1 ?_
            first | exact ⟨by rw [tf_f]; unfold mayP mayZ; (simp (disch := omega) only [vp_in_iff, Int32.lt_iff_toInt_lt, Int32.le_iff_toInt_le, ← Int32.toInt_inj, Int32.toInt_zero, nI_toInt, pk_sub_toInt] at *; omega), rfl⟩ | exact ⟨by rw [tf_t]; unfold mayP mayZ; (simp (disch := omega) only [vp_in_iff, Int32.lt_iff_toInt_lt, Int32.le_iff_toInt_le, ← Int32.toInt_inj, Int32.toInt_zero, nI_toInt, pk_sub_toInt] at *; omega), rfl⟩
  · skip
    refine sW_go b_House_mayStand_33 (st' := ([.int b, .int a], [some (.ref h), some (.int (nI j)), some (.int s), some (.int a), some (.int b), none], M)) (φ := True) rfl trivial ?_
    refine sW_ic_gt 49 d_House_mayStand_36 (by decide) (fun c_36 => ?_) (fun c_36 => ?_)
    · skip
      refine sW_go b_House_mayStand_49 (st' := ([.int (nI 0)], [some (.ref h), some (.int (nI j)), some (.int s), some (.int a), some (.int b), none], M)) (φ := True) rfl trivial ?_
      refine sW_retI d_House_mayStand_50 rfl nb_0 ?_
      first | exact ⟨by rw [tf_f]; unfold mayP mayZ; (simp (disch := omega) only [vp_in_iff, Int32.lt_iff_toInt_lt, Int32.le_iff_toInt_le, ← Int32.toInt_inj, Int32.toInt_zero, nI_toInt, pk_sub_toInt] at *; omega), rfl⟩ | exact ⟨by rw [tf_t]; unfold mayP mayZ; (simp (disch := omega) only [vp_in_iff, Int32.lt_iff_toInt_lt, Int32.le_iff_toInt_le, ← Int32.toInt_inj, Int32.toInt_zero, nI_toInt, pk_sub_toInt] at *; omega), rfl⟩
    · skip
      refine sW_go b_House_mayStand_39 (st' := ([.int (nI 3), .int b], [some (.ref h), some (.int (nI j)), some (.int s), some (.int a), some (.int b), none], M)) (φ := True) rfl trivial ?_
      refine sW_ic_gt 49 d_House_mayStand_42 (by decide) (fun c_42 => ?_) (fun c_42 => ?_)
      · skip
        refine sW_go b_House_mayStand_49 (st' := ([.int (nI 0)], [some (.ref h), some (.int (nI j)), some (.int s), some (.int a), some (.int b), none], M)) (φ := True) rfl trivial ?_
        refine sW_retI d_House_mayStand_50 rfl nb_0 ?_
        first | exact ⟨by rw [tf_f]; unfold mayP mayZ; (simp (disch := omega) only [vp_in_iff, Int32.lt_iff_toInt_lt, Int32.le_iff_toInt_le, ← Int32.toInt_inj, Int32.toInt_zero, nI_toInt, pk_sub_toInt] at *; omega), rfl⟩ | exact ⟨by rw [tf_t]; unfold mayP mayZ; (simp (disch := omega) only [vp_in_iff, Int32.lt_iff_toInt_lt, Int32.le_iff_toInt_le, ← Int32.toInt_inj, Int32.toInt_zero, nI_toInt, pk_sub_toInt] at *; omega), rfl⟩
      · skip
        refine sW_go b_House_mayStand_45 (st' := ([.int (nI 1)], [some (.ref h), some (.int (nI j)), some (.int s), some (.int a), some (.int b), none], M)) (φ := True) rfl trivial ?_
        refine sW_goto 50 d_House_mayStand_46 (by decide) ?_
        refine sW_retI d_House_mayStand_50 rfl nb_1 ?_
        first | exact ⟨by rw [tf_f]; unfold mayP mayZ; (simp (disch := omega) only [vp_in_iff, Int32.lt_iff_toInt_lt, Int32.le_iff_toInt_le, ← Int32.toInt_inj, Int32.toInt_zero, nI_toInt, pk_sub_toInt] at *; omega), rfl⟩ | exact ⟨by rw [tf_t]; unfold mayP mayZ; (simp (disch := omega) only [vp_in_iff, Int32.lt_iff_toInt_lt, Int32.le_iff_toInt_le, ← Int32.toInt_inj, Int32.toInt_zero, nI_toInt, pk_sub_toInt] at *; omega), rfl⟩
theorem k_House_mayStand (G : mx_G) {M : mx_M} {h n : Nat} (ho : mx_ocl LAY h = 3) (hn : M h 3 = nI n) (h8 : n ≤ 8) (t s a b : Int32) : sOk G m_House_mayStand [.ref h, .int t, .int s, .int a, .int b] M (fun r M' => r = some (.int (tf (mayP n t s a b))) ∧ M' = M) := by
  refine sOk_of ⟨by decide +kernel, by decide +kernel, Nat.le_of_ble_eq_true rfl⟩ ?_
  show sW G m_House_mayStand 0 ([], [some (.ref h), some (.int t), some (.int s), some (.int a), some (.int b), none], M) _
  refine sW_go b_House_mayStand_0 (st' := ([.int t, .ref h], [some (.ref h), some (.int t), some (.int s), some (.int a), some (.int b), none], M)) (φ := True) rfl trivial ?_
  refine sW_callV 3 [.int t] [] d_House_mayStand_2 c_House_mayStand_2 ⟨rfl, rfl, rfl, Nat.le_of_ble_eq_true rfl, rfl, rfl⟩ ho (k_House_has G ho hn h8 t) ?_
  rintro _ M₁ ⟨rfl, h₁⟩
  rw [h₁]
  show sW G m_House_mayStand 5 ([.int (tf (vp_in t n))], [some (.ref h), some (.int t), some (.int s), some (.int a), some (.int b), none], M) _
  refine sW_if_eq 27 d_House_mayStand_5 (by decide) (fun c_5 => ?_) (fun c_5 => ?_)
  · skip
    replace c_5 := tf_z.mp c_5
    refine sW_go b_House_mayStand_27 (st' := ([.int (nI 0)], [some (.ref h), some (.int t), some (.int s), some (.int a), some (.int b), none], M)) (φ := True) rfl trivial ?_
    refine sW_retI d_House_mayStand_28 rfl nb_0 ?_
    exact ⟨by rw [tf_f]; unfold mayP mayZ; (simp (disch := omega) only [vp_in_iff, Int32.lt_iff_toInt_lt, Int32.le_iff_toInt_le, ← Int32.toInt_inj, Int32.toInt_zero, nI_toInt, pk_sub_toInt] at *; omega), rfl⟩
  · skip
    replace c_5 := tf_nz.mp c_5
    refine sW_go b_House_mayStand_8 (st' := ([.int s], [some (.ref h), some (.int t), some (.int s), some (.int a), some (.int b), none], M)) (φ := True) rfl trivial ?_
    refine sW_if_lt 27 d_House_mayStand_9 (by decide) (fun c_9 => ?_) (fun c_9 => ?_)
    · skip
      refine sW_go b_House_mayStand_27 (st' := ([.int (nI 0)], [some (.ref h), some (.int t), some (.int s), some (.int a), some (.int b), none], M)) (φ := True) rfl trivial ?_
      refine sW_retI d_House_mayStand_28 rfl nb_0 ?_
      exact ⟨by rw [tf_f]; unfold mayP mayZ; (simp (disch := omega) only [vp_in_iff, Int32.lt_iff_toInt_lt, Int32.le_iff_toInt_le, ← Int32.toInt_inj, Int32.toInt_zero, nI_toInt, pk_sub_toInt] at *; omega), rfl⟩
    · skip
      refine sW_go b_House_mayStand_12 (st' := ([.int (nI 6), .int s], [some (.ref h), some (.int t), some (.int s), some (.int a), some (.int b), none], M)) (φ := True) rfl trivial ?_
      refine sW_ic_ge 27 d_House_mayStand_15 (by decide) (fun c_15 => ?_) (fun c_15 => ?_)
      · skip
        refine sW_go b_House_mayStand_27 (st' := ([.int (nI 0)], [some (.ref h), some (.int t), some (.int s), some (.int a), some (.int b), none], M)) (φ := True) rfl trivial ?_
        refine sW_retI d_House_mayStand_28 rfl nb_0 ?_
        exact ⟨by rw [tf_f]; unfold mayP mayZ; (simp (disch := omega) only [vp_in_iff, Int32.lt_iff_toInt_lt, Int32.le_iff_toInt_le, ← Int32.toInt_inj, Int32.toInt_zero, nI_toInt, pk_sub_toInt] at *; omega), rfl⟩
      · skip
        refine sW_go b_House_mayStand_18 (st' := ([.int a], [some (.ref h), some (.int t), some (.int s), some (.int a), some (.int b), none], M)) (φ := True) rfl trivial ?_
        refine sW_if_lt 27 d_House_mayStand_19 (by decide) (fun c_19 => ?_) (fun c_19 => ?_)
        · skip
          refine sW_go b_House_mayStand_27 (st' := ([.int (nI 0)], [some (.ref h), some (.int t), some (.int s), some (.int a), some (.int b), none], M)) (φ := True) rfl trivial ?_
          refine sW_retI d_House_mayStand_28 rfl nb_0 ?_
          exact ⟨by rw [tf_f]; unfold mayP mayZ; (simp (disch := omega) only [vp_in_iff, Int32.lt_iff_toInt_lt, Int32.le_iff_toInt_le, ← Int32.toInt_inj, Int32.toInt_zero, nI_toInt, pk_sub_toInt] at *; omega), rfl⟩
        · skip
          refine sW_go b_House_mayStand_22 (st' := ([.int b], [some (.ref h), some (.int t), some (.int s), some (.int a), some (.int b), none], M)) (φ := True) rfl trivial ?_
          refine sW_if_ge 29 d_House_mayStand_24 (by decide) (fun c_24 => ?_) (fun c_24 => ?_)
          · skip
            obtain ⟨j, hj, rfl⟩ := vp_in_of c_5 (by omega)
            exact k_may29 G ho hn h8 hj c_9 c_15 c_19 c_24
          · skip
            refine sW_go b_House_mayStand_27 (st' := ([.int (nI 0)], [some (.ref h), some (.int t), some (.int s), some (.int a), some (.int b), none], M)) (φ := True) rfl trivial ?_
            refine sW_retI d_House_mayStand_28 rfl nb_0 ?_
            exact ⟨by rw [tf_f]; unfold mayP mayZ; (simp (disch := omega) only [vp_in_iff, Int32.lt_iff_toInt_lt, Int32.le_iff_toInt_le, ← Int32.toInt_inj, Int32.toInt_zero, nI_toInt, pk_sub_toInt] at *; omega), rfl⟩
theorem k_House_tell (G : mx_G) {M : mx_M} {h j : Nat} (ho : mx_ocl LAY h = 3) (hj : j < 8) (s a b : Int32) : sOk G m_House_tell [.ref h, .int (nI j), .int s, .int a, .int b] M (fun r M' => r = none ∧ M' = mx_wr (mx_wr (mx_wr M (h + 1) j s) (h + 2) j a) (h + 3) j b) := by
  refine sOk_of ⟨by decide +kernel, by decide +kernel, Nat.le_of_ble_eq_true rfl⟩ ?_
  show sW G m_House_tell 0 ([], [some (.ref h), some (.int (nI j)), some (.int s), some (.int a), some (.int b)], M) _
  refine sW_go b_House_tell_0 (st' := ([], [some (.ref h), some (.int (nI j)), some (.int s), some (.int a), some (.int b)], mx_wr (mx_wr (mx_wr M (h + 1) (nI j).toNatClampNeg s) (h + 2) (nI j).toNatClampNeg a) (h + 3) (nI j).toNatClampNeg b)) (φ := mx_ocl LAY h = 3 ∧ vp_in (nI j) (mx_len LAY false (h + 1)) ∧ mx_ocl LAY h = 3 ∧ vp_in (nI j) (mx_len LAY false (h + 2)) ∧ mx_ocl LAY h = 3 ∧ vp_in (nI j) (mx_len LAY false (h + 3)) ∧ True) rfl ⟨ho, (by simp (disch := omega) only [(ln_House_sorts ho)]; exact vp_in_nI (by omega) (by decide)), ho, (by simp (disch := omega) only [(ln_House_firsts ho)]; exact vp_in_nI (by omega) (by decide)), ho, (by simp (disch := omega) only [(ln_House_seconds ho)]; exact vp_in_nI (by omega) (by decide)), trivial⟩ ?_
  refine sW_eq (st' := ([], [some (.ref h), some (.int (nI j)), some (.int s), some (.int a), some (.int b)], mx_wr (mx_wr (mx_wr M (h + 1) j s) (h + 2) j a) (h + 3) j b)) (by simp (disch := omega) only [nI_clamp]) ?_
  refine sW_retV d_House_tell_22 rfl ?_
  exact ⟨rfl, rfl⟩
theorem k_House_takeFrom (G : mx_G) {M : mx_M} {h o : Nat} (ho : mx_ocl LAY h = 3) (hq : mx_ocl LAY o = 3) (hd : h + 4 ≤ o ∨ o + 4 ≤ h) : sOk G m_House_takeFrom [.ref h, .ref o] M (fun r M' => r = none ∧ Fr M M' h (h + 4) ∧ M' h 3 = M o 3 ∧ M' h 4 = M o 4 ∧ ∀ k, k < 8 → M' (h + 1) k = M (o + 1) k ∧ M' (h + 2) k = M (o + 2) k ∧ M' (h + 3) k = M (o + 3) k) := by
  refine sOk_of ⟨by decide +kernel, by decide +kernel, Nat.le_of_ble_eq_true rfl⟩ ?_
  show sW G m_House_takeFrom 0 ([], [some (.ref h), some (.ref o)], M) _
  refine sW_go b_House_takeFrom_0 (st' := ([.int (nI 8), .int (nI 0), .ref (h + 1), .int (nI 0), .ref (o + 1)], [some (.ref h), some (.ref o)], M)) (φ := mx_ocl LAY o = 3 ∧ mx_ocl LAY h = 3 ∧ True) rfl ⟨hq, ho, trivial⟩ ?_
  refine sW_copy d_House_takeFrom_12 c_House_takeFrom_12 ⟨rfl, Nat.le_of_ble_eq_true rfl⟩ (by rw [(ln_House_sorts hq)]; decide) (by rw [(ln_House_sorts ho)]; decide) (by first | decide | (simp (disch := omega) only [nI_clamp, (ln_House_sorts hq), (ln_House_sorts ho)]; omega)) (by first | decide | (simp (disch := omega) only [nI_clamp, (ln_House_sorts hq), (ln_House_sorts ho)]; omega)) (by first | decide | (simp (disch := omega) only [nI_clamp, (ln_House_sorts hq), (ln_House_sorts ho)]; omega)) (by first | decide | (simp (disch := omega) only [nI_clamp, (ln_House_sorts hq), (ln_House_sorts ho)]; omega)) (by first | decide | (simp (disch := omega) only [nI_clamp, (ln_House_sorts hq), (ln_House_sorts ho)]; omega)) ?_
  refine sW_eq (st' := ([], [some (.ref h), some (.ref o)], mx_cp M (o + 1) (h + 1) 0 0 8)) (by simp (disch := omega) only [nI_clamp]) ?_
  refine sW_go b_House_takeFrom_15 (st' := ([.int (nI 8), .int (nI 0), .ref (h + 2), .int (nI 0), .ref (o + 2)], [some (.ref h), some (.ref o)], mx_cp M (o + 1) (h + 1) 0 0 8)) (φ := mx_ocl LAY o = 3 ∧ mx_ocl LAY h = 3 ∧ True) rfl ⟨hq, ho, trivial⟩ ?_
  refine sW_copy d_House_takeFrom_27 c_House_takeFrom_27 ⟨rfl, Nat.le_of_ble_eq_true rfl⟩ (by rw [(ln_House_firsts hq)]; decide) (by rw [(ln_House_firsts ho)]; decide) (by first | decide | (simp (disch := omega) only [nI_clamp, (ln_House_firsts hq), (ln_House_firsts ho)]; omega)) (by first | decide | (simp (disch := omega) only [nI_clamp, (ln_House_firsts hq), (ln_House_firsts ho)]; omega)) (by first | decide | (simp (disch := omega) only [nI_clamp, (ln_House_firsts hq), (ln_House_firsts ho)]; omega)) (by first | decide | (simp (disch := omega) only [nI_clamp, (ln_House_firsts hq), (ln_House_firsts ho)]; omega)) (by first | decide | (simp (disch := omega) only [nI_clamp, (ln_House_firsts hq), (ln_House_firsts ho)]; omega)) ?_
  refine sW_eq (st' := ([], [some (.ref h), some (.ref o)], mx_cp (mx_cp M (o + 1) (h + 1) 0 0 8) (o + 2) (h + 2) 0 0 8)) (by simp (disch := omega) only [nI_clamp]) ?_
  refine sW_go b_House_takeFrom_30 (st' := ([.int (nI 8), .int (nI 0), .ref (h + 3), .int (nI 0), .ref (o + 3)], [some (.ref h), some (.ref o)], mx_cp (mx_cp M (o + 1) (h + 1) 0 0 8) (o + 2) (h + 2) 0 0 8)) (φ := mx_ocl LAY o = 3 ∧ mx_ocl LAY h = 3 ∧ True) rfl ⟨hq, ho, trivial⟩ ?_
  refine sW_copy d_House_takeFrom_42 c_House_takeFrom_42 ⟨rfl, Nat.le_of_ble_eq_true rfl⟩ (by rw [(ln_House_seconds hq)]; decide) (by rw [(ln_House_seconds ho)]; decide) (by first | decide | (simp (disch := omega) only [nI_clamp, (ln_House_seconds hq), (ln_House_seconds ho)]; omega)) (by first | decide | (simp (disch := omega) only [nI_clamp, (ln_House_seconds hq), (ln_House_seconds ho)]; omega)) (by first | decide | (simp (disch := omega) only [nI_clamp, (ln_House_seconds hq), (ln_House_seconds ho)]; omega)) (by first | decide | (simp (disch := omega) only [nI_clamp, (ln_House_seconds hq), (ln_House_seconds ho)]; omega)) (by first | decide | (simp (disch := omega) only [nI_clamp, (ln_House_seconds hq), (ln_House_seconds ho)]; omega)) ?_
  refine sW_eq (st' := ([], [some (.ref h), some (.ref o)], mx_cp (mx_cp (mx_cp M (o + 1) (h + 1) 0 0 8) (o + 2) (h + 2) 0 0 8) (o + 3) (h + 3) 0 0 8)) (by simp (disch := omega) only [nI_clamp]) ?_
  refine sW_go b_House_takeFrom_45 (st' := ([], [some (.ref h), some (.ref o)], mx_wr (mx_wr (mx_cp (mx_cp (mx_cp M (o + 1) (h + 1) 0 0 8) (o + 2) (h + 2) 0 0 8) (o + 3) (h + 3) 0 0 8) h 3 ((mx_cp (mx_cp (mx_cp M (o + 1) (h + 1) 0 0 8) (o + 2) (h + 2) 0 0 8) (o + 3) (h + 3) 0 0 8) o 3)) h 4 ((mx_wr (mx_cp (mx_cp (mx_cp M (o + 1) (h + 1) 0 0 8) (o + 2) (h + 2) 0 0 8) (o + 3) (h + 3) 0 0 8) h 3 ((mx_cp (mx_cp (mx_cp M (o + 1) (h + 1) 0 0 8) (o + 2) (h + 2) 0 0 8) (o + 3) (h + 3) 0 0 8) o 3)) o 4))) (φ := mx_ocl LAY o = 3 ∧ mx_ocl LAY h = 3 ∧ mx_ocl LAY o = 3 ∧ mx_ocl LAY h = 3 ∧ True) rfl ⟨hq, ho, hq, ho, trivial⟩ ?_
  refine sW_retV d_House_takeFrom_61 rfl ?_
  have f1 : Fr M (mx_cp M (o + 1) (h + 1) 0 0 8) h (h + 4) := Fr.rf.cp (by omega) (by omega)
  have f2 := f1.cp (a0 := o + 2) (k := h + 2) (sp := 0) (dp := 0) (n := 8) (by omega) (by omega)
  have f3 := f2.cp (a0 := o + 3) (k := h + 3) (sp := 0) (dp := 0) (n := 8) (by omega) (by omega)
  have f4 := f3.wr (k := h) (j := 3) (v := M o 3) (by omega) (by omega)
  have f5 := f4.wr (k := h) (j := 4) (v := M o 4) (by omega) (by omega)
  have e3 := f3 o (by omega)
  have e4 := f4 o (by omega)
  rw [e3, e4]
  refine ⟨rfl, f5, ?_, ?_, fun k hk => ⟨?_, ?_, ?_⟩⟩
  · rw [mx_wr_s, mx_wr_s]
    rfl
  · rw [mx_wr_s]
    rfl
  · rw [mx_wr_n _ _ _ (by omega), mx_wr_n _ _ _ (by omega), mx_cp_n _ _ _ _ _ (by omega), mx_cp_n _ _ _ _ _ (by omega), mx_cp_s, pk_cpy_in (by omega) (by omega)]
    congr 1
    omega
  · rw [mx_wr_n _ _ _ (by omega), mx_wr_n _ _ _ (by omega), mx_cp_n _ _ _ _ _ (by omega), mx_cp_s, pk_cpy_in (by omega) (by omega), mx_cp_n _ _ _ _ _ (by omega)]
    congr 1
    omega
  · rw [mx_wr_n _ _ _ (by omega), mx_wr_n _ _ _ (by omega), mx_cp_s, pk_cpy_in (by omega) (by omega), mx_cp_n _ _ _ _ _ (by omega), mx_cp_n _ _ _ _ _ (by omega)]
    congr 1
    omega
theorem k_House_namesOnlyItsOwn (G : mx_G) {M : mx_M} {h : Nat} {hs : Hs} (ho : mx_ocl LAY h = 3) (hA : HsAt M h hs) (hw : HsOk hs) : sOk G m_House_namesOnlyItsOwn [.ref h] M (fun r M' => r = some (.int (tf (∀ k, k < hs.1 → mayZ hs.1 k (Sf hs k) (Af hs k) (Bf hs k)))) ∧ M' = M) := by
  obtain ⟨e3, e4, eK⟩ := id hA
  obtain ⟨w1, w2, w3⟩ := id hw
  refine sOk_of ⟨by decide +kernel, by decide +kernel, Nat.le_of_ble_eq_true rfl⟩ ?_
  show sW G m_House_namesOnlyItsOwn 0 ([], [some (.ref h), none], M) _
  refine sW_go b_House_namesOnlyItsOwn_0 (st' := ([], [some (.ref h), some (.int (nI 0))], M)) (φ := True) rfl trivial ?_
  refine mx_ind (α := Nat) (fun a => hs.1 - a) (fun a => a ≤ hs.1 → (∀ k, k < a → mayZ hs.1 k (Sf hs k) (Af hs k) (Bf hs k)) → sW G m_House_namesOnlyItsOwn 2 ([], [some (.ref h), some (.int (nI a))], M) _) ?_ 0 (Nat.zero_le _) (fun k hk => by omega)
  rintro k ih hk hc
  by_cases hkn : k < hs.1
  · obtain ⟨x1, x2, x3⟩ := eK k hkn
    obtain ⟨y1, y2, y3⟩ := w3 k hkn
    have hm : mayP hs.1 (nI k) (nI (Sf hs k)) (nI (Af hs k)) (nI (Bf hs k)) ↔ mayZ hs.1 k (Sf hs k) (Af hs k) (Bf hs k) := by
      unfold mayP
      rw [nI_toInt (by omega), nI_toInt (by omega), nI_toInt (by omega), nI_toInt (by omega)]
    refine sW_go b_House_namesOnlyItsOwn_2 (st' := ([.int (M h 3), .int (nI k)], [some (.ref h), some (.int (nI k))], M)) (φ := mx_ocl LAY h = 3 ∧ True) rfl ⟨ho, trivial⟩ ?_
    refine sW_eq (st' := ([.int (nI hs.1), .int (nI k)], [some (.ref h), some (.int (nI k))], M)) (by simp (disch := omega) only [e3]) ?_
    refine sW_ic_ge 44 d_House_namesOnlyItsOwn_7 (by decide) (fun c_7 => ?_) (fun c_7 => ?_)
    · skip
      simp (disch := omega) only [nI_leI] at c_7
      refine sW_go b_House_namesOnlyItsOwn_44 (st' := ([.int (nI 1)], [some (.ref h), some (.int (nI k))], M)) (φ := True) rfl trivial ?_
      refine sW_retI d_House_namesOnlyItsOwn_45 rfl nb_1 ?_
      omega
    · skip
      simp (disch := omega) only [nI_leI] at c_7
      refine sW_go b_House_namesOnlyItsOwn_10 (st' := ([.int (M (h + 3) (nI k).toNatClampNeg), .int (M (h + 2) (nI k).toNatClampNeg), .int (M (h + 1) (nI k).toNatClampNeg), .int (nI k), .ref h], [some (.ref h), some (.int (nI k))], M)) (φ := mx_ocl LAY h = 3 ∧ vp_in (nI k) (mx_len LAY false (h + 1)) ∧ mx_ocl LAY h = 3 ∧ vp_in (nI k) (mx_len LAY false (h + 2)) ∧ mx_ocl LAY h = 3 ∧ vp_in (nI k) (mx_len LAY false (h + 3)) ∧ True) rfl ⟨ho, (by simp (disch := omega) only [(ln_House_sorts ho)]; exact vp_in_nI (by omega) (by decide)), ho, (by simp (disch := omega) only [(ln_House_firsts ho)]; exact vp_in_nI (by omega) (by decide)), ho, (by simp (disch := omega) only [(ln_House_seconds ho)]; exact vp_in_nI (by omega) (by decide)), trivial⟩ ?_
      refine sW_eq (st' := ([.int (nI (Bf hs k)), .int (nI (Af hs k)), .int (nI (Sf hs k)), .int (nI k), .ref h], [some (.ref h), some (.int (nI k))], M)) (by simp (disch := omega) only [nI_clamp, x1, x2, x3]) ?_
      refine sW_callV 3 [.int (nI k), .int (nI (Sf hs k)), .int (nI (Af hs k)), .int (nI (Bf hs k))] [] d_House_namesOnlyItsOwn_30 c_House_namesOnlyItsOwn_30 ⟨rfl, rfl, rfl, Nat.le_of_ble_eq_true rfl, rfl, rfl⟩ ho (k_House_mayStand G ho e3 w1 (nI k) (nI (Sf hs k)) (nI (Af hs k)) (nI (Bf hs k))) ?_
      rintro _ M₁ ⟨rfl, h₁⟩
      rw [h₁]
      show sW G m_House_namesOnlyItsOwn 33 ([.int (tf (mayP hs.1 (nI k) (nI (Sf hs k)) (nI (Af hs k)) (nI (Bf hs k))))], [some (.ref h), some (.int (nI k))], M) _
      refine sW_if_ne 38 d_House_namesOnlyItsOwn_33 (by decide) (fun c_33 => ?_) (fun c_33 => ?_)
      · skip
        replace c_33 := tf_nz.mp c_33
        refine sW_go b_House_namesOnlyItsOwn_38 (st' := ([], [some (.ref h), some (.int (nI k + nI 1))], M)) (φ := True) rfl trivial ?_
        refine sW_eq (st' := ([], [some (.ref h), some (.int (nI (k + 1)))], M)) (by simp (disch := omega) only [nI_add]) ?_
        refine sW_goto 2 d_House_namesOnlyItsOwn_41 (by decide) ?_
        exact ih (k + 1) (by omega) (by omega) (fun i hi => by
          rcases Nat.lt_or_ge i k with q | q
          · exact hc i q
          · obtain rfl : i = k := by omega
            exact hm.mp c_33)
      · skip
        replace c_33 := tf_z.mp c_33
        refine sW_go b_House_namesOnlyItsOwn_36 (st' := ([.int (nI 0)], [some (.ref h), some (.int (nI k))], M)) (φ := True) rfl trivial ?_
        refine sW_retI d_House_namesOnlyItsOwn_37 rfl nb_0 ?_
        exact ⟨by rw [tf_f (fun q => c_33 (hm.mpr (q k hkn)))], rfl⟩
  · have hke : k = hs.1 := by omega
    refine sW_go b_House_namesOnlyItsOwn_2 (st' := ([.int (M h 3), .int (nI k)], [some (.ref h), some (.int (nI k))], M)) (φ := mx_ocl LAY h = 3 ∧ True) rfl ⟨ho, trivial⟩ ?_
    refine sW_eq (st' := ([.int (nI hs.1), .int (nI k)], [some (.ref h), some (.int (nI k))], M)) (by simp (disch := omega) only [e3]) ?_
    refine sW_ic_ge 44 d_House_namesOnlyItsOwn_7 (by decide) (fun c_7 => ?_) (fun c_7 => ?_)
    · skip
      simp (disch := omega) only [nI_leI] at c_7
      refine sW_go b_House_namesOnlyItsOwn_44 (st' := ([.int (nI 1)], [some (.ref h), some (.int (nI k))], M)) (φ := True) rfl trivial ?_
      refine sW_retI d_House_namesOnlyItsOwn_45 rfl nb_1 ?_
      exact ⟨by rw [tf_t (fun i hi => hc i (by omega))], rfl⟩
    · skip
      simp (disch := omega) only [nI_leI] at c_7
      exact absurd c_7 (by omega)

