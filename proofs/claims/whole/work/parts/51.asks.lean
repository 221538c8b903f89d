/-! ===== asks ===== -/
def kindN (s : Nat) : Nat := if s = 1 then 4 else if s = 2 then 5 else if s = 3 then 1 else if s = 4 then 2 else if s = 5 then 3 else 0
theorem kindN_le (s : Nat) : kindN s ≤ 5 := by unfold kindN; repeat' split
                                               all_goals omega
def isO (its w : Nat) : Prop := w = 0 ∨ its = w ∨ (w = 1 ∧ (its = 2 ∨ its = 3)) ∨ (w = 4 ∧ its = 5)
theorem k_kindOf (G : mx_G) {M : mx_M} {s : Nat} (hs : s ≤ 5) : sOk G m_Asks_kindOf [.int (nI s)] M (fun r M' => r = some (.int (nI (kindN s))) ∧ M' = M) := by
  refine sOk_of ⟨by decide +kernel, by decide +kernel, Nat.le_of_ble_eq_true rfl⟩ ?_
  show sW G m_Asks_kindOf 0 ([], [some (.int (nI s))], M) _
  refine sW_go b_Asks_kindOf_0 (st' := ([.int (nI s)], [some (.int (nI s))], M)) (φ := True) rfl trivial ?_
  refine sW_tsw 1 46 [36, 38, 40, 42, 44] d_Asks_kindOf_1 (by decide) (by decide) (fun c_1 => ?_) ⟨fun c_1 => ?_, fun c_1 => ?_, fun c_1 => ?_, fun c_1 => ?_, fun c_1 => ?_, trivial⟩
  · skip
    simp (disch := omega) only [nI_toInt] at c_1
    refine sW_go b_Asks_kindOf_46 (st' := ([.int (nI 0)], [some (.int (nI s))], M)) (φ := True) rfl trivial ?_
    refine sW_retI d_Asks_kindOf_47 rfl (vp_nar_int _) ?_
    rw [show s = 0 by omega]; exact ⟨rfl, rfl⟩
  · skip
    simp (disch := omega) only [nI_eq] at c_1
    refine sW_go b_Asks_kindOf_36 (st' := ([.int (nI 4)], [some (.int (nI s))], M)) (φ := True) rfl trivial ?_
    refine sW_retI d_Asks_kindOf_37 rfl (vp_nar_int _) ?_
    rw [c_1]; exact ⟨rfl, rfl⟩
  · skip
    simp (disch := omega) only [nI_eq] at c_1
    refine sW_go b_Asks_kindOf_38 (st' := ([.int (nI 5)], [some (.int (nI s))], M)) (φ := True) rfl trivial ?_
    refine sW_retI d_Asks_kindOf_39 rfl (vp_nar_int _) ?_
    rw [c_1]; exact ⟨rfl, rfl⟩
  · skip
    simp (disch := omega) only [nI_eq] at c_1
    refine sW_go b_Asks_kindOf_40 (st' := ([.int (nI 1)], [some (.int (nI s))], M)) (φ := True) rfl trivial ?_
    refine sW_retI d_Asks_kindOf_41 rfl (vp_nar_int _) ?_
    rw [c_1]; exact ⟨rfl, rfl⟩
  · skip
    simp (disch := omega) only [nI_eq] at c_1
    refine sW_go b_Asks_kindOf_42 (st' := ([.int (nI 2)], [some (.int (nI s))], M)) (φ := True) rfl trivial ?_
    refine sW_retI d_Asks_kindOf_43 rfl (vp_nar_int _) ?_
    rw [c_1]; exact ⟨rfl, rfl⟩
  · skip
    simp (disch := omega) only [nI_eq] at c_1
    refine sW_go b_Asks_kindOf_44 (st' := ([.int (nI 3)], [some (.int (nI s))], M)) (φ := True) rfl trivial ?_
    refine sW_retI d_Asks_kindOf_45 rfl (vp_nar_int _) ?_
    rw [c_1]; exact ⟨rfl, rfl⟩
theorem k_isOne (G : mx_G) {M : mx_M} {i w : Nat} (hi : i ≤ 5) (hw : w ≤ 5) : sOk G m_Asks_isOne [.int (nI i), .int (nI w)] M (fun r M' => r = some (.int (tf (isO i w))) ∧ M' = M) := by
  refine sOk_of ⟨by decide +kernel, by decide +kernel, Nat.le_of_ble_eq_true rfl⟩ ?_
  show sW G m_Asks_isOne 0 ([], [some (.int (nI i)), some (.int (nI w))], M) _
  refine sW_go b_Asks_isOne_0 (st' := ([.int (nI w)], [some (.int (nI i)), some (.int (nI w))], M)) (φ := True) rfl trivial ?_
  refine sW_tsw 0 65 [36, 38, 65, 65, 54] d_Asks_isOne_1 (by decide) (by decide) (fun c_1 => ?_) ⟨fun c_1 => ?_, fun c_1 => ?_, fun c_1 => ?_, fun c_1 => ?_, fun c_1 => ?_, trivial⟩
  · skip
    simp (disch := omega) only [nI_toInt] at c_1
    refine sW_go b_Asks_isOne_65 (st' := ([.int (nI w), .int (nI i)], [some (.int (nI i)), some (.int (nI w))], M)) (φ := True) rfl trivial ?_
    refine sW_ic_ne 74 d_Asks_isOne_67 (by decide) (fun c_67 => ?_) (fun c_67 => ?_)
    · skip
      simp (disch := omega) only [nI_eq] at c_67
      refine sW_go b_Asks_isOne_74 (st' := ([.int (nI 0)], [some (.int (nI i)), some (.int (nI w))], M)) (φ := True) rfl trivial ?_
      refine sW_retI d_Asks_isOne_75 rfl nb_0 ?_
      exact ⟨by rw [tf_f (by unfold isO; omega)], rfl⟩
    · skip
      simp (disch := omega) only [nI_eq] at c_67
      refine sW_go b_Asks_isOne_70 (st' := ([.int (nI 1)], [some (.int (nI i)), some (.int (nI w))], M)) (φ := True) rfl trivial ?_
      refine sW_goto 75 d_Asks_isOne_71 (by decide) ?_
      refine sW_retI d_Asks_isOne_75 rfl nb_1 ?_
      exact ⟨by rw [tf_t (by unfold isO; omega)], rfl⟩
  · skip
    simp (disch := omega) only [nI_eq] at c_1
    refine sW_go b_Asks_isOne_36 (st' := ([.int (nI 1)], [some (.int (nI i)), some (.int (nI w))], M)) (φ := True) rfl trivial ?_
    refine sW_retI d_Asks_isOne_37 rfl nb_1 ?_
    exact ⟨by rw [tf_t (by unfold isO; omega)], rfl⟩
  · skip
    simp (disch := omega) only [nI_eq] at c_1
    refine sW_go b_Asks_isOne_38 (st' := ([.int (nI 1), .int (nI i)], [some (.int (nI i)), some (.int (nI w))], M)) (φ := True) rfl trivial ?_
    refine sW_ic_lt 52 d_Asks_isOne_40 (by decide) (fun c_40 => ?_) (fun c_40 => ?_)
    · skip
      simp (disch := omega) only [nI_ltI] at c_40
      refine sW_go b_Asks_isOne_52 (st' := ([.int (nI 0)], [some (.int (nI i)), some (.int (nI w))], M)) (φ := True) rfl trivial ?_
      refine sW_retI d_Asks_isOne_53 rfl nb_0 ?_
      exact ⟨by rw [tf_f (by unfold isO; omega)], rfl⟩
    · skip
      simp (disch := omega) only [nI_ltI] at c_40
      refine sW_go b_Asks_isOne_43 (st' := ([.int (nI 3), .int (nI i)], [some (.int (nI i)), some (.int (nI w))], M)) (φ := True) rfl trivial ?_
      refine sW_ic_gt 52 d_Asks_isOne_45 (by decide) (fun c_45 => ?_) (fun c_45 => ?_)
      · skip
        simp (disch := omega) only [nI_ltI] at c_45
        refine sW_go b_Asks_isOne_52 (st' := ([.int (nI 0)], [some (.int (nI i)), some (.int (nI w))], M)) (φ := True) rfl trivial ?_
        refine sW_retI d_Asks_isOne_53 rfl nb_0 ?_
        exact ⟨by rw [tf_f (by unfold isO; omega)], rfl⟩
      · skip
        simp (disch := omega) only [nI_ltI] at c_45
        refine sW_go b_Asks_isOne_48 (st' := ([.int (nI 1)], [some (.int (nI i)), some (.int (nI w))], M)) (φ := True) rfl trivial ?_
        refine sW_goto 53 d_Asks_isOne_49 (by decide) ?_
        refine sW_retI d_Asks_isOne_53 rfl nb_1 ?_
        exact ⟨by rw [tf_t (by unfold isO; omega)], rfl⟩
  · skip
    simp (disch := omega) only [nI_eq] at c_1
    refine sW_go b_Asks_isOne_65 (st' := ([.int (nI w), .int (nI i)], [some (.int (nI i)), some (.int (nI w))], M)) (φ := True) rfl trivial ?_
    refine sW_ic_ne 74 d_Asks_isOne_67 (by decide) (fun c_67 => ?_) (fun c_67 => ?_)
    · skip
      simp (disch := omega) only [nI_eq] at c_67
      refine sW_go b_Asks_isOne_74 (st' := ([.int (nI 0)], [some (.int (nI i)), some (.int (nI w))], M)) (φ := True) rfl trivial ?_
      refine sW_retI d_Asks_isOne_75 rfl nb_0 ?_
      exact ⟨by rw [tf_f (by unfold isO; omega)], rfl⟩
    · skip
      simp (disch := omega) only [nI_eq] at c_67
      refine sW_go b_Asks_isOne_70 (st' := ([.int (nI 1)], [some (.int (nI i)), some (.int (nI w))], M)) (φ := True) rfl trivial ?_
      refine sW_goto 75 d_Asks_isOne_71 (by decide) ?_
      refine sW_retI d_Asks_isOne_75 rfl nb_1 ?_
      exact ⟨by rw [tf_t (by unfold isO; omega)], rfl⟩
  · skip
    simp (disch := omega) only [nI_eq] at c_1
    refine sW_go b_Asks_isOne_65 (st' := ([.int (nI w), .int (nI i)], [some (.int (nI i)), some (.int (nI w))], M)) (φ := True) rfl trivial ?_
    refine sW_ic_ne 74 d_Asks_isOne_67 (by decide) (fun c_67 => ?_) (fun c_67 => ?_)
    · skip
      simp (disch := omega) only [nI_eq] at c_67
      refine sW_go b_Asks_isOne_74 (st' := ([.int (nI 0)], [some (.int (nI i)), some (.int (nI w))], M)) (φ := True) rfl trivial ?_
      refine sW_retI d_Asks_isOne_75 rfl nb_0 ?_
      exact ⟨by rw [tf_f (by unfold isO; omega)], rfl⟩
    · skip
      simp (disch := omega) only [nI_eq] at c_67
      refine sW_go b_Asks_isOne_70 (st' := ([.int (nI 1)], [some (.int (nI i)), some (.int (nI w))], M)) (φ := True) rfl trivial ?_
      refine sW_goto 75 d_Asks_isOne_71 (by decide) ?_
      refine sW_retI d_Asks_isOne_75 rfl nb_1 ?_
      exact ⟨by rw [tf_t (by unfold isO; omega)], rfl⟩
  · skip
    simp (disch := omega) only [nI_eq] at c_1
    refine sW_go b_Asks_isOne_54 (st' := ([.int (nI 4), .int (nI i)], [some (.int (nI i)), some (.int (nI w))], M)) (φ := True) rfl trivial ?_
    refine sW_ic_lt 63 d_Asks_isOne_56 (by decide) (fun c_56 => ?_) (fun c_56 => ?_)
    · skip
      simp (disch := omega) only [nI_ltI] at c_56
      refine sW_go b_Asks_isOne_63 (st' := ([.int (nI 0)], [some (.int (nI i)), some (.int (nI w))], M)) (φ := True) rfl trivial ?_
      refine sW_retI d_Asks_isOne_64 rfl nb_0 ?_
      exact ⟨by rw [tf_f (by unfold isO; omega)], rfl⟩
    · skip
      simp (disch := omega) only [nI_ltI] at c_56
      refine sW_go b_Asks_isOne_59 (st' := ([.int (nI 1)], [some (.int (nI i)), some (.int (nI w))], M)) (φ := True) rfl trivial ?_
      refine sW_goto 64 d_Asks_isOne_60 (by decide) ?_
      refine sW_retI d_Asks_isOne_64 rfl nb_1 ?_
      exact ⟨by rw [tf_t (by unfold isO; omega)], rfl⟩
def TrcAt (M : mx_M) (T : List Nat) : Prop := M 117 1 = nI T.length ∧ ∀ i, i < T.length → M 118 i = nI (T.getD i 0)
theorem TrcAt.fr {M M' : mx_M} {lo hi : Nat} {T : List Nat} (h : TrcAt M T) (hf : Fr M M' lo hi) (hd : 119 ≤ lo ∨ hi ≤ 117) : TrcAt M' T := by
  unfold TrcAt
  rw [hf 117 (by omega), hf 118 (by omega)]
  exact h
def AskAt (M : mx_M) (kd : Nat) (K A B : Int32) (T : List Nat) : Prop := TrcAt M T ∧ M 117 2 = K ∧ M 117 3 = nI kd ∧ M 117 4 = A ∧ M 117 5 = B
theorem k_leave (G : mx_G) {M : mx_M} {kd : Nat} {K A B : Int32} {T : List Nat} (h : AskAt M kd K A B T) (hT : T.length < 16) (n : Nat) : sOk G m_Asks_leave [.ref 117, .int (nI n)] M (fun r M' => r = none ∧ Fr M M' 117 119 ∧ AskAt M' kd K A B (T ++ [n])) := by
  obtain ⟨⟨h1, h2⟩, h3, h4, h5, h6⟩ := h
  have q1 : (mx_wr M 118 T.length (nI n)) 117 1 = nI T.length := by rw [mx_wr_n _ _ _ (by decide)]; exact h1
  refine sOk_of ⟨by decide +kernel, by decide +kernel, Nat.le_of_ble_eq_true rfl⟩ ?_
  show sW G m_Asks_leave 0 ([], [some (.ref 117), some (.int (nI n))], M) _
  refine sW_go b_Asks_leave_0 (st' := ([.int (nI 16), .int (M 117 1)], [some (.ref 117), some (.int (nI n))], M)) (φ := mx_ocl LAY 117 = 1 ∧ True) rfl ⟨oc_117, trivial⟩ ?_
  refine sW_eq (st' := ([.int (nI 16), .int (nI T.length)], [some (.ref 117), some (.int (nI n))], M)) (by simp (disch := omega) only [h1]) ?_
  refine sW_ic_ge 29 d_Asks_leave_6 (by decide) (fun c_6 => ?_) (fun c_6 => ?_)
  · skip
    simp (disch := omega) only [nI_leI] at c_6
    refine sW_retV d_Asks_leave_29 rfl ?_
    omega
  · skip
    simp (disch := omega) only [nI_leI] at c_6
    refine sW_go b_Asks_leave_9 (st' := ([], [some (.ref 117), some (.int (nI n))], mx_wr (mx_wr M 118 (M 117 1).toNatClampNeg (nI n)) 117 1 ((mx_wr M 118 (M 117 1).toNatClampNeg (nI n)) 117 1 + nI 1))) (φ := mx_ocl LAY 117 = 1 ∧ mx_ocl LAY 117 = 1 ∧ vp_in (M 117 1) (mx_len LAY false 118) ∧ mx_ocl LAY 117 = 1 ∧ mx_ocl LAY 117 = 1 ∧ True) rfl ⟨oc_117, oc_117, (by simp (disch := omega) only [h1, ln_118]; exact vp_in_nI (by omega) (by decide)), oc_117, oc_117, trivial⟩ ?_
    refine sW_eq (st' := ([], [some (.ref 117), some (.int (nI n))], mx_wr (mx_wr M 118 T.length (nI n)) 117 1 (nI (T.length + 1)))) (by simp (disch := omega) only [h1, nI_add, nI_clamp, q1]) ?_
    refine sW_retV d_Asks_leave_29 rfl ?_
    have hl : (T ++ [n]).length = T.length + 1 := by simp
    have e : ∀ j, j ≠ 1 → (mx_wr (mx_wr M 118 T.length (nI n)) 117 1 (nI (T.length + 1))) 117 j = M 117 j := fun j hj => by rw [mx_wr_s, pk_un hj, mx_wr_n _ _ _ (by decide)]
    refine ⟨rfl, (Fr.rf.wr (by decide) (by decide)).wr (by decide) (by decide), ⟨?_, fun i hi => ?_⟩, (e 2 (by decide)).trans h3, (e 3 (by decide)).trans h4, (e 4 (by decide)).trans h5, (e 5 (by decide)).trans h6⟩
    · rw [hl, mx_wr_s, pk_us]
    · rw [mx_wr_n _ _ _ (by decide), mx_wr_s]
      by_cases hx : i = T.length
      · subst hx
        rw [pk_us]
        simp [List.getD_eq_getElem?_getD]
      · have hi2 : i < T.length := by omega
        rw [pk_un hx, h2 i hi2, List.getD_eq_getElem?_getD, List.getD_eq_getElem?_getD, List.getElem?_append_left hi2]
theorem k_body10 (G : mx_G) {M : mx_M} {kd : Nat} {K A B : Int32} {T : List Nat} (h : AskAt M kd K A B T) (hT : T.length < 16) : sOk G m_Asks_body10 [.ref 117] M (fun r M' => r = some (.int A) ∧ Fr M M' 117 119 ∧ AskAt M' kd K A B (T ++ [10])) := by
  refine sOk_of ⟨by decide +kernel, by decide +kernel, Nat.le_of_ble_eq_true rfl⟩ ?_
  show sW G m_Asks_body10 0 ([], [some (.ref 117)], M) _
  refine sW_go b_Asks_body10_0 (st' := ([.int (nI 10), .ref 117], [some (.ref 117)], M)) (φ := True) rfl trivial ?_
  refine sW_callV 1 [.int (nI 10)] [] d_Asks_body10_3 c_Asks_body10_3 ⟨rfl, rfl, rfl, Nat.le_of_ble_eq_true rfl, rfl, rfl⟩ oc_117 (k_leave G h hT 10) ?_
  rintro _ M2 ⟨rfl, f2, g2⟩
  have z : M2 117 4 = A := g2.2.2.2.1
  show sW G m_Asks_body10 6 ([], [some (.ref 117)], M2) _
  refine sW_go b_Asks_body10_6 (st' := ([.int (M2 117 4)], [some (.ref 117)], M2)) (φ := mx_ocl LAY 117 = 1 ∧ True) rfl ⟨oc_117, trivial⟩ ?_
  refine sW_eq (st' := ([.int A], [some (.ref 117)], M2)) (by simp (disch := omega) only [z]) ?_
  refine sW_retI d_Asks_body10_10 rfl (vp_nar_int _) ?_
  exact ⟨rfl, f2, g2⟩
theorem k_body20 (G : mx_G) {M : mx_M} {kd : Nat} {K A B : Int32} {T : List Nat} (h : AskAt M kd K A B T) (hT : T.length < 16) : sOk G m_Asks_body20 [.ref 117] M (fun r M' => r = some (.int K) ∧ Fr M M' 117 119 ∧ AskAt M' kd K A B (T ++ [20])) := by
  refine sOk_of ⟨by decide +kernel, by decide +kernel, Nat.le_of_ble_eq_true rfl⟩ ?_
  show sW G m_Asks_body20 0 ([], [some (.ref 117)], M) _
  refine sW_go b_Asks_body20_0 (st' := ([.int (nI 20), .ref 117], [some (.ref 117)], M)) (φ := True) rfl trivial ?_
  refine sW_callV 1 [.int (nI 20)] [] d_Asks_body20_3 c_Asks_body20_3 ⟨rfl, rfl, rfl, Nat.le_of_ble_eq_true rfl, rfl, rfl⟩ oc_117 (k_leave G h hT 20) ?_
  rintro _ M2 ⟨rfl, f2, g2⟩
  have z : M2 117 2 = K := g2.2.1
  show sW G m_Asks_body20 6 ([], [some (.ref 117)], M2) _
  refine sW_go b_Asks_body20_6 (st' := ([.int (M2 117 2)], [some (.ref 117)], M2)) (φ := mx_ocl LAY 117 = 1 ∧ True) rfl ⟨oc_117, trivial⟩ ?_
  refine sW_eq (st' := ([.int K], [some (.ref 117)], M2)) (by simp (disch := omega) only [z]) ?_
  refine sW_retI d_Asks_body20_10 rfl (vp_nar_int _) ?_
  exact ⟨rfl, f2, g2⟩
theorem k_body13 (G : mx_G) {M : mx_M} {kd : Nat} {K A B : Int32} {T : List Nat} (h : AskAt M kd K A B T) (hT : T.length + 2 ≤ 16) : sOk G m_Asks_body13 [.ref 117] M (fun r M' => r = some (.int (A - nI 100)) ∧ Fr M M' 117 119 ∧ AskAt M' kd K A B (T ++ [13, 10])) := by
  refine sOk_of ⟨by decide +kernel, by decide +kernel, Nat.le_of_ble_eq_true rfl⟩ ?_
  show sW G m_Asks_body13 0 ([], [some (.ref 117)], M) _
  refine sW_go b_Asks_body13_0 (st' := ([.int (nI 13), .ref 117], [some (.ref 117)], M)) (φ := True) rfl trivial ?_
  refine sW_callV 1 [.int (nI 13)] [] d_Asks_body13_3 c_Asks_body13_3 ⟨rfl, rfl, rfl, Nat.le_of_ble_eq_true rfl, rfl, rfl⟩ oc_117 (k_leave G h (by omega) 13) ?_
  rintro _ M2 ⟨rfl, f2, g2⟩
  have l2 : (T ++ [13]).length = T.length + 1 := by simp
  show sW G m_Asks_body13 6 ([], [some (.ref 117)], M2) _
  refine sW_go b_Asks_body13_6 (st' := ([.ref 117], [some (.ref 117)], M2)) (φ := True) rfl trivial ?_
  refine sW_callV 1 [] [] d_Asks_body13_7 c_Asks_body13_7 ⟨rfl, rfl, rfl, Nat.le_of_ble_eq_true rfl, rfl, rfl⟩ oc_117 (k_body10 G g2 (by omega)) ?_
  rintro _ M3 ⟨rfl, f3, g3⟩
  show sW G m_Asks_body13 10 ([.int A], [some (.ref 117)], M3) _
  refine sW_go b_Asks_body13_10 (st' := ([.int (A - nI 100)], [some (.ref 117)], M3)) (φ := True) rfl trivial ?_
  refine sW_retI d_Asks_body13_13 rfl (vp_nar_int _) ?_
  exact ⟨rfl, f2.tr f3, by simpa [List.append_assoc] using g3⟩
theorem k_body14 (G : mx_G) {M : mx_M} {kd : Nat} {K A B : Int32} {T : List Nat} (h : AskAt M kd K A B T) (hT : T.length + 3 ≤ 16) : sOk G m_Asks_body14 [.ref 117] M (fun r M' => r = some (.int ((A - nI 100) * nI 2)) ∧ Fr M M' 117 119 ∧ AskAt M' kd K A B (T ++ [14, 13, 10])) := by
  refine sOk_of ⟨by decide +kernel, by decide +kernel, Nat.le_of_ble_eq_true rfl⟩ ?_
  show sW G m_Asks_body14 0 ([], [some (.ref 117)], M) _
  refine sW_go b_Asks_body14_0 (st' := ([.int (nI 14), .ref 117], [some (.ref 117)], M)) (φ := True) rfl trivial ?_
  refine sW_callV 1 [.int (nI 14)] [] d_Asks_body14_3 c_Asks_body14_3 ⟨rfl, rfl, rfl, Nat.le_of_ble_eq_true rfl, rfl, rfl⟩ oc_117 (k_leave G h (by omega) 14) ?_
  rintro _ M2 ⟨rfl, f2, g2⟩
  have l2 : (T ++ [14]).length = T.length + 1 := by simp
  show sW G m_Asks_body14 6 ([], [some (.ref 117)], M2) _
  refine sW_go b_Asks_body14_6 (st' := ([.ref 117], [some (.ref 117)], M2)) (φ := True) rfl trivial ?_
  refine sW_callV 1 [] [] d_Asks_body14_7 c_Asks_body14_7 ⟨rfl, rfl, rfl, Nat.le_of_ble_eq_true rfl, rfl, rfl⟩ oc_117 (k_body13 G g2 (by omega)) ?_
  rintro _ M3 ⟨rfl, f3, g3⟩
  show sW G m_Asks_body14 10 ([.int (A - nI 100)], [some (.ref 117)], M3) _
  refine sW_go b_Asks_body14_10 (st' := ([.int ((A - nI 100) * nI 2)], [some (.ref 117)], M3)) (φ := True) rfl trivial ?_
  refine sW_retI d_Asks_body14_12 rfl (vp_nar_int _) ?_
  exact ⟨rfl, f2.tr f3, by simpa [List.append_assoc] using g3⟩
theorem k_body21 (G : mx_G) {M : mx_M} {kd : Nat} {K A B : Int32} {T : List Nat} (h : AskAt M kd K A B T) (hT : T.length + 2 ≤ 16) : sOk G m_Asks_body21 [.ref 117] M (fun r M' => r = some (.int (K + B)) ∧ Fr M M' 117 119 ∧ AskAt M' kd K A B (T ++ [21, 20])) := by
  refine sOk_of ⟨by decide +kernel, by decide +kernel, Nat.le_of_ble_eq_true rfl⟩ ?_
  show sW G m_Asks_body21 0 ([], [some (.ref 117)], M) _
  refine sW_go b_Asks_body21_0 (st' := ([.int (nI 21), .ref 117], [some (.ref 117)], M)) (φ := True) rfl trivial ?_
  refine sW_callV 1 [.int (nI 21)] [] d_Asks_body21_3 c_Asks_body21_3 ⟨rfl, rfl, rfl, Nat.le_of_ble_eq_true rfl, rfl, rfl⟩ oc_117 (k_leave G h (by omega) 21) ?_
  rintro _ M2 ⟨rfl, f2, g2⟩
  have l2 : (T ++ [21]).length = T.length + 1 := by simp
  show sW G m_Asks_body21 6 ([], [some (.ref 117)], M2) _
  refine sW_go b_Asks_body21_6 (st' := ([.ref 117], [some (.ref 117)], M2)) (φ := True) rfl trivial ?_
  refine sW_callV 1 [] [] d_Asks_body21_7 c_Asks_body21_7 ⟨rfl, rfl, rfl, Nat.le_of_ble_eq_true rfl, rfl, rfl⟩ oc_117 (k_body20 G g2 (by omega)) ?_
  rintro _ M3 ⟨rfl, f3, g3⟩
  have z : M3 117 5 = B := g3.2.2.2.2
  show sW G m_Asks_body21 10 ([.int K], [some (.ref 117)], M3) _
  refine sW_go b_Asks_body21_10 (st' := ([.int (K + M3 117 5)], [some (.ref 117)], M3)) (φ := mx_ocl LAY 117 = 1 ∧ True) rfl ⟨oc_117, trivial⟩ ?_
  refine sW_eq (st' := ([.int (K + B)], [some (.ref 117)], M3)) (by simp (disch := omega) only [z]) ?_
  refine sW_retI d_Asks_body21_15 rfl (vp_nar_int _) ?_
  exact ⟨rfl, f2.tr f3, by simpa [List.append_assoc] using g3⟩
theorem k_body22 (G : mx_G) {M : mx_M} {kd : Nat} {K A B : Int32} {T : List Nat} (h : AskAt M kd K A B T) (hT : T.length + 3 ≤ 16) : sOk G m_Asks_body22 [.ref 117] M (fun r M' => r = some (.int ((K + B) - nI 1000)) ∧ Fr M M' 117 119 ∧ AskAt M' kd K A B (T ++ [22, 21, 20])) := by
  refine sOk_of ⟨by decide +kernel, by decide +kernel, Nat.le_of_ble_eq_true rfl⟩ ?_
  show sW G m_Asks_body22 0 ([], [some (.ref 117)], M) _
  refine sW_go b_Asks_body22_0 (st' := ([.int (nI 22), .ref 117], [some (.ref 117)], M)) (φ := True) rfl trivial ?_
  refine sW_callV 1 [.int (nI 22)] [] d_Asks_body22_3 c_Asks_body22_3 ⟨rfl, rfl, rfl, Nat.le_of_ble_eq_true rfl, rfl, rfl⟩ oc_117 (k_leave G h (by omega) 22) ?_
  rintro _ M2 ⟨rfl, f2, g2⟩
  have l2 : (T ++ [22]).length = T.length + 1 := by simp
  show sW G m_Asks_body22 6 ([], [some (.ref 117)], M2) _
  refine sW_go b_Asks_body22_6 (st' := ([.ref 117], [some (.ref 117)], M2)) (φ := True) rfl trivial ?_
  refine sW_callV 1 [] [] d_Asks_body22_7 c_Asks_body22_7 ⟨rfl, rfl, rfl, Nat.le_of_ble_eq_true rfl, rfl, rfl⟩ oc_117 (k_body21 G g2 (by omega)) ?_
  rintro _ M3 ⟨rfl, f3, g3⟩
  show sW G m_Asks_body22 10 ([.int (K + B)], [some (.ref 117)], M3) _
  refine sW_go b_Asks_body22_10 (st' := ([.int ((K + B) - nI 1000)], [some (.ref 117)], M3)) (φ := True) rfl trivial ?_
  refine sW_retI d_Asks_body22_14 rfl (vp_nar_int _) ?_
  exact ⟨rfl, f2.tr f3, by simpa [List.append_assoc] using g3⟩
theorem k_body24 (G : mx_G) {M : mx_M} {kd : Nat} {K A B : Int32} {T : List Nat} (h : AskAt M kd K A B T) (hT : T.length + 3 ≤ 16) : sOk G m_Asks_body24 [.ref 117] M (fun r M' => r = some (.int ((K + B) * nI 2)) ∧ Fr M M' 117 119 ∧ AskAt M' kd K A B (T ++ [24, 21, 20])) := by
  refine sOk_of ⟨by decide +kernel, by decide +kernel, Nat.le_of_ble_eq_true rfl⟩ ?_
  show sW G m_Asks_body24 0 ([], [some (.ref 117)], M) _
  refine sW_go b_Asks_body24_0 (st' := ([.int (nI 24), .ref 117], [some (.ref 117)], M)) (φ := True) rfl trivial ?_
  refine sW_callV 1 [.int (nI 24)] [] d_Asks_body24_3 c_Asks_body24_3 ⟨rfl, rfl, rfl, Nat.le_of_ble_eq_true rfl, rfl, rfl⟩ oc_117 (k_leave G h (by omega) 24) ?_
  rintro _ M2 ⟨rfl, f2, g2⟩
  have l2 : (T ++ [24]).length = T.length + 1 := by simp
  show sW G m_Asks_body24 6 ([], [some (.ref 117)], M2) _
  refine sW_go b_Asks_body24_6 (st' := ([.ref 117], [some (.ref 117)], M2)) (φ := True) rfl trivial ?_
  refine sW_callV 1 [] [] d_Asks_body24_7 c_Asks_body24_7 ⟨rfl, rfl, rfl, Nat.le_of_ble_eq_true rfl, rfl, rfl⟩ oc_117 (k_body21 G g2 (by omega)) ?_
  rintro _ M3 ⟨rfl, f3, g3⟩
  show sW G m_Asks_body24 10 ([.int (K + B)], [some (.ref 117)], M3) _
  refine sW_go b_Asks_body24_10 (st' := ([.int ((K + B) * nI 2)], [some (.ref 117)], M3)) (φ := True) rfl trivial ?_
  refine sW_retI d_Asks_body24_12 rfl (vp_nar_int _) ?_
  exact ⟨rfl, f2.tr f3, by simpa [List.append_assoc] using g3⟩

