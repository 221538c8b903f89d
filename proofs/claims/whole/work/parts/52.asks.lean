def prV (kd : Nat) (A : Int32) : Int32 := if kd = 5 then (A - nI 100) * nI 2 else A - nI 100
def prT (kd : Nat) : List Nat := if kd = 5 then [14, 13, 10] else [13, 10]
def jnV (kd : Nat) (K B : Int32) : Int32 := if kd = 2 then (K + B) * nI 2 else if kd = 3 then (K + B) - nI 1000 else K + B
def jnT (kd : Nat) : List Nat := if kd = 2 then [24, 21, 20] else if kd = 3 then [22, 21, 20] else [21, 20]
def mkV (kd : Nat) (K A B : Int32) : Int32 := if kd = 0 then K else if kd < 4 then jnV kd K B else K - prV kd A
def mkT (kd : Nat) : List Nat := if kd = 0 then [20] else if kd < 4 then jnT kd else [23, 20] ++ prT kd
def szV (kd : Nat) (K A B : Int32) : Int32 := if kd = 0 then A else if kd < 4 then (if kd = 2 then - (A + jnV kd K B) else A + jnV kd K B) else prV kd A
def szT (kd : Nat) : List Nat := if kd = 0 then [10] else if kd < 4 then (if kd = 2 then [12, 11, 10] else [11, 10]) ++ jnT kd else prT kd
theorem prT_le (kd : Nat) : (prT kd).length ≤ 3 := by unfold prT; split <;> decide
theorem jnT_le (kd : Nat) : (jnT kd).length ≤ 3 := by unfold jnT; split; decide; split <;> decide
theorem mkT_le (kd : Nat) : (mkT kd).length ≤ 5 := by
  unfold mkT
  have h1 := prT_le kd
  have h2 := jnT_le kd
  split
  · decide
  · split
    · omega
    · rw [List.length_append]
      show 2 + _ ≤ 5
      omega
theorem szT_le (kd : Nat) : (szT kd).length ≤ 6 := by
  unfold szT
  have h1 := prT_le kd
  have h2 := jnT_le kd
  split
  · decide
  · split
    · rw [List.length_append]
      split
      · show 3 + _ ≤ 6
        omega
      · show 2 + _ ≤ 6
        omega
    · omega
theorem k_sizeOfPairs (G : mx_G) {M : mx_M} {kd : Nat} {K A B : Int32} {T : List Nat} (h : AskAt M kd K A B T) (hT : T.length + 3 ≤ 16) (hk : kd ≤ 5) : sOk G m_Asks_sizeOfPairs [.ref 117] M (fun r M' => r = some (.int (prV kd A)) ∧ Fr M M' 117 119 ∧ AskAt M' kd K A B (T ++ prT kd)) := by
  have z := h.2.2.1
  refine sOk_of ⟨by decide +kernel, by decide +kernel, Nat.le_of_ble_eq_true rfl⟩ ?_
  show sW G m_Asks_sizeOfPairs 0 ([], [some (.ref 117)], M) _
  refine sW_go b_Asks_sizeOfPairs_0 (st' := ([.int (nI 5), .int (M 117 3)], [some (.ref 117)], M)) (φ := mx_ocl LAY 117 = 1 ∧ True) rfl ⟨oc_117, trivial⟩ ?_
  refine sW_eq (st' := ([.int (nI 5), .int (nI kd)], [some (.ref 117)], M)) (by simp (disch := omega) only [z]) ?_
  refine sW_ic_ne 15 d_Asks_sizeOfPairs_5 (by decide) (fun c_5 => ?_) (fun c_5 => ?_)
  · skip
    simp (disch := omega) only [nI_eq] at c_5
    refine sW_go b_Asks_sizeOfPairs_15 (st' := ([.ref 117], [some (.ref 117)], M)) (φ := True) rfl trivial ?_
    refine sW_callV 1 [] [] d_Asks_sizeOfPairs_16 c_Asks_sizeOfPairs_16 ⟨rfl, rfl, rfl, Nat.le_of_ble_eq_true rfl, rfl, rfl⟩ oc_117 (k_body13 G h (by omega)) ?_
    rintro _ M3 ⟨rfl, f3, g3⟩
    show sW G m_Asks_sizeOfPairs 19 ([.int (A - nI 100)], [some (.ref 117)], M3) _
    refine sW_retI d_Asks_sizeOfPairs_19 rfl (vp_nar_int _) ?_
    unfold prV prT
    rw [if_neg c_5, if_neg c_5]
    exact ⟨rfl, f3, g3⟩
  · skip
    simp (disch := omega) only [nI_eq] at c_5
    refine sW_go b_Asks_sizeOfPairs_8 (st' := ([.ref 117], [some (.ref 117)], M)) (φ := True) rfl trivial ?_
    refine sW_callV 1 [] [] d_Asks_sizeOfPairs_9 c_Asks_sizeOfPairs_9 ⟨rfl, rfl, rfl, Nat.le_of_ble_eq_true rfl, rfl, rfl⟩ oc_117 (k_body14 G h hT) ?_
    rintro _ M3 ⟨rfl, f3, g3⟩
    show sW G m_Asks_sizeOfPairs 12 ([.int ((A - nI 100) * nI 2)], [some (.ref 117)], M3) _
    refine sW_goto 19 d_Asks_sizeOfPairs_12 (by decide) ?_
    refine sW_retI d_Asks_sizeOfPairs_19 rfl (vp_nar_int _) ?_
    unfold prV prT
    rw [if_pos c_5, if_pos c_5]
    exact ⟨rfl, f3, g3⟩
theorem k_markOfJoint (G : mx_G) {M : mx_M} {kd : Nat} {K A B : Int32} {T : List Nat} (h : AskAt M kd K A B T) (hT : T.length + 3 ≤ 16) (hk : 1 ≤ kd) (hk3 : kd ≤ 3) : sOk G m_Asks_markOfJoint [.ref 117] M (fun r M' => r = some (.int (jnV kd K B)) ∧ Fr M M' 117 119 ∧ AskAt M' kd K A B (T ++ jnT kd)) := by
  have z := h.2.2.1
  refine sOk_of ⟨by decide +kernel, by decide +kernel, Nat.le_of_ble_eq_true rfl⟩ ?_
  show sW G m_Asks_markOfJoint 0 ([], [some (.ref 117)], M) _
  refine sW_go b_Asks_markOfJoint_0 (st' := ([.int (M 117 3)], [some (.ref 117)], M)) (φ := mx_ocl LAY 117 = 1 ∧ True) rfl ⟨oc_117, trivial⟩ ?_
  refine sW_eq (st' := ([.int (nI kd)], [some (.ref 117)], M)) (by simp (disch := omega) only [z]) ?_
  rcases (by omega : kd = 1 ∨ kd = 2 ∨ kd = 3) with rfl | rfl | rfl
  · refine sW_lsw 42 d_Asks_markOfJoint_4 (by decide) (by decide) ?_
    refine sW_go b_Asks_markOfJoint_42 (st' := ([.ref 117], [some (.ref 117)], M)) (φ := True) rfl trivial ?_
    refine sW_callV 1 [] [] d_Asks_markOfJoint_43 c_Asks_markOfJoint_43 ⟨rfl, rfl, rfl, Nat.le_of_ble_eq_true rfl, rfl, rfl⟩ oc_117 (k_body21 G h (by omega)) ?_
    rintro _ M3 ⟨rfl, f3, g3⟩
    show sW G m_Asks_markOfJoint 46 ([.int (K + B)], [some (.ref 117)], M3) _
    refine sW_retI d_Asks_markOfJoint_46 rfl (vp_nar_int _) ?_
    exact ⟨rfl, f3, g3⟩
  · refine sW_lsw 32 d_Asks_markOfJoint_4 (by decide) (by decide) ?_
    refine sW_go b_Asks_markOfJoint_32 (st' := ([.ref 117], [some (.ref 117)], M)) (φ := True) rfl trivial ?_
    refine sW_callV 1 [] [] d_Asks_markOfJoint_33 c_Asks_markOfJoint_33 ⟨rfl, rfl, rfl, Nat.le_of_ble_eq_true rfl, rfl, rfl⟩ oc_117 (k_body24 G h hT) ?_
    rintro _ M3 ⟨rfl, f3, g3⟩
    show sW G m_Asks_markOfJoint 36 ([.int ((K + B) * nI 2)], [some (.ref 117)], M3) _
    refine sW_retI d_Asks_markOfJoint_36 rfl (vp_nar_int _) ?_
    exact ⟨rfl, f3, g3⟩
  · refine sW_lsw 37 d_Asks_markOfJoint_4 (by decide) (by decide) ?_
    refine sW_go b_Asks_markOfJoint_37 (st' := ([.ref 117], [some (.ref 117)], M)) (φ := True) rfl trivial ?_
    refine sW_callV 1 [] [] d_Asks_markOfJoint_38 c_Asks_markOfJoint_38 ⟨rfl, rfl, rfl, Nat.le_of_ble_eq_true rfl, rfl, rfl⟩ oc_117 (k_body22 G h hT) ?_
    rintro _ M3 ⟨rfl, f3, g3⟩
    show sW G m_Asks_markOfJoint 41 ([.int ((K + B) - nI 1000)], [some (.ref 117)], M3) _
    refine sW_retI d_Asks_markOfJoint_41 rfl (vp_nar_int _) ?_
    exact ⟨rfl, f3, g3⟩
theorem k_body23 (G : mx_G) {M : mx_M} {kd : Nat} {K A B : Int32} {T : List Nat} (h : AskAt M kd K A B T) (hT : T.length + 5 ≤ 16) (hk : kd ≤ 5) : sOk G m_Asks_body23 [.ref 117] M (fun r M' => r = some (.int (K - prV kd A)) ∧ Fr M M' 117 119 ∧ AskAt M' kd K A B (T ++ ([23, 20] ++ prT kd))) := by
  refine sOk_of ⟨by decide +kernel, by decide +kernel, Nat.le_of_ble_eq_true rfl⟩ ?_
  show sW G m_Asks_body23 0 ([], [some (.ref 117)], M) _
  refine sW_go b_Asks_body23_0 (st' := ([.int (nI 23), .ref 117], [some (.ref 117)], M)) (φ := True) rfl trivial ?_
  refine sW_callV 1 [.int (nI 23)] [] d_Asks_body23_3 c_Asks_body23_3 ⟨rfl, rfl, rfl, Nat.le_of_ble_eq_true rfl, rfl, rfl⟩ oc_117 (k_leave G h (by omega) 23) ?_
  rintro _ M2 ⟨rfl, f2, g2⟩
  have l2 : (T ++ [23]).length = T.length + 1 := by simp
  show sW G m_Asks_body23 6 ([], [some (.ref 117)], M2) _
  refine sW_go b_Asks_body23_6 (st' := ([.ref 117], [some (.ref 117)], M2)) (φ := True) rfl trivial ?_
  refine sW_callV 1 [] [] d_Asks_body23_7 c_Asks_body23_7 ⟨rfl, rfl, rfl, Nat.le_of_ble_eq_true rfl, rfl, rfl⟩ oc_117 (k_body20 G g2 (by omega)) ?_
  rintro _ M3 ⟨rfl, f3, g3⟩
  have l3 : (T ++ [23] ++ [20]).length = T.length + 2 := by simp
  show sW G m_Asks_body23 10 ([.int K], [some (.ref 117)], M3) _
  refine sW_go b_Asks_body23_10 (st' := ([.ref 117, .int K], [some (.ref 117)], M3)) (φ := True) rfl trivial ?_
  refine sW_callV 1 [] [.int K] d_Asks_body23_11 c_Asks_body23_11 ⟨rfl, rfl, rfl, Nat.le_of_ble_eq_true rfl, rfl, rfl⟩ oc_117 (k_sizeOfPairs G g3 (by omega) hk) ?_
  rintro _ M4 ⟨rfl, f4, g4⟩
  show sW G m_Asks_body23 14 ([.int (prV kd A), .int K], [some (.ref 117)], M4) _
  refine sW_go b_Asks_body23_14 (st' := ([.int (K - prV kd A)], [some (.ref 117)], M4)) (φ := True) rfl trivial ?_
  refine sW_retI d_Asks_body23_15 rfl (vp_nar_int _) ?_
  exact ⟨rfl, (f2.tr f3).tr f4, by simpa [List.append_assoc] using g4⟩
theorem k_body11 (G : mx_G) {M : mx_M} {kd : Nat} {K A B : Int32} {T : List Nat} (h : AskAt M kd K A B T) (hT : T.length + 5 ≤ 16) (hk : 1 ≤ kd) (hk3 : kd ≤ 3) : sOk G m_Asks_body11 [.ref 117] M (fun r M' => r = some (.int (A + jnV kd K B)) ∧ Fr M M' 117 119 ∧ AskAt M' kd K A B (T ++ ([11, 10] ++ jnT kd))) := by
  refine sOk_of ⟨by decide +kernel, by decide +kernel, Nat.le_of_ble_eq_true rfl⟩ ?_
  show sW G m_Asks_body11 0 ([], [some (.ref 117)], M) _
  refine sW_go b_Asks_body11_0 (st' := ([.int (nI 11), .ref 117], [some (.ref 117)], M)) (φ := True) rfl trivial ?_
  refine sW_callV 1 [.int (nI 11)] [] d_Asks_body11_3 c_Asks_body11_3 ⟨rfl, rfl, rfl, Nat.le_of_ble_eq_true rfl, rfl, rfl⟩ oc_117 (k_leave G h (by omega) 11) ?_
  rintro _ M2 ⟨rfl, f2, g2⟩
  have l2 : (T ++ [11]).length = T.length + 1 := by simp
  show sW G m_Asks_body11 6 ([], [some (.ref 117)], M2) _
  refine sW_go b_Asks_body11_6 (st' := ([.ref 117], [some (.ref 117)], M2)) (φ := True) rfl trivial ?_
  refine sW_callV 1 [] [] d_Asks_body11_7 c_Asks_body11_7 ⟨rfl, rfl, rfl, Nat.le_of_ble_eq_true rfl, rfl, rfl⟩ oc_117 (k_body10 G g2 (by omega)) ?_
  rintro _ M3 ⟨rfl, f3, g3⟩
  have l3 : (T ++ [11] ++ [10]).length = T.length + 2 := by simp
  show sW G m_Asks_body11 10 ([.int A], [some (.ref 117)], M3) _
  refine sW_go b_Asks_body11_10 (st' := ([.ref 117, .int A], [some (.ref 117)], M3)) (φ := True) rfl trivial ?_
  refine sW_callV 1 [] [.int A] d_Asks_body11_11 c_Asks_body11_11 ⟨rfl, rfl, rfl, Nat.le_of_ble_eq_true rfl, rfl, rfl⟩ oc_117 (k_markOfJoint G g3 (by omega) hk hk3) ?_
  rintro _ M4 ⟨rfl, f4, g4⟩
  show sW G m_Asks_body11 14 ([.int (jnV kd K B), .int A], [some (.ref 117)], M4) _
  refine sW_go b_Asks_body11_14 (st' := ([.int (A + jnV kd K B)], [some (.ref 117)], M4)) (φ := True) rfl trivial ?_
  refine sW_retI d_Asks_body11_15 rfl (vp_nar_int _) ?_
  exact ⟨rfl, (f2.tr f3).tr f4, by simpa [List.append_assoc] using g4⟩
theorem k_body12 (G : mx_G) {M : mx_M} {kd : Nat} {K A B : Int32} {T : List Nat} (h : AskAt M kd K A B T) (hT : T.length + 6 ≤ 16) (hk : 1 ≤ kd) (hk3 : kd ≤ 3) : sOk G m_Asks_body12 [.ref 117] M (fun r M' => r = some (.int (- (A + jnV kd K B))) ∧ Fr M M' 117 119 ∧ AskAt M' kd K A B (T ++ ([12, 11, 10] ++ jnT kd))) := by
  refine sOk_of ⟨by decide +kernel, by decide +kernel, Nat.le_of_ble_eq_true rfl⟩ ?_
  show sW G m_Asks_body12 0 ([], [some (.ref 117)], M) _
  refine sW_go b_Asks_body12_0 (st' := ([.int (nI 12), .ref 117], [some (.ref 117)], M)) (φ := True) rfl trivial ?_
  refine sW_callV 1 [.int (nI 12)] [] d_Asks_body12_3 c_Asks_body12_3 ⟨rfl, rfl, rfl, Nat.le_of_ble_eq_true rfl, rfl, rfl⟩ oc_117 (k_leave G h (by omega) 12) ?_
  rintro _ M2 ⟨rfl, f2, g2⟩
  have l2 : (T ++ [12]).length = T.length + 1 := by simp
  show sW G m_Asks_body12 6 ([], [some (.ref 117)], M2) _
  refine sW_go b_Asks_body12_6 (st' := ([.ref 117], [some (.ref 117)], M2)) (φ := True) rfl trivial ?_
  refine sW_callV 1 [] [] d_Asks_body12_7 c_Asks_body12_7 ⟨rfl, rfl, rfl, Nat.le_of_ble_eq_true rfl, rfl, rfl⟩ oc_117 (k_body11 G g2 (by omega) hk hk3) ?_
  rintro _ M4 ⟨rfl, f4, g4⟩
  show sW G m_Asks_body12 10 ([.int (A + jnV kd K B)], [some (.ref 117)], M4) _
  refine sW_go b_Asks_body12_10 (st' := ([.int (-(A + jnV kd K B))], [some (.ref 117)], M4)) (φ := True) rfl trivial ?_
  refine sW_retI d_Asks_body12_11 rfl (vp_nar_int _) ?_
  exact ⟨rfl, f2.tr f4, by simpa [List.append_assoc] using g4⟩
theorem k_sizeOfOne (G : mx_G) {M : mx_M} {kd : Nat} {K A B : Int32} (h : AskAt M kd K A B []) (hk : kd ≤ 5) : sOk G m_Asks_sizeOfOne [.ref 117] M (fun r M' => r = some (.int (szV kd K A B)) ∧ Fr M M' 117 119 ∧ AskAt M' kd K A B (szT kd)) := by
  have z := h.2.2.1
  have i1 : isO kd 1 ↔ 1 ≤ kd ∧ kd ≤ 3 := by unfold isO; omega
  have i4 : isO kd 4 ↔ 4 ≤ kd := by unfold isO; omega
  refine sOk_of ⟨by decide +kernel, by decide +kernel, Nat.le_of_ble_eq_true rfl⟩ ?_
  show sW G m_Asks_sizeOfOne 0 ([], [some (.ref 117)], M) _
  refine sW_go b_Asks_sizeOfOne_0 (st' := ([.int (nI 1), .int (M 117 3)], [some (.ref 117)], M)) (φ := mx_ocl LAY 117 = 1 ∧ True) rfl ⟨oc_117, trivial⟩ ?_
  refine sW_eq (st' := ([.int (nI 1), .int (nI kd)], [some (.ref 117)], M)) (by simp (disch := omega) only [z]) ?_
  refine sW_callS [.int (nI kd), .int (nI 1)] [] d_Asks_sizeOfOne_5 c_Asks_sizeOfOne_5 ⟨rfl, rfl, Nat.le_of_ble_eq_true rfl, rfl, rfl⟩ (k_isOne G hk (by decide)) ?_
  rintro _ M₁ ⟨rfl, h₁⟩
  rw [h₁]
  show sW G m_Asks_sizeOfOne 8 ([.int (tf (isO kd 1))], [some (.ref 117)], M) _
  refine sW_if_eq 31 d_Asks_sizeOfOne_8 (by decide) (fun c_8 => ?_) (fun c_8 => ?_)
  · skip
    replace c_8 := tf_z.mp c_8
    refine sW_go b_Asks_sizeOfOne_31 (st' := ([.int (nI 4), .int (M 117 3)], [some (.ref 117)], M)) (φ := mx_ocl LAY 117 = 1 ∧ True) rfl ⟨oc_117, trivial⟩ ?_
    refine sW_eq (st' := ([.int (nI 4), .int (nI kd)], [some (.ref 117)], M)) (by simp (disch := omega) only [z]) ?_
    refine sW_callS [.int (nI kd), .int (nI 4)] [] d_Asks_sizeOfOne_36 c_Asks_sizeOfOne_36 ⟨rfl, rfl, Nat.le_of_ble_eq_true rfl, rfl, rfl⟩ (k_isOne G hk (by decide)) ?_
    rintro _ M₁ ⟨rfl, h₁⟩
    rw [h₁]
    show sW G m_Asks_sizeOfOne 39 ([.int (tf (isO kd 4))], [some (.ref 117)], M) _
    refine sW_if_eq 49 d_Asks_sizeOfOne_39 (by decide) (fun c_39 => ?_) (fun c_39 => ?_)
    · skip
      replace c_39 := tf_z.mp c_39
      have hz : kd = 0 := by
        have a1 : ¬ (1 ≤ kd ∧ kd ≤ 3) := fun q => c_8 (i1.mpr q)
        have a2 : ¬ 4 ≤ kd := fun q => c_39 (i4.mpr q)
        omega
      refine sW_go b_Asks_sizeOfOne_49 (st' := ([.ref 117], [some (.ref 117)], M)) (φ := True) rfl trivial ?_
      refine sW_callV 1 [] [] d_Asks_sizeOfOne_50 c_Asks_sizeOfOne_50 ⟨rfl, rfl, rfl, Nat.le_of_ble_eq_true rfl, rfl, rfl⟩ oc_117 (k_body10 G h (by decide)) ?_
      rintro _ M3 ⟨rfl, f3, g3⟩
      show sW G m_Asks_sizeOfOne 53 ([.int A], [some (.ref 117)], M3) _
      refine sW_retI d_Asks_sizeOfOne_53 rfl (vp_nar_int _) ?_
      subst hz
      exact ⟨rfl, f3, g3⟩
    · skip
      replace c_39 := tf_nz.mp c_39
      have hz := i4.mp c_39
      refine sW_go b_Asks_sizeOfOne_42 (st' := ([.ref 117], [some (.ref 117)], M)) (φ := True) rfl trivial ?_
      refine sW_callV 1 [] [] d_Asks_sizeOfOne_43 c_Asks_sizeOfOne_43 ⟨rfl, rfl, rfl, Nat.le_of_ble_eq_true rfl, rfl, rfl⟩ oc_117 (k_sizeOfPairs G h (by decide) hk) ?_
      rintro _ M3 ⟨rfl, f3, g3⟩
      show sW G m_Asks_sizeOfOne 46 ([.int (prV kd A)], [some (.ref 117)], M3) _
      refine sW_goto 53 d_Asks_sizeOfOne_46 (by decide) ?_
      refine sW_retI d_Asks_sizeOfOne_53 rfl (vp_nar_int _) ?_
      unfold szV szT
      rw [if_neg (by omega), if_neg (by omega), if_neg (by omega), if_neg (by omega)]
      exact ⟨rfl, f3, g3⟩
  · skip
    replace c_8 := tf_nz.mp c_8
    have hz := i1.mp c_8
    refine sW_go b_Asks_sizeOfOne_11 (st' := ([.int (nI 2), .int (M 117 3)], [some (.ref 117)], M)) (φ := mx_ocl LAY 117 = 1 ∧ True) rfl ⟨oc_117, trivial⟩ ?_
    refine sW_eq (st' := ([.int (nI 2), .int (nI kd)], [some (.ref 117)], M)) (by simp (disch := omega) only [z]) ?_
    refine sW_ic_ne 26 d_Asks_sizeOfOne_16 (by decide) (fun c_16 => ?_) (fun c_16 => ?_)
    · skip
      simp (disch := omega) only [nI_eq] at c_16
      refine sW_go b_Asks_sizeOfOne_26 (st' := ([.ref 117], [some (.ref 117)], M)) (φ := True) rfl trivial ?_
      refine sW_callV 1 [] [] d_Asks_sizeOfOne_27 c_Asks_sizeOfOne_27 ⟨rfl, rfl, rfl, Nat.le_of_ble_eq_true rfl, rfl, rfl⟩ oc_117 (k_body11 G h (by decide) hz.1 hz.2) ?_
      rintro _ M3 ⟨rfl, f3, g3⟩
      show sW G m_Asks_sizeOfOne 30 ([.int (A + jnV kd K B)], [some (.ref 117)], M3) _
      refine sW_retI d_Asks_sizeOfOne_30 rfl (vp_nar_int _) ?_
      unfold szV szT
      rw [if_neg (by omega), if_pos (by omega), if_neg (by omega), if_neg (by omega), if_pos (by omega), if_neg (by omega)]
      exact ⟨rfl, f3, g3⟩
    · skip
      simp (disch := omega) only [nI_eq] at c_16
      refine sW_go b_Asks_sizeOfOne_19 (st' := ([.ref 117], [some (.ref 117)], M)) (φ := True) rfl trivial ?_
      refine sW_callV 1 [] [] d_Asks_sizeOfOne_20 c_Asks_sizeOfOne_20 ⟨rfl, rfl, rfl, Nat.le_of_ble_eq_true rfl, rfl, rfl⟩ oc_117 (k_body12 G h (by decide) hz.1 hz.2) ?_
      rintro _ M3 ⟨rfl, f3, g3⟩
      show sW G m_Asks_sizeOfOne 23 ([.int (- (A + jnV kd K B))], [some (.ref 117)], M3) _
      refine sW_goto 30 d_Asks_sizeOfOne_23 (by decide) ?_
      refine sW_retI d_Asks_sizeOfOne_30 rfl (vp_nar_int _) ?_
      unfold szV szT
      rw [if_neg (by omega), if_pos (by omega), if_pos (by omega), if_neg (by omega), if_pos (by omega), if_pos (by omega)]
      exact ⟨rfl, f3, g3⟩
theorem k_markOfOne (G : mx_G) {M : mx_M} {kd : Nat} {K A B : Int32} (h : AskAt M kd K A B []) (hk : kd ≤ 5) : sOk G m_Asks_markOfOne [.ref 117] M (fun r M' => r = some (.int (mkV kd K A B)) ∧ Fr M M' 117 119 ∧ AskAt M' kd K A B (mkT kd)) := by
  have z := h.2.2.1
  have i1 : isO kd 1 ↔ 1 ≤ kd ∧ kd ≤ 3 := by unfold isO; omega
  have i4 : isO kd 4 ↔ 4 ≤ kd := by unfold isO; omega
  refine sOk_of ⟨by decide +kernel, by decide +kernel, Nat.le_of_ble_eq_true rfl⟩ ?_
  show sW G m_Asks_markOfOne 0 ([], [some (.ref 117)], M) _
  refine sW_go b_Asks_markOfOne_0 (st' := ([.int (nI 1), .int (M 117 3)], [some (.ref 117)], M)) (φ := mx_ocl LAY 117 = 1 ∧ True) rfl ⟨oc_117, trivial⟩ ?_
  refine sW_eq (st' := ([.int (nI 1), .int (nI kd)], [some (.ref 117)], M)) (by simp (disch := omega) only [z]) ?_
  refine sW_callS [.int (nI kd), .int (nI 1)] [] d_Asks_markOfOne_5 c_Asks_markOfOne_5 ⟨rfl, rfl, Nat.le_of_ble_eq_true rfl, rfl, rfl⟩ (k_isOne G hk (by decide)) ?_
  rintro _ M₁ ⟨rfl, h₁⟩
  rw [h₁]
  show sW G m_Asks_markOfOne 8 ([.int (tf (isO kd 1))], [some (.ref 117)], M) _
  refine sW_if_eq 16 d_Asks_markOfOne_8 (by decide) (fun c_8 => ?_) (fun c_8 => ?_)
  · skip
    replace c_8 := tf_z.mp c_8
    refine sW_go b_Asks_markOfOne_16 (st' := ([.int (nI 4), .int (M 117 3)], [some (.ref 117)], M)) (φ := mx_ocl LAY 117 = 1 ∧ True) rfl ⟨oc_117, trivial⟩ ?_
    refine sW_eq (st' := ([.int (nI 4), .int (nI kd)], [some (.ref 117)], M)) (by simp (disch := omega) only [z]) ?_
    refine sW_callS [.int (nI kd), .int (nI 4)] [] d_Asks_markOfOne_21 c_Asks_markOfOne_21 ⟨rfl, rfl, Nat.le_of_ble_eq_true rfl, rfl, rfl⟩ (k_isOne G hk (by decide)) ?_
    rintro _ M₁ ⟨rfl, h₁⟩
    rw [h₁]
    show sW G m_Asks_markOfOne 24 ([.int (tf (isO kd 4))], [some (.ref 117)], M) _
    refine sW_if_eq 34 d_Asks_markOfOne_24 (by decide) (fun c_24 => ?_) (fun c_24 => ?_)
    · skip
      replace c_24 := tf_z.mp c_24
      have hz : kd = 0 := by
        have a1 : ¬ (1 ≤ kd ∧ kd ≤ 3) := fun q => c_8 (i1.mpr q)
        have a2 : ¬ 4 ≤ kd := fun q => c_24 (i4.mpr q)
        omega
      refine sW_go b_Asks_markOfOne_34 (st' := ([.ref 117], [some (.ref 117)], M)) (φ := True) rfl trivial ?_
      refine sW_callV 1 [] [] d_Asks_markOfOne_35 c_Asks_markOfOne_35 ⟨rfl, rfl, rfl, Nat.le_of_ble_eq_true rfl, rfl, rfl⟩ oc_117 (k_body20 G h (by decide)) ?_
      rintro _ M3 ⟨rfl, f3, g3⟩
      show sW G m_Asks_markOfOne 38 ([.int K], [some (.ref 117)], M3) _
      refine sW_retI d_Asks_markOfOne_38 rfl (vp_nar_int _) ?_
      subst hz
      exact ⟨rfl, f3, g3⟩
    · skip
      replace c_24 := tf_nz.mp c_24
      have hz := i4.mp c_24
      refine sW_go b_Asks_markOfOne_27 (st' := ([.ref 117], [some (.ref 117)], M)) (φ := True) rfl trivial ?_
      refine sW_callV 1 [] [] d_Asks_markOfOne_28 c_Asks_markOfOne_28 ⟨rfl, rfl, rfl, Nat.le_of_ble_eq_true rfl, rfl, rfl⟩ oc_117 (k_body23 G h (by decide) hk) ?_
      rintro _ M3 ⟨rfl, f3, g3⟩
      show sW G m_Asks_markOfOne 31 ([.int (K - prV kd A)], [some (.ref 117)], M3) _
      refine sW_goto 38 d_Asks_markOfOne_31 (by decide) ?_
      refine sW_retI d_Asks_markOfOne_38 rfl (vp_nar_int _) ?_
      unfold mkV mkT
      rw [if_neg (by omega), if_neg (by omega), if_neg (by omega), if_neg (by omega)]
      exact ⟨rfl, f3, g3⟩
  · skip
    replace c_8 := tf_nz.mp c_8
    have hz := i1.mp c_8
    refine sW_go b_Asks_markOfOne_11 (st' := ([.ref 117], [some (.ref 117)], M)) (φ := True) rfl trivial ?_
    refine sW_callV 1 [] [] d_Asks_markOfOne_12 c_Asks_markOfOne_12 ⟨rfl, rfl, rfl, Nat.le_of_ble_eq_true rfl, rfl, rfl⟩ oc_117 (k_markOfJoint G h (by decide) hz.1 hz.2) ?_
    rintro _ M3 ⟨rfl, f3, g3⟩
    show sW G m_Asks_markOfOne 15 ([.int (jnV kd K B)], [some (.ref 117)], M3) _
    refine sW_retI d_Asks_markOfOne_15 rfl (vp_nar_int _) ?_
    unfold mkV mkT
    rw [if_neg (by omega), if_pos (by omega), if_neg (by omega), if_pos (by omega)]
    exact ⟨rfl, f3, g3⟩
theorem k_abegin (G : mx_G) {M : mx_M} {hs : Hs} {t : Nat} (hH : HsAt M 7 hs) (hw : HsOk hs) (ht : t < hs.1) : sOk G m_Asks_begin [.ref 117, .ref 7, .int (nI t)] M (fun r M' => r = none ∧ Fr M M' 117 119 ∧ AskAt M' (kindN (Sf hs t)) (nI t) (nI (Af hs t)) (nI (Bf hs t)) []) := by
  obtain ⟨x1, x2, x3⟩ := hH.2.2 t ht
  have w := hw.2.2 t ht
  have w1 := hw.1
  have q1 : (mx_wr (mx_wr M 117 1 (nI 0)) 117 2 (nI t)) 8 t = nI (Sf hs t) := by rw [mx_wr_n _ _ _ (by decide), mx_wr_n _ _ _ (by decide)]; exact x1
  have q2 : (mx_wr (mx_wr (mx_wr M 117 1 (nI 0)) 117 2 (nI t)) 117 3 (nI (kindN (Sf hs t)))) 9 t = nI (Af hs t) := by rw [mx_wr_n _ _ _ (by decide), mx_wr_n _ _ _ (by decide), mx_wr_n _ _ _ (by decide)]; exact x2
  have q3 : (mx_wr (mx_wr (mx_wr (mx_wr M 117 1 (nI 0)) 117 2 (nI t)) 117 3 (nI (kindN (Sf hs t)))) 117 4 (nI (Af hs t))) 10 t = nI (Bf hs t) := by rw [mx_wr_n _ _ _ (by decide), mx_wr_n _ _ _ (by decide), mx_wr_n _ _ _ (by decide), mx_wr_n _ _ _ (by decide)]; exact x3
  refine sOk_of ⟨by decide +kernel, by decide +kernel, Nat.le_of_ble_eq_true rfl⟩ ?_
  show sW G m_Asks_begin 0 ([], [some (.ref 117), some (.ref 7), some (.int (nI t))], M) _
  refine sW_go b_Asks_begin_0 (st' := ([.int ((mx_wr (mx_wr M 117 1 (nI 0)) 117 2 (nI t)) 8 (nI t).toNatClampNeg), .ref 117], [some (.ref 117), some (.ref 7), some (.int (nI t))], mx_wr (mx_wr M 117 1 (nI 0)) 117 2 (nI t))) (φ := mx_ocl LAY 117 = 1 ∧ mx_ocl LAY 117 = 1 ∧ mx_ocl LAY 7 = 3 ∧ vp_in (nI t) (mx_len LAY false 8) ∧ True) rfl ⟨oc_117, oc_117, oc_7, (by simp (disch := omega) only [ln_8]; exact vp_in_nI (by omega) (by decide)), trivial⟩ ?_
  refine sW_eq (st' := ([.int (nI (Sf hs t)), .ref 117], [some (.ref 117), some (.ref 7), some (.int (nI t))], mx_wr (mx_wr M 117 1 (nI 0)) 117 2 (nI t))) (by simp (disch := omega) only [nI_clamp, q1]) ?_
  refine sW_callS [.int (nI (Sf hs t))] [.ref 117] d_Asks_begin_17 c_Asks_begin_17 ⟨rfl, rfl, Nat.le_of_ble_eq_true rfl, rfl, rfl⟩ (k_kindOf G w.1) ?_
  rintro _ M₁ ⟨rfl, h₁⟩
  rw [h₁]
  show sW G m_Asks_begin 20 ([.int (nI (kindN (Sf hs t))), .ref 117], [some (.ref 117), some (.ref 7), some (.int (nI t))], mx_wr (mx_wr M 117 1 (nI 0)) 117 2 (nI t)) _
  refine sW_go b_Asks_begin_20 (st' := ([], [some (.ref 117), some (.ref 7), some (.int (nI t))], mx_wr (mx_wr (mx_wr (mx_wr (mx_wr M 117 1 (nI 0)) 117 2 (nI t)) 117 3 (nI (kindN (Sf hs t)))) 117 4 ((mx_wr (mx_wr (mx_wr M 117 1 (nI 0)) 117 2 (nI t)) 117 3 (nI (kindN (Sf hs t)))) 9 (nI t).toNatClampNeg)) 117 5 ((mx_wr (mx_wr (mx_wr (mx_wr M 117 1 (nI 0)) 117 2 (nI t)) 117 3 (nI (kindN (Sf hs t)))) 117 4 ((mx_wr (mx_wr (mx_wr M 117 1 (nI 0)) 117 2 (nI t)) 117 3 (nI (kindN (Sf hs t)))) 9 (nI t).toNatClampNeg)) 10 (nI t).toNatClampNeg))) (φ := mx_ocl LAY 117 = 1 ∧ mx_ocl LAY 7 = 3 ∧ vp_in (nI t) (mx_len LAY false 9) ∧ mx_ocl LAY 117 = 1 ∧ mx_ocl LAY 7 = 3 ∧ vp_in (nI t) (mx_len LAY false 10) ∧ mx_ocl LAY 117 = 1 ∧ True) rfl ⟨oc_117, oc_7, (by simp (disch := omega) only [ln_9]; exact vp_in_nI (by omega) (by decide)), oc_117, oc_7, (by simp (disch := omega) only [ln_10]; exact vp_in_nI (by omega) (by decide)), oc_117, trivial⟩ ?_
  refine sW_eq (st' := ([], [some (.ref 117), some (.ref 7), some (.int (nI t))], mx_wr (mx_wr (mx_wr (mx_wr (mx_wr M 117 1 (nI 0)) 117 2 (nI t)) 117 3 (nI (kindN (Sf hs t)))) 117 4 (nI (Af hs t))) 117 5 (nI (Bf hs t)))) (by simp (disch := omega) only [nI_clamp, q2, q3]) ?_
  refine sW_retV d_Asks_begin_43 rfl ?_
  refine ⟨rfl, ((((Fr.rf.wr (by decide) (by decide)).wr (by decide) (by decide)).wr (by decide) (by decide)).wr (by decide) (by decide)).wr (by decide) (by decide), ⟨?_, fun i hi => absurd hi (Nat.not_lt_zero i)⟩, ?_, ?_, ?_, ?_⟩
  all_goals simp [mx_wr_s, upd]

