def prV (kd : Nat) (A : Int32) : Int32 := if kd = 5 then (A - nI 100) * nI 2 else A - nI 100
def prT (kd : Nat) : List Nat := if kd = 5 then [14, 13, 10] else [13, 10]
def jnV (kd : Nat) (K B : Int32) : Int32 := if kd = 2 then (K + B) * nI 2 else if kd = 3 then (K + B) - nI 1000 else K + B
def jnT (kd : Nat) : List Nat := if kd = 2 then [24, 21, 20] else if kd = 3 then [22, 21, 20] else [21, 20]
def mkV (kd : Nat) (K A B : Int32) : Int32 := if kd = 0 then K else if kd < 4 then jnV kd K B else K - prV kd A
def mkT (kd : Nat) : List Nat := if kd = 0 then [20] else if kd < 4 then jnT kd else [23, 20] ++ prT kd
def szV (kd : Nat) (K A B : Int32) : Int32 := if kd = 0 then A else if kd < 4 then (if kd = 2 then - (A + jnV kd K B) else A + jnV kd K B) else prV kd A
def szT (kd : Nat) : List Nat := if kd = 0 then [10] else if kd < 4 then (if kd = 2 then [12, 11, 10] else [11, 10]) ++ jnT kd else prT kd
theorem prT_le (kd : Nat) : (prT kd).length ≤ 3 := by unfold prT; split <;> decide
theorem jnT_le (kd : Nat) : (jnT kd).length ≤ 3 := by unfold jnT; split; decide; split <;> decide
theorem mkT_le (kd : Nat) : (mkT kd).length ≤ 5 := by
  unfold mkT
  have h1 := prT_le kd
  have h2 := jnT_le kd
  split
  · decide
  · split
    · omega
    · rw [List.length_append]
      show 2 + _ ≤ 5
      omega
theorem szT_le (kd : Nat) : (szT kd).length ≤ 6 := by
  unfold szT
  have h1 := prT_le kd
  have h2 := jnT_le kd
  split
  · decide
  · split
    · rw [List.length_append]
      split
      · show 3 + _ ≤ 6
        omega
      · show 2 + _ ≤ 6
        omega
    · omega
theorem k_body23 (G : mx_G) {M : mx_M} {kd : Nat} {K A B : Int32} {T : List Nat} (h : AskAt M kd K A B T) (hT : T.length + 5 ≤ 16) (hk : kd ≤ 5) : sOk G m_Asks_body23 [.ref 117] M (fun r M' => r = some (.int (K - prV kd A)) ∧ Fr M M' 117 119 ∧ AskAt M' kd K A B (T ++ ([23, 20] ++ prT kd))) := by
  refine sOk_of ⟨by decide +kernel, by decide +kernel, Nat.le_of_ble_eq_true rfl⟩ ?_
  show sW G m_Asks_body23 0 ([], [some (.ref 117), none], M) _
  refine sW_go b_Asks_body23_0 (st' := ([.int (nI 23), .ref 117], [some (.ref 117), none], M)) (φ := True) rfl trivial ?_
  refine sW_callV 1 [.int (nI 23)] [] d_Asks_body23_3 c_Asks_body23_3 ⟨rfl, rfl, rfl, Nat.le_of_ble_eq_true rfl, rfl, rfl⟩ oc_117 (k_leave G h (by omega) 23) ?_
  rintro _ M2 ⟨rfl, f2, g2⟩
  have l2 : (T ++ [23]).length = T.length + 1 := by simp
  show sW G m_Asks_body23 6 ([], [some (.ref 117), none], M2) _
  refine sW_go b_Asks_body23_6 (st' := ([.ref 117], [some (.ref 117), none], M2)) (φ := True) rfl trivial ?_
  refine sW_callV 1 [] [] d_Asks_body23_7 c_Asks_body23_7 ⟨rfl, rfl, rfl, Nat.le_of_ble_eq_true rfl, rfl, rfl⟩ oc_117 (k_body20 G g2 (by omega)) ?_
  rintro _ M3 ⟨rfl, f3, g3⟩
  have l3 : (T ++ [23] ++ [20]).length = T.length + 2 ∧ M3 117 3 = nI kd := ⟨by simp, g3.2.2.1⟩
  show sW G m_Asks_body23 10 ([.int K], [some (.ref 117), none], M3) _
  refine sW_go b_Asks_body23_10 (st' := ([.int (nI 5), .int (M3 117 3), .int K], [some (.ref 117), some (.int K)], M3)) (φ := mx_ocl LAY 117 = 1 ∧ True) rfl ⟨oc_117, trivial⟩ ?_
  refine sW_eq (st' := ([.int (nI 5), .int (nI kd), .int K], [some (.ref 117), some (.int K)], M3)) (by simp (disch := omega) only [l3.2]) ?_
  refine sW_ic_ne 27 d_Asks_body23_17 (by decide) (fun c_17 => ?_) (fun c_17 => ?_)
  · skip
    simp (disch := omega) only [nI_eq] at c_17
    refine sW_go b_Asks_body23_27 (st' := ([.ref 117, .int K], [some (.ref 117), some (.int K)], M3)) (φ := True) rfl trivial ?_
    refine sW_callV 1 [] [.int K] d_Asks_body23_28 c_Asks_body23_28 ⟨rfl, rfl, rfl, Nat.le_of_ble_eq_true rfl, rfl, rfl⟩ oc_117 (k_body13 G g3 (by omega)) ?_
    rintro _ M4 ⟨rfl, f4, g4⟩
    show sW G m_Asks_body23 31 ([.int (A - nI 100), .int K], [some (.ref 117), some (.int K)], M4) _
    refine sW_go b_Asks_body23_31 (st' := ([.int (K - (A - nI 100))], [some (.ref 117), some (.int K)], M4)) (φ := True) rfl trivial ?_
    refine sW_retI d_Asks_body23_32 rfl (vp_nar_int _) ?_
    unfold prV prT
    rw [if_neg c_17, if_neg c_17]
    exact ⟨rfl, (f2.tr f3).tr f4, by simpa [List.append_assoc] using g4⟩
  · skip
    simp (disch := omega) only [nI_eq] at c_17
    refine sW_go b_Asks_body23_20 (st' := ([.ref 117, .int K], [some (.ref 117), some (.int K)], M3)) (φ := True) rfl trivial ?_
    refine sW_callV 1 [] [.int K] d_Asks_body23_21 c_Asks_body23_21 ⟨rfl, rfl, rfl, Nat.le_of_ble_eq_true rfl, rfl, rfl⟩ oc_117 (k_body14 G g3 (by omega)) ?_
    rintro _ M4 ⟨rfl, f4, g4⟩
    show sW G m_Asks_body23 24 ([.int ((A - nI 100) * nI 2), .int K], [some (.ref 117), some (.int K)], M4) _
    refine sW_goto 31 d_Asks_body23_24 (by decide) ?_
    refine sW_go b_Asks_body23_31 (st' := ([.int (K - ((A - nI 100) * nI 2))], [some (.ref 117), some (.int K)], M4)) (φ := True) rfl trivial ?_
    refine sW_retI d_Asks_body23_32 rfl (vp_nar_int _) ?_
    unfold prV prT
    rw [if_pos c_17, if_pos c_17]
    exact ⟨rfl, (f2.tr f3).tr f4, by simpa [List.append_assoc] using g4⟩
theorem k_body11 (G : mx_G) {M : mx_M} {kd : Nat} {K A B : Int32} {T : List Nat} (h : AskAt M kd K A B T) (hT : T.length + 5 ≤ 16) (hk : 1 ≤ kd) (hk3 : kd ≤ 3) : sOk G m_Asks_body11 [.ref 117] M (fun r M' => r = some (.int (A + jnV kd K B)) ∧ Fr M M' 117 119 ∧ AskAt M' kd K A B (T ++ ([11, 10] ++ jnT kd))) := by
  refine sOk_of ⟨by decide +kernel, by decide +kernel, Nat.le_of_ble_eq_true rfl⟩ ?_
  show sW G m_Asks_body11 0 ([], [some (.ref 117), none], M) _
  refine sW_go b_Asks_body11_0 (st' := ([.int (nI 11), .ref 117], [some (.ref 117), none], M)) (φ := True) rfl trivial ?_
  refine sW_callV 1 [.int (nI 11)] [] d_Asks_body11_3 c_Asks_body11_3 ⟨rfl, rfl, rfl, Nat.le_of_ble_eq_true rfl, rfl, rfl⟩ oc_117 (k_leave G h (by omega) 11) ?_
  rintro _ M2 ⟨rfl, f2, g2⟩
  have l2 : (T ++ [11]).length = T.length + 1 := by simp
  show sW G m_Asks_body11 6 ([], [some (.ref 117), none], M2) _
  refine sW_go b_Asks_body11_6 (st' := ([.ref 117], [some (.ref 117), none], M2)) (φ := True) rfl trivial ?_
  refine sW_callV 1 [] [] d_Asks_body11_7 c_Asks_body11_7 ⟨rfl, rfl, rfl, Nat.le_of_ble_eq_true rfl, rfl, rfl⟩ oc_117 (k_body10 G g2 (by omega)) ?_
  rintro _ M3 ⟨rfl, f3, g3⟩
  have l3 : (T ++ [11] ++ [10]).length = T.length + 2 ∧ M3 117 3 = nI kd := ⟨by simp, g3.2.2.1⟩
  show sW G m_Asks_body11 10 ([.int A], [some (.ref 117), none], M3) _
  refine sW_go b_Asks_body11_10 (st' := ([.int (M3 117 3)], [some (.ref 117), some (.int A)], M3)) (φ := mx_ocl LAY 117 = 1 ∧ True) rfl ⟨oc_117, trivial⟩ ?_
  refine sW_eq (st' := ([.int (nI kd)], [some (.ref 117), some (.int A)], M3)) (by simp (disch := omega) only [l3.2]) ?_
  rcases (by omega : kd = 1 ∨ kd = 2 ∨ kd = 3) with rfl | rfl | rfl
  · refine sW_lsw 54 d_Asks_body11_15 (by decide) (by decide) ?_
    refine sW_go b_Asks_body11_54 (st' := ([.ref 117, .int A], [some (.ref 117), some (.int A)], M3)) (φ := True) rfl trivial ?_
    refine sW_callV 1 [] [.int A] d_Asks_body11_56 c_Asks_body11_56 ⟨rfl, rfl, rfl, Nat.le_of_ble_eq_true rfl, rfl, rfl⟩ oc_117 (k_body21 G g3 (by omega)) ?_
    rintro _ M4 ⟨rfl, f4, g4⟩
    show sW G m_Asks_body11 59 ([.int (K + B), .int A], [some (.ref 117), some (.int A)], M4) _
    refine sW_go b_Asks_body11_59 (st' := ([.int (A + (K + B))], [some (.ref 117), some (.int A)], M4)) (φ := True) rfl trivial ?_
    refine sW_retI d_Asks_body11_60 rfl (vp_nar_int _) ?_
    exact ⟨rfl, (f2.tr f3).tr f4, by simpa [List.append_assoc, jnT] using g4⟩
  · refine sW_lsw 47 d_Asks_body11_15 (by decide) (by decide) ?_
    refine sW_go b_Asks_body11_47 (st' := ([.ref 117, .int A], [some (.ref 117), some (.int A)], M3)) (φ := True) rfl trivial ?_
    refine sW_callV 1 [] [.int A] d_Asks_body11_49 c_Asks_body11_49 ⟨rfl, rfl, rfl, Nat.le_of_ble_eq_true rfl, rfl, rfl⟩ oc_117 (k_body24 G g3 (by omega)) ?_
    rintro _ M4 ⟨rfl, f4, g4⟩
    show sW G m_Asks_body11 52 ([.int ((K + B) * nI 2), .int A], [some (.ref 117), some (.int A)], M4) _
    refine sW_go b_Asks_body11_52 (st' := ([.int (A + ((K + B) * nI 2))], [some (.ref 117), some (.int A)], M4)) (φ := True) rfl trivial ?_
    refine sW_retI d_Asks_body11_53 rfl (vp_nar_int _) ?_
    exact ⟨rfl, (f2.tr f3).tr f4, by simpa [List.append_assoc, jnT] using g4⟩
  · refine sW_lsw 40 d_Asks_body11_15 (by decide) (by decide) ?_
    refine sW_go b_Asks_body11_40 (st' := ([.ref 117, .int A], [some (.ref 117), some (.int A)], M3)) (φ := True) rfl trivial ?_
    refine sW_callV 1 [] [.int A] d_Asks_body11_42 c_Asks_body11_42 ⟨rfl, rfl, rfl, Nat.le_of_ble_eq_true rfl, rfl, rfl⟩ oc_117 (k_body22 G g3 (by omega)) ?_
    rintro _ M4 ⟨rfl, f4, g4⟩
    show sW G m_Asks_body11 45 ([.int ((K + B) - nI 1000), .int A], [some (.ref 117), some (.int A)], M4) _
    refine sW_go b_Asks_body11_45 (st' := ([.int (A + ((K + B) - nI 1000))], [some (.ref 117), some (.int A)], M4)) (φ := True) rfl trivial ?_
    refine sW_retI d_Asks_body11_46 rfl (vp_nar_int _) ?_
    exact ⟨rfl, (f2.tr f3).tr f4, by simpa [List.append_assoc, jnT] using g4⟩
theorem k_body12 (G : mx_G) {M : mx_M} {kd : Nat} {K A B : Int32} {T : List Nat} (h : AskAt M kd K A B T) (hT : T.length + 6 ≤ 16) (hk : 1 ≤ kd) (hk3 : kd ≤ 3) : sOk G m_Asks_body12 [.ref 117] M (fun r M' => r = some (.int (- (A + jnV kd K B))) ∧ Fr M M' 117 119 ∧ AskAt M' kd K A B (T ++ ([12, 11, 10] ++ jnT kd))) := by
  refine sOk_of ⟨by decide +kernel, by decide +kernel, Nat.le_of_ble_eq_true rfl⟩ ?_
  show sW G m_Asks_body12 0 ([], [some (.ref 117)], M) _
  refine sW_go b_Asks_body12_0 (st' := ([.int (nI 12), .ref 117], [some (.ref 117)], M)) (φ := True) rfl trivial ?_
  refine sW_callV 1 [.int (nI 12)] [] d_Asks_body12_3 c_Asks_body12_3 ⟨rfl, rfl, rfl, Nat.le_of_ble_eq_true rfl, rfl, rfl⟩ oc_117 (k_leave G h (by omega) 12) ?_
  rintro _ M2 ⟨rfl, f2, g2⟩
  have l2 : (T ++ [12]).length = T.length + 1 := by simp
  show sW G m_Asks_body12 6 ([], [some (.ref 117)], M2) _
  refine sW_go b_Asks_body12_6 (st' := ([.ref 117], [some (.ref 117)], M2)) (φ := True) rfl trivial ?_
  refine sW_callV 1 [] [] d_Asks_body12_7 c_Asks_body12_7 ⟨rfl, rfl, rfl, Nat.le_of_ble_eq_true rfl, rfl, rfl⟩ oc_117 (k_body11 G g2 (by omega) hk hk3) ?_
  rintro _ M4 ⟨rfl, f4, g4⟩
  show sW G m_Asks_body12 10 ([.int (A + jnV kd K B)], [some (.ref 117)], M4) _
  refine sW_go b_Asks_body12_10 (st' := ([.int (-(A + jnV kd K B))], [some (.ref 117)], M4)) (φ := True) rfl trivial ?_
  refine sW_retI d_Asks_body12_11 rfl (vp_nar_int _) ?_
  exact ⟨rfl, f2.tr f4, by simpa [List.append_assoc] using g4⟩
theorem k_sizeOfOne (G : mx_G) {M : mx_M} {kd : Nat} {K A B : Int32} (h : AskAt M kd K A B []) (hk : kd ≤ 5) : sOk G m_Asks_sizeOfOne [.ref 117] M (fun r M' => r = some (.int (szV kd K A B)) ∧ Fr M M' 117 119 ∧ AskAt M' kd K A B (szT kd)) := by
  have z := h.2.2.1
  refine sOk_of ⟨by decide +kernel, by decide +kernel, Nat.le_of_ble_eq_true rfl⟩ ?_
  show sW G m_Asks_sizeOfOne 0 ([], [some (.ref 117)], M) _
  refine sW_go b_Asks_sizeOfOne_0 (st' := ([.int (M 117 3)], [some (.ref 117)], M)) (φ := mx_ocl LAY 117 = 1 ∧ True) rfl ⟨oc_117, trivial⟩ ?_
  refine sW_eq (st' := ([.int (nI kd)], [some (.ref 117)], M)) (by simp (disch := omega) only [z]) ?_
  refine sW_tsw 1 60 [40, 45, 40, 50, 55] d_Asks_sizeOfOne_4 (by decide) (by decide) (fun c_4 => ?_) ⟨fun c_4 => ?_, fun c_4 => ?_, fun c_4 => ?_, fun c_4 => ?_, fun c_4 => ?_, trivial⟩
  · skip
    simp (disch := omega) only [nI_toInt] at c_4
    refine sW_go b_Asks_sizeOfOne_60 (st' := ([.ref 117], [some (.ref 117)], M)) (φ := True) rfl trivial ?_
    refine sW_callV 1 [] [] d_Asks_sizeOfOne_61 c_Asks_sizeOfOne_61 ⟨rfl, rfl, rfl, Nat.le_of_ble_eq_true rfl, rfl, rfl⟩ oc_117 (k_body10 G h (by decide)) ?_
    rintro _ M3 ⟨rfl, f3, g3⟩
    show sW G m_Asks_sizeOfOne 64 ([.int A], [some (.ref 117)], M3) _
    refine sW_retI d_Asks_sizeOfOne_64 rfl (vp_nar_int _) ?_
    have hz : kd = 0 := by omega
    subst hz
    exact ⟨rfl, f3, g3⟩
  · skip
    simp (disch := omega) only [nI_eq] at c_4
    refine sW_go b_Asks_sizeOfOne_40 (st' := ([.ref 117], [some (.ref 117)], M)) (φ := True) rfl trivial ?_
    refine sW_callV 1 [] [] d_Asks_sizeOfOne_41 c_Asks_sizeOfOne_41 ⟨rfl, rfl, rfl, Nat.le_of_ble_eq_true rfl, rfl, rfl⟩ oc_117 (k_body11 G h (by decide) (by omega) (by omega)) ?_
    rintro _ M3 ⟨rfl, f3, g3⟩
    show sW G m_Asks_sizeOfOne 44 ([.int (A + jnV kd K B)], [some (.ref 117)], M3) _
    refine sW_retI d_Asks_sizeOfOne_44 rfl (vp_nar_int _) ?_
    subst c_4
    exact ⟨rfl, f3, g3⟩
  · skip
    simp (disch := omega) only [nI_eq] at c_4
    refine sW_go b_Asks_sizeOfOne_45 (st' := ([.ref 117], [some (.ref 117)], M)) (φ := True) rfl trivial ?_
    refine sW_callV 1 [] [] d_Asks_sizeOfOne_46 c_Asks_sizeOfOne_46 ⟨rfl, rfl, rfl, Nat.le_of_ble_eq_true rfl, rfl, rfl⟩ oc_117 (k_body12 G h (by decide) (by omega) (by omega)) ?_
    rintro _ M3 ⟨rfl, f3, g3⟩
    show sW G m_Asks_sizeOfOne 49 ([.int (- (A + jnV kd K B))], [some (.ref 117)], M3) _
    refine sW_retI d_Asks_sizeOfOne_49 rfl (vp_nar_int _) ?_
    subst c_4
    exact ⟨rfl, f3, g3⟩
  · skip
    simp (disch := omega) only [nI_eq] at c_4
    refine sW_go b_Asks_sizeOfOne_40 (st' := ([.ref 117], [some (.ref 117)], M)) (φ := True) rfl trivial ?_
    refine sW_callV 1 [] [] d_Asks_sizeOfOne_41 c_Asks_sizeOfOne_41 ⟨rfl, rfl, rfl, Nat.le_of_ble_eq_true rfl, rfl, rfl⟩ oc_117 (k_body11 G h (by decide) (by omega) (by omega)) ?_
    rintro _ M3 ⟨rfl, f3, g3⟩
    show sW G m_Asks_sizeOfOne 44 ([.int (A + jnV kd K B)], [some (.ref 117)], M3) _
    refine sW_retI d_Asks_sizeOfOne_44 rfl (vp_nar_int _) ?_
    subst c_4
    exact ⟨rfl, f3, g3⟩
  · skip
    simp (disch := omega) only [nI_eq] at c_4
    refine sW_go b_Asks_sizeOfOne_50 (st' := ([.ref 117], [some (.ref 117)], M)) (φ := True) rfl trivial ?_
    refine sW_callV 1 [] [] d_Asks_sizeOfOne_51 c_Asks_sizeOfOne_51 ⟨rfl, rfl, rfl, Nat.le_of_ble_eq_true rfl, rfl, rfl⟩ oc_117 (k_body13 G h (by decide)) ?_
    rintro _ M3 ⟨rfl, f3, g3⟩
    show sW G m_Asks_sizeOfOne 54 ([.int (A - nI 100)], [some (.ref 117)], M3) _
    refine sW_retI d_Asks_sizeOfOne_54 rfl (vp_nar_int _) ?_
    subst c_4
    exact ⟨rfl, f3, g3⟩
  · skip
    simp (disch := omega) only [nI_eq] at c_4
    refine sW_go b_Asks_sizeOfOne_55 (st' := ([.ref 117], [some (.ref 117)], M)) (φ := True) rfl trivial ?_
    refine sW_callV 1 [] [] d_Asks_sizeOfOne_56 c_Asks_sizeOfOne_56 ⟨rfl, rfl, rfl, Nat.le_of_ble_eq_true rfl, rfl, rfl⟩ oc_117 (k_body14 G h (by decide)) ?_
    rintro _ M3 ⟨rfl, f3, g3⟩
    show sW G m_Asks_sizeOfOne 59 ([.int ((A - nI 100) * nI 2)], [some (.ref 117)], M3) _
    refine sW_retI d_Asks_sizeOfOne_59 rfl (vp_nar_int _) ?_
    subst c_4
    exact ⟨rfl, f3, g3⟩
theorem k_markOfOne (G : mx_G) {M : mx_M} {kd : Nat} {K A B : Int32} (h : AskAt M kd K A B []) (hk : kd ≤ 5) : sOk G m_Asks_markOfOne [.ref 117] M (fun r M' => r = some (.int (mkV kd K A B)) ∧ Fr M M' 117 119 ∧ AskAt M' kd K A B (mkT kd)) := by
  have z := h.2.2.1
  refine sOk_of ⟨by decide +kernel, by decide +kernel, Nat.le_of_ble_eq_true rfl⟩ ?_
  show sW G m_Asks_markOfOne 0 ([], [some (.ref 117)], M) _
  refine sW_go b_Asks_markOfOne_0 (st' := ([.int (M 117 3)], [some (.ref 117)], M)) (φ := mx_ocl LAY 117 = 1 ∧ True) rfl ⟨oc_117, trivial⟩ ?_
  refine sW_eq (st' := ([.int (nI kd)], [some (.ref 117)], M)) (by simp (disch := omega) only [z]) ?_
  refine sW_tsw 1 60 [40, 55, 45, 50, 50] d_Asks_markOfOne_4 (by decide) (by decide) (fun c_4 => ?_) ⟨fun c_4 => ?_, fun c_4 => ?_, fun c_4 => ?_, fun c_4 => ?_, fun c_4 => ?_, trivial⟩
  · skip
    simp (disch := omega) only [nI_toInt] at c_4
    refine sW_go b_Asks_markOfOne_60 (st' := ([.ref 117], [some (.ref 117)], M)) (φ := True) rfl trivial ?_
    refine sW_callV 1 [] [] d_Asks_markOfOne_61 c_Asks_markOfOne_61 ⟨rfl, rfl, rfl, Nat.le_of_ble_eq_true rfl, rfl, rfl⟩ oc_117 (k_body20 G h (by decide)) ?_
    rintro _ M3 ⟨rfl, f3, g3⟩
    show sW G m_Asks_markOfOne 64 ([.int K], [some (.ref 117)], M3) _
    refine sW_retI d_Asks_markOfOne_64 rfl (vp_nar_int _) ?_
    have hz : kd = 0 := by omega
    subst hz
    exact ⟨rfl, f3, g3⟩
  · skip
    simp (disch := omega) only [nI_eq] at c_4
    refine sW_go b_Asks_markOfOne_40 (st' := ([.ref 117], [some (.ref 117)], M)) (φ := True) rfl trivial ?_
    refine sW_callV 1 [] [] d_Asks_markOfOne_41 c_Asks_markOfOne_41 ⟨rfl, rfl, rfl, Nat.le_of_ble_eq_true rfl, rfl, rfl⟩ oc_117 (k_body21 G h (by decide)) ?_
    rintro _ M3 ⟨rfl, f3, g3⟩
    show sW G m_Asks_markOfOne 44 ([.int (K + B)], [some (.ref 117)], M3) _
    refine sW_retI d_Asks_markOfOne_44 rfl (vp_nar_int _) ?_
    subst c_4
    exact ⟨rfl, f3, g3⟩
  · skip
    simp (disch := omega) only [nI_eq] at c_4
    refine sW_go b_Asks_markOfOne_55 (st' := ([.ref 117], [some (.ref 117)], M)) (φ := True) rfl trivial ?_
    refine sW_callV 1 [] [] d_Asks_markOfOne_56 c_Asks_markOfOne_56 ⟨rfl, rfl, rfl, Nat.le_of_ble_eq_true rfl, rfl, rfl⟩ oc_117 (k_body24 G h (by decide)) ?_
    rintro _ M3 ⟨rfl, f3, g3⟩
    show sW G m_Asks_markOfOne 59 ([.int ((K + B) * nI 2)], [some (.ref 117)], M3) _
    refine sW_retI d_Asks_markOfOne_59 rfl (vp_nar_int _) ?_
    subst c_4
    exact ⟨rfl, f3, g3⟩
  · skip
    simp (disch := omega) only [nI_eq] at c_4
    refine sW_go b_Asks_markOfOne_45 (st' := ([.ref 117], [some (.ref 117)], M)) (φ := True) rfl trivial ?_
    refine sW_callV 1 [] [] d_Asks_markOfOne_46 c_Asks_markOfOne_46 ⟨rfl, rfl, rfl, Nat.le_of_ble_eq_true rfl, rfl, rfl⟩ oc_117 (k_body22 G h (by decide)) ?_
    rintro _ M3 ⟨rfl, f3, g3⟩
    show sW G m_Asks_markOfOne 49 ([.int ((K + B) - nI 1000)], [some (.ref 117)], M3) _
    refine sW_retI d_Asks_markOfOne_49 rfl (vp_nar_int _) ?_
    subst c_4
    exact ⟨rfl, f3, g3⟩
  · skip
    simp (disch := omega) only [nI_eq] at c_4
    refine sW_go b_Asks_markOfOne_50 (st' := ([.ref 117], [some (.ref 117)], M)) (φ := True) rfl trivial ?_
    refine sW_callV 1 [] [] d_Asks_markOfOne_51 c_Asks_markOfOne_51 ⟨rfl, rfl, rfl, Nat.le_of_ble_eq_true rfl, rfl, rfl⟩ oc_117 (k_body23 G h (by decide) hk) ?_
    rintro _ M3 ⟨rfl, f3, g3⟩
    show sW G m_Asks_markOfOne 54 ([.int (K - prV kd A)], [some (.ref 117)], M3) _
    refine sW_retI d_Asks_markOfOne_54 rfl (vp_nar_int _) ?_
    subst c_4
    exact ⟨rfl, f3, g3⟩
  · skip
    simp (disch := omega) only [nI_eq] at c_4
    refine sW_go b_Asks_markOfOne_50 (st' := ([.ref 117], [some (.ref 117)], M)) (φ := True) rfl trivial ?_
    refine sW_callV 1 [] [] d_Asks_markOfOne_51 c_Asks_markOfOne_51 ⟨rfl, rfl, rfl, Nat.le_of_ble_eq_true rfl, rfl, rfl⟩ oc_117 (k_body23 G h (by decide) hk) ?_
    rintro _ M3 ⟨rfl, f3, g3⟩
    show sW G m_Asks_markOfOne 54 ([.int (K - prV kd A)], [some (.ref 117)], M3) _
    refine sW_retI d_Asks_markOfOne_54 rfl (vp_nar_int _) ?_
    subst c_4
    exact ⟨rfl, f3, g3⟩
theorem k_abegin (G : mx_G) {M : mx_M} {hs : Hs} {t : Nat} (hH : HsAt M 7 hs) (hw : HsOk hs) (ht : t < hs.1) : sOk G m_Asks_begin [.ref 117, .ref 7, .int (nI t)] M (fun r M' => r = none ∧ Fr M M' 117 119 ∧ AskAt M' (kindN (Sf hs t)) (nI t) (nI (Af hs t)) (nI (Bf hs t)) []) := by
  obtain ⟨x1, x2, x3⟩ := hH.2.2 t ht
  have w := hw.2.2 t ht
  have w1 := hw.1
  have q1 : (mx_wr (mx_wr M 117 1 (nI 0)) 117 2 (nI t)) 8 t = nI (Sf hs t) := by rw [mx_wr_n _ _ _ (by decide), mx_wr_n _ _ _ (by decide)]; exact x1
  have q2 : (mx_wr (mx_wr (mx_wr M 117 1 (nI 0)) 117 2 (nI t)) 117 3 (nI (kindN (Sf hs t)))) 9 t = nI (Af hs t) := by rw [mx_wr_n _ _ _ (by decide), mx_wr_n _ _ _ (by decide), mx_wr_n _ _ _ (by decide)]; exact x2
  have q3 : (mx_wr (mx_wr (mx_wr (mx_wr M 117 1 (nI 0)) 117 2 (nI t)) 117 3 (nI (kindN (Sf hs t)))) 117 4 (nI (Af hs t))) 10 t = nI (Bf hs t) := by rw [mx_wr_n _ _ _ (by decide), mx_wr_n _ _ _ (by decide), mx_wr_n _ _ _ (by decide), mx_wr_n _ _ _ (by decide)]; exact x3
  refine sOk_of ⟨by decide +kernel, by decide +kernel, Nat.le_of_ble_eq_true rfl⟩ ?_
  show sW G m_Asks_begin 0 ([], [some (.ref 117), some (.ref 7), some (.int (nI t))], M) _
  refine sW_go b_Asks_begin_0 (st' := ([.int ((mx_wr (mx_wr M 117 1 (nI 0)) 117 2 (nI t)) 8 (nI t).toNatClampNeg), .ref 117], [some (.ref 117), some (.ref 7), some (.int (nI t))], mx_wr (mx_wr M 117 1 (nI 0)) 117 2 (nI t))) (φ := mx_ocl LAY 117 = 1 ∧ mx_ocl LAY 117 = 1 ∧ mx_ocl LAY 7 = 3 ∧ vp_in (nI t) (mx_len LAY false 8) ∧ True) rfl ⟨oc_117, oc_117, oc_7, (by simp (disch := omega) only [ln_8]; exact vp_in_nI (by omega) (by decide)), trivial⟩ ?_
  refine sW_eq (st' := ([.int (nI (Sf hs t)), .ref 117], [some (.ref 117), some (.ref 7), some (.int (nI t))], mx_wr (mx_wr M 117 1 (nI 0)) 117 2 (nI t))) (by simp (disch := omega) only [nI_clamp, q1]) ?_
  refine sW_callS [.int (nI (Sf hs t))] [.ref 117] d_Asks_begin_17 c_Asks_begin_17 ⟨rfl, rfl, Nat.le_of_ble_eq_true rfl, rfl, rfl⟩ (k_kindOf G w.1) ?_
  rintro _ M₁ ⟨rfl, h₁⟩
  rw [h₁]
  show sW G m_Asks_begin 20 ([.int (nI (kindN (Sf hs t))), .ref 117], [some (.ref 117), some (.ref 7), some (.int (nI t))], mx_wr (mx_wr M 117 1 (nI 0)) 117 2 (nI t)) _
  refine sW_go b_Asks_begin_20 (st' := ([], [some (.ref 117), some (.ref 7), some (.int (nI t))], mx_wr (mx_wr (mx_wr (mx_wr (mx_wr M 117 1 (nI 0)) 117 2 (nI t)) 117 3 (nI (kindN (Sf hs t)))) 117 4 ((mx_wr (mx_wr (mx_wr M 117 1 (nI 0)) 117 2 (nI t)) 117 3 (nI (kindN (Sf hs t)))) 9 (nI t).toNatClampNeg)) 117 5 ((mx_wr (mx_wr (mx_wr (mx_wr M 117 1 (nI 0)) 117 2 (nI t)) 117 3 (nI (kindN (Sf hs t)))) 117 4 ((mx_wr (mx_wr (mx_wr M 117 1 (nI 0)) 117 2 (nI t)) 117 3 (nI (kindN (Sf hs t)))) 9 (nI t).toNatClampNeg)) 10 (nI t).toNatClampNeg))) (φ := mx_ocl LAY 117 = 1 ∧ mx_ocl LAY 7 = 3 ∧ vp_in (nI t) (mx_len LAY false 9) ∧ mx_ocl LAY 117 = 1 ∧ mx_ocl LAY 7 = 3 ∧ vp_in (nI t) (mx_len LAY false 10) ∧ mx_ocl LAY 117 = 1 ∧ True) rfl ⟨oc_117, oc_7, (by simp (disch := omega) only [ln_9]; exact vp_in_nI (by omega) (by decide)), oc_117, oc_7, (by simp (disch := omega) only [ln_10]; exact vp_in_nI (by omega) (by decide)), oc_117, trivial⟩ ?_
  refine sW_eq (st' := ([], [some (.ref 117), some (.ref 7), some (.int (nI t))], mx_wr (mx_wr (mx_wr (mx_wr (mx_wr M 117 1 (nI 0)) 117 2 (nI t)) 117 3 (nI (kindN (Sf hs t)))) 117 4 (nI (Af hs t))) 117 5 (nI (Bf hs t)))) (by simp (disch := omega) only [nI_clamp, q2, q3]) ?_
  refine sW_retV d_Asks_begin_43 rfl ?_
  refine ⟨rfl, ((((Fr.rf.wr (by decide) (by decide)).wr (by decide) (by decide)).wr (by decide) (by decide)).wr (by decide) (by decide)).wr (by decide) (by decide), ⟨?_, fun i hi => absurd hi (Nat.not_lt_zero i)⟩, ?_, ?_, ?_, ?_⟩
  all_goals simp [mx_wr_s, upd]

