/-! ===== the constructors ===== -/
def L_House (h : Nat) : List mx_K := .inl (3, (((mx_nul 3).set 0 (some (some (h + 1)))).set 1 (some (some (h + 2)))).set 2 (some (some (h + 3)))) :: ((([] ++ [.inr (false, 8)]) ++ [.inr (false, 8)]) ++ [.inr (false, 8)])
theorem L_House_len (h : Nat) : (L_House h).length = 4 := by
  unfold L_House
  simp only [List.length_append, List.length_cons, List.length_nil]
theorem L_House_ne (h : Nat) : ∃ x t, L_House h = x :: t := ⟨_, _, rfl⟩
theorem in_House (G : mx_G) : in_Ok G m_House_init 3 4 L_House (fun _ M M' => M' = M) := fun Λ h M hh h139 => by
  refine in_begin (p1 := 157) hh ⟨by decide, by decide⟩ rfl b_House_init_0 (fun _ => rfl) (by decide +kernel) ⟨Nat.le_of_ble_eq_true rfl, Nat.le_of_ble_eq_true rfl⟩ d_House_init_1 ?_
  refine in_stepA (r := h + 1) (k := 0) (p1 := 158) hh (by simp only [List.length_append, List.length_cons, List.length_nil]) (by omega) b_House_init_4 (fun _ => rfl) (by decide) ⟨Nat.le_of_ble_eq_true rfl, Nat.le_of_ble_eq_true rfl⟩ d_House_init_7 (by decide +kernel) (fun _ => ⟨rfl, rfl⟩) (by decide +kernel) d_House_init_9 ?_
  refine in_stepA (r := h + 2) (k := 1) (p1 := 162) hh (by simp only [List.length_append, List.length_cons, List.length_nil]) (by omega) b_House_init_12 (fun _ => rfl) (by decide) ⟨Nat.le_of_ble_eq_true rfl, Nat.le_of_ble_eq_true rfl⟩ d_House_init_15 (by decide +kernel) (fun _ => ⟨rfl, rfl⟩) (by simp only [List.length_set]; decide +kernel) d_House_init_17 ?_
  refine in_stepA (r := h + 3) (k := 2) (p1 := 166) hh (by simp only [List.length_append, List.length_cons, List.length_nil]) (by omega) b_House_init_20 (fun _ => rfl) (by decide) ⟨Nat.le_of_ble_eq_true rfl, Nat.le_of_ble_eq_true rfl⟩ d_House_init_23 (by decide +kernel) (fun _ => ⟨rfl, rfl⟩) (by simp only [List.length_set]; decide +kernel) d_House_init_25 ?_
  exact mx_retV d_House_init_28 rfl ⟨Nat.le_of_ble_eq_true rfl, Nat.le_of_ble_eq_true rfl⟩ ⟨rfl, rfl, rfl⟩
def L_Sets (h : Nat) : List mx_K := .inl (6, ((mx_nul 6).set 0 (some (some (h + 1)))).set 1 (some (some (h + 2)))) :: (([] ++ [.inr (false, 256)]) ++ [.inr (false, 256)])
theorem L_Sets_len (h : Nat) : (L_Sets h).length = 3 := by
  unfold L_Sets
  simp only [List.length_append, List.length_cons, List.length_nil]
theorem L_Sets_ne (h : Nat) : ∃ x t, L_Sets h = x :: t := ⟨_, _, rfl⟩
theorem in_Sets (G : mx_G) : in_Ok G m_Sets_init 6 3 L_Sets (fun _ M M' => M' = M) := fun Λ h M hh h139 => by
  refine in_begin (p1 := 226) hh ⟨by decide, by decide⟩ rfl b_Sets_init_0 (fun _ => rfl) (by decide +kernel) ⟨Nat.le_of_ble_eq_true rfl, Nat.le_of_ble_eq_true rfl⟩ d_Sets_init_1 ?_
  refine in_stepA (r := h + 1) (k := 0) (p1 := 227) hh (by simp only [List.length_append, List.length_cons, List.length_nil]) (by omega) b_Sets_init_4 (fun _ => rfl) (by decide) ⟨Nat.le_of_ble_eq_true rfl, Nat.le_of_ble_eq_true rfl⟩ d_Sets_init_8 (by decide +kernel) (fun _ => ⟨rfl, rfl⟩) (by decide +kernel) d_Sets_init_10 ?_
  refine in_stepA (r := h + 2) (k := 1) (p1 := 230) hh (by simp only [List.length_append, List.length_cons, List.length_nil]) (by omega) b_Sets_init_13 (fun _ => rfl) (by decide) ⟨Nat.le_of_ble_eq_true rfl, Nat.le_of_ble_eq_true rfl⟩ d_Sets_init_17 (by decide +kernel) (fun _ => ⟨rfl, rfl⟩) (by simp only [List.length_set]; decide +kernel) d_Sets_init_19 ?_
  exact mx_retV d_Sets_init_22 rfl ⟨Nat.le_of_ble_eq_true rfl, Nat.le_of_ble_eq_true rfl⟩ ⟨rfl, rfl, rfl⟩
def L_Acts (h : Nat) : List mx_K := .inl (0, ((((mx_nul 0).set 0 (some (some (h + 1)))).set 1 (some (some (h + 2)))).set 2 (some (some (h + 3)))).set 3 (some (some (h + 4)))) :: (((([] ++ [.inr (false, 24)]) ++ [.inr (false, 24)]) ++ [.inr (false, 24)]) ++ [.inr (false, 24)])
theorem L_Acts_len (h : Nat) : (L_Acts h).length = 5 := by
  unfold L_Acts
  simp only [List.length_append, List.length_cons, List.length_nil]
theorem L_Acts_ne (h : Nat) : ∃ x t, L_Acts h = x :: t := ⟨_, _, rfl⟩
theorem in_Acts (G : mx_G) : in_Ok G m_Acts_init 0 5 L_Acts (fun _ M M' => M' = M) := fun Λ h M hh h139 => by
  refine in_begin (p1 := 195) hh ⟨by decide, by decide⟩ rfl b_Acts_init_0 (fun _ => rfl) (by decide +kernel) ⟨Nat.le_of_ble_eq_true rfl, Nat.le_of_ble_eq_true rfl⟩ d_Acts_init_1 ?_
  refine in_stepA (r := h + 1) (k := 0) (p1 := 196) hh (by simp only [List.length_append, List.length_cons, List.length_nil]) (by omega) b_Acts_init_4 (fun _ => rfl) (by decide) ⟨Nat.le_of_ble_eq_true rfl, Nat.le_of_ble_eq_true rfl⟩ d_Acts_init_7 (by decide +kernel) (fun _ => ⟨rfl, rfl⟩) (by decide +kernel) d_Acts_init_9 ?_
  refine in_stepA (r := h + 2) (k := 1) (p1 := 197) hh (by simp only [List.length_append, List.length_cons, List.length_nil]) (by omega) b_Acts_init_12 (fun _ => rfl) (by decide) ⟨Nat.le_of_ble_eq_true rfl, Nat.le_of_ble_eq_true rfl⟩ d_Acts_init_15 (by decide +kernel) (fun _ => ⟨rfl, rfl⟩) (by simp only [List.length_set]; decide +kernel) d_Acts_init_17 ?_
  refine in_stepA (r := h + 3) (k := 2) (p1 := 198) hh (by simp only [List.length_append, List.length_cons, List.length_nil]) (by omega) b_Acts_init_20 (fun _ => rfl) (by decide) ⟨Nat.le_of_ble_eq_true rfl, Nat.le_of_ble_eq_true rfl⟩ d_Acts_init_23 (by decide +kernel) (fun _ => ⟨rfl, rfl⟩) (by simp only [List.length_set]; decide +kernel) d_Acts_init_25 ?_
  refine in_stepA (r := h + 4) (k := 3) (p1 := 199) hh (by simp only [List.length_append, List.length_cons, List.length_nil]) (by omega) b_Acts_init_28 (fun _ => rfl) (by decide) ⟨Nat.le_of_ble_eq_true rfl, Nat.le_of_ble_eq_true rfl⟩ d_Acts_init_31 (by decide +kernel) (fun _ => ⟨rfl, rfl⟩) (by simp only [List.length_set]; decide +kernel) d_Acts_init_33 ?_
  exact mx_retV d_Acts_init_36 rfl ⟨Nat.le_of_ble_eq_true rfl, Nat.le_of_ble_eq_true rfl⟩ ⟨rfl, rfl, rfl⟩
def L_Asks (h : Nat) : List mx_K := .inl (1, (mx_nul 1).set 0 (some (some (h + 1)))) :: ([] ++ [.inr (false, 16)])
theorem L_Asks_len (h : Nat) : (L_Asks h).length = 2 := by
  unfold L_Asks
  simp only [List.length_append, List.length_cons, List.length_nil]
theorem L_Asks_ne (h : Nat) : ∃ x t, L_Asks h = x :: t := ⟨_, _, rfl⟩
theorem in_Asks (G : mx_G) : in_Ok G m_Asks_init 1 2 L_Asks (fun _ M M' => M' = M) := fun Λ h M hh h139 => by
  refine in_begin (p1 := 353) hh ⟨by decide, by decide⟩ rfl b_Asks_init_0 (fun _ => rfl) (by decide +kernel) ⟨Nat.le_of_ble_eq_true rfl, Nat.le_of_ble_eq_true rfl⟩ d_Asks_init_1 ?_
  refine in_stepA (r := h + 1) (k := 0) (p1 := 354) hh (by simp only [List.length_append, List.length_cons, List.length_nil]) (by omega) b_Asks_init_4 (fun _ => rfl) (by decide) ⟨Nat.le_of_ble_eq_true rfl, Nat.le_of_ble_eq_true rfl⟩ d_Asks_init_7 (by decide +kernel) (fun _ => ⟨rfl, rfl⟩) (by decide +kernel) d_Asks_init_9 ?_
  exact mx_retV d_Asks_init_12 rfl ⟨Nat.le_of_ble_eq_true rfl, Nat.le_of_ble_eq_true rfl⟩ ⟨rfl, rfl, rfl⟩
def L_Tape (h : Nat) : List mx_K := .inl (8, (mx_nul 8).set 0 (some (some (h + 1)))) :: ([] ++ [.inr (false, 80)])
theorem L_Tape_len (h : Nat) : (L_Tape h).length = 2 := by
  unfold L_Tape
  simp only [List.length_append, List.length_cons, List.length_nil]
theorem L_Tape_ne (h : Nat) : ∃ x t, L_Tape h = x :: t := ⟨_, _, rfl⟩
theorem in_Tape (G : mx_G) : in_Ok G m_Tape_init 8 2 L_Tape (fun _ M M' => M' = M) := fun Λ h M hh h139 => by
  refine in_begin (p1 := 126) hh ⟨by decide, by decide⟩ rfl b_Tape_init_0 (fun _ => rfl) (by decide +kernel) ⟨Nat.le_of_ble_eq_true rfl, Nat.le_of_ble_eq_true rfl⟩ d_Tape_init_1 ?_
  refine in_stepA (r := h + 1) (k := 0) (p1 := 127) hh (by simp only [List.length_append, List.length_cons, List.length_nil]) (by omega) b_Tape_init_4 (fun _ => rfl) (by decide) ⟨Nat.le_of_ble_eq_true rfl, Nat.le_of_ble_eq_true rfl⟩ d_Tape_init_7 (by decide +kernel) (fun _ => ⟨rfl, rfl⟩) (by decide +kernel) d_Tape_init_9 ?_
  exact mx_retV d_Tape_init_12 rfl ⟨Nat.le_of_ble_eq_true rfl, Nat.le_of_ble_eq_true rfl⟩ ⟨rfl, rfl, rfl⟩
def L_Sides (h : Nat) : List mx_K := .inl (7, ((((mx_nul 7).set 0 (some (some (h + 1)))).set 1 (some (some (h + 2)))).set 2 (some (some (h + 3)))).set 3 (some (some (h + 6)))) :: (((([] ++ [.inr (false, 256)]) ++ [.inr (false, 256)]) ++ L_Sets (h + 3)) ++ L_Sets (h + 6))
theorem L_Sides_len (h : Nat) : (L_Sides h).length = 9 := by
  unfold L_Sides
  simp only [List.length_append, List.length_cons, List.length_nil, L_Sets_len]
theorem L_Sides_ne (h : Nat) : ∃ x t, L_Sides h = x :: t := ⟨_, _, rfl⟩
theorem in_Sides (G : mx_G) : in_Ok G m_Sides_init 7 9 L_Sides (fun _ M M' => M' = M) := fun Λ h M hh h139 => by
  refine in_begin (p1 := 249) hh ⟨by decide, by decide⟩ rfl b_Sides_init_0 (fun _ => rfl) (by decide +kernel) ⟨Nat.le_of_ble_eq_true rfl, Nat.le_of_ble_eq_true rfl⟩ d_Sides_init_1 ?_
  refine in_stepA (r := h + 1) (k := 0) (p1 := 252) hh (by simp only [List.length_append, List.length_cons, List.length_nil, L_Sets_len]) (by omega) b_Sides_init_4 (fun _ => rfl) (by decide) ⟨Nat.le_of_ble_eq_true rfl, Nat.le_of_ble_eq_true rfl⟩ d_Sides_init_8 (by decide +kernel) (fun _ => ⟨rfl, rfl⟩) (by decide +kernel) d_Sides_init_10 ?_
  refine in_stepA (r := h + 2) (k := 1) (p1 := 254) hh (by simp only [List.length_append, List.length_cons, List.length_nil, L_Sets_len]) (by omega) b_Sides_init_13 (fun _ => rfl) (by decide) ⟨Nat.le_of_ble_eq_true rfl, Nat.le_of_ble_eq_true rfl⟩ d_Sides_init_17 (by decide +kernel) (fun _ => ⟨rfl, rfl⟩) (by simp only [List.length_set]; decide +kernel) d_Sides_init_19 ?_
  refine in_stepO (r := h + 3) (k := 2) (p1 := 256) (q1 := 250) (q2 := 222) (q3 := 86) (host := "TypeSets") (ps := [251, 224, 86, 225]) (in_Sets G) L_Sets_ne hh (by simp only [List.length_append, List.length_cons, List.length_nil, L_Sets_len]) (by omega) b_Sides_init_22 (fun _ => rfl) b_Sides_init_26 (fun _ => rfl) rfl (by decide +kernel) (by decide +kernel) ⟨Nat.le_of_ble_eq_true rfl, Nat.le_of_ble_eq_true rfl⟩ d_Sides_init_23 rfl (by decide +kernel) d_Sides_init_27 (by decide +kernel) (fun _ => ⟨rfl, rfl⟩) (by simp only [List.length_set]; decide +kernel) d_Sides_init_30 (fun M' e2 => ?_)
  subst e2
  refine in_stepO (r := h + 6) (k := 3) (p1 := 258) (q1 := 250) (q2 := 222) (q3 := 86) (host := "TypeSets") (ps := [251, 224, 86, 225]) (in_Sets G) L_Sets_ne hh (by simp only [List.length_append, List.length_cons, List.length_nil, L_Sets_len]) (by omega) b_Sides_init_33 (fun _ => rfl) b_Sides_init_37 (fun _ => rfl) rfl (by decide +kernel) (by decide +kernel) ⟨Nat.le_of_ble_eq_true rfl, Nat.le_of_ble_eq_true rfl⟩ d_Sides_init_34 rfl (by decide +kernel) d_Sides_init_38 (by decide +kernel) (fun _ => ⟨rfl, rfl⟩) (by simp only [List.length_set]; decide +kernel) d_Sides_init_41 (fun M' e3 => ?_)
  subst e3
  exact mx_retV d_Sides_init_44 rfl ⟨Nat.le_of_ble_eq_true rfl, Nat.le_of_ble_eq_true rfl⟩ ⟨rfl, rfl, rfl⟩
def L_Plain (h : Nat) : List mx_K := .inl (4, ((((((mx_nul 4).set 0 (some (some (h + 1)))).set 1 (some (some (h + 2)))).set 2 (some (some (h + 3)))).set 3 (some (some (h + 6)))).set 4 (some (some (h + 9)))).set 5 (some (some (h + 12)))) :: (((((([] ++ [.inr (false, 32)]) ++ [.inr (false, 4)]) ++ L_Sets (h + 3)) ++ L_Sets (h + 6)) ++ L_Sets (h + 9)) ++ L_Sets (h + 12))
theorem L_Plain_len (h : Nat) : (L_Plain h).length = 15 := by
  unfold L_Plain
  simp only [List.length_append, List.length_cons, List.length_nil, L_Sets_len]
theorem L_Plain_ne (h : Nat) : ∃ x t, L_Plain h = x :: t := ⟨_, _, rfl⟩
theorem in_Plain (G : mx_G) : in_Ok G m_Plain_init 4 15 L_Plain (fun _ M M' => M' = M) := fun Λ h M hh h139 => by
  refine in_begin (p1 := 326) hh ⟨by decide, by decide⟩ rfl b_Plain_init_0 (fun _ => rfl) (by decide +kernel) ⟨Nat.le_of_ble_eq_true rfl, Nat.le_of_ble_eq_true rfl⟩ d_Plain_init_1 ?_
  refine in_stepA (r := h + 1) (k := 0) (p1 := 329) hh (by simp only [List.length_append, List.length_cons, List.length_nil, L_Sets_len]) (by omega) b_Plain_init_4 (fun _ => rfl) (by decide) ⟨Nat.le_of_ble_eq_true rfl, Nat.le_of_ble_eq_true rfl⟩ d_Plain_init_7 (by decide +kernel) (fun _ => ⟨rfl, rfl⟩) (by decide +kernel) d_Plain_init_9 ?_
  refine in_stepA (r := h + 2) (k := 1) (p1 := 330) hh (by simp only [List.length_append, List.length_cons, List.length_nil, L_Sets_len]) (by omega) b_Plain_init_12 (fun _ => rfl) (by decide) ⟨Nat.le_of_ble_eq_true rfl, Nat.le_of_ble_eq_true rfl⟩ d_Plain_init_14 (by decide +kernel) (fun _ => ⟨rfl, rfl⟩) (by simp only [List.length_set]; decide +kernel) d_Plain_init_16 ?_
  refine in_stepO (r := h + 3) (k := 2) (p1 := 331) (q1 := 327) (q2 := 222) (q3 := 86) (host := "TypeSets") (ps := [328, 224, 86, 225]) (in_Sets G) L_Sets_ne hh (by simp only [List.length_append, List.length_cons, List.length_nil, L_Sets_len]) (by omega) b_Plain_init_19 (fun _ => rfl) b_Plain_init_23 (fun _ => rfl) rfl (by decide +kernel) (by decide +kernel) ⟨Nat.le_of_ble_eq_true rfl, Nat.le_of_ble_eq_true rfl⟩ d_Plain_init_20 rfl (by decide +kernel) d_Plain_init_24 (by decide +kernel) (fun _ => ⟨rfl, rfl⟩) (by simp only [List.length_set]; decide +kernel) d_Plain_init_27 (fun M' e2 => ?_)
  subst e2
  refine in_stepO (r := h + 6) (k := 3) (p1 := 332) (q1 := 327) (q2 := 222) (q3 := 86) (host := "TypeSets") (ps := [328, 224, 86, 225]) (in_Sets G) L_Sets_ne hh (by simp only [List.length_append, List.length_cons, List.length_nil, L_Sets_len]) (by omega) b_Plain_init_30 (fun _ => rfl) b_Plain_init_34 (fun _ => rfl) rfl (by decide +kernel) (by decide +kernel) ⟨Nat.le_of_ble_eq_true rfl, Nat.le_of_ble_eq_true rfl⟩ d_Plain_init_31 rfl (by decide +kernel) d_Plain_init_35 (by decide +kernel) (fun _ => ⟨rfl, rfl⟩) (by simp only [List.length_set]; decide +kernel) d_Plain_init_38 (fun M' e3 => ?_)
  subst e3
  refine in_stepO (r := h + 9) (k := 4) (p1 := 333) (q1 := 327) (q2 := 222) (q3 := 86) (host := "TypeSets") (ps := [328, 224, 86, 225]) (in_Sets G) L_Sets_ne hh (by simp only [List.length_append, List.length_cons, List.length_nil, L_Sets_len]) (by omega) b_Plain_init_41 (fun _ => rfl) b_Plain_init_45 (fun _ => rfl) rfl (by decide +kernel) (by decide +kernel) ⟨Nat.le_of_ble_eq_true rfl, Nat.le_of_ble_eq_true rfl⟩ d_Plain_init_42 rfl (by decide +kernel) d_Plain_init_46 (by decide +kernel) (fun _ => ⟨rfl, rfl⟩) (by simp only [List.length_set]; decide +kernel) d_Plain_init_49 (fun M' e4 => ?_)
  subst e4
  refine in_stepO (r := h + 12) (k := 5) (p1 := 334) (q1 := 327) (q2 := 222) (q3 := 86) (host := "TypeSets") (ps := [328, 224, 86, 225]) (in_Sets G) L_Sets_ne hh (by simp only [List.length_append, List.length_cons, List.length_nil, L_Sets_len]) (by omega) b_Plain_init_52 (fun _ => rfl) b_Plain_init_56 (fun _ => rfl) rfl (by decide +kernel) (by decide +kernel) ⟨Nat.le_of_ble_eq_true rfl, Nat.le_of_ble_eq_true rfl⟩ d_Plain_init_53 rfl (by decide +kernel) d_Plain_init_57 (by decide +kernel) (fun _ => ⟨rfl, rfl⟩) (by simp only [List.length_set]; decide +kernel) d_Plain_init_60 (fun M' e5 => ?_)
  subst e5
  exact mx_retV d_Plain_init_63 rfl ⟨Nat.le_of_ble_eq_true rfl, Nat.le_of_ble_eq_true rfl⟩ ⟨rfl, rfl, rfl⟩
def L_Cells (h : Nat) : List mx_K := .inl (2, (((((((((((mx_nul 2).set 0 (some (some (h + 1)))).set 6 (some (some (h + 5)))).set 7 (some (some (h + 8)))).set 8 (some (some (h + 17)))).set 9 (some (some (h + 26)))).set 10 (some (some (h + 29)))).set 11 (some (some (h + 32)))).set 12 (some (some (h + 33)))).set 13 (some (some (h + 34)))).set 14 (some (some (h + 35)))).set 15 (some (some (h + 36)))) :: ((((((((((([] ++ L_House (h + 1)) ++ L_Sets (h + 5)) ++ L_Sides (h + 8)) ++ L_Sides (h + 17)) ++ L_Sets (h + 26)) ++ L_Sets (h + 29)) ++ [.inr (false, 256)]) ++ [.inr (false, 256)]) ++ [.inr (false, 256)]) ++ [.inr (false, 8)]) ++ [.inr (false, 8)])
theorem L_Cells_len (h : Nat) : (L_Cells h).length = 37 := by
  unfold L_Cells
  simp only [List.length_append, List.length_cons, List.length_nil, L_House_len, L_Sets_len, L_Sides_len]
theorem L_Cells_ne (h : Nat) : ∃ x t, L_Cells h = x :: t := ⟨_, _, rfl⟩
theorem in_Cells (G : mx_G) : in_Ok G m_Cells_init 2 37 L_Cells (fun _ M M' => M' = M) := fun Λ h M hh h139 => by
  refine in_begin (p1 := 218) hh ⟨by decide, by decide⟩ rfl b_Cells_init_0 (fun _ => rfl) (by decide +kernel) ⟨Nat.le_of_ble_eq_true rfl, Nat.le_of_ble_eq_true rfl⟩ d_Cells_init_1 ?_
  refine in_stepO (r := h + 1) (k := 0) (p1 := 269) (q1 := 219) (q2 := 153) (q3 := 83) (host := "TypeSets") (ps := [220, 155, 83, 156]) (in_House G) L_House_ne hh (by simp only [List.length_append, List.length_cons, List.length_nil, L_House_len, L_Sets_len, L_Sides_len]) (by omega) b_Cells_init_4 (fun _ => rfl) b_Cells_init_8 (fun _ => rfl) rfl (by decide +kernel) (by decide +kernel) ⟨Nat.le_of_ble_eq_true rfl, Nat.le_of_ble_eq_true rfl⟩ d_Cells_init_5 rfl (by decide +kernel) d_Cells_init_9 (by decide +kernel) (fun _ => ⟨rfl, rfl⟩) (by decide +kernel) d_Cells_init_12 (fun M' e0 => ?_)
  subst e0
  refine in_stepO (r := h + 5) (k := 6) (p1 := 275) (q1 := 221) (q2 := 222) (q3 := 86) (host := "TypeSets") (ps := [223, 224, 86, 225]) (in_Sets G) L_Sets_ne hh (by simp only [List.length_append, List.length_cons, List.length_nil, L_House_len, L_Sets_len, L_Sides_len]) (by omega) b_Cells_init_15 (fun _ => rfl) b_Cells_init_19 (fun _ => rfl) rfl (by decide +kernel) (by decide +kernel) ⟨Nat.le_of_ble_eq_true rfl, Nat.le_of_ble_eq_true rfl⟩ d_Cells_init_16 rfl (by decide +kernel) d_Cells_init_20 (by decide +kernel) (fun _ => ⟨rfl, rfl⟩) (by simp only [List.length_set]; decide +kernel) d_Cells_init_23 (fun M' e6 => ?_)
  subst e6
  refine in_stepO (r := h + 8) (k := 7) (p1 := 277) (q1 := 244) (q2 := 245) (q3 := 87) (host := "TypeSets") (ps := [246, 247, 87, 248]) (in_Sides G) L_Sides_ne hh (by simp only [List.length_append, List.length_cons, List.length_nil, L_House_len, L_Sets_len, L_Sides_len]) (by omega) b_Cells_init_26 (fun _ => rfl) b_Cells_init_30 (fun _ => rfl) rfl (by decide +kernel) (by decide +kernel) ⟨Nat.le_of_ble_eq_true rfl, Nat.le_of_ble_eq_true rfl⟩ d_Cells_init_27 rfl (by decide +kernel) d_Cells_init_31 (by decide +kernel) (fun _ => ⟨rfl, rfl⟩) (by simp only [List.length_set]; decide +kernel) d_Cells_init_34 (fun M' e7 => ?_)
  subst e7
  refine in_stepO (r := h + 17) (k := 8) (p1 := 278) (q1 := 244) (q2 := 245) (q3 := 87) (host := "TypeSets") (ps := [246, 247, 87, 248]) (in_Sides G) L_Sides_ne hh (by simp only [List.length_append, List.length_cons, List.length_nil, L_House_len, L_Sets_len, L_Sides_len]) (by omega) b_Cells_init_37 (fun _ => rfl) b_Cells_init_41 (fun _ => rfl) rfl (by decide +kernel) (by decide +kernel) ⟨Nat.le_of_ble_eq_true rfl, Nat.le_of_ble_eq_true rfl⟩ d_Cells_init_38 rfl (by decide +kernel) d_Cells_init_42 (by decide +kernel) (fun _ => ⟨rfl, rfl⟩) (by simp only [List.length_set]; decide +kernel) d_Cells_init_45 (fun M' e8 => ?_)
  subst e8
  refine in_stepO (r := h + 26) (k := 9) (p1 := 279) (q1 := 221) (q2 := 222) (q3 := 86) (host := "TypeSets") (ps := [223, 224, 86, 225]) (in_Sets G) L_Sets_ne hh (by simp only [List.length_append, List.length_cons, List.length_nil, L_House_len, L_Sets_len, L_Sides_len]) (by omega) b_Cells_init_48 (fun _ => rfl) b_Cells_init_52 (fun _ => rfl) rfl (by decide +kernel) (by decide +kernel) ⟨Nat.le_of_ble_eq_true rfl, Nat.le_of_ble_eq_true rfl⟩ d_Cells_init_49 rfl (by decide +kernel) d_Cells_init_53 (by decide +kernel) (fun _ => ⟨rfl, rfl⟩) (by simp only [List.length_set]; decide +kernel) d_Cells_init_56 (fun M' e9 => ?_)
  subst e9
  refine in_stepO (r := h + 29) (k := 10) (p1 := 280) (q1 := 221) (q2 := 222) (q3 := 86) (host := "TypeSets") (ps := [223, 224, 86, 225]) (in_Sets G) L_Sets_ne hh (by simp only [List.length_append, List.length_cons, List.length_nil, L_House_len, L_Sets_len, L_Sides_len]) (by omega) b_Cells_init_59 (fun _ => rfl) b_Cells_init_63 (fun _ => rfl) rfl (by decide +kernel) (by decide +kernel) ⟨Nat.le_of_ble_eq_true rfl, Nat.le_of_ble_eq_true rfl⟩ d_Cells_init_60 rfl (by decide +kernel) d_Cells_init_64 (by decide +kernel) (fun _ => ⟨rfl, rfl⟩) (by simp only [List.length_set]; decide +kernel) d_Cells_init_67 (fun M' e10 => ?_)
  subst e10
  refine in_stepA (r := h + 32) (k := 11) (p1 := 281) hh (by simp only [List.length_append, List.length_cons, List.length_nil, L_House_len, L_Sets_len, L_Sides_len]) (by omega) b_Cells_init_70 (fun _ => rfl) (by decide) ⟨Nat.le_of_ble_eq_true rfl, Nat.le_of_ble_eq_true rfl⟩ d_Cells_init_74 (by decide +kernel) (fun _ => ⟨rfl, rfl⟩) (by simp only [List.length_set]; decide +kernel) d_Cells_init_76 ?_
  refine in_stepA (r := h + 33) (k := 12) (p1 := 282) hh (by simp only [List.length_append, List.length_cons, List.length_nil, L_House_len, L_Sets_len, L_Sides_len]) (by omega) b_Cells_init_79 (fun _ => rfl) (by decide) ⟨Nat.le_of_ble_eq_true rfl, Nat.le_of_ble_eq_true rfl⟩ d_Cells_init_83 (by decide +kernel) (fun _ => ⟨rfl, rfl⟩) (by simp only [List.length_set]; decide +kernel) d_Cells_init_85 ?_
  refine in_stepA (r := h + 34) (k := 13) (p1 := 283) hh (by simp only [List.length_append, List.length_cons, List.length_nil, L_House_len, L_Sets_len, L_Sides_len]) (by omega) b_Cells_init_88 (fun _ => rfl) (by decide) ⟨Nat.le_of_ble_eq_true rfl, Nat.le_of_ble_eq_true rfl⟩ d_Cells_init_92 (by decide +kernel) (fun _ => ⟨rfl, rfl⟩) (by simp only [List.length_set]; decide +kernel) d_Cells_init_94 ?_
  refine in_stepA (r := h + 35) (k := 14) (p1 := 284) hh (by simp only [List.length_append, List.length_cons, List.length_nil, L_House_len, L_Sets_len, L_Sides_len]) (by omega) b_Cells_init_97 (fun _ => rfl) (by decide) ⟨Nat.le_of_ble_eq_true rfl, Nat.le_of_ble_eq_true rfl⟩ d_Cells_init_100 (by decide +kernel) (fun _ => ⟨rfl, rfl⟩) (by simp only [List.length_set]; decide +kernel) d_Cells_init_102 ?_
  refine in_stepA (r := h + 36) (k := 15) (p1 := 286) hh (by simp only [List.length_append, List.length_cons, List.length_nil, L_House_len, L_Sets_len, L_Sides_len]) (by omega) b_Cells_init_105 (fun _ => rfl) (by decide) ⟨Nat.le_of_ble_eq_true rfl, Nat.le_of_ble_eq_true rfl⟩ d_Cells_init_108 (by decide +kernel) (fun _ => ⟨rfl, rfl⟩) (by simp only [List.length_set]; decide +kernel) d_Cells_init_110 ?_
  exact mx_retV d_Cells_init_113 rfl ⟨Nat.le_of_ble_eq_true rfl, Nat.le_of_ble_eq_true rfl⟩ ⟨rfl, rfl, rfl⟩
def L_Rows (h : Nat) : List mx_K := .inl (5, (((mx_nul 5).set 0 (some (some (h + 1)))).set 1 (some (some (h + 2)))).set 2 (some (some (h + 3)))) :: ((([] ++ [.inr (false, 8)]) ++ [.inr (false, 8)]) ++ [.inr (false, 320)])
theorem L_Rows_len (h : Nat) : (L_Rows h).length = 4 := by
  unfold L_Rows
  simp only [List.length_append, List.length_cons, List.length_nil]
theorem L_Rows_ne (h : Nat) : ∃ x t, L_Rows h = x :: t := ⟨_, _, rfl⟩
def in_fl (p n : Nat) (M : mx_M) : mx_M := fun a i => if a = p ∧ i < n then -1 else M a i
def in_M1 (p : Nat) (M : mx_M) : mx_M := in_fl p 8 M
theorem in_fl_0 (p : Nat) (M : mx_M) : in_fl p 0 M = M := by
  funext a i
  unfold in_fl
  rw [if_neg (fun q => Nat.not_lt_zero _ q.2)]
theorem in_fl_s (p n : Nat) (M : mx_M) (hn : n < 100) : mx_wr (in_fl p n M) p (nI n).toNatClampNeg (-1) = in_fl p (n + 1) M := by
  rw [nI_clamp (by omega)]
  funext a i
  unfold mx_wr
  by_cases h : a = p
  · subst h
    rw [if_pos rfl]
    unfold in_fl upd
    by_cases h2 : i = n
    · rw [if_pos h2, if_pos ⟨rfl, by omega⟩]
    · rw [if_neg h2]
      by_cases h3 : i < n
      · dsimp only
        rw [if_pos ⟨rfl, h3⟩, if_pos ⟨rfl, Nat.lt_succ_of_lt h3⟩]
      · dsimp only
        rw [if_neg (fun q => h3 q.2), if_neg (fun q => by have := q.2; omega)]
  · rw [if_neg h]
    unfold in_fl
    rw [if_neg (fun q => h q.1), if_neg (fun q => h q.1)]
theorem in_fill (G : mx_G) (Λ : List mx_K) (a : Nat) (M : mx_M) (hl : mx_len Λ false a = 8) : mx_Ok G m_fill [.ref a, .int (-1)] Λ M (fun r Λ' M' => r = none ∧ Λ' = Λ ∧ M' = in_M1 a M) := by
  have lp : ∀ n, n ≤ 8 → mx_W G m_fill 5 ([], [some (.ref a), some (.int (-1)), some (.int (nI n)), some (.int (nI 8))], in_fl a n M) Λ 0 0 (fun r Λ' M' => r = none ∧ Λ' = Λ ∧ M' = in_M1 a M) := by
    refine mx_ind (fun n => 8 - n) _ (fun n ih h8 => ?_)
    refine mx_go b_fill_5 rfl trivial ?_
    refine mx_ic_ge d_fill_7 (tgt := 20) rfl (fun hx => ?_) (fun hx => ?_)
    · have : n = 8 := by have := (nI_leI (by omega) (by omega)).mp hx; omega
      subst this
      exact mx_retV d_fill_20 rfl ⟨Nat.le_refl _, Nat.le_refl _⟩ ⟨rfl, rfl, rfl⟩
    · have hn : n < 8 := Nat.lt_of_not_le (fun q => hx (nI_le q (by omega)))
      refine mx_go b_fill_10 (st' := ([], [some (.ref a), some (.int (-1)), some (.int (nI n + nI 1)), some (.int (nI 8))], mx_wr (in_fl a n M) a (nI n).toNatClampNeg (-1))) rfl ⟨by rw [hl]; exact vp_in_nI hn (by omega), trivial⟩ ?_
      refine mx_goto d_fill_17 (tgt := 5) rfl ?_
      rw [in_fl_s a n M (by omega), nI_add]
      exact ih (n + 1) (by show 8 - (n + 1) < 8 - n; omega) (by omega)
  refine mx_ok_of (by decide) (by decide) (Nat.le_of_ble_eq_true rfl) ?_
  refine mx_go b_fill_0 (st' := ([], [some (.ref a), some (.int (-1)), some (.int (nI 0)), some (.int (nI (mx_len Λ false a)))], M)) rfl ⟨by rw [hl]; decide, trivial⟩ ?_
  have h0 := lp 0 (by omega)
  rw [in_fl_0] at h0
  rw [hl]
  exact h0
theorem in_ocl {Λ0 Tl : List mx_K} {h ci : Nat} {fs : List (Option (Option Nat))} (hh : Λ0.length = h) (hf : fs = mx_refs ci h) : mx_ocl (Λ0 ++ .inl (ci, fs) :: Tl) h = ci := by
  subst hf
  unfold mx_ocl
  have e : (Λ0 ++ .inl (ci, mx_refs ci h) :: Tl)[h]? = some (.inl (ci, mx_refs ci h)) := by
    rw [← hh, List.getElem?_append_right (Nat.le_refl _), Nat.sub_self]
    rfl
  rw [e]
  exact if_pos rfl
theorem in_len {Λ0 Tl : List mx_K} {x : mx_K} {h n : Nat} (hh : Λ0.length = h) : mx_len (Λ0 ++ x :: .inr (false, n) :: Tl) false (h + 1) = n := by
  unfold mx_len
  have e : (Λ0 ++ x :: .inr (false, n) :: Tl)[h + 1]? = some (.inr (false, n)) := by
    rw [← hh, List.getElem?_append_right (Nat.le_add_right _ _), Nat.add_sub_cancel_left]
    rfl
  rw [e]
  exact if_pos rfl
theorem in_Rows (G : mx_G) : in_Ok G m_Rows_init 5 4 L_Rows (fun h M M' => M' = in_M1 (h + 1) M) := fun Λ h M hh h139 => by
  refine in_begin (p1 := 106) hh ⟨by decide, by decide⟩ rfl b_Rows_init_0 (fun _ => rfl) (by decide +kernel) ⟨Nat.le_of_ble_eq_true rfl, Nat.le_of_ble_eq_true rfl⟩ d_Rows_init_1 ?_
  refine in_stepA (r := h + 1) (k := 0) (p1 := 110) hh (by simp only [List.length_append, List.length_cons, List.length_nil]) (by omega) b_Rows_init_4 (fun _ => rfl) (by decide) ⟨Nat.le_of_ble_eq_true rfl, Nat.le_of_ble_eq_true rfl⟩ d_Rows_init_7 (by decide +kernel) (fun _ => ⟨rfl, rfl⟩) (by decide +kernel) d_Rows_init_9 ?_
  refine in_stepA (r := h + 2) (k := 1) (p1 := 111) hh (by simp only [List.length_append, List.length_cons, List.length_nil]) (by omega) b_Rows_init_12 (fun _ => rfl) (by decide) ⟨Nat.le_of_ble_eq_true rfl, Nat.le_of_ble_eq_true rfl⟩ d_Rows_init_15 (by decide +kernel) (fun _ => ⟨rfl, rfl⟩) (by simp only [List.length_set]; decide +kernel) d_Rows_init_17 ?_
  refine in_stepA (r := h + 3) (k := 2) (p1 := 112) hh (by simp only [List.length_append, List.length_cons, List.length_nil]) (by omega) b_Rows_init_20 (fun _ => rfl) (by decide) ⟨Nat.le_of_ble_eq_true rfl, Nat.le_of_ble_eq_true rfl⟩ d_Rows_init_24 (by decide +kernel) (fun _ => ⟨rfl, rfl⟩) (by simp only [List.length_set]; decide +kernel) d_Rows_init_26 ?_
  refine mx_go b_Rows_init_29 (st' := ([.int (-1), .ref (h + 1)], [some (.ref h)], M)) rfl ⟨in_ocl hh rfl, trivial⟩ ?_
  refine mx_callS (as := [.ref (h + 1), .int (-1)]) (s := []) d_Rows_init_34 c_Rows_init_34 rfl rfl (Nat.le_of_ble_eq_true rfl) ⟨Nat.le_of_ble_eq_true rfl, Nat.le_of_ble_eq_true rfl⟩ (in_fill G _ (h + 1) M (in_len hh)) (fun r Λ' M' hq => ?_)
  obtain ⟨e1, e2, e3⟩ := hq
  subst e1
  subst e2
  subst e3
  exact mx_retV d_Rows_init_37 rfl ⟨Nat.le_of_ble_eq_true rfl, Nat.le_of_ble_eq_true rfl⟩ ⟨rfl, rfl, rfl⟩
def L_TS (h : Nat) : List mx_K := .inl (9, (((((((((((mx_nul 9).set 0 (some (some (h + 1)))).set 1 (some (some (h + 5)))).set 2 (some (some (h + 7)))).set 3 (some (some (h + 11)))).set 4 (some (some (h + 15)))).set 5 (some (some (h + 19)))).set 6 (some (some (h + 23)))).set 7 (some (some (h + 28)))).set 8 (some (some (h + 65)))).set 9 (some (some (h + 102)))).set 10 (some (some (h + 117)))) :: ((((((((((([] ++ L_Rows (h + 1)) ++ L_Tape (h + 5)) ++ L_House (h + 7)) ++ L_House (h + 11)) ++ L_House (h + 15)) ++ L_House (h + 19)) ++ L_Acts (h + 23)) ++ L_Cells (h + 28)) ++ L_Cells (h + 65)) ++ L_Plain (h + 102)) ++ L_Asks (h + 117))
theorem L_TS_len (h : Nat) : (L_TS h).length = 119 := by
  unfold L_TS
  simp only [List.length_append, List.length_cons, List.length_nil, L_Acts_len, L_Asks_len, L_Cells_len, L_House_len, L_Plain_len, L_Rows_len, L_Tape_len]
theorem L_TS_ne (h : Nat) : ∃ x t, L_TS h = x :: t := ⟨_, _, rfl⟩
theorem in_TS (G : mx_G) : in_Ok G m_TS_init 9 119 L_TS (fun h M M' => M' = in_M1 (h + 2) M) := fun Λ h M hh h139 => by
  refine in_begin (p1 := 98) hh ⟨by decide, by decide⟩ rfl b_TS_init_0 (fun _ => rfl) (by decide +kernel) ⟨Nat.le_of_ble_eq_true rfl, Nat.le_of_ble_eq_true rfl⟩ d_TS_init_1 ?_
  refine in_stepO (r := h + 1) (k := 0) (p1 := 375) (q1 := 101) (q2 := 102) (q3 := 80) (host := "") (ps := [103, 104, 80, 105]) (in_Rows G) L_Rows_ne hh (by simp only [List.length_append, List.length_cons, List.length_nil, L_Acts_len, L_Asks_len, L_Cells_len, L_House_len, L_Plain_len, L_Rows_len, L_Tape_len]) (by omega) b_TS_init_4 (fun _ => rfl) b_TS_init_8 (fun _ => rfl) rfl (by decide +kernel) (by decide +kernel) ⟨Nat.le_of_ble_eq_true rfl, Nat.le_of_ble_eq_true rfl⟩ d_TS_init_5 rfl (by decide +kernel) d_TS_init_9 (by decide +kernel) (fun _ => ⟨rfl, rfl⟩) (by decide +kernel) d_TS_init_12 (fun M' e0 => ?_)
  subst e0
  refine in_stepO (r := h + 5) (k := 1) (p1 := 376) (q1 := 121) (q2 := 122) (q3 := 82) (host := "TypeSets") (ps := [123, 124, 82, 125]) (in_Tape G) L_Tape_ne hh (by simp only [List.length_append, List.length_cons, List.length_nil, L_Acts_len, L_Asks_len, L_Cells_len, L_House_len, L_Plain_len, L_Rows_len, L_Tape_len]) (by omega) b_TS_init_15 (fun _ => rfl) b_TS_init_19 (fun _ => rfl) rfl (by decide +kernel) (by decide +kernel) ⟨Nat.le_of_ble_eq_true rfl, Nat.le_of_ble_eq_true rfl⟩ d_TS_init_16 rfl (by decide +kernel) d_TS_init_20 (by decide +kernel) (fun _ => ⟨rfl, rfl⟩) (by simp only [List.length_set]; decide +kernel) d_TS_init_23 (fun M' e1 => ?_)
  subst e1
  refine in_stepO (r := h + 7) (k := 2) (p1 := 377) (q1 := 152) (q2 := 153) (q3 := 83) (host := "TypeSets") (ps := [154, 155, 83, 156]) (in_House G) L_House_ne hh (by simp only [List.length_append, List.length_cons, List.length_nil, L_Acts_len, L_Asks_len, L_Cells_len, L_House_len, L_Plain_len, L_Rows_len, L_Tape_len]) (by omega) b_TS_init_26 (fun _ => rfl) b_TS_init_30 (fun _ => rfl) rfl (by decide +kernel) (by decide +kernel) ⟨Nat.le_of_ble_eq_true rfl, Nat.le_of_ble_eq_true rfl⟩ d_TS_init_27 rfl (by decide +kernel) d_TS_init_31 (by decide +kernel) (fun _ => ⟨rfl, rfl⟩) (by simp only [List.length_set]; decide +kernel) d_TS_init_34 (fun M' e2 => ?_)
  subst e2
  refine in_stepO (r := h + 11) (k := 3) (p1 := 378) (q1 := 152) (q2 := 153) (q3 := 83) (host := "TypeSets") (ps := [154, 155, 83, 156]) (in_House G) L_House_ne hh (by simp only [List.length_append, List.length_cons, List.length_nil, L_Acts_len, L_Asks_len, L_Cells_len, L_House_len, L_Plain_len, L_Rows_len, L_Tape_len]) (by omega) b_TS_init_37 (fun _ => rfl) b_TS_init_41 (fun _ => rfl) rfl (by decide +kernel) (by decide +kernel) ⟨Nat.le_of_ble_eq_true rfl, Nat.le_of_ble_eq_true rfl⟩ d_TS_init_38 rfl (by decide +kernel) d_TS_init_42 (by decide +kernel) (fun _ => ⟨rfl, rfl⟩) (by simp only [List.length_set]; decide +kernel) d_TS_init_45 (fun M' e3 => ?_)
  subst e3
  refine in_stepO (r := h + 15) (k := 4) (p1 := 379) (q1 := 152) (q2 := 153) (q3 := 83) (host := "TypeSets") (ps := [154, 155, 83, 156]) (in_House G) L_House_ne hh (by simp only [List.length_append, List.length_cons, List.length_nil, L_Acts_len, L_Asks_len, L_Cells_len, L_House_len, L_Plain_len, L_Rows_len, L_Tape_len]) (by omega) b_TS_init_48 (fun _ => rfl) b_TS_init_52 (fun _ => rfl) rfl (by decide +kernel) (by decide +kernel) ⟨Nat.le_of_ble_eq_true rfl, Nat.le_of_ble_eq_true rfl⟩ d_TS_init_49 rfl (by decide +kernel) d_TS_init_53 (by decide +kernel) (fun _ => ⟨rfl, rfl⟩) (by simp only [List.length_set]; decide +kernel) d_TS_init_56 (fun M' e4 => ?_)
  subst e4
  refine in_stepO (r := h + 19) (k := 5) (p1 := 380) (q1 := 152) (q2 := 153) (q3 := 83) (host := "TypeSets") (ps := [154, 155, 83, 156]) (in_House G) L_House_ne hh (by simp only [List.length_append, List.length_cons, List.length_nil, L_Acts_len, L_Asks_len, L_Cells_len, L_House_len, L_Plain_len, L_Rows_len, L_Tape_len]) (by omega) b_TS_init_59 (fun _ => rfl) b_TS_init_63 (fun _ => rfl) rfl (by decide +kernel) (by decide +kernel) ⟨Nat.le_of_ble_eq_true rfl, Nat.le_of_ble_eq_true rfl⟩ d_TS_init_60 rfl (by decide +kernel) d_TS_init_64 (by decide +kernel) (fun _ => ⟨rfl, rfl⟩) (by simp only [List.length_set]; decide +kernel) d_TS_init_67 (fun M' e5 => ?_)
  subst e5
  refine in_stepO (r := h + 23) (k := 6) (p1 := 381) (q1 := 190) (q2 := 191) (q3 := 84) (host := "TypeSets") (ps := [192, 193, 84, 194]) (in_Acts G) L_Acts_ne hh (by simp only [List.length_append, List.length_cons, List.length_nil, L_Acts_len, L_Asks_len, L_Cells_len, L_House_len, L_Plain_len, L_Rows_len, L_Tape_len]) (by omega) b_TS_init_70 (fun _ => rfl) b_TS_init_74 (fun _ => rfl) rfl (by decide +kernel) (by decide +kernel) ⟨Nat.le_of_ble_eq_true rfl, Nat.le_of_ble_eq_true rfl⟩ d_TS_init_71 rfl (by decide +kernel) d_TS_init_75 (by decide +kernel) (fun _ => ⟨rfl, rfl⟩) (by simp only [List.length_set]; decide +kernel) d_TS_init_78 (fun M' e6 => ?_)
  subst e6
  refine in_stepO (r := h + 28) (k := 7) (p1 := 382) (q1 := 213) (q2 := 214) (q3 := 85) (host := "TypeSets") (ps := [215, 216, 85, 217]) (in_Cells G) L_Cells_ne hh (by simp only [List.length_append, List.length_cons, List.length_nil, L_Acts_len, L_Asks_len, L_Cells_len, L_House_len, L_Plain_len, L_Rows_len, L_Tape_len]) (by omega) b_TS_init_81 (fun _ => rfl) b_TS_init_85 (fun _ => rfl) rfl (by decide +kernel) (by decide +kernel) ⟨Nat.le_of_ble_eq_true rfl, Nat.le_of_ble_eq_true rfl⟩ d_TS_init_82 rfl (by decide +kernel) d_TS_init_86 (by decide +kernel) (fun _ => ⟨rfl, rfl⟩) (by simp only [List.length_set]; decide +kernel) d_TS_init_89 (fun M' e7 => ?_)
  subst e7
  refine in_stepO (r := h + 65) (k := 8) (p1 := 383) (q1 := 213) (q2 := 214) (q3 := 85) (host := "TypeSets") (ps := [215, 216, 85, 217]) (in_Cells G) L_Cells_ne hh (by simp only [List.length_append, List.length_cons, List.length_nil, L_Acts_len, L_Asks_len, L_Cells_len, L_House_len, L_Plain_len, L_Rows_len, L_Tape_len]) (by omega) b_TS_init_92 (fun _ => rfl) b_TS_init_96 (fun _ => rfl) rfl (by decide +kernel) (by decide +kernel) ⟨Nat.le_of_ble_eq_true rfl, Nat.le_of_ble_eq_true rfl⟩ d_TS_init_93 rfl (by decide +kernel) d_TS_init_97 (by decide +kernel) (fun _ => ⟨rfl, rfl⟩) (by simp only [List.length_set]; decide +kernel) d_TS_init_100 (fun M' e8 => ?_)
  subst e8
  refine in_stepO (r := h + 102) (k := 9) (p1 := 384) (q1 := 321) (q2 := 322) (q3 := 88) (host := "TypeSets") (ps := [323, 324, 88, 325]) (in_Plain G) L_Plain_ne hh (by simp only [List.length_append, List.length_cons, List.length_nil, L_Acts_len, L_Asks_len, L_Cells_len, L_House_len, L_Plain_len, L_Rows_len, L_Tape_len]) (by omega) b_TS_init_103 (fun _ => rfl) b_TS_init_107 (fun _ => rfl) rfl (by decide +kernel) (by decide +kernel) ⟨Nat.le_of_ble_eq_true rfl, Nat.le_of_ble_eq_true rfl⟩ d_TS_init_104 rfl (by decide +kernel) d_TS_init_108 (by decide +kernel) (fun _ => ⟨rfl, rfl⟩) (by simp only [List.length_set]; decide +kernel) d_TS_init_111 (fun M' e9 => ?_)
  subst e9
  refine in_stepO (r := h + 117) (k := 10) (p1 := 385) (q1 := 348) (q2 := 349) (q3 := 89) (host := "TypeSets") (ps := [350, 351, 89, 352]) (in_Asks G) L_Asks_ne hh (by simp only [List.length_append, List.length_cons, List.length_nil, L_Acts_len, L_Asks_len, L_Cells_len, L_House_len, L_Plain_len, L_Rows_len, L_Tape_len]) (by omega) b_TS_init_114 (fun _ => rfl) b_TS_init_118 (fun _ => rfl) rfl (by decide +kernel) (by decide +kernel) ⟨Nat.le_of_ble_eq_true rfl, Nat.le_of_ble_eq_true rfl⟩ d_TS_init_115 rfl (by decide +kernel) d_TS_init_119 (by decide +kernel) (fun _ => ⟨rfl, rfl⟩) (by simp only [List.length_set]; decide +kernel) d_TS_init_122 (fun M' e10 => ?_)
  subst e10
  exact mx_retV d_TS_init_125 rfl ⟨Nat.le_of_ble_eq_true rfl, Nat.le_of_ble_eq_true rfl⟩ ⟨rfl, rfl, rfl⟩
def L_Mo (h : Nat) : List mx_K := .inl (10, (((((((((((((((((((mx_nul 10).set 2 (some (some (h + 1)))).set 3 (some (some (h + 2)))).set 4 (some (some (h + 3)))).set 5 (some (some (h + 4)))).set 6 (some (some (h + 5)))).set 7 (some (some (h + 6)))).set 8 (some (some (h + 7)))).set 10 (some (some (h + 8)))).set 19 (some (some (h + 9)))).set 20 (some (some (h + 10)))).set 21 (some (some (h + 11)))).set 23 (some (some (h + 12)))).set 24 (some (some (h + 13)))).set 25 (some (some (h + 14)))).set 26 (some (some (h + 15)))).set 27 (some (some (h + 16)))).set 28 (some (some (h + 17)))).set 29 (some (some (h + 18)))).set 30 (some (some (h + 19)))) :: ((((((((((((((((((([] ++ [.inr (false, 8)]) ++ [.inr (false, 8)]) ++ [.inr (false, 320)]) ++ [.inr (false, 26)]) ++ [.inr (false, 26)]) ++ [.inr (false, 26)]) ++ [.inr (false, 624)]) ++ [.inr (false, 80)]) ++ [.inr (false, 256)]) ++ [.inr (false, 256)]) ++ [.inr (false, 256)]) ++ [.inr (true, 512)]) ++ [.inr (true, 512)]) ++ [.inr (false, 26)]) ++ [.inr (false, 256)]) ++ [.inr (false, 256)]) ++ [.inr (true, 2)]) ++ [.inr (false, 52)]) ++ [.inr (false, 16)])
theorem L_Mo_len (h : Nat) : (L_Mo h).length = 20 := by
  unfold L_Mo
  simp only [List.length_append, List.length_cons, List.length_nil]
theorem L_Mo_ne (h : Nat) : ∃ x t, L_Mo h = x :: t := ⟨_, _, rfl⟩
theorem in_Mo (G : mx_G) : in_Ok G m_Mo_init 10 20 L_Mo (fun h M M' => M' = in_M1 (h + 1) M) := fun Λ h M hh h139 => by
  refine in_begin (p1 := 939) hh ⟨by decide, by decide⟩ rfl b_Mo_init_0 (fun _ => rfl) (by decide +kernel) ⟨Nat.le_of_ble_eq_true rfl, Nat.le_of_ble_eq_true rfl⟩ d_Mo_init_1 ?_
  have hlen : (Λ ++ [Sum.inl (10, mx_nul 10)]).length = h + 1 := by rw [List.length_append, hh]; rfl
  refine mx_go b_Mo_init_4 (st' := ([.int (nI 8), .ref h], [some (.ref h)], M)) rfl trivial ?_
  refine mx_newI (pl := 120) (by omega) (by decide +kernel) (by decide) ⟨Nat.le_of_ble_eq_true rfl, Nat.le_of_ble_eq_true rfl⟩ d_Mo_init_7 ?_
  rw [hlen, List.append_assoc]
  have hv : ∀ k, k < 8 → vp_in (nI k) (mx_len (Λ ++ ([Sum.inl (10, mx_nul 10)] ++ [Sum.inr (false, 8)])) false (h + 1)) := fun k hk => by
    rw [show [Sum.inl (10, mx_nul 10)] ++ [Sum.inr (false, 8)] = (Sum.inl (10, mx_nul 10) :: Sum.inr (false, 8) :: [] : List mx_K) from rfl, in_len hh]
    exact vp_in_nI hk (by decide)
  refine mx_go b_Mo_init_9 (st' := ([.ref (h + 1), .ref h], [some (.ref h)], mx_wr (mx_wr (mx_wr (mx_wr (mx_wr (mx_wr (mx_wr (mx_wr M (h + 1) (nI 0).toNatClampNeg (-1)) (h + 1) (nI 1).toNatClampNeg (-1)) (h + 1) (nI 2).toNatClampNeg (-1)) (h + 1) (nI 3).toNatClampNeg (-1)) (h + 1) (nI 4).toNatClampNeg (-1)) (h + 1) (nI 5).toNatClampNeg (-1)) (h + 1) (nI 6).toNatClampNeg (-1)) (h + 1) (nI 7).toNatClampNeg (-1))) rfl ⟨hv 0 (by decide), hv 1 (by decide), hv 2 (by decide), hv 3 (by decide), hv 4 (by decide), hv 5 (by decide), hv 6 (by decide), hv 7 (by decide), trivial⟩ ?_
  have eM : mx_wr (mx_wr (mx_wr (mx_wr (mx_wr (mx_wr (mx_wr (mx_wr M (h + 1) (nI 0).toNatClampNeg (-1)) (h + 1) (nI 1).toNatClampNeg (-1)) (h + 1) (nI 2).toNatClampNeg (-1)) (h + 1) (nI 3).toNatClampNeg (-1)) (h + 1) (nI 4).toNatClampNeg (-1)) (h + 1) (nI 5).toNatClampNeg (-1)) (h + 1) (nI 6).toNatClampNeg (-1)) (h + 1) (nI 7).toNatClampNeg (-1) = in_M1 (h + 1) M := by
    have e0 := in_fl_s (h + 1) 0 M (by decide)
    rw [in_fl_0] at e0
    rw [e0, in_fl_s _ _ _ (by decide), in_fl_s _ _ _ (by decide), in_fl_s _ _ _ (by decide), in_fl_s _ _ _ (by decide), in_fl_s _ _ _ (by decide), in_fl_s _ _ _ (by decide), in_fl_s _ _ _ (by decide)]
    rfl
  rw [eM]
  refine in_put (ci := 10) (fs := mx_nul 10) (Tl := [] ++ [.inr (false, 8)]) (k := 2) (p1 := 942) (kr := .inr (false, 8)) hh (by decide +kernel) (fun _ => ⟨rfl, rfl⟩) (by decide +kernel) ?_ d_Mo_init_43 ?_
  · rw [← hh, List.getElem?_append_right (Nat.le_add_right _ _), Nat.add_sub_cancel_left]
    rfl
  refine in_stepA (r := h + 2) (k := 3) (p1 := 943) hh (by simp only [List.length_append, List.length_cons, List.length_nil]) (by omega) b_Mo_init_46 (fun _ => rfl) (by decide) ⟨Nat.le_of_ble_eq_true rfl, Nat.le_of_ble_eq_true rfl⟩ d_Mo_init_49 (by decide +kernel) (fun _ => ⟨rfl, rfl⟩) (by simp only [List.length_set]; decide +kernel) d_Mo_init_51 ?_
  refine in_stepA (r := h + 3) (k := 4) (p1 := 944) hh (by simp only [List.length_append, List.length_cons, List.length_nil]) (by omega) b_Mo_init_54 (fun _ => rfl) (by decide) ⟨Nat.le_of_ble_eq_true rfl, Nat.le_of_ble_eq_true rfl⟩ d_Mo_init_58 (by decide +kernel) (fun _ => ⟨rfl, rfl⟩) (by simp only [List.length_set]; decide +kernel) d_Mo_init_60 ?_
  refine in_stepA (r := h + 4) (k := 5) (p1 := 945) hh (by simp only [List.length_append, List.length_cons, List.length_nil]) (by omega) b_Mo_init_63 (fun _ => rfl) (by decide) ⟨Nat.le_of_ble_eq_true rfl, Nat.le_of_ble_eq_true rfl⟩ d_Mo_init_66 (by decide +kernel) (fun _ => ⟨rfl, rfl⟩) (by simp only [List.length_set]; decide +kernel) d_Mo_init_68 ?_
  refine in_stepA (r := h + 5) (k := 6) (p1 := 946) hh (by simp only [List.length_append, List.length_cons, List.length_nil]) (by omega) b_Mo_init_71 (fun _ => rfl) (by decide) ⟨Nat.le_of_ble_eq_true rfl, Nat.le_of_ble_eq_true rfl⟩ d_Mo_init_74 (by decide +kernel) (fun _ => ⟨rfl, rfl⟩) (by simp only [List.length_set]; decide +kernel) d_Mo_init_76 ?_
  refine in_stepA (r := h + 6) (k := 7) (p1 := 947) hh (by simp only [List.length_append, List.length_cons, List.length_nil]) (by omega) b_Mo_init_79 (fun _ => rfl) (by decide) ⟨Nat.le_of_ble_eq_true rfl, Nat.le_of_ble_eq_true rfl⟩ d_Mo_init_82 (by decide +kernel) (fun _ => ⟨rfl, rfl⟩) (by simp only [List.length_set]; decide +kernel) d_Mo_init_84 ?_
  refine in_stepA (r := h + 7) (k := 8) (p1 := 948) hh (by simp only [List.length_append, List.length_cons, List.length_nil]) (by omega) b_Mo_init_87 (fun _ => rfl) (by decide) ⟨Nat.le_of_ble_eq_true rfl, Nat.le_of_ble_eq_true rfl⟩ d_Mo_init_91 (by decide +kernel) (fun _ => ⟨rfl, rfl⟩) (by simp only [List.length_set]; decide +kernel) d_Mo_init_93 ?_
  refine in_stepA (r := h + 8) (k := 10) (p1 := 950) hh (by simp only [List.length_append, List.length_cons, List.length_nil]) (by omega) b_Mo_init_96 (fun _ => rfl) (by decide) ⟨Nat.le_of_ble_eq_true rfl, Nat.le_of_ble_eq_true rfl⟩ d_Mo_init_99 (by decide +kernel) (fun _ => ⟨rfl, rfl⟩) (by simp only [List.length_set]; decide +kernel) d_Mo_init_101 ?_
  refine in_stepA (r := h + 9) (k := 19) (p1 := 959) hh (by simp only [List.length_append, List.length_cons, List.length_nil]) (by omega) b_Mo_init_104 (fun _ => rfl) (by decide) ⟨Nat.le_of_ble_eq_true rfl, Nat.le_of_ble_eq_true rfl⟩ d_Mo_init_108 (by decide +kernel) (fun _ => ⟨rfl, rfl⟩) (by simp only [List.length_set]; decide +kernel) d_Mo_init_110 ?_
  refine in_stepA (r := h + 10) (k := 20) (p1 := 960) hh (by simp only [List.length_append, List.length_cons, List.length_nil]) (by omega) b_Mo_init_113 (fun _ => rfl) (by decide) ⟨Nat.le_of_ble_eq_true rfl, Nat.le_of_ble_eq_true rfl⟩ d_Mo_init_117 (by decide +kernel) (fun _ => ⟨rfl, rfl⟩) (by simp only [List.length_set]; decide +kernel) d_Mo_init_119 ?_
  refine in_stepA (r := h + 11) (k := 21) (p1 := 961) hh (by simp only [List.length_append, List.length_cons, List.length_nil]) (by omega) b_Mo_init_122 (fun _ => rfl) (by decide) ⟨Nat.le_of_ble_eq_true rfl, Nat.le_of_ble_eq_true rfl⟩ d_Mo_init_126 (by decide +kernel) (fun _ => ⟨rfl, rfl⟩) (by simp only [List.length_set]; decide +kernel) d_Mo_init_128 ?_
  refine in_stepZ (r := h + 12) (k := 23) (p1 := 963) hh (by simp only [List.length_append, List.length_cons, List.length_nil]) (by omega) b_Mo_init_131 (fun _ => rfl) (by decide) ⟨Nat.le_of_ble_eq_true rfl, Nat.le_of_ble_eq_true rfl⟩ d_Mo_init_135 (by decide +kernel) (fun _ => ⟨rfl, rfl⟩) (by simp only [List.length_set]; decide +kernel) d_Mo_init_137 ?_
  refine in_stepZ (r := h + 13) (k := 24) (p1 := 964) hh (by simp only [List.length_append, List.length_cons, List.length_nil]) (by omega) b_Mo_init_140 (fun _ => rfl) (by decide) ⟨Nat.le_of_ble_eq_true rfl, Nat.le_of_ble_eq_true rfl⟩ d_Mo_init_144 (by decide +kernel) (fun _ => ⟨rfl, rfl⟩) (by simp only [List.length_set]; decide +kernel) d_Mo_init_146 ?_
  refine in_stepA (r := h + 14) (k := 25) (p1 := 965) hh (by simp only [List.length_append, List.length_cons, List.length_nil]) (by omega) b_Mo_init_149 (fun _ => rfl) (by decide) ⟨Nat.le_of_ble_eq_true rfl, Nat.le_of_ble_eq_true rfl⟩ d_Mo_init_152 (by decide +kernel) (fun _ => ⟨rfl, rfl⟩) (by simp only [List.length_set]; decide +kernel) d_Mo_init_154 ?_
  refine in_stepA (r := h + 15) (k := 26) (p1 := 966) hh (by simp only [List.length_append, List.length_cons, List.length_nil]) (by omega) b_Mo_init_157 (fun _ => rfl) (by decide) ⟨Nat.le_of_ble_eq_true rfl, Nat.le_of_ble_eq_true rfl⟩ d_Mo_init_161 (by decide +kernel) (fun _ => ⟨rfl, rfl⟩) (by simp only [List.length_set]; decide +kernel) d_Mo_init_163 ?_
  refine in_stepA (r := h + 16) (k := 27) (p1 := 967) hh (by simp only [List.length_append, List.length_cons, List.length_nil]) (by omega) b_Mo_init_166 (fun _ => rfl) (by decide) ⟨Nat.le_of_ble_eq_true rfl, Nat.le_of_ble_eq_true rfl⟩ d_Mo_init_170 (by decide +kernel) (fun _ => ⟨rfl, rfl⟩) (by simp only [List.length_set]; decide +kernel) d_Mo_init_172 ?_
  refine in_stepZ (r := h + 17) (k := 28) (p1 := 968) hh (by simp only [List.length_append, List.length_cons, List.length_nil]) (by omega) b_Mo_init_175 (fun _ => rfl) (by decide) ⟨Nat.le_of_ble_eq_true rfl, Nat.le_of_ble_eq_true rfl⟩ d_Mo_init_177 (by decide +kernel) (fun _ => ⟨rfl, rfl⟩) (by simp only [List.length_set]; decide +kernel) d_Mo_init_179 ?_
  refine in_stepA (r := h + 18) (k := 29) (p1 := 969) hh (by simp only [List.length_append, List.length_cons, List.length_nil]) (by omega) b_Mo_init_182 (fun _ => rfl) (by decide) ⟨Nat.le_of_ble_eq_true rfl, Nat.le_of_ble_eq_true rfl⟩ d_Mo_init_185 (by decide +kernel) (fun _ => ⟨rfl, rfl⟩) (by simp only [List.length_set]; decide +kernel) d_Mo_init_187 ?_
  refine in_stepA (r := h + 19) (k := 30) (p1 := 970) hh (by simp only [List.length_append, List.length_cons, List.length_nil]) (by omega) b_Mo_init_190 (fun _ => rfl) (by decide) ⟨Nat.le_of_ble_eq_true rfl, Nat.le_of_ble_eq_true rfl⟩ d_Mo_init_193 (by decide +kernel) (fun _ => ⟨rfl, rfl⟩) (by simp only [List.length_set]; decide +kernel) d_Mo_init_195 ?_
  exact mx_retV d_Mo_init_198 rfl ⟨Nat.le_of_ble_eq_true rfl, Nat.le_of_ble_eq_true rfl⟩ ⟨rfl, rfl, rfl⟩

