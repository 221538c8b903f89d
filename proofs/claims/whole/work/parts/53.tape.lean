theorem nI_sub {a b : Nat} (h : b ≤ a) : nI a - nI b = nI (a - b) := by
  obtain ⟨d, rfl⟩ : ∃ d, a = b + d := ⟨a - b, by omega⟩
  rw [show b + d - b = d by omega, ← nI_add, Int32.add_comm, Int32.add_sub_cancel]
/-! ===== the tape and its tokens ===== -/
abbrev dig (B : Nat → Nat) (i : Nat) : Prop := 48 ≤ B i ∧ B i ≤ 57
def feF (B : Nat → Nat) (n : Nat) : Nat → Nat → Nat
  | 0, p => p
  | f + 1, p => if p < n ∧ dig B p then feF B n f (p + 1) else p
/-- behind the figures from p on -/
def fe (B : Nat → Nat) (n p : Nat) : Nat := feF B n n p
theorem feF_eq (B : Nat → Nat) (n : Nat) : ∀ f p q, p ≤ q → q ≤ p + f → (∀ i, p ≤ i → i < q → i < n ∧ dig B i) → ¬ (q < n ∧ dig B q) → feF B n f p = q
  | 0, p, q, h1, h2, _, _ => by show p = q; omega
  | f + 1, p, q, h1, h2, h3, h4 => by
    show (if p < n ∧ dig B p then feF B n f (p + 1) else p) = q
    by_cases hx : p = q
    · rw [hx, if_neg h4]
    · rw [if_pos (h3 p (Nat.le_refl p) (by omega))]
      exact feF_eq B n f (p + 1) q (by omega) (by omega) (fun i a b => h3 i (by omega) b) h4
theorem fe_eq {B : Nat → Nat} {n p q : Nat} (h1 : p ≤ q) (h2 : q ≤ n ∨ p = q) (h3 : ∀ i, p ≤ i → i < q → i < n ∧ dig B i) (h4 : ¬ (q < n ∧ dig B q)) : fe B n p = q := feF_eq B n n p q h1 (by omega) h3 h4
def valN (B : Nat → Nat) (p q : Nat) : Nat := if q = p then 0 else if q = p + 1 then B p - 48 else 10 * (B p - 48) + (B (p + 1) - 48)
abbrev isL (b : Nat) : Prop := (97 ≤ b ∧ b ≤ 122) ∨ b = 44 ∨ b = 59
/-- the token at p: a letter or a sign by its number; 1001 a number, 1002 the end, 1003 nothing -/
def tkA (B : Nat → Nat) (n p : Nat) : Nat := if p < fe B n p then (if fe B n p ≤ p + 2 then 1001 else 1003) else if n ≤ p then 1002 else if isL (B p) then B p else 1003
def nxA (B : Nat → Nat) (n p : Nat) : Nat := if p < fe B n p then fe B n p else if n ≤ p then p else p + 1
def nmA (B : Nat → Nat) (n p : Nat) : Nat := valN B p (fe B n p)
def tI (t : Nat) : Int32 := if t = 1001 then -1 else if t = 1002 then -2 else if t = 1003 then -3 else nI t
theorem tI_eq {t w : Nat} (ht : t < 2000) (hw : w < 256) : tI t = nI w ↔ t = w := by
  unfold tI
  have h1 : ∀ w, w < 256 → ¬ (-1 : Int32) = nI w := by decide +kernel
  have h2 : ∀ w, w < 256 → ¬ (-2 : Int32) = nI w := by decide +kernel
  have h3 : ∀ w, w < 256 → ¬ (-3 : Int32) = nI w := by decide +kernel
  split
  · exact ⟨fun q => absurd q (h1 w hw), fun q => by omega⟩
  · split
    · exact ⟨fun q => absurd q (h2 w hw), fun q => by omega⟩
    · split
      · exact ⟨fun q => absurd q (h3 w hw), fun q => by omega⟩
      · exact nI_eq (by omega) (by omega)
def TapeAt (M : mx_M) (B : Nat → Nat) (n : Nat) : Prop := M 5 1 = nI n ∧ n ≤ 80 ∧ ∀ i, i < n → M 6 i = nI (B i) ∧ B i < 256
theorem TapeAt.fr {M M' : mx_M} {lo hi n : Nat} {B : Nat → Nat} (h : TapeAt M B n) (hf : Fr M M' lo hi) (hd : 7 ≤ lo ∨ hi ≤ 5) : TapeAt M' B n := by
  unfold TapeAt
  rw [hf 5 (by omega), hf 6 (by omega)]
  exact h
theorem TapeAt.of {M M' : mx_M} {n : Nat} {B : Nat → Nat} (h : TapeAt M B n) (h1 : M' 5 1 = M 5 1) (h2 : M' 6 = M 6) : TapeAt M' B n := by
  unfold TapeAt
  rw [h1, h2]
  exact h
theorem k_isFigure (G : mx_G) {M : mx_M} {b : Nat} (hb : b < 256) : sOk G m_Tape_isFigure [.int (nI b)] M (fun r M' => r = some (.int (tf (48 ≤ b ∧ b ≤ 57))) ∧ M' = M) := by
  refine sOk_of ⟨by decide +kernel, by decide +kernel, Nat.le_of_ble_eq_true rfl⟩ ?_
  show sW G m_Tape_isFigure 0 ([], [some (.int (nI b))], M) _
  refine sW_go b_Tape_isFigure_0 (st' := ([.int (nI 48), .int (nI b)], [some (.int (nI b))], M)) (φ := True) rfl trivial ?_
  refine sW_ic_lt 16 d_Tape_isFigure_3 (by decide) (fun c_3 => ?_) (fun c_3 => ?_)
  · skip
    simp (disch := omega) only [nI_ltI] at c_3
    refine sW_go b_Tape_isFigure_16 (st' := ([.int (nI 0)], [some (.int (nI b))], M)) (φ := True) rfl trivial ?_
    refine sW_retI d_Tape_isFigure_17 rfl nb_0 ?_
    exact ⟨by rw [tf_f (by omega)], rfl⟩
  · skip
    simp (disch := omega) only [nI_ltI] at c_3
    refine sW_go b_Tape_isFigure_6 (st' := ([.int (nI 57), .int (nI b)], [some (.int (nI b))], M)) (φ := True) rfl trivial ?_
    refine sW_ic_gt 16 d_Tape_isFigure_9 (by decide) (fun c_9 => ?_) (fun c_9 => ?_)
    · skip
      simp (disch := omega) only [nI_ltI] at c_9
      refine sW_go b_Tape_isFigure_16 (st' := ([.int (nI 0)], [some (.int (nI b))], M)) (φ := True) rfl trivial ?_
      refine sW_retI d_Tape_isFigure_17 rfl nb_0 ?_
      exact ⟨by rw [tf_f (by omega)], rfl⟩
    · skip
      simp (disch := omega) only [nI_ltI] at c_9
      refine sW_go b_Tape_isFigure_12 (st' := ([.int (nI 1)], [some (.int (nI b))], M)) (φ := True) rfl trivial ?_
      refine sW_goto 17 d_Tape_isFigure_13 (by decide) ?_
      refine sW_retI d_Tape_isFigure_17 rfl nb_1 ?_
      exact ⟨by rw [tf_t (by omega)], rfl⟩
theorem k_fails (G : mx_G) {M : mx_M} (k : Nat) : sOk G m_Tape_fails [.ref 5, .int (nI k)] M (fun r M' => r = some (.int (nI 0)) ∧ M' = mx_wr M 5 6 (nI k)) := by
  refine sOk_of ⟨by decide +kernel, by decide +kernel, Nat.le_of_ble_eq_true rfl⟩ ?_
  show sW G m_Tape_fails 0 ([], [some (.ref 5), some (.int (nI k))], M) _
  refine sW_go b_Tape_fails_0 (st' := ([.int (nI 0)], [some (.ref 5), some (.int (nI k))], mx_wr M 5 6 (nI k))) (φ := mx_ocl LAY 5 = 8 ∧ True) rfl ⟨oc_5, trivial⟩ ?_
  refine sW_retI d_Tape_fails_6 rfl nb_0 ?_
  exact ⟨rfl, rfl⟩
def StepR (M M' : mx_M) (B : Nat → Nat) (n p : Nat) : Prop := Fr M M' 5 6 ∧ M' 5 1 = nI n ∧ M' 5 2 = nI (nxA B n p) ∧ M' 5 3 = tI (tkA B n p) ∧ (tkA B n p = 1001 → M' 5 4 = nI (nmA B n p)) ∧ M' 5 5 = nI p ∧ M' 5 6 = M 5 6
theorem k_step (G : mx_G) {M : mx_M} {B : Nat → Nat} {n p : Nat} (hT : TapeAt M B n) (hp : M 5 2 = nI p) (hpn : p ≤ n) : sOk G m_Tape_step [.ref 5] M (fun r M' => r = none ∧ StepR M M' B n p) := by
  obtain ⟨t1, t2, t3⟩ := hT
  have q0 : (mx_wr (mx_wr M 5 5 (nI p)) 5 4 (nI 0)) 5 2 = nI p := by rw [mx_wr_s, pk_un (by decide), mx_wr_s, pk_un (by decide)]; exact hp
  refine sOk_of ⟨by decide +kernel, by decide +kernel, Nat.le_of_ble_eq_true rfl⟩ ?_
  show sW G m_Tape_step 0 ([], [some (.ref 5), none], M) _
  refine sW_go b_Tape_step_0 (st' := ([], [some (.ref 5), none], mx_wr (mx_wr M 5 5 (M 5 2)) 5 4 (nI 0))) (φ := mx_ocl LAY 5 = 8 ∧ mx_ocl LAY 5 = 8 ∧ mx_ocl LAY 5 = 8 ∧ True) rfl ⟨oc_5, oc_5, oc_5, trivial⟩ ?_
  refine sW_eq (st' := ([], [some (.ref 5), none], mx_wr (mx_wr M 5 5 (nI p)) 5 4 (nI 0))) (by simp (disch := omega) only [hp]) ?_
  have e0 : ∀ j, j ≠ 4 → j ≠ 5 → (mx_wr (mx_wr M 5 5 (nI p)) 5 4 (nI 0)) 5 j = M 5 j := fun j h1 h2 => by rw [mx_wr_s, pk_un h1, mx_wr_s, pk_un h2]
  have e1 : (mx_wr (mx_wr M 5 5 (nI p)) 5 4 (nI 0)) 5 4 = nI 0 := by rw [mx_wr_s, pk_us]
  have e2 : (mx_wr (mx_wr M 5 5 (nI p)) 5 4 (nI 0)) 5 5 = nI p := by rw [mx_wr_s, pk_un (by decide), mx_wr_s, pk_us]
  have e3 : Fr M (mx_wr (mx_wr M 5 5 (nI p)) 5 4 (nI 0)) 5 6 := (Fr.rf.wr (by decide) (by decide)).wr (by decide) (by decide)
  refine mx_ind (α := Nat × mx_M) (fun a => n - a.1) (fun a => p ≤ a.1 → a.1 ≤ n → (∀ i, p ≤ i → i < a.1 → i < n ∧ dig B i) → Fr M a.2 5 6 → a.2 5 1 = nI n → a.2 5 2 = nI a.1 → a.2 5 4 = nI (valN B p a.1) → a.2 5 5 = nI p → a.2 5 6 = M 5 6 → sW G m_Tape_step 13 ([], [some (.ref 5), none], a.2) _) ?_ (p, (mx_wr (mx_wr M 5 5 (nI p)) 5 4 (nI 0))) (Nat.le_refl p) hpn (fun i h1 h2 => absurd h1 (by dsimp only at h2; omega)) e3 ((e0 1 (by decide) (by decide)).trans t1) ((e0 2 (by decide) (by decide)).trans hp) (by dsimp only; rw [e1]; unfold valN; rw [if_pos rfl]) e2 (e0 6 (by decide) (by decide))
  rintro ⟨q, M2⟩ ih h1 h2 h3 f2 a1 a2 a4 a5 a6
  dsimp only at ih h1 h2 h3 f2 a1 a2 a4 a5 a6 ⊢
  have by6 : M2 6 = M 6 := f2 6 (by decide)
  have hv : valN B p q < 1000 := by
    unfold valN
    split
    · decide
    · split
      · have := h3 p (by omega) (by omega)
        have := this.2.2
        omega
      · have w1 := (h3 p (by omega) (by omega)).2
        have w2 := (h3 (p + 1) (by omega) (by omega)).2
        omega
  have fin : ¬ (q < n ∧ dig B q) → sW G m_Tape_step 96 ([], [some (.ref 5), none], M2) (fun r M' => r = none ∧ StepR M M' B n p) := by
    intro hq
    have hfe : fe B n p = q := fe_eq h1 (Or.inl h2) h3 hq
    refine sW_go b_Tape_step_96 (st' := ([.int (M2 5 5), .int (M2 5 2)], [some (.ref 5), none], M2)) (φ := mx_ocl LAY 5 = 8 ∧ mx_ocl LAY 5 = 8 ∧ True) rfl ⟨oc_5, oc_5, trivial⟩ ?_
    refine sW_eq (st' := ([.int (nI p), .int (nI q)], [some (.ref 5), none], M2)) (by simp (disch := omega) only [a2, a5]) ?_
    refine sW_ic_le 133 d_Tape_step_104 (by decide) (fun c_104 => ?_) (fun c_104 => ?_)
    · skip
      simp (disch := omega) only [nI_leI] at c_104
      refine sW_go b_Tape_step_133 (st' := ([.int (M2 5 1), .int (M2 5 2)], [some (.ref 5), none], M2)) (φ := mx_ocl LAY 5 = 8 ∧ mx_ocl LAY 5 = 8 ∧ True) rfl ⟨oc_5, oc_5, trivial⟩ ?_
      refine sW_eq (st' := ([.int (nI n), .int (nI q)], [some (.ref 5), none], M2)) (by simp (disch := omega) only [a1, a2]) ?_
      refine sW_ic_lt 153 d_Tape_step_141 (by decide) (fun c_141 => ?_) (fun c_141 => ?_)
      · skip
        simp (disch := omega) only [nI_ltI] at c_141
        have hqp : q = p := by omega
        subst hqp
        obtain ⟨y1, y2⟩ := t3 q (by omega)
        have y3 : M2 6 q = nI (B q) := by rw [by6]; exact y1
        have etk : tkA B n q = if isL (B q) then B q else 1003 := by unfold tkA; rw [hfe, if_neg (Nat.lt_irrefl q), if_neg (by omega)]
        have enx : nxA B n q = q + 1 := by unfold nxA; rw [hfe, if_neg (Nat.lt_irrefl q), if_neg (by omega)]
        have fin2 : ∀ V : Int32, V = tI (tkA B n q) → sW G m_Tape_step 194 ([.int V, .ref 5], [some (.ref 5), some (.int (nI (B q)))], M2) (fun r M' => r = none ∧ StepR M M' B n q) := by
          intro V hV
          have z : (mx_wr M2 5 3 V) 5 2 = nI q := by rw [mx_wr_s, pk_un (by decide)]; exact a2
          refine sW_go b_Tape_step_194 (st' := ([], [some (.ref 5), some (.int (nI (B q)))], mx_wr (mx_wr M2 5 3 V) 5 2 ((mx_wr M2 5 3 V) 5 2 + nI 1))) (φ := mx_ocl LAY 5 = 8 ∧ mx_ocl LAY 5 = 8 ∧ mx_ocl LAY 5 = 8 ∧ True) rfl ⟨oc_5, oc_5, oc_5, trivial⟩ ?_
          refine sW_eq (st' := ([], [some (.ref 5), some (.int (nI (B q)))], mx_wr (mx_wr M2 5 3 V) 5 2 (nI (q + 1)))) (by simp (disch := omega) only [nI_add, z]) ?_
          refine sW_retV d_Tape_step_207 rfl ?_
          have e : ∀ j, j ≠ 2 → j ≠ 3 → (mx_wr (mx_wr M2 5 3 V) 5 2 (nI (q + 1))) 5 j = M2 5 j := fun j h1 h2 => by rw [mx_wr_s, pk_un h1, mx_wr_s, pk_un h2]
          refine ⟨rfl, (f2.wr (by decide) (by decide)).wr (by decide) (by decide), (e 1 (by decide) (by decide)).trans a1, ?_, ?_, fun w => ?_, (e 5 (by decide) (by decide)).trans a5, (e 6 (by decide) (by decide)).trans a6⟩
          · rw [mx_wr_s, pk_us, enx]
          · rw [mx_wr_s, pk_un (by decide), mx_wr_s, pk_us, hV]
          · rw [etk] at w
            split at w
            · omega
            · omega
        have hLt : isL (B q) → nI (B q) = tI (tkA B n q) := fun w => by
          rw [etk, if_pos w]
          unfold tI
          rw [if_neg (by omega), if_neg (by omega), if_neg (by omega)]
        have hLf : ¬ isL (B q) → (-3 : Int32) = tI (tkA B n q) := fun w => by
          rw [etk, if_neg w]
          decide
        refine sW_go b_Tape_step_153 (st' := ([.int (nI 97), .int (M2 6 (M2 5 2).toNatClampNeg), .ref 5], [some (.ref 5), some (.int (M2 6 (M2 5 2).toNatClampNeg))], M2)) (φ := mx_ocl LAY 5 = 8 ∧ mx_ocl LAY 5 = 8 ∧ vp_in (M2 5 2) (mx_len LAY false 6) ∧ True) rfl ⟨oc_5, oc_5, (by simp (disch := omega) only [a2, ln_6]; exact vp_in_nI (by omega) (by decide)), trivial⟩ ?_
        refine sW_eq (st' := ([.int (nI 97), .int (nI (B q)), .ref 5], [some (.ref 5), some (.int (nI (B q)))], M2)) (by simp (disch := omega) only [a2, nI_clamp, y3]) ?_
        refine sW_ic_lt 176 d_Tape_step_167 (by decide) (fun c_167 => ?_) (fun c_167 => ?_)
        · skip
          simp (disch := omega) only [nI_ltI] at c_167
          refine sW_go b_Tape_step_176 (st' := ([.int (nI 44), .int (nI (B q)), .ref 5], [some (.ref 5), some (.int (nI (B q)))], M2)) (φ := True) rfl trivial ?_
          refine sW_ic_eq 188 d_Tape_step_179 (by decide) (fun c_179 => ?_) (fun c_179 => ?_)
          · skip
            simp (disch := omega) only [nI_eq] at c_179
            refine sW_go b_Tape_step_188 (st' := ([.int (nI (B q)), .ref 5], [some (.ref 5), some (.int (nI (B q)))], M2)) (φ := True) rfl trivial ?_
            refine sW_goto 194 d_Tape_step_189 (by decide) ?_
            exact fin2 _ (hLt (by omega))
          · skip
            simp (disch := omega) only [nI_eq] at c_179
            refine sW_go b_Tape_step_182 (st' := ([.int (nI 59), .int (nI (B q)), .ref 5], [some (.ref 5), some (.int (nI (B q)))], M2)) (φ := True) rfl trivial ?_
            refine sW_ic_ne 192 d_Tape_step_185 (by decide) (fun c_185 => ?_) (fun c_185 => ?_)
            · skip
              simp (disch := omega) only [nI_eq] at c_185
              refine sW_go b_Tape_step_192 (st' := ([.int (-3), .ref 5], [some (.ref 5), some (.int (nI (B q)))], M2)) (φ := True) rfl trivial ?_
              exact fin2 _ (hLf (by omega))
            · skip
              simp (disch := omega) only [nI_eq] at c_185
              refine sW_go b_Tape_step_188 (st' := ([.int (nI (B q)), .ref 5], [some (.ref 5), some (.int (nI (B q)))], M2)) (φ := True) rfl trivial ?_
              refine sW_goto 194 d_Tape_step_189 (by decide) ?_
              exact fin2 _ (hLt (by omega))
        · skip
          simp (disch := omega) only [nI_ltI] at c_167
          refine sW_go b_Tape_step_170 (st' := ([.int (nI 122), .int (nI (B q)), .ref 5], [some (.ref 5), some (.int (nI (B q)))], M2)) (φ := True) rfl trivial ?_
          refine sW_ic_le 188 d_Tape_step_173 (by decide) (fun c_173 => ?_) (fun c_173 => ?_)
          · skip
            simp (disch := omega) only [nI_leI] at c_173
            refine sW_go b_Tape_step_188 (st' := ([.int (nI (B q)), .ref 5], [some (.ref 5), some (.int (nI (B q)))], M2)) (φ := True) rfl trivial ?_
            refine sW_goto 194 d_Tape_step_189 (by decide) ?_
            exact fin2 _ (hLt (by omega))
          · skip
            simp (disch := omega) only [nI_leI] at c_173
            refine sW_go b_Tape_step_176 (st' := ([.int (nI 44), .int (nI (B q)), .ref 5], [some (.ref 5), some (.int (nI (B q)))], M2)) (φ := True) rfl trivial ?_
            refine sW_ic_eq 188 d_Tape_step_179 (by decide) (fun c_179 => ?_) (fun c_179 => ?_)
            · skip
              simp (disch := omega) only [nI_eq] at c_179
              refine sW_go b_Tape_step_188 (st' := ([.int (nI (B q)), .ref 5], [some (.ref 5), some (.int (nI (B q)))], M2)) (φ := True) rfl trivial ?_
              refine sW_goto 194 d_Tape_step_189 (by decide) ?_
              exact fin2 _ (hLt (by omega))
            · skip
              simp (disch := omega) only [nI_eq] at c_179
              refine sW_go b_Tape_step_182 (st' := ([.int (nI 59), .int (nI (B q)), .ref 5], [some (.ref 5), some (.int (nI (B q)))], M2)) (φ := True) rfl trivial ?_
              refine sW_ic_ne 192 d_Tape_step_185 (by decide) (fun c_185 => ?_) (fun c_185 => ?_)
              · skip
                simp (disch := omega) only [nI_eq] at c_185
                refine sW_go b_Tape_step_192 (st' := ([.int (-3), .ref 5], [some (.ref 5), some (.int (nI (B q)))], M2)) (φ := True) rfl trivial ?_
                exact fin2 _ (hLf (by omega))
              · skip
                simp (disch := omega) only [nI_eq] at c_185
                refine sW_go b_Tape_step_188 (st' := ([.int (nI (B q)), .ref 5], [some (.ref 5), some (.int (nI (B q)))], M2)) (φ := True) rfl trivial ?_
                refine sW_goto 194 d_Tape_step_189 (by decide) ?_
                exact fin2 _ (hLt (by omega))
      · skip
        simp (disch := omega) only [nI_ltI] at c_141
        refine sW_go b_Tape_step_144 (st' := ([], [some (.ref 5), none], mx_wr M2 5 3 (-2))) (φ := mx_ocl LAY 5 = 8 ∧ True) rfl ⟨oc_5, trivial⟩ ?_
        refine sW_goto 207 d_Tape_step_150 (by decide) ?_
        refine sW_retV d_Tape_step_207 rfl ?_
        have hqp : q = p := by omega
        subst hqp
        have etk : tkA B n q = 1002 := by unfold tkA; rw [hfe, if_neg (Nat.lt_irrefl q), if_pos (by omega)]
        have enx : nxA B n q = q := by unfold nxA; rw [hfe, if_neg (Nat.lt_irrefl q), if_pos (by omega)]
        have e : ∀ j, j ≠ 3 → (mx_wr M2 5 3 (-2)) 5 j = M2 5 j := fun j h1 => by rw [mx_wr_s, pk_un h1]
        refine ⟨rfl, f2.wr (by decide) (by decide), (e 1 (by decide)).trans a1, ?_, ?_, fun w => ?_, (e 5 (by decide)).trans a5, (e 6 (by decide)).trans a6⟩
        · rw [enx]; exact (e 2 (by decide)).trans a2
        · rw [mx_wr_s, pk_us, etk]; decide
        · rw [etk] at w; exact absurd w (by decide)
    · skip
      simp (disch := omega) only [nI_leI] at c_104
      have etk : tkA B n p = if q ≤ p + 2 then 1001 else 1003 := by unfold tkA; rw [hfe, if_pos (by omega)]
      have enx : nxA B n p = q := by unfold nxA; rw [hfe, if_pos (by omega)]
      have enm : nmA B n p = valN B p q := by unfold nmA; rw [hfe]
      have fin2 : ∀ V : Int32, V = tI (tkA B n p) → sW G m_Tape_step 127 ([.int V, .ref 5], [some (.ref 5), none], M2) (fun r M' => r = none ∧ StepR M M' B n p) := by
        intro V hV
        refine sW_go b_Tape_step_127 (st' := ([], [some (.ref 5), none], mx_wr M2 5 3 V)) (φ := mx_ocl LAY 5 = 8 ∧ True) rfl ⟨oc_5, trivial⟩ ?_
        refine sW_goto 207 d_Tape_step_130 (by decide) ?_
        refine sW_retV d_Tape_step_207 rfl ?_
        have e : ∀ j, j ≠ 3 → (mx_wr M2 5 3 V) 5 j = M2 5 j := fun j h1 => by rw [mx_wr_s, pk_un h1]
        refine ⟨rfl, f2.wr (by decide) (by decide), (e 1 (by decide)).trans a1, ?_, ?_, fun w => ?_, (e 5 (by decide)).trans a5, (e 6 (by decide)).trans a6⟩
        · rw [enx]; exact (e 2 (by decide)).trans a2
        · rw [mx_wr_s, pk_us, hV]
        · rw [enm]; exact (e 4 (by decide)).trans a4
      have hsb : nI q - nI p = nI (q - p) := nI_sub (by omega)
      refine sW_go b_Tape_step_107 (st' := ([.int (nI 2), .int (M2 5 2 - M2 5 5), .ref 5], [some (.ref 5), none], M2)) (φ := mx_ocl LAY 5 = 8 ∧ mx_ocl LAY 5 = 8 ∧ True) rfl ⟨oc_5, oc_5, trivial⟩ ?_
      refine sW_eq (st' := ([.int (nI 2), .int (nI (q - p)), .ref 5], [some (.ref 5), none], M2)) (by simp (disch := omega) only [a2, a5, hsb]) ?_
      refine sW_ic_gt 125 d_Tape_step_118 (by decide) (fun c_118 => ?_) (fun c_118 => ?_)
      · skip
        simp (disch := omega) only [nI_ltI] at c_118
        refine sW_go b_Tape_step_125 (st' := ([.int (-3), .ref 5], [some (.ref 5), none], M2)) (φ := True) rfl trivial ?_
        refine fin2 _ ?_
        rw [etk, if_neg (by omega)]
        decide
      · skip
        simp (disch := omega) only [nI_ltI] at c_118
        refine sW_go b_Tape_step_121 (st' := ([.int (-1), .ref 5], [some (.ref 5), none], M2)) (φ := True) rfl trivial ?_
        refine sW_goto 127 d_Tape_step_122 (by decide) ?_
        refine fin2 _ ?_
        rw [etk, if_pos (by omega)]
        decide
  by_cases hqn : q < n
  · obtain ⟨y1, y2⟩ := t3 q hqn
    have y3 : M2 6 q = nI (B q) := by rw [by6]; exact y1
    have fin3 : ∀ V : Nat, dig B q → V = valN B p (q + 1) → sW G m_Tape_step 80 ([.int (nI V), .ref 5], [some (.ref 5), none], M2) (fun r M' => r = none ∧ StepR M M' B n p) := by
      intro V hd hV
      have z : (mx_wr M2 5 4 (nI V)) 5 2 = nI q := by rw [mx_wr_s, pk_un (by decide)]; exact a2
      refine sW_go b_Tape_step_80 (st' := ([], [some (.ref 5), none], mx_wr (mx_wr M2 5 4 (nI V)) 5 2 ((mx_wr M2 5 4 (nI V)) 5 2 + nI 1))) (φ := mx_ocl LAY 5 = 8 ∧ mx_ocl LAY 5 = 8 ∧ mx_ocl LAY 5 = 8 ∧ True) rfl ⟨oc_5, oc_5, oc_5, trivial⟩ ?_
      refine sW_eq (st' := ([], [some (.ref 5), none], mx_wr (mx_wr M2 5 4 (nI V)) 5 2 (nI (q + 1)))) (by simp (disch := omega) only [nI_add, z]) ?_
      refine sW_goto 13 d_Tape_step_93 (by decide) ?_
      have e : ∀ j, j ≠ 2 → j ≠ 4 → (mx_wr (mx_wr M2 5 4 (nI V)) 5 2 (nI (q + 1))) 5 j = M2 5 j := fun j h1 h2 => by rw [mx_wr_s, pk_un h1, mx_wr_s, pk_un h2]
      refine ih (q + 1, (mx_wr (mx_wr M2 5 4 (nI V)) 5 2 (nI (q + 1)))) (by dsimp only; omega) (by dsimp only; omega) (by dsimp only; omega) (fun i i1 i2 => ?_) ((f2.wr (by decide) (by decide)).wr (by decide) (by decide)) ((e 1 (by decide) (by decide)).trans a1) ?_ ?_ ((e 5 (by decide) (by decide)).trans a5) ((e 6 (by decide) (by decide)).trans a6)
      · dsimp only at i2
        by_cases hx : i = q
        · rw [hx]; exact ⟨hqn, hd⟩
        · exact h3 i i1 (by omega)
      · dsimp only; rw [mx_wr_s, pk_us]
      · dsimp only; rw [mx_wr_s, pk_un (by decide), mx_wr_s, pk_us, hV]
    have hsb : nI q - nI p = nI (q - p) := nI_sub (by omega)
    refine sW_go b_Tape_step_13 (st' := ([.int (M2 5 1), .int (M2 5 2)], [some (.ref 5), none], M2)) (φ := mx_ocl LAY 5 = 8 ∧ mx_ocl LAY 5 = 8 ∧ True) rfl ⟨oc_5, oc_5, trivial⟩ ?_
    refine sW_eq (st' := ([.int (nI n), .int (nI q)], [some (.ref 5), none], M2)) (by simp (disch := omega) only [a1, a2]) ?_
    refine sW_ic_ge 96 d_Tape_step_21 (by decide) (fun c_21 => ?_) (fun c_21 => ?_)
    · skip
      simp (disch := omega) only [nI_leI] at c_21
      omega
    · skip
      simp (disch := omega) only [nI_leI] at c_21
      refine sW_go b_Tape_step_24 (st' := ([.int (M2 6 (M2 5 2).toNatClampNeg)], [some (.ref 5), none], M2)) (φ := mx_ocl LAY 5 = 8 ∧ mx_ocl LAY 5 = 8 ∧ vp_in (M2 5 2) (mx_len LAY false 6) ∧ True) rfl ⟨oc_5, oc_5, (by simp (disch := omega) only [a2, ln_6]; exact vp_in_nI (by omega) (by decide)), trivial⟩ ?_
      refine sW_eq (st' := ([.int (nI (B q))], [some (.ref 5), none], M2)) (by simp (disch := omega) only [a2, nI_clamp, y3]) ?_
      refine sW_callS [.int (nI (B q))] [] d_Tape_step_33 c_Tape_step_33 ⟨rfl, rfl, Nat.le_of_ble_eq_true rfl, rfl, rfl⟩ (k_isFigure G y2) ?_
      rintro _ M₁ ⟨rfl, h₁⟩
      rw [h₁]
      show sW G m_Tape_step 36 ([.int (tf (48 ≤ B q ∧ B q ≤ 57))], [some (.ref 5), none], M2) _
      refine sW_if_eq 96 d_Tape_step_36 (by decide) (fun c_36 => ?_) (fun c_36 => ?_)
      · skip
        replace c_36 := tf_z.mp c_36
        exact fin (fun w => c_36 w.2)
      · skip
        replace c_36 := tf_nz.mp c_36
        refine sW_go b_Tape_step_39 (st' := ([.int (nI 2), .int (M2 5 2 - M2 5 5), .ref 5], [some (.ref 5), none], M2)) (φ := mx_ocl LAY 5 = 8 ∧ mx_ocl LAY 5 = 8 ∧ True) rfl ⟨oc_5, oc_5, trivial⟩ ?_
        refine sW_eq (st' := ([.int (nI 2), .int (nI (q - p)), .ref 5], [some (.ref 5), none], M2)) (by simp (disch := omega) only [a2, a5, hsb]) ?_
        refine sW_ic_ge 76 d_Tape_step_50 (by decide) (fun c_50 => ?_) (fun c_50 => ?_)
        · skip
          simp (disch := omega) only [nI_leI] at c_50
          refine sW_go b_Tape_step_76 (st' := ([.int (M2 5 4), .ref 5], [some (.ref 5), none], M2)) (φ := mx_ocl LAY 5 = 8 ∧ True) rfl ⟨oc_5, trivial⟩ ?_
          refine sW_eq (st' := ([.int (nI (valN B p q)), .ref 5], [some (.ref 5), none], M2)) (by simp (disch := omega) only [a4]) ?_
          refine fin3 _ c_36 ?_
          unfold valN
          rw [if_neg (by omega), if_neg (by omega), if_neg (by omega), if_neg (by omega)]
        · skip
          simp (disch := omega) only [nI_leI] at c_50
          have hsb2 : nI (valN B p q * 10 + B q) - nI 48 = nI (valN B p q * 10 + B q - 48) := nI_sub (by omega)
          refine sW_go b_Tape_step_53 (st' := ([.int (((M2 5 4 * nI 10) + M2 6 (M2 5 2).toNatClampNeg) - nI 48), .ref 5], [some (.ref 5), none], M2)) (φ := mx_ocl LAY 5 = 8 ∧ mx_ocl LAY 5 = 8 ∧ mx_ocl LAY 5 = 8 ∧ vp_in (M2 5 2) (mx_len LAY false 6) ∧ True) rfl ⟨oc_5, oc_5, oc_5, (by simp (disch := omega) only [a2, ln_6]; exact vp_in_nI (by omega) (by decide)), trivial⟩ ?_
          refine sW_eq (st' := ([.int (nI (valN B p q * 10 + B q - 48)), .ref 5], [some (.ref 5), none], M2)) (by simp (disch := omega) only [a2, a4, hsb2, nI_add, nI_clamp, pk_mul, y3]) ?_
          refine sW_goto 80 d_Tape_step_73 (by decide) ?_
          refine fin3 _ c_36 ?_
          unfold valN
          rw [if_neg (show ¬ q + 1 = p by omega)]
          by_cases hqp : q = p
          · subst hqp
            rw [if_pos rfl, if_pos rfl]
            omega
          · have hq1 : q = p + 1 := by omega
            subst hq1
            rw [if_neg hqp, if_pos rfl, if_neg (by omega)]
            have w1 := (h3 p (by omega) (by omega)).2
            omega
  · have hqn2 := hqn
    refine sW_go b_Tape_step_13 (st' := ([.int (M2 5 1), .int (M2 5 2)], [some (.ref 5), none], M2)) (φ := mx_ocl LAY 5 = 8 ∧ mx_ocl LAY 5 = 8 ∧ True) rfl ⟨oc_5, oc_5, trivial⟩ ?_
    refine sW_eq (st' := ([.int (nI n), .int (nI q)], [some (.ref 5), none], M2)) (by simp (disch := omega) only [a1, a2]) ?_
    refine sW_ic_ge 96 d_Tape_step_21 (by decide) (fun c_21 => ?_) (fun c_21 => ?_)
    · skip
      simp (disch := omega) only [nI_leI] at c_21
      exact fin (fun w => hqn w.1)
    · skip
      simp (disch := omega) only [nI_leI] at c_21
      omega

