theorem fe_ex (B : Nat → Nat) (n : Nat) : ∀ f p, p ≤ n → n ≤ p + f → ∃ q, p ≤ q ∧ q ≤ n ∧ (∀ i, p ≤ i → i < q → i < n ∧ dig B i) ∧ ¬ (q < n ∧ dig B q)
  | 0, p, h1, h2 => ⟨p, Nat.le_refl p, h1, fun i a b => absurd a (by omega), fun w => by omega⟩
  | f + 1, p, h1, h2 => by
    by_cases h : p < n ∧ dig B p
    · obtain ⟨q, a, b, c, d⟩ := fe_ex B n f (p + 1) (by omega) (by omega)
      refine ⟨q, by omega, b, fun i i1 i2 => ?_, d⟩
      by_cases hx : i = p
      · rw [hx]; exact h
      · exact c i (by omega) i2
    · exact ⟨p, Nat.le_refl p, h1, fun i a b => absurd a (by omega), h⟩
theorem fe_sp {B : Nat → Nat} {n p : Nat} (hp : p ≤ n) : p ≤ fe B n p ∧ fe B n p ≤ n ∧ (∀ i, p ≤ i → i < fe B n p → i < n ∧ dig B i) ∧ ¬ (fe B n p < n ∧ dig B (fe B n p)) := by
  obtain ⟨q, a, b, c, d⟩ := fe_ex B n n p hp (by omega)
  rw [fe_eq a (Or.inl b) c d]
  exact ⟨a, b, c, d⟩
theorem nxA_le {B : Nat → Nat} {n p : Nat} (hp : p ≤ n) : nxA B n p ≤ n := by
  obtain ⟨a, b, c, d⟩ := fe_sp (B := B) hp
  unfold nxA
  split
  · exact b
  · split <;> omega
theorem tkA_lt {B : Nat → Nat} {n p : Nat} (hB : ∀ i, i < n → B i < 256) : tkA B n p < 2000 := by
  unfold tkA
  split
  · split <;> omega
  · split
    · omega
    · split
      · have := hB p (by omega)
        omega
      · omega
theorem nmA_lt {B : Nat → Nat} {n p : Nat} (hp : p ≤ n) : nmA B n p < 1000 := by
  obtain ⟨a, b, c, d⟩ := fe_sp (B := B) hp
  unfold nmA valN
  split
  · decide
  · split
    · have := (c p (by omega) (by omega)).2
      omega
    · have w1 := (c p (by omega) (by omega)).2
      have w2 := (c (p + 1) (by omega) (by omega)).2
      omega
theorem StepR.tape {M M' : mx_M} {B : Nat → Nat} {n p : Nat} (h : StepR M M' B n p) (hT : TapeAt M B n) : TapeAt M' B n := hT.of (h.2.1.trans hT.1.symm) (h.1 6 (by decide))
def TpS (M : mx_M) (B : Nat → Nat) (n p : Nat) : Prop := TapeAt M B n ∧ M 5 2 = nI p ∧ p ≤ n
theorem TpS.lt {M : mx_M} {B : Nat → Nat} {n p : Nat} (h : TpS M B n p) : tkA B n p < 2000 := tkA_lt (fun i hi => (h.1.2.2 i hi).2)
/-- what a sign or a number leaves: its fault is f, if it is one -/
def TkR (M M' : mx_M) (B : Nat → Nat) (n p f : Nat) : Prop := Fr M M' 5 6 ∧ TapeAt M' B n ∧ M' 5 2 = nI (nxA B n p) ∧ M' 5 5 = nI p ∧ M' 5 6 = (if f = 0 then M 5 6 else nI f)
theorem TkR.fail {M M2 : mx_M} {B : Nat → Nat} {n p f : Nat} (h : StepR M M2 B n p) (hT : TapeAt M B n) (hf : f ≠ 0) : TkR M (mx_wr M2 5 6 (nI f)) B n p f := by
  have ht := h.tape hT
  obtain ⟨h1, h2, h3, h4, h5, h6, h7⟩ := h
  have e : ∀ j, j ≠ 6 → (mx_wr M2 5 6 (nI f)) 5 j = M2 5 j := fun j hj => by rw [mx_wr_s, pk_un hj]
  refine ⟨h1.wr (by decide) (by decide), ht.of (e 1 (by decide)) (mx_wr_n _ _ _ (by decide)), (e 2 (by decide)).trans h3, (e 5 (by decide)).trans h6, ?_⟩
  rw [if_neg hf, mx_wr_s, pk_us]
theorem TkR.good {M M2 : mx_M} {B : Nat → Nat} {n p : Nat} (h : StepR M M2 B n p) (hT : TapeAt M B n) : TkR M M2 B n p 0 := by
  have ht := h.tape hT
  obtain ⟨h1, h2, h3, h4, h5, h6, h7⟩ := h
  exact ⟨h1, ht, h3, h6, h7⟩
theorem k_takesSign (G : mx_G) {M : mx_M} {B : Nat → Nat} {n p w : Nat} (h : TpS M B n p) (hw : w < 256) : sOk G m_Tape_takesSign [.ref 5, .int (nI w)] M (fun r M' => r = some (.int (tf (tkA B n p = w))) ∧ TkR M M' B n p (if tkA B n p = w then 0 else 1)) := by
  have hlt := h.lt
  obtain ⟨hT, hp, hpn⟩ := h
  refine sOk_of ⟨by decide +kernel, by decide +kernel, Nat.le_of_ble_eq_true rfl⟩ ?_
  show sW G m_Tape_takesSign 0 ([], [some (.ref 5), some (.int (nI w))], M) _
  refine sW_go b_Tape_takesSign_0 (st' := ([.ref 5], [some (.ref 5), some (.int (nI w))], M)) (φ := True) rfl trivial ?_
  refine sW_callV 8 [] [] d_Tape_takesSign_1 c_Tape_takesSign_1 ⟨rfl, rfl, rfl, Nat.le_of_ble_eq_true rfl, rfl, rfl⟩ oc_5 (k_step G hT hp hpn) ?_
  rintro _ M2 ⟨rfl, g2⟩
  have z : M2 5 3 = tI (tkA B n p) := g2.2.2.2.1
  show sW G m_Tape_takesSign 4 ([], [some (.ref 5), some (.int (nI w))], M2) _
  refine sW_go b_Tape_takesSign_4 (st' := ([.int (nI w), .int (M2 5 3)], [some (.ref 5), some (.int (nI w))], M2)) (φ := mx_ocl LAY 5 = 8 ∧ True) rfl ⟨oc_5, trivial⟩ ?_
  refine sW_eq (st' := ([.int (nI w), .int (tI (tkA B n p))], [some (.ref 5), some (.int (nI w))], M2)) (by simp (disch := omega) only [z]) ?_
  refine sW_ic_eq 20 d_Tape_takesSign_9 (by decide) (fun c_9 => ?_) (fun c_9 => ?_)
  · skip
    refine sW_go b_Tape_takesSign_20 (st' := ([.int (nI 1)], [some (.ref 5), some (.int (nI w))], M2)) (φ := True) rfl trivial ?_
    refine sW_goto 25 d_Tape_takesSign_21 (by decide) ?_
    refine sW_retI d_Tape_takesSign_25 rfl nb_1 ?_
    have e := (tI_eq hlt hw).mp c_9
    rw [tf_t e, if_pos e]
    exact ⟨rfl, TkR.good g2 hT⟩
  · skip
    refine sW_go b_Tape_takesSign_12 (st' := ([.int (nI 1), .ref 5], [some (.ref 5), some (.int (nI w))], M2)) (φ := True) rfl trivial ?_
    refine sW_callV 8 [.int (nI 1)] [] d_Tape_takesSign_14 c_Tape_takesSign_14 ⟨rfl, rfl, rfl, Nat.le_of_ble_eq_true rfl, rfl, rfl⟩ oc_5 (k_fails G 1) ?_
    rintro _ M3 ⟨rfl, g3⟩
    show sW G m_Tape_takesSign 17 ([.int (nI 0)], [some (.ref 5), some (.int (nI w))], M3) _
    refine sW_if_eq 24 d_Tape_takesSign_17 (by decide) (fun c_17 => ?_) (fun c_17 => ?_)
    · skip
      simp (disch := omega) only [nI_z] at c_17
      refine sW_go b_Tape_takesSign_24 (st' := ([.int (nI 0)], [some (.ref 5), some (.int (nI w))], M3)) (φ := True) rfl trivial ?_
      refine sW_retI d_Tape_takesSign_25 rfl nb_0 ?_
      have e : ¬ tkA B n p = w := fun q => c_9 ((tI_eq hlt hw).mpr q)
      rw [tf_f e, if_neg e, g3]
      exact ⟨rfl, TkR.fail g2 hT (by decide)⟩
    · skip
      simp (disch := omega) only [nI_z] at c_17
      refine sW_go b_Tape_takesSign_20 (st' := ([.int (nI 1)], [some (.ref 5), some (.int (nI w))], M3)) (φ := True) rfl trivial ?_
      refine sW_goto 25 d_Tape_takesSign_21 (by decide) ?_
      refine sW_retI d_Tape_takesSign_25 rfl nb_1 ?_
      exact absurd trivial c_17
/-- the fault of a number from lo to hi: 0 none, 1 no number, 2 not in there -/
def numF (B : Nat → Nat) (n p lo : Nat) (hi : Int) : Nat := if tkA B n p = 1001 then (if lo ≤ nmA B n p ∧ (nmA B n p : Int) ≤ hi then 0 else 2) else 1
theorem k_takesNumber (G : mx_G) {M : mx_M} {B : Nat → Nat} {n p lo : Nat} {hi : Int32} {z : Int} (h : TpS M B n p) (hlo : lo < 1000) (hz : hi.toInt = z) : sOk G m_Tape_takesNumber [.ref 5, .int (nI lo), .int hi] M (fun r M' => r = some (.int (tf (numF B n p lo z = 0))) ∧ TkR M M' B n p (numF B n p lo z) ∧ (numF B n p lo z = 0 → M' 5 4 = nI (nmA B n p))) := by
  have hlt := h.lt
  obtain ⟨hT, hp, hpn⟩ := h
  have hnm := nmA_lt (B := B) hpn
  have hm1 : tI (tkA B n p) = -1 ↔ tkA B n p = 1001 := by
    constructor
    · intro q
      unfold tI at q
      split at q
      · assumption
      · split at q
        · exact absurd q (by decide)
        · split at q
          · exact absurd q (by decide)
          · have h1 : nI (tkA B n p) = nI 4294967295 := q.trans (by decide)
            have h2 : (nI (tkA B n p)).toInt = (-1 : Int32).toInt := by rw [q]
            rw [nI_toInt (by omega)] at h2
            have h3 : (-1 : Int32).toInt = -1 := by decide
            omega
    · intro q
      rw [q]
      decide
  refine sOk_of ⟨by decide +kernel, by decide +kernel, Nat.le_of_ble_eq_true rfl⟩ ?_
  show sW G m_Tape_takesNumber 0 ([], [some (.ref 5), some (.int (nI lo)), some (.int hi)], M) _
  refine sW_go b_Tape_takesNumber_0 (st' := ([.ref 5], [some (.ref 5), some (.int (nI lo)), some (.int hi)], M)) (φ := True) rfl trivial ?_
  refine sW_callV 8 [] [] d_Tape_takesNumber_1 c_Tape_takesNumber_1 ⟨rfl, rfl, rfl, Nat.le_of_ble_eq_true rfl, rfl, rfl⟩ oc_5 (k_step G hT hp hpn) ?_
  rintro _ M2 ⟨rfl, g2⟩
  have z3 : M2 5 3 = tI (tkA B n p) := g2.2.2.2.1
  show sW G m_Tape_takesNumber 4 ([], [some (.ref 5), some (.int (nI lo)), some (.int hi)], M2) _
  refine sW_go b_Tape_takesNumber_4 (st' := ([.int (-1), .int (M2 5 3)], [some (.ref 5), some (.int (nI lo)), some (.int hi)], M2)) (φ := mx_ocl LAY 5 = 8 ∧ True) rfl ⟨oc_5, trivial⟩ ?_
  refine sW_eq (st' := ([.int (-1), .int (tI (tkA B n p))], [some (.ref 5), some (.int (nI lo)), some (.int hi)], M2)) (by simp (disch := omega) only [z3]) ?_
  refine sW_ic_eq 18 d_Tape_takesNumber_9 (by decide) (fun c_9 => ?_) (fun c_9 => ?_)
  · skip
    have e := hm1.mp c_9
    have z4 : M2 5 4 = nI (nmA B n p) := g2.2.2.2.2.1 e
    generalize hnn : nmA B n p = nm at hnm z4
    have bad : ¬ (lo ≤ nm ∧ (nm : Int) ≤ z) → numF B n p lo z = 2 := fun w => by unfold numF; rw [if_pos e, hnn, if_neg w]
    have good : (lo ≤ nm ∧ (nm : Int) ≤ z) → numF B n p lo z = 0 := fun w => by unfold numF; rw [if_pos e, hnn, if_pos w]
    have ile : nI nm ≤ hi ↔ (nm : Int) ≤ z := by rw [Int32.le_iff_toInt_le, nI_toInt (by omega), hz]
    refine sW_go b_Tape_takesNumber_18 (st' := ([.int (nI lo), .int (M2 5 4)], [some (.ref 5), some (.int (nI lo)), some (.int hi)], M2)) (φ := mx_ocl LAY 5 = 8 ∧ True) rfl ⟨oc_5, trivial⟩ ?_
    refine sW_eq (st' := ([.int (nI lo), .int (nI nm)], [some (.ref 5), some (.int (nI lo)), some (.int hi)], M2)) (by simp (disch := omega) only [z4]) ?_
    refine sW_ic_lt 34 d_Tape_takesNumber_23 (by decide) (fun c_23 => ?_) (fun c_23 => ?_)
    · skip
      simp (disch := omega) only [nI_ltI] at c_23
      refine sW_go b_Tape_takesNumber_34 (st' := ([.int (nI 2), .ref 5], [some (.ref 5), some (.int (nI lo)), some (.int hi)], M2)) (φ := True) rfl trivial ?_
      refine sW_callV 8 [.int (nI 2)] [] d_Tape_takesNumber_36 c_Tape_takesNumber_36 ⟨rfl, rfl, rfl, Nat.le_of_ble_eq_true rfl, rfl, rfl⟩ oc_5 (k_fails G 2) ?_
      rintro _ M3 ⟨rfl, g3⟩
      show sW G m_Tape_takesNumber 39 ([.int (nI 0)], [some (.ref 5), some (.int (nI lo)), some (.int hi)], M3) _
      refine sW_if_eq 46 d_Tape_takesNumber_39 (by decide) (fun c_39 => ?_) (fun c_39 => ?_)
      · skip
        simp (disch := omega) only [nI_z] at c_39
        refine sW_go b_Tape_takesNumber_46 (st' := ([.int (nI 0)], [some (.ref 5), some (.int (nI lo)), some (.int hi)], M3)) (φ := True) rfl trivial ?_
        refine sW_retI d_Tape_takesNumber_47 rfl nb_0 ?_
        have b := bad (by omega)
        rw [b, tf_f (by decide), g3]
        exact ⟨rfl, TkR.fail g2 hT (by decide), fun w => absurd w (by decide)⟩
      · skip
        simp (disch := omega) only [nI_z] at c_39
        refine sW_go b_Tape_takesNumber_42 (st' := ([.int (nI 1)], [some (.ref 5), some (.int (nI lo)), some (.int hi)], M3)) (φ := True) rfl trivial ?_
        refine sW_goto 47 d_Tape_takesNumber_43 (by decide) ?_
        refine sW_retI d_Tape_takesNumber_47 rfl nb_1 ?_
        exact absurd trivial c_39
    · skip
      simp (disch := omega) only [nI_ltI] at c_23
      refine sW_go b_Tape_takesNumber_26 (st' := ([.int hi, .int (M2 5 4)], [some (.ref 5), some (.int (nI lo)), some (.int hi)], M2)) (φ := mx_ocl LAY 5 = 8 ∧ True) rfl ⟨oc_5, trivial⟩ ?_
      refine sW_eq (st' := ([.int hi, .int (nI nm)], [some (.ref 5), some (.int (nI lo)), some (.int hi)], M2)) (by simp (disch := omega) only [z4]) ?_
      refine sW_ic_le 42 d_Tape_takesNumber_31 (by decide) (fun c_31 => ?_) (fun c_31 => ?_)
      · skip
        refine sW_go b_Tape_takesNumber_42 (st' := ([.int (nI 1)], [some (.ref 5), some (.int (nI lo)), some (.int hi)], M2)) (φ := True) rfl trivial ?_
        refine sW_goto 47 d_Tape_takesNumber_43 (by decide) ?_
        refine sW_retI d_Tape_takesNumber_47 rfl nb_1 ?_
        have b := good ⟨by omega, ile.mp c_31⟩
        rw [b, tf_t rfl]
        exact ⟨rfl, TkR.good g2 hT, fun _ => z4⟩
      · skip
        refine sW_go b_Tape_takesNumber_34 (st' := ([.int (nI 2), .ref 5], [some (.ref 5), some (.int (nI lo)), some (.int hi)], M2)) (φ := True) rfl trivial ?_
        refine sW_callV 8 [.int (nI 2)] [] d_Tape_takesNumber_36 c_Tape_takesNumber_36 ⟨rfl, rfl, rfl, Nat.le_of_ble_eq_true rfl, rfl, rfl⟩ oc_5 (k_fails G 2) ?_
        rintro _ M3 ⟨rfl, g3⟩
        show sW G m_Tape_takesNumber 39 ([.int (nI 0)], [some (.ref 5), some (.int (nI lo)), some (.int hi)], M3) _
        refine sW_if_eq 46 d_Tape_takesNumber_39 (by decide) (fun c_39 => ?_) (fun c_39 => ?_)
        · skip
          simp (disch := omega) only [nI_z] at c_39
          refine sW_go b_Tape_takesNumber_46 (st' := ([.int (nI 0)], [some (.ref 5), some (.int (nI lo)), some (.int hi)], M3)) (φ := True) rfl trivial ?_
          refine sW_retI d_Tape_takesNumber_47 rfl nb_0 ?_
          have b := bad (fun w => c_31 (ile.mpr w.2))
          rw [b, tf_f (by decide), g3]
          exact ⟨rfl, TkR.fail g2 hT (by decide), fun w => absurd w (by decide)⟩
        · skip
          simp (disch := omega) only [nI_z] at c_39
          refine sW_go b_Tape_takesNumber_42 (st' := ([.int (nI 1)], [some (.ref 5), some (.int (nI lo)), some (.int hi)], M3)) (φ := True) rfl trivial ?_
          refine sW_goto 47 d_Tape_takesNumber_43 (by decide) ?_
          refine sW_retI d_Tape_takesNumber_47 rfl nb_1 ?_
          exact absurd trivial c_39
  · skip
    refine sW_go b_Tape_takesNumber_12 (st' := ([.int (nI 1), .ref 5], [some (.ref 5), some (.int (nI lo)), some (.int hi)], M2)) (φ := True) rfl trivial ?_
    refine sW_callV 8 [.int (nI 1)] [] d_Tape_takesNumber_14 c_Tape_takesNumber_14 ⟨rfl, rfl, rfl, Nat.le_of_ble_eq_true rfl, rfl, rfl⟩ oc_5 (k_fails G 1) ?_
    rintro _ M3 ⟨rfl, g3⟩
    show sW G m_Tape_takesNumber 17 ([.int (nI 0)], [some (.ref 5), some (.int (nI lo)), some (.int hi)], M3) _
    refine sW_retI d_Tape_takesNumber_17 rfl nb_0 ?_
    have e : ¬ tkA B n p = 1001 := fun q => c_9 (hm1.mpr q)
    have b : numF B n p lo z = 1 := by unfold numF; rw [if_neg e]
    rw [b, tf_f (by decide), g3]
    exact ⟨rfl, TkR.fail g2 hT (by decide), fun w => absurd w (by decide)⟩
def mostI (s k : Nat) : Int32 := if s = 0 then nI 3 else if s = 1 ∨ s = 2 then nI 7 else nI k - nI 1
def mostZ (s k : Nat) : Int := if s = 0 then 3 else if s = 1 ∨ s = 2 then 7 else (k : Int) - 1
theorem mostI_z : ∀ s k, s < 6 → k < 9 → (mostI s k).toInt = mostZ s k := by
  have h : ∀ s, s < 6 → ∀ k, k < 9 → (mostI s k).toInt = mostZ s k := by decide +kernel
  exact fun s k hs hk => h s hs k hk
theorem k_mostOf (G : mx_G) {M : mx_M} {s k : Nat} (hs : s < 6) (hk : k < 9) : sOk G m_Tape_mostOf [.int (nI s), .int (nI k)] M (fun r M' => r = some (.int (mostI s k)) ∧ M' = M) := by
  refine sOk_of ⟨by decide +kernel, by decide +kernel, Nat.le_of_ble_eq_true rfl⟩ ?_
  show sW G m_Tape_mostOf 0 ([], [some (.int (nI s)), some (.int (nI k))], M) _
  refine sW_go b_Tape_mostOf_0 (st' := ([.int (nI s)], [some (.int (nI s)), some (.int (nI k))], M)) (φ := True) rfl trivial ?_
  refine sW_if_ne 6 d_Tape_mostOf_1 (by decide) (fun c_1 => ?_) (fun c_1 => ?_)
  · skip
    simp (disch := omega) only [nI_z] at c_1
    refine sW_go b_Tape_mostOf_6 (st' := ([.int (nI 1), .int (nI s)], [some (.int (nI s)), some (.int (nI k))], M)) (φ := True) rfl trivial ?_
    refine sW_ic_eq 16 d_Tape_mostOf_8 (by decide) (fun c_8 => ?_) (fun c_8 => ?_)
    · skip
      simp (disch := omega) only [nI_eq] at c_8
      refine sW_go b_Tape_mostOf_16 (st' := ([.int (nI 7)], [some (.int (nI s)), some (.int (nI k))], M)) (φ := True) rfl trivial ?_
      refine sW_goto 24 d_Tape_mostOf_18 (by decide) ?_
      refine sW_retI d_Tape_mostOf_24 rfl (vp_nar_int _) ?_
      unfold mostI; rw [if_neg c_1, if_pos (by omega)]; exact ⟨rfl, rfl⟩
    · skip
      simp (disch := omega) only [nI_eq] at c_8
      refine sW_go b_Tape_mostOf_11 (st' := ([.int (nI 2), .int (nI s)], [some (.int (nI s)), some (.int (nI k))], M)) (φ := True) rfl trivial ?_
      refine sW_ic_ne 21 d_Tape_mostOf_13 (by decide) (fun c_13 => ?_) (fun c_13 => ?_)
      · skip
        simp (disch := omega) only [nI_eq] at c_13
        refine sW_go b_Tape_mostOf_21 (st' := ([.int (nI k - nI 1)], [some (.int (nI s)), some (.int (nI k))], M)) (φ := True) rfl trivial ?_
        refine sW_retI d_Tape_mostOf_24 rfl (vp_nar_int _) ?_
        unfold mostI; rw [if_neg c_1, if_neg (by omega)]; exact ⟨rfl, rfl⟩
      · skip
        simp (disch := omega) only [nI_eq] at c_13
        refine sW_go b_Tape_mostOf_16 (st' := ([.int (nI 7)], [some (.int (nI s)), some (.int (nI k))], M)) (φ := True) rfl trivial ?_
        refine sW_goto 24 d_Tape_mostOf_18 (by decide) ?_
        refine sW_retI d_Tape_mostOf_24 rfl (vp_nar_int _) ?_
        unfold mostI; rw [if_neg c_1, if_pos (by omega)]; exact ⟨rfl, rfl⟩
  · skip
    simp (disch := omega) only [nI_z] at c_1
    refine sW_go b_Tape_mostOf_4 (st' := ([.int (nI 3)], [some (.int (nI s)), some (.int (nI k))], M)) (φ := True) rfl trivial ?_
    refine sW_retI d_Tape_mostOf_5 rfl (vp_nar_int _) ?_
    unfold mostI; rw [if_pos c_1]; exact ⟨rfl, rfl⟩
/-- the sort that a letter tells; 9: none -/
def srtN (t : Nat) : Nat := if t = 99 then 0 else if t = 112 then 1 else if t = 102 then 2 else if t = 117 then 3 else if t = 98 then 4 else if t = 108 then 5 else 9
def srtI (t : Nat) : Int32 := if srtN t = 9 then -1 else nI (srtN t)
theorem srt_out {t : Nat} (ht : t < 2000) (h : (tI t).toInt < 98 ∨ 117 < (tI t).toInt) : srtN t = 9 := by
  by_cases hb : t = 1001 ∨ t = 1002 ∨ t = 1003
  · rcases hb with rfl | rfl | rfl <;> decide
  · have e : tI t = nI t := by unfold tI; rw [if_neg (by omega), if_neg (by omega), if_neg (by omega)]
    rw [e, nI_toInt (by omega)] at h
    unfold srtN
    rw [if_neg (by omega), if_neg (by omega), if_neg (by omega), if_neg (by omega), if_neg (by omega), if_neg (by omega)]
theorem k_sortOf (G : mx_G) {M : mx_M} {t : Nat} (ht : t < 2000) : sOk G m_Tape_sortOf [.int (tI t)] M (fun r M' => r = some (.int (srtI t)) ∧ M' = M) := by
  refine sOk_of ⟨by decide +kernel, by decide +kernel, Nat.le_of_ble_eq_true rfl⟩ ?_
  show sW G m_Tape_sortOf 0 ([], [some (.int (tI t))], M) _
  refine sW_go b_Tape_sortOf_0 (st' := ([.int (tI t)], [some (.int (tI t))], M)) (φ := True) rfl trivial ?_
  refine sW_tsw 98 108 [104, 96, 108, 108, 100, 108, 108, 108, 108, 108, 106, 108, 108, 108, 98, 108, 108, 108, 108, 102] d_Tape_sortOf_1 (by decide) (by decide) (fun c_1 => ?_) ⟨fun c_1 => ?_, fun c_1 => ?_, fun c_1 => ?_, fun c_1 => ?_, fun c_1 => ?_, fun c_1 => ?_, fun c_1 => ?_, fun c_1 => ?_, fun c_1 => ?_, fun c_1 => ?_, fun c_1 => ?_, fun c_1 => ?_, fun c_1 => ?_, fun c_1 => ?_, fun c_1 => ?_, fun c_1 => ?_, fun c_1 => ?_, fun c_1 => ?_, fun c_1 => ?_, fun c_1 => ?_, trivial⟩
  · skip
    refine sW_go b_Tape_sortOf_108 (st' := ([.int (-1)], [some (.int (tI t))], M)) (φ := True) rfl trivial ?_
    refine sW_retI d_Tape_sortOf_109 rfl (vp_nar_int _) ?_
    have e := srt_out ht c_1
    unfold srtI
    rw [if_pos e]
    exact ⟨rfl, rfl⟩
  · skip
    refine sW_go b_Tape_sortOf_104 (st' := ([.int (nI 4)], [some (.int (tI t))], M)) (φ := True) rfl trivial ?_
    refine sW_retI d_Tape_sortOf_105 rfl (vp_nar_int _) ?_
    rw [(tI_eq ht (by decide)).mp c_1]; exact ⟨rfl, rfl⟩
  · skip
    refine sW_go b_Tape_sortOf_96 (st' := ([.int (nI 0)], [some (.int (tI t))], M)) (φ := True) rfl trivial ?_
    refine sW_retI d_Tape_sortOf_97 rfl (vp_nar_int _) ?_
    rw [(tI_eq ht (by decide)).mp c_1]; exact ⟨rfl, rfl⟩
  · skip
    refine sW_go b_Tape_sortOf_108 (st' := ([.int (-1)], [some (.int (tI t))], M)) (φ := True) rfl trivial ?_
    refine sW_retI d_Tape_sortOf_109 rfl (vp_nar_int _) ?_
    rw [(tI_eq ht (by decide)).mp c_1]; exact ⟨rfl, rfl⟩
  · skip
    refine sW_go b_Tape_sortOf_108 (st' := ([.int (-1)], [some (.int (tI t))], M)) (φ := True) rfl trivial ?_
    refine sW_retI d_Tape_sortOf_109 rfl (vp_nar_int _) ?_
    rw [(tI_eq ht (by decide)).mp c_1]; exact ⟨rfl, rfl⟩
  · skip
    refine sW_go b_Tape_sortOf_100 (st' := ([.int (nI 2)], [some (.int (tI t))], M)) (φ := True) rfl trivial ?_
    refine sW_retI d_Tape_sortOf_101 rfl (vp_nar_int _) ?_
    rw [(tI_eq ht (by decide)).mp c_1]; exact ⟨rfl, rfl⟩
  · skip
    refine sW_go b_Tape_sortOf_108 (st' := ([.int (-1)], [some (.int (tI t))], M)) (φ := True) rfl trivial ?_
    refine sW_retI d_Tape_sortOf_109 rfl (vp_nar_int _) ?_
    rw [(tI_eq ht (by decide)).mp c_1]; exact ⟨rfl, rfl⟩
  · skip
    refine sW_go b_Tape_sortOf_108 (st' := ([.int (-1)], [some (.int (tI t))], M)) (φ := True) rfl trivial ?_
    refine sW_retI d_Tape_sortOf_109 rfl (vp_nar_int _) ?_
    rw [(tI_eq ht (by decide)).mp c_1]; exact ⟨rfl, rfl⟩
  · skip
    refine sW_go b_Tape_sortOf_108 (st' := ([.int (-1)], [some (.int (tI t))], M)) (φ := True) rfl trivial ?_
    refine sW_retI d_Tape_sortOf_109 rfl (vp_nar_int _) ?_
    rw [(tI_eq ht (by decide)).mp c_1]; exact ⟨rfl, rfl⟩
  · skip
    refine sW_go b_Tape_sortOf_108 (st' := ([.int (-1)], [some (.int (tI t))], M)) (φ := True) rfl trivial ?_
    refine sW_retI d_Tape_sortOf_109 rfl (vp_nar_int _) ?_
    rw [(tI_eq ht (by decide)).mp c_1]; exact ⟨rfl, rfl⟩
  · skip
    refine sW_go b_Tape_sortOf_108 (st' := ([.int (-1)], [some (.int (tI t))], M)) (φ := True) rfl trivial ?_
    refine sW_retI d_Tape_sortOf_109 rfl (vp_nar_int _) ?_
    rw [(tI_eq ht (by decide)).mp c_1]; exact ⟨rfl, rfl⟩
  · skip
    refine sW_go b_Tape_sortOf_106 (st' := ([.int (nI 5)], [some (.int (tI t))], M)) (φ := True) rfl trivial ?_
    refine sW_retI d_Tape_sortOf_107 rfl (vp_nar_int _) ?_
    rw [(tI_eq ht (by decide)).mp c_1]; exact ⟨rfl, rfl⟩
  · skip
    refine sW_go b_Tape_sortOf_108 (st' := ([.int (-1)], [some (.int (tI t))], M)) (φ := True) rfl trivial ?_
    refine sW_retI d_Tape_sortOf_109 rfl (vp_nar_int _) ?_
    rw [(tI_eq ht (by decide)).mp c_1]; exact ⟨rfl, rfl⟩
  · skip
    refine sW_go b_Tape_sortOf_108 (st' := ([.int (-1)], [some (.int (tI t))], M)) (φ := True) rfl trivial ?_
    refine sW_retI d_Tape_sortOf_109 rfl (vp_nar_int _) ?_
    rw [(tI_eq ht (by decide)).mp c_1]; exact ⟨rfl, rfl⟩
  · skip
    refine sW_go b_Tape_sortOf_108 (st' := ([.int (-1)], [some (.int (tI t))], M)) (φ := True) rfl trivial ?_
    refine sW_retI d_Tape_sortOf_109 rfl (vp_nar_int _) ?_
    rw [(tI_eq ht (by decide)).mp c_1]; exact ⟨rfl, rfl⟩
  · skip
    refine sW_go b_Tape_sortOf_98 (st' := ([.int (nI 1)], [some (.int (tI t))], M)) (φ := True) rfl trivial ?_
    refine sW_retI d_Tape_sortOf_99 rfl (vp_nar_int _) ?_
    rw [(tI_eq ht (by decide)).mp c_1]; exact ⟨rfl, rfl⟩
  · skip
    refine sW_go b_Tape_sortOf_108 (st' := ([.int (-1)], [some (.int (tI t))], M)) (φ := True) rfl trivial ?_
    refine sW_retI d_Tape_sortOf_109 rfl (vp_nar_int _) ?_
    rw [(tI_eq ht (by decide)).mp c_1]; exact ⟨rfl, rfl⟩
  · skip
    refine sW_go b_Tape_sortOf_108 (st' := ([.int (-1)], [some (.int (tI t))], M)) (φ := True) rfl trivial ?_
    refine sW_retI d_Tape_sortOf_109 rfl (vp_nar_int _) ?_
    rw [(tI_eq ht (by decide)).mp c_1]; exact ⟨rfl, rfl⟩
  · skip
    refine sW_go b_Tape_sortOf_108 (st' := ([.int (-1)], [some (.int (tI t))], M)) (φ := True) rfl trivial ?_
    refine sW_retI d_Tape_sortOf_109 rfl (vp_nar_int _) ?_
    rw [(tI_eq ht (by decide)).mp c_1]; exact ⟨rfl, rfl⟩
  · skip
    refine sW_go b_Tape_sortOf_108 (st' := ([.int (-1)], [some (.int (tI t))], M)) (φ := True) rfl trivial ?_
    refine sW_retI d_Tape_sortOf_109 rfl (vp_nar_int _) ?_
    rw [(tI_eq ht (by decide)).mp c_1]; exact ⟨rfl, rfl⟩
  · skip
    refine sW_go b_Tape_sortOf_102 (st' := ([.int (nI 3)], [some (.int (tI t))], M)) (φ := True) rfl trivial ?_
    refine sW_retI d_Tape_sortOf_103 rfl (vp_nar_int _) ?_
    rw [(tI_eq ht (by decide)).mp c_1]; exact ⟨rfl, rfl⟩

