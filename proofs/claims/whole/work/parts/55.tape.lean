def hsAdd (hs : Hs) (s a b : Nat) : Hs := (hs.1 + 1, hs.2.1, updN hs.2.2.1 hs.1 s, updN hs.2.2.2.1 hs.1 a, updN hs.2.2.2.2 hs.1 b)
abbrev nx2 (B : Nat → Nat) (n p : Nat) : Nat := nxA B n (nxA B n p)
abbrev nx3 (B : Nat → Nat) (n p : Nat) : Nat := nxA B n (nx2 B n p)
/-- an equation behind its letter: a fault with its place, or a, b, and where it ends -/
def pEq (B : Nat → Nat) (n p k s : Nat) : Except (Nat × Nat) (Nat × Nat × Nat) :=
  if numF B n p 0 (mostZ s k) ≠ 0 then .error (numF B n p 0 (mostZ s k), p)
  else if tkA B n (nxA B n p) ≠ 44 then .error (1, nxA B n p)
  else if numF B n (nx2 B n p) (if s = 0 then nmA B n p else 0) (mostZ s k) ≠ 0 then .error (numF B n (nx2 B n p) (if s = 0 then nmA B n p else 0) (mostZ s k), nx2 B n p)
  else if tkA B n (nx3 B n p) ≠ 59 then .error (1, nx3 B n p)
  else .ok (nmA B n p, nmA B n (nx2 B n p), nxA B n (nx3 B n p))
def Fr2 (M M' : mx_M) : Prop := ∀ a, a ≠ 5 → (a < 11 ∨ 15 ≤ a) → M' a = M a
theorem Fr2.tr {M M' M'' : mx_M} (h1 : Fr2 M M') (h2 : Fr2 M' M'') : Fr2 M M'' := fun a b c => (h2 a b c).trans (h1 a b c)
theorem Fr2.of5 {M M' : mx_M} (h : Fr M M' 5 6) : Fr2 M M' := fun a b _ => h a (by omega)
theorem Fr2.of11 {M M' : mx_M} (h : Fr M M' 11 15) : Fr2 M M' := fun a _ c => h a (by omega)
def isOkE {α β : Type} (x : Except α β) : Prop := ∃ v, x = .ok v
theorem isOkE_ok {α β : Type} (v : β) : isOkE (.ok v : Except α β) := ⟨v, rfl⟩
theorem isOkE_er {α β : Type} (e : α) : ¬ isOkE (.error e : Except α β) := fun ⟨_, h⟩ => by cases h
def EqR (M M' : mx_M) (B : Nat → Nat) (n : Nat) (hs : Hs) (s : Nat) (x : Except (Nat × Nat) (Nat × Nat × Nat)) : Prop :=
  Fr2 M M' ∧ TapeAt M' B n ∧ (∀ e, x = .error e → M' 5 5 = nI e.2 ∧ M' 5 6 = nI e.1) ∧ ∀ a b q, x = .ok (a, b, q) → M' 5 2 = nI q ∧ M' 5 6 = M 5 6 ∧ HsAt M' 11 (hsAdd hs s a b)
theorem EqR.er {M M' : mx_M} {B : Nat → Nat} {n : Nat} {hs : Hs} {s f p : Nat} (h1 : Fr2 M M') (h2 : TapeAt M' B n) (h3 : M' 5 5 = nI p) (h4 : M' 5 6 = nI f) : EqR M M' B n hs s (.error (f, p)) :=
  ⟨h1, h2, fun e he => by cases he; exact ⟨h3, h4⟩, fun a b q he => by cases he⟩
theorem HsAt.add {M : mx_M} {hs : Hs} {s a b : Nat} (hH : HsAt M 11 hs) : HsAt (mx_wr (mx_wr (mx_wr (mx_wr M 11 3 (nI (hs.1 + 1))) 12 hs.1 (nI s)) 13 hs.1 (nI a)) 14 hs.1 (nI b)) 11 (hsAdd hs s a b) := by
  obtain ⟨h1, h2, h3⟩ := hH
  refine ⟨?_, ?_, fun k hk => ?_⟩
  · rw [mx_wr_n _ _ _ (by decide), mx_wr_n _ _ _ (by decide), mx_wr_n _ _ _ (by decide), mx_wr_s, pk_us]; rfl
  · rw [mx_wr_n _ _ _ (by decide), mx_wr_n _ _ _ (by decide), mx_wr_n _ _ _ (by decide), mx_wr_s, pk_un (by decide)]; exact h2
  · have hk : k < hs.1 + 1 := hk
    show (mx_wr (mx_wr (mx_wr (mx_wr M 11 3 (nI (hs.1 + 1))) 12 hs.1 (nI s)) 13 hs.1 (nI a)) 14 hs.1 (nI b)) 12 k = nI (updN hs.2.2.1 hs.1 s k) ∧ (mx_wr (mx_wr (mx_wr (mx_wr M 11 3 (nI (hs.1 + 1))) 12 hs.1 (nI s)) 13 hs.1 (nI a)) 14 hs.1 (nI b)) 13 k = nI (updN hs.2.2.2.1 hs.1 a k) ∧ (mx_wr (mx_wr (mx_wr (mx_wr M 11 3 (nI (hs.1 + 1))) 12 hs.1 (nI s)) 13 hs.1 (nI a)) 14 hs.1 (nI b)) 14 k = nI (updN hs.2.2.2.2 hs.1 b k)
    by_cases hx : k = hs.1
    · subst hx
      rw [updN_s, updN_s, updN_s]
      refine ⟨?_, ?_, ?_⟩
      · rw [mx_wr_n _ _ _ (by decide), mx_wr_n _ _ _ (by decide), mx_wr_s, pk_us]
      · rw [mx_wr_n _ _ _ (by decide), mx_wr_s, pk_us]
      · rw [mx_wr_s, pk_us]
    · obtain ⟨x1, x2, x3⟩ := h3 k (by omega)
      rw [updN_n _ _ hx, updN_n _ _ hx, updN_n _ _ hx]
      refine ⟨?_, ?_, ?_⟩
      · rw [mx_wr_n _ _ _ (by decide), mx_wr_n _ _ _ (by decide), mx_wr_s, pk_un hx, mx_wr_n _ _ _ (by decide)]; exact x1
      · rw [mx_wr_n _ _ _ (by decide), mx_wr_s, pk_un hx, mx_wr_n _ _ _ (by decide), mx_wr_n _ _ _ (by decide)]; exact x2
      · rw [mx_wr_s, pk_un hx, mx_wr_n _ _ _ (by decide), mx_wr_n _ _ _ (by decide), mx_wr_n _ _ _ (by decide)]; exact x3
theorem k_readEq45 (G : mx_G) {M : mx_M} {B : Nat → Nat} {n p s lo : Nat} {hs : Hs} {q : Nat} (h : TpS M B n q) (hH : HsAt M 11 hs) (hk : hs.1 < 8) (hs6 : s < 6) (ha : nmA B n p < 1000) (hlo : lo < 1000) {M0 : mx_M} (h0 : Fr2 M0 M) (h06 : M 5 6 = M0 5 6) :
  sW G m_Tape_readEquation 45 ([.int (nI lo), .ref 5], [some (.ref 5), some (.ref 11), some (.int (nI hs.1)), some (.int (nI s)), some (.int (mostI s hs.1)), some (.int (nI (nmA B n p)))], M) (fun r M' =>
    r = some (.int (tf (numF B n q lo (mostZ s hs.1) = 0 ∧ tkA B n (nxA B n q) = 59))) ∧
    EqR M0 M' B n hs s (if numF B n q lo (mostZ s hs.1) ≠ 0 then .error (numF B n q lo (mostZ s hs.1), q) else if tkA B n (nxA B n q) ≠ 59 then .error (1, nxA B n q) else .ok (nmA B n p, nmA B n q, nxA B n (nxA B n q)))) := by
  generalize hA : nmA B n p = a at ha ⊢
  have hz := mostI_z s hs.1 hs6 (by omega)
  have hql := h.2.2
  generalize hmo : mostI s hs.1 = mo at hz ⊢
  refine sW_go b_Tape_readEquation_45 (st' := ([.int mo, .int (nI lo), .ref 5], [some (.ref 5), some (.ref 11), some (.int (nI hs.1)), some (.int (nI s)), some (.int mo), some (.int (nI a))], M)) (φ := True) rfl trivial ?_
  refine sW_callV 8 [.int (nI lo), .int mo] [] d_Tape_readEquation_47 c_Tape_readEquation_47 ⟨rfl, rfl, rfl, Nat.le_of_ble_eq_true rfl, rfl, rfl⟩ oc_5 (k_takesNumber G h hlo hz) ?_
  rintro _ M2 ⟨rfl, r2, v2⟩
  show sW G m_Tape_readEquation 50 ([.int (tf (numF B n q lo (mostZ s hs.1) = 0))], [some (.ref 5), some (.ref 11), some (.int (nI hs.1)), some (.int (nI s)), some (.int mo), some (.int (nI a))], M2) _
  refine sW_if_ne 55 d_Tape_readEquation_50 (by decide) (fun c_50 => ?_) (fun c_50 => ?_)
  · skip
    replace c_50 := tf_nz.mp c_50
    have z4 := v2 c_50
    have hH2 : HsAt M2 11 hs := hH.fr r2.1 (by decide)
    have nb := nmA_lt (B := B) hql
    generalize hB' : nmA B n q = b at z4 nb ⊢
    have z5 : (mx_wr M2 11 3 (nI (hs.1 + 1))) 5 4 = nI b := by rw [mx_wr_n _ _ _ (by decide)]; exact z4
    have fT : Fr M2 (mx_wr (mx_wr (mx_wr (mx_wr M2 11 3 (nI (hs.1 + 1))) 12 hs.1 (nI s)) 13 hs.1 (nI a)) 14 hs.1 (nI b)) 11 15 := (((Fr.rf.wr (by decide) (by decide)).wr (by decide) (by decide)).wr (by decide) (by decide)).wr (by decide) (by decide)
    have hTp : TpS (mx_wr (mx_wr (mx_wr (mx_wr M2 11 3 (nI (hs.1 + 1))) 12 hs.1 (nI s)) 13 hs.1 (nI a)) 14 hs.1 (nI b)) B n (nxA B n q) := ⟨r2.2.1.fr fT (by decide), by rw [fT 5 (by decide)]; exact r2.2.2.1, nxA_le hql⟩
    have hHt := hH2.add (s := s) (a := a) (b := b)
    refine sW_go b_Tape_readEquation_55 (st' := ([.int ((mx_wr M2 11 3 (nI hs.1 + nI 1)) 5 4), .int (nI a), .int (nI s), .int (nI hs.1), .ref 11], [some (.ref 5), some (.ref 11), some (.int (nI hs.1)), some (.int (nI s)), some (.int mo), some (.int (nI a))], mx_wr M2 11 3 (nI hs.1 + nI 1))) (φ := mx_ocl LAY 11 = 3 ∧ mx_ocl LAY 5 = 8 ∧ True) rfl ⟨oc_11, oc_5, trivial⟩ ?_
    refine sW_eq (st' := ([.int (nI b), .int (nI a), .int (nI s), .int (nI hs.1), .ref 11], [some (.ref 5), some (.ref 11), some (.int (nI hs.1)), some (.int (nI s)), some (.int mo), some (.int (nI a))], mx_wr M2 11 3 (nI (hs.1 + 1)))) (by simp (disch := omega) only [nI_add, z5]) ?_
    refine sW_callV 3 [.int (nI hs.1), .int (nI s), .int (nI a), .int (nI b)] [] d_Tape_readEquation_71 c_Tape_readEquation_71 ⟨rfl, rfl, rfl, Nat.le_of_ble_eq_true rfl, rfl, rfl⟩ oc_11 (k_House_tell G oc_11 (by omega) (nI s) (nI a) (nI b)) ?_
    rintro _ M3 ⟨rfl, g3⟩
    have hTp3 : TpS M3 B n (nxA B n q) := by rw [g3]; exact hTp
    show sW G m_Tape_readEquation 74 ([], [some (.ref 5), some (.ref 11), some (.int (nI hs.1)), some (.int (nI s)), some (.int mo), some (.int (nI a))], M3) _
    refine sW_go b_Tape_readEquation_74 (st' := ([.int (nI 59), .ref 5], [some (.ref 5), some (.ref 11), some (.int (nI hs.1)), some (.int (nI s)), some (.int mo), some (.int (nI a))], M3)) (φ := True) rfl trivial ?_
    refine sW_callV 8 [.int (nI 59)] [] d_Tape_readEquation_77 c_Tape_readEquation_77 ⟨rfl, rfl, rfl, Nat.le_of_ble_eq_true rfl, rfl, rfl⟩ oc_5 (k_takesSign G hTp3 (by decide)) ?_
    rintro _ M4 ⟨rfl, r4⟩
    show sW G m_Tape_readEquation 80 ([.int (tf (tkA B n (nxA B n q) = 59))], [some (.ref 5), some (.ref 11), some (.int (nI hs.1)), some (.int (nI s)), some (.int mo), some (.int (nI a))], M4) _
    refine sW_retI d_Tape_readEquation_80 rfl (tf_b _) ?_
    have fr : Fr2 M0 M4 := ((h0.tr (Fr2.of5 r2.1)).tr (Fr2.of11 (by rw [g3]; exact fT))).tr (Fr2.of5 r4.1)
    have e56 : M3 5 6 = M0 5 6 := by
      rw [g3, fT 5 (by decide), r2.2.2.2.2, if_pos c_50]; exact h06
    by_cases ht : tkA B n (nxA B n q) = 59
    · rw [tf_t ht, tf_t ⟨c_50, ht⟩, if_neg (fun w => w c_50), if_neg (fun w => w ht)]
      refine ⟨rfl, fr, r4.2.1, fun e he => (by cases he), fun a' b' q' he => ?_⟩
      cases he
      refine ⟨r4.2.2.1, ?_, ?_⟩
      · rw [r4.2.2.2.2, if_pos ht, if_pos rfl]; exact e56
      · rw [g3] at r4
        exact hHt.fr r4.1 (by decide)
    · rw [tf_f ht, tf_f (fun w => ht w.2), if_neg (fun w => w c_50), if_pos ht]
      refine ⟨rfl, EqR.er fr r4.2.1 r4.2.2.2.1 ?_⟩
      rw [r4.2.2.2.2, if_neg ht, if_neg (by decide)]
  · skip
    replace c_50 := tf_z.mp c_50
    refine sW_go b_Tape_readEquation_53 (st' := ([.int (nI 0)], [some (.ref 5), some (.ref 11), some (.int (nI hs.1)), some (.int (nI s)), some (.int mo), some (.int (nI a))], M2)) (φ := True) rfl trivial ?_
    refine sW_retI d_Tape_readEquation_54 rfl nb_0 ?_
    rw [tf_f (fun w => c_50 w.1), if_pos c_50]
    refine ⟨rfl, EqR.er (h0.tr (Fr2.of5 r2.1)) r2.2.1 r2.2.2.2.1 ?_⟩
    rw [r2.2.2.2.2, if_neg c_50]
theorem k_readEquation (G : mx_G) {M : mx_M} {B : Nat → Nat} {n p s : Nat} {hs : Hs} (h : TpS M B n p) (hH : HsAt M 11 hs) (hk : hs.1 < 8) (hs6 : s < 6) :
  sOk G m_Tape_readEquation [.ref 5, .ref 11, .int (nI hs.1), .int (nI s)] M (fun r M' => r = some (.int (tf (isOkE (pEq B n p hs.1 s)))) ∧ EqR M M' B n hs s (pEq B n p hs.1 s)) := by
  have hz := mostI_z s hs.1 hs6 (by omega)
  have hpl := h.2.2
  have nb := nmA_lt (B := B) hpl
  refine sOk_of ⟨by decide +kernel, by decide +kernel, Nat.le_of_ble_eq_true rfl⟩ ?_
  show sW G m_Tape_readEquation 0 ([], [some (.ref 5), some (.ref 11), some (.int (nI hs.1)), some (.int (nI s)), none, none], M) _
  refine sW_go b_Tape_readEquation_0 (st' := ([.int (nI hs.1), .int (nI s)], [some (.ref 5), some (.ref 11), some (.int (nI hs.1)), some (.int (nI s)), none, none], M)) (φ := True) rfl trivial ?_
  refine sW_callS [.int (nI s), .int (nI hs.1)] [] d_Tape_readEquation_2 c_Tape_readEquation_2 ⟨rfl, rfl, Nat.le_of_ble_eq_true rfl, rfl, rfl⟩ (k_mostOf G hs6 (by omega)) ?_
  rintro _ M₁ ⟨rfl, h₁⟩
  rw [h₁]
  show sW G m_Tape_readEquation 5 ([.int (mostI s hs.1)], [some (.ref 5), some (.ref 11), some (.int (nI hs.1)), some (.int (nI s)), none, none], M) _
  refine sW_go b_Tape_readEquation_5 (st' := ([.int (mostI s hs.1), .int (nI 0), .ref 5], [some (.ref 5), some (.ref 11), some (.int (nI hs.1)), some (.int (nI s)), some (.int (mostI s hs.1)), none], M)) (φ := True) rfl trivial ?_
  refine sW_callV 8 [.int (nI 0), .int (mostI s hs.1)] [] d_Tape_readEquation_11 c_Tape_readEquation_11 ⟨rfl, rfl, rfl, Nat.le_of_ble_eq_true rfl, rfl, rfl⟩ oc_5 (k_takesNumber G h (by decide) hz) ?_
  rintro _ M2 ⟨rfl, r2, v2⟩
  show sW G m_Tape_readEquation 14 ([.int (tf (numF B n p 0 (mostZ s hs.1) = 0))], [some (.ref 5), some (.ref 11), some (.int (nI hs.1)), some (.int (nI s)), some (.int (mostI s hs.1)), none], M2) _
  refine sW_if_ne 19 d_Tape_readEquation_14 (by decide) (fun c_14 => ?_) (fun c_14 => ?_)
  · skip
    replace c_14 := tf_nz.mp c_14
    have z4 := v2 c_14
    have hT2 : TpS M2 B n (nxA B n p) := ⟨r2.2.1, r2.2.2.1, nxA_le hpl⟩
    have f26 : M2 5 6 = M 5 6 := by rw [r2.2.2.2.2, if_pos c_14]
    refine sW_go b_Tape_readEquation_19 (st' := ([.int (nI 44), .ref 5], [some (.ref 5), some (.ref 11), some (.int (nI hs.1)), some (.int (nI s)), some (.int (mostI s hs.1)), some (.int (M2 5 4))], M2)) (φ := mx_ocl LAY 5 = 8 ∧ True) rfl ⟨oc_5, trivial⟩ ?_
    refine sW_eq (st' := ([.int (nI 44), .ref 5], [some (.ref 5), some (.ref 11), some (.int (nI hs.1)), some (.int (nI s)), some (.int (mostI s hs.1)), some (.int (nI (nmA B n p)))], M2)) (by simp (disch := omega) only [z4]) ?_
    refine sW_callV 8 [.int (nI 44)] [] d_Tape_readEquation_28 c_Tape_readEquation_28 ⟨rfl, rfl, rfl, Nat.le_of_ble_eq_true rfl, rfl, rfl⟩ oc_5 (k_takesSign G hT2 (by decide)) ?_
    rintro _ M3 ⟨rfl, r3⟩
    show sW G m_Tape_readEquation 31 ([.int (tf (tkA B n (nxA B n p) = 44))], [some (.ref 5), some (.ref 11), some (.int (nI hs.1)), some (.int (nI s)), some (.int (mostI s hs.1)), some (.int (nI (nmA B n p)))], M3) _
    refine sW_if_eq 53 d_Tape_readEquation_31 (by decide) (fun c_31 => ?_) (fun c_31 => ?_)
    · skip
      replace c_31 := tf_z.mp c_31
      refine sW_go b_Tape_readEquation_53 (st' := ([.int (nI 0)], [some (.ref 5), some (.ref 11), some (.int (nI hs.1)), some (.int (nI s)), some (.int (mostI s hs.1)), some (.int (nI (nmA B n p)))], M3)) (φ := True) rfl trivial ?_
      refine sW_retI d_Tape_readEquation_54 rfl nb_0 ?_
      have e : pEq B n p hs.1 s = .error (1, nxA B n p) := by unfold pEq; rw [if_neg (fun w => w c_14), if_pos c_31]
      rw [e, tf_f (isOkE_er _)]
      refine ⟨rfl, EqR.er ((Fr2.of5 r2.1).tr (Fr2.of5 r3.1)) r3.2.1 r3.2.2.2.1 ?_⟩
      rw [r3.2.2.2.2, if_neg c_31, if_neg (by decide)]
    · skip
      replace c_31 := tf_nz.mp c_31
      refine sW_go b_Tape_readEquation_34 (st' := ([.int (nI s), .ref 5], [some (.ref 5), some (.ref 11), some (.int (nI hs.1)), some (.int (nI s)), some (.int (mostI s hs.1)), some (.int (nI (nmA B n p)))], M3)) (φ := True) rfl trivial ?_
      refine sW_if_ne 44 d_Tape_readEquation_36 (by decide) (fun c_36 => ?_) (fun c_36 => ?_)
      · skip
        simp (disch := omega) only [nI_z] at c_36
        refine sW_go b_Tape_readEquation_44 (st' := ([.int (nI 0), .ref 5], [some (.ref 5), some (.ref 11), some (.int (nI hs.1)), some (.int (nI s)), some (.int (mostI s hs.1)), some (.int (nI (nmA B n p)))], M3)) (φ := True) rfl trivial ?_
        have hT3 : TpS M3 B n (nx2 B n p) := ⟨r3.2.1, r3.2.2.1, nxA_le (nxA_le hpl)⟩
        refine sW_mono (k_readEq45 G hT3 ((hH.fr r2.1 (by decide)).fr r3.1 (by decide)) hk hs6 nb (by decide) ((Fr2.of5 r2.1).tr (Fr2.of5 r3.1)) (by rw [r3.2.2.2.2, if_pos c_31, if_pos rfl]; exact f26)) ?_
        rintro r M' ⟨a1, a2⟩
        have e : pEq B n p hs.1 s = (if numF B n (nx2 B n p) 0 (mostZ s hs.1) ≠ 0 then .error (numF B n (nx2 B n p) 0 (mostZ s hs.1), nx2 B n p) else if tkA B n (nx3 B n p) ≠ 59 then .error (1, nx3 B n p) else .ok (nmA B n p, nmA B n (nx2 B n p), nxA B n (nx3 B n p))) := by
          unfold pEq; rw [if_neg (fun w => w c_14), if_neg (fun w => w c_31), if_neg c_36]
        rw [e]
        refine ⟨?_, a2⟩
        rw [a1]
        congr 2
        by_cases q1 : numF B n (nx2 B n p) 0 (mostZ s hs.1) = 0
        · by_cases q2 : tkA B n (nx3 B n p) = 59
          · rw [if_neg (fun w => w q1), if_neg (fun w => w q2), tf_t ⟨q1, q2⟩, tf_t (isOkE_ok _)]
          · rw [if_neg (fun w => w q1), if_pos q2, tf_f (fun w => q2 w.2), tf_f (isOkE_er _)]
        · rw [if_pos q1, tf_f (fun w => q1 w.1), tf_f (isOkE_er _)]
      · skip
        simp (disch := omega) only [nI_z] at c_36
        refine sW_go b_Tape_readEquation_39 (st' := ([.int (nI (nmA B n p)), .ref 5], [some (.ref 5), some (.ref 11), some (.int (nI hs.1)), some (.int (nI s)), some (.int (mostI s hs.1)), some (.int (nI (nmA B n p)))], M3)) (φ := True) rfl trivial ?_
        refine sW_goto 45 d_Tape_readEquation_41 (by decide) ?_
        have hT3 : TpS M3 B n (nx2 B n p) := ⟨r3.2.1, r3.2.2.1, nxA_le (nxA_le hpl)⟩
        refine sW_mono (k_readEq45 G hT3 ((hH.fr r2.1 (by decide)).fr r3.1 (by decide)) hk hs6 nb nb ((Fr2.of5 r2.1).tr (Fr2.of5 r3.1)) (by rw [r3.2.2.2.2, if_pos c_31, if_pos rfl]; exact f26)) ?_
        rintro r M' ⟨a1, a2⟩
        have e : pEq B n p hs.1 s = (if numF B n (nx2 B n p) (nmA B n p) (mostZ s hs.1) ≠ 0 then .error (numF B n (nx2 B n p) (nmA B n p) (mostZ s hs.1), nx2 B n p) else if tkA B n (nx3 B n p) ≠ 59 then .error (1, nx3 B n p) else .ok (nmA B n p, nmA B n (nx2 B n p), nxA B n (nx3 B n p))) := by
          unfold pEq; rw [if_neg (fun w => w c_14), if_neg (fun w => w c_31), if_pos c_36]
        rw [e]
        refine ⟨?_, a2⟩
        rw [a1]
        congr 2
        by_cases q1 : numF B n (nx2 B n p) (nmA B n p) (mostZ s hs.1) = 0
        · by_cases q2 : tkA B n (nx3 B n p) = 59
          · rw [if_neg (fun w => w q1), if_neg (fun w => w q2), tf_t ⟨q1, q2⟩, tf_t (isOkE_ok _)]
          · rw [if_neg (fun w => w q1), if_pos q2, tf_f (fun w => q2 w.2), tf_f (isOkE_er _)]
        · rw [if_pos q1, tf_f (fun w => q1 w.1), tf_f (isOkE_er _)]
  · skip
    replace c_14 := tf_z.mp c_14
    refine sW_go b_Tape_readEquation_17 (st' := ([.int (nI 0)], [some (.ref 5), some (.ref 11), some (.int (nI hs.1)), some (.int (nI s)), some (.int (mostI s hs.1)), none], M2)) (φ := True) rfl trivial ?_
    refine sW_retI d_Tape_readEquation_18 rfl nb_0 ?_
    have e : pEq B n p hs.1 s = .error (numF B n p 0 (mostZ s hs.1), p) := by unfold pEq; rw [if_pos c_14]
    rw [e, tf_f (isOkE_er _)]
    refine ⟨rfl, EqR.er (Fr2.of5 r2.1) r2.2.1 r2.2.2.2.1 ?_⟩
    rw [r2.2.2.2.2, if_neg c_14]

