/-- every type that is named is there -/
def namesOK (hs : Hs) : Prop := ∀ k, k < hs.1 → mayZ hs.1 k (Sf hs k) (Af hs k) (Bf hs k)
/-- the types from p on, when those of hs have been read -/
noncomputable def pTy (B : Nat → Nat) (n : Nat) : Nat → Nat → Hs → Except (Nat × Nat) Hs
  | 0, p, _ => .error (0, p)
  | f + 1, p, hs =>
    if tkA B n p = 1002 ∧ 0 < hs.1 then cif (namesOK hs) (.ok hs) (.error (4, p))
    else if srtN (tkA B n p) = 9 then .error (1, p)
    else if hs.1 = 8 then .error (3, p)
    else match pEq B n (nxA B n p) hs.1 (srtN (tkA B n p)) with
      | .error e => .error e
      | .ok (a, b, q) => pTy B n f q (hsAdd hs (srtN (tkA B n p)) a b)
def RdR (M M' : mx_M) (B : Nat → Nat) (n : Nat) (x : Except (Nat × Nat) Hs) : Prop :=
  Fr2 M M' ∧ TapeAt M' B n ∧ (∀ e, x = .error e → M' 5 5 = nI e.2 ∧ M' 5 6 = nI e.1) ∧ ∀ hs, x = .ok hs → M' 5 6 = M 5 6 ∧ HsAt M' 11 hs
theorem RdR.er {M M' : mx_M} {B : Nat → Nat} {n : Nat} {f p : Nat} (h1 : Fr2 M M') (h2 : TapeAt M' B n) (h3 : M' 5 5 = nI p) (h4 : M' 5 6 = nI f) : RdR M M' B n (.error (f, p)) :=
  ⟨h1, h2, fun e he => by cases he; exact ⟨h3, h4⟩, fun hs he => by cases he⟩
theorem srtN_or (t : Nat) : srtN t = 9 ∨ srtN t < 6 := by
  unfold srtN
  repeat' split
  all_goals omega
theorem srtI_ge {t : Nat} : 0 ≤ srtI t ↔ srtN t ≠ 9 := by
  unfold srtI
  have h := srtN_or t
  by_cases h9 : srtN t = 9
  · rw [if_pos h9]
    exact ⟨fun q => absurd q (by decide), fun q => absurd h9 q⟩
  · rw [if_neg h9]
    refine ⟨fun _ => h9, fun _ => ?_⟩
    rw [Int32.le_iff_toInt_le, nI_toInt (by omega)]
    show (0 : Int32).toInt ≤ _
    have : (0 : Int32).toInt = 0 := by decide
    omega
theorem HsOk.add {hs : Hs} {s a b : Nat} (h : HsOk hs) (hk : hs.1 < 8) (hs6 : s < 6) (ha : a ≤ 7) (hb : b ≤ 7) : HsOk (hsAdd hs s a b) := by
  refine ⟨by show hs.1 + 1 ≤ 8; omega, h.2.1, fun k hk' => ?_⟩
  have hk' : k < hs.1 + 1 := hk'
  show updN hs.2.2.1 hs.1 s k ≤ 5 ∧ updN hs.2.2.2.1 hs.1 a k ≤ 7 ∧ updN hs.2.2.2.2 hs.1 b k ≤ 7
  by_cases hx : k = hs.1
  · rw [hx, updN_s, updN_s, updN_s]; omega
  · rw [updN_n _ _ hx, updN_n _ _ hx, updN_n _ _ hx]
    exact h.2.2 k (by omega)
theorem pEq_ok {B : Nat → Nat} {n p k s a b q : Nat} (h : pEq B n p k s = .ok (a, b, q)) (hk : k < 8) (hp : p ≤ n) : a ≤ 7 ∧ b ≤ 7 ∧ q ≤ n := by
  unfold pEq at h
  by_cases h1 : numF B n p 0 (mostZ s k) ≠ 0
  · rw [if_pos h1] at h; cases h
  rw [if_neg h1] at h
  by_cases h2 : tkA B n (nxA B n p) ≠ 44
  · rw [if_pos h2] at h; cases h
  rw [if_neg h2] at h
  by_cases h3 : numF B n (nx2 B n p) (if s = 0 then nmA B n p else 0) (mostZ s k) ≠ 0
  · rw [if_pos h3] at h; cases h
  rw [if_neg h3] at h
  by_cases h4 : tkA B n (nx3 B n p) ≠ 59
  · rw [if_pos h4] at h; cases h
  rw [if_neg h4] at h
  cases h
  have hm : mostZ s k ≤ 7 := by
    unfold mostZ
    split
    · decide
    · split <;> omega
  have w : ∀ p lo, ¬ numF B n p lo (mostZ s k) ≠ 0 → (nmA B n p : Int) ≤ mostZ s k := fun p lo hq => by
    unfold numF at hq
    split at hq
    · split at hq
      · rename_i g; exact g.2
      · exact absurd (by decide) hq
    · exact absurd (by decide) hq
  have w1 := w _ _ h1
  have w2 := w _ _ h3
  exact ⟨by omega, by omega, nxA_le (nxA_le (nxA_le (nxA_le hp)))⟩
theorem k_readTypes (G : mx_G) {M : mx_M} {B : Nat → Nat} {n p : Nat} {hs : Hs} (h : TpS M B n p) (hH : HsAt M 11 hs) (h0 : hs.1 = 0) (hw : HsOk hs) :
  sOk G m_Tape_readTypes [.ref 5, .ref 11] M (fun r M' => r = some (.int (tf (isOkE (pTy B n 9 p hs)))) ∧ RdR M M' B n (pTy B n 9 p hs)) := by
  refine sOk_of ⟨by decide +kernel, by decide +kernel, Nat.le_of_ble_eq_true rfl⟩ ?_
  show sW G m_Tape_readTypes 0 ([], [some (.ref 5), some (.ref 11), none, none], M) _
  refine sW_go b_Tape_readTypes_0 (st' := ([], [some (.ref 5), some (.ref 11), some (.int (nI 0)), none], M)) (φ := True) rfl trivial ?_
  generalize hX : pTy B n 9 p hs = X
  refine mx_ind (α := Nat × Nat × Hs × mx_M) (fun a => 9 - a.1) (fun a => a.1 ≤ 8 → a.2.2.1.1 = a.1 → HsOk a.2.2.1 → TpS a.2.2.2 B n a.2.1 → HsAt a.2.2.2 11 a.2.2.1 → Fr2 M a.2.2.2 → a.2.2.2 5 6 = M 5 6 → pTy B n (9 - a.1) a.2.1 a.2.2.1 = X → sW G m_Tape_readTypes 2 ([], [some (.ref 5), some (.ref 11), some (.int (nI a.1)), none], a.2.2.2) _) ?_ (0, p, hs, M) (Nat.zero_le 8) h0 hw h hH (fun _ _ _ => rfl) rfl hX
  rintro ⟨k, p2, H, M2⟩ ih hk hHk hHw hT2 hH2 f2 e2 hX2
  dsimp only at ih hk hHk hHw hT2 hH2 f2 e2 hX2 ⊢
  subst hHk
  rw [show 9 - H.1 = (8 - H.1) + 1 by omega] at hX2
  have hlt := hT2.lt
  have hpl := hT2.2.2
  have hI2 : tI (tkA B n p2) = -2 ↔ tkA B n p2 = 1002 := by
    constructor
    · intro q
      unfold tI at q
      split at q
      · exact absurd q (by decide)
      · split at q
        · assumption
        · split at q
          · exact absurd q (by decide)
          · have h2 : (nI (tkA B n p2)).toInt = (-2 : Int32).toInt := by rw [q]
            rw [nI_toInt (by omega)] at h2
            have h3 : (-2 : Int32).toInt = -2 := by decide
            omega
    · intro q
      rw [q]
      decide
  have fin46 : ∀ M3, StepR M2 M3 B n p2 → ¬ (tkA B n p2 = 1002 ∧ 0 < H.1) → sW G m_Tape_readTypes 46 ([], [some (.ref 5), some (.ref 11), some (.int (nI H.1)), none], M3) (fun r M' => r = some (.int (tf (isOkE X))) ∧ RdR M M' B n X) := by
    intro M3 g3 hn
    have z : M3 5 3 = tI (tkA B n p2) := g3.2.2.2.1
    have t3 := g3.tape hT2.1
    have hH3 := hH2.fr g3.1 (by decide)
    have f3 := f2.tr (Fr2.of5 g3.1)
    have hsr := srtN_or (tkA B n p2)
    have er : ∀ f, X = .error (f, p2) → some (Value.int (nI 0)) = some (.int (tf (isOkE X))) ∧ RdR M (mx_wr M3 5 6 (nI f)) B n X := fun f hf => by
      rw [hf, tf_f (isOkE_er _)]
      have e : ∀ j, j ≠ 6 → (mx_wr M3 5 6 (nI f)) 5 j = M3 5 j := fun j hj => by rw [mx_wr_s, pk_un hj]
      exact ⟨rfl, RdR.er (f3.tr (Fr2.of5 (Fr.rf.wr (by decide) (by decide)))) (t3.of (e 1 (by decide)) (mx_wr_n _ _ _ (by decide))) ((e 5 (by decide)).trans g3.2.2.2.2.2.1) (by rw [mx_wr_s, pk_us])⟩
    unfold pTy at hX2
    rw [if_neg hn] at hX2
    refine sW_go b_Tape_readTypes_46 (st' := ([.int (M3 5 3)], [some (.ref 5), some (.ref 11), some (.int (nI H.1)), none], M3)) (φ := mx_ocl LAY 5 = 8 ∧ True) rfl ⟨oc_5, trivial⟩ ?_
    refine sW_eq (st' := ([.int (tI (tkA B n p2))], [some (.ref 5), some (.ref 11), some (.int (nI H.1)), none], M3)) (by simp (disch := omega) only [z]) ?_
    refine sW_callS [.int (tI (tkA B n p2))] [] d_Tape_readTypes_50 c_Tape_readTypes_50 ⟨rfl, rfl, Nat.le_of_ble_eq_true rfl, rfl, rfl⟩ (k_sortOf G hlt) ?_
    rintro _ M₁ ⟨rfl, h₁⟩
    rw [h₁]
    show sW G m_Tape_readTypes 53 ([.int (srtI (tkA B n p2))], [some (.ref 5), some (.ref 11), some (.int (nI H.1)), none], M3) _
    refine sW_go b_Tape_readTypes_53 (st' := ([.int (srtI (tkA B n p2))], [some (.ref 5), some (.ref 11), some (.int (nI H.1)), some (.int (srtI (tkA B n p2)))], M3)) (φ := True) rfl trivial ?_
    refine sW_if_ge 64 d_Tape_readTypes_55 (by decide) (fun c_55 => ?_) (fun c_55 => ?_)
    · skip
      refine sW_go b_Tape_readTypes_64 (st' := ([.int (nI 8), .int (nI H.1)], [some (.ref 5), some (.ref 11), some (.int (nI H.1)), some (.int (srtI (tkA B n p2)))], M3)) (φ := True) rfl trivial ?_
      refine sW_ic_ne 76 d_Tape_readTypes_67 (by decide) (fun c_67 => ?_) (fun c_67 => ?_)
      · skip
        simp (disch := omega) only [nI_eq] at c_67
        have h9 := srtI_ge.mp c_55
        rw [if_neg h9] at hX2
        rw [if_neg c_67] at hX2
        have e9 : srtI (tkA B n p2) = nI (srtN (tkA B n p2)) := by unfold srtI; rw [if_neg h9]
        generalize hS : srtN (tkA B n p2) = S at hX2 e9 hsr h9
        rw [e9]
        have hT3 : TpS M3 B n (nxA B n p2) := ⟨t3, g3.2.2.1, nxA_le hpl⟩
        refine sW_go b_Tape_readTypes_76 (st' := ([.int (nI S), .int (nI H.1), .ref 11, .ref 5], [some (.ref 5), some (.ref 11), some (.int (nI H.1)), some (.int (nI S))], M3)) (φ := True) rfl trivial ?_
        refine sW_callV 8 [.ref 11, .int (nI H.1), .int (nI S)] [] d_Tape_readTypes_80 c_Tape_readTypes_80 ⟨rfl, rfl, rfl, Nat.le_of_ble_eq_true rfl, rfl, rfl⟩ oc_5 (k_readEquation G hT3 hH3 (by omega) (by omega)) ?_
        rintro _ M4 ⟨rfl, r4⟩
        show sW G m_Tape_readTypes 83 ([.int (tf (isOkE (pEq B n (nxA B n p2) H.1 S)))], [some (.ref 5), some (.ref 11), some (.int (nI H.1)), some (.int (nI S))], M4) _
        refine sW_if_ne 88 d_Tape_readTypes_83 (by decide) (fun c_83 => ?_) (fun c_83 => ?_)
        · skip
          replace c_83 := tf_nz.mp c_83
          refine sW_go b_Tape_readTypes_88 (st' := ([], [some (.ref 5), some (.ref 11), some (.int (nI H.1 + nI 1)), some (.int (nI S))], M4)) (φ := True) rfl trivial ?_
          refine sW_eq (st' := ([], [some (.ref 5), some (.ref 11), some (.int (nI (H.1 + 1))), some (.int (nI S))], M4)) (by simp (disch := omega) only [nI_add]) ?_
          refine sW_goto 2 d_Tape_readTypes_91 (by decide) ?_
          obtain ⟨⟨a, b, q⟩, hq⟩ := c_83
          rw [hq] at hX2 r4
          dsimp only at hX2
          obtain ⟨k1, k2, k3⟩ := pEq_ok hq (by omega) (nxA_le hpl)
          obtain ⟨s1, s2, s3, s4⟩ := r4
          obtain ⟨s5, s6, s7⟩ := s4 a b q rfl
          refine sW_fg [false, false, false, true] ?_
          show sW G m_Tape_readTypes 2 ([], [some (.ref 5), some (.ref 11), some (.int (nI (H.1 + 1))), none], M4) _
          refine ih (H.1 + 1, q, hsAdd H S a b, M4) (by dsimp only; omega) (by dsimp only; omega) rfl (hHw.add (by omega) (by omega) k1 k2) ⟨s2, s5, k3⟩ s7 (f3.tr s1) (s6.trans (g3.2.2.2.2.2.2.trans e2)) ?_
          dsimp only
          rw [show 9 - (H.1 + 1) = 8 - H.1 by omega]
          exact hX2
        · skip
          replace c_83 := tf_z.mp c_83
          refine sW_go b_Tape_readTypes_86 (st' := ([.int (nI 0)], [some (.ref 5), some (.ref 11), some (.int (nI H.1)), some (.int (nI S))], M4)) (φ := True) rfl trivial ?_
          refine sW_retI d_Tape_readTypes_87 rfl nb_0 ?_
          match hq : pEq B n (nxA B n p2) H.1 S with
          | .ok v => exact absurd ⟨v, hq⟩ c_83
          | .error e =>
            rw [hq] at hX2 r4
            dsimp only at hX2
            obtain ⟨s1, s2, s3, s4⟩ := r4
            obtain ⟨s5, s6⟩ := s3 e rfl
            rw [← hX2, tf_f (isOkE_er _)]
            exact ⟨rfl, RdR.er (f3.tr s1) s2 s5 s6⟩
      · skip
        simp (disch := omega) only [nI_eq] at c_67
        refine sW_go b_Tape_readTypes_70 (st' := ([.int (nI 3), .ref 5], [some (.ref 5), some (.ref 11), some (.int (nI H.1)), some (.int (srtI (tkA B n p2)))], M3)) (φ := True) rfl trivial ?_
        refine sW_callV 8 [.int (nI 3)] [] d_Tape_readTypes_72 c_Tape_readTypes_72 ⟨rfl, rfl, rfl, Nat.le_of_ble_eq_true rfl, rfl, rfl⟩ oc_5 (k_fails G 3) ?_
        rintro _ M4 ⟨rfl, g4⟩
        show sW G m_Tape_readTypes 75 ([.int (nI 0)], [some (.ref 5), some (.ref 11), some (.int (nI H.1)), some (.int (srtI (tkA B n p2)))], M4) _
        refine sW_retI d_Tape_readTypes_75 rfl nb_0 ?_
        have h9 := srtI_ge.mp c_55
        rw [if_neg h9, if_pos c_67] at hX2
        rw [g4]
        exact er 3 hX2.symm
    · skip
      refine sW_go b_Tape_readTypes_58 (st' := ([.int (nI 1), .ref 5], [some (.ref 5), some (.ref 11), some (.int (nI H.1)), some (.int (srtI (tkA B n p2)))], M3)) (φ := True) rfl trivial ?_
      refine sW_callV 8 [.int (nI 1)] [] d_Tape_readTypes_60 c_Tape_readTypes_60 ⟨rfl, rfl, rfl, Nat.le_of_ble_eq_true rfl, rfl, rfl⟩ oc_5 (k_fails G 1) ?_
      rintro _ M4 ⟨rfl, g4⟩
      show sW G m_Tape_readTypes 63 ([.int (nI 0)], [some (.ref 5), some (.ref 11), some (.int (nI H.1)), some (.int (srtI (tkA B n p2)))], M4) _
      refine sW_retI d_Tape_readTypes_63 rfl nb_0 ?_
      have h9 : srtN (tkA B n p2) = 9 := Classical.not_not.mp (fun w => c_55 (srtI_ge.mpr w))
      rw [if_pos h9] at hX2
      rw [g4]
      exact er 1 hX2.symm
  refine sW_go b_Tape_readTypes_2 (st' := ([.int (nI 8), .int (nI H.1)], [some (.ref 5), some (.ref 11), some (.int (nI H.1)), none], M2)) (φ := True) rfl trivial ?_
  refine sW_ic_gt 94 d_Tape_readTypes_5 (by decide) (fun c_5 => ?_) (fun c_5 => ?_)
  · skip
    simp (disch := omega) only [nI_ltI] at c_5
    refine sW_go b_Tape_readTypes_94 (st' := ([.int (nI 0)], [some (.ref 5), some (.ref 11), some (.int (nI H.1)), none], M2)) (φ := True) rfl trivial ?_
    refine sW_retI d_Tape_readTypes_95 rfl nb_0 ?_
    omega
  · skip
    simp (disch := omega) only [nI_ltI] at c_5
    refine sW_go b_Tape_readTypes_8 (st' := ([.ref 5], [some (.ref 5), some (.ref 11), some (.int (nI H.1)), none], M2)) (φ := True) rfl trivial ?_
    refine sW_callV 8 [] [] d_Tape_readTypes_9 c_Tape_readTypes_9 ⟨rfl, rfl, rfl, Nat.le_of_ble_eq_true rfl, rfl, rfl⟩ oc_5 (k_step G hT2.1 hT2.2.1 hpl) ?_
    rintro _ M3 ⟨rfl, g3⟩
    have z : M3 5 3 = tI (tkA B n p2) := g3.2.2.2.1
    show sW G m_Tape_readTypes 12 ([], [some (.ref 5), some (.ref 11), some (.int (nI H.1)), none], M3) _
    refine sW_go b_Tape_readTypes_12 (st' := ([.int (-2), .int (M3 5 3)], [some (.ref 5), some (.ref 11), some (.int (nI H.1)), none], M3)) (φ := mx_ocl LAY 5 = 8 ∧ True) rfl ⟨oc_5, trivial⟩ ?_
    refine sW_eq (st' := ([.int (-2), .int (tI (tkA B n p2))], [some (.ref 5), some (.ref 11), some (.int (nI H.1)), none], M3)) (by simp (disch := omega) only [z]) ?_
    refine sW_ic_ne 46 d_Tape_readTypes_18 (by decide) (fun c_18 => ?_) (fun c_18 => ?_)
    · skip
      exact fin46 M3 g3 (fun w => c_18 (hI2.mpr w.1))
    · skip
      refine sW_go b_Tape_readTypes_21 (st' := ([.int (nI H.1)], [some (.ref 5), some (.ref 11), some (.int (nI H.1)), none], M3)) (φ := True) rfl trivial ?_
      refine sW_if_le 46 d_Tape_readTypes_22 (by decide) (fun c_22 => ?_) (fun c_22 => ?_)
      · skip
        rw [← nI_0, nI_leI (by omega) (by decide)] at c_22
        exact fin46 M3 g3 (fun w => by omega)
      · skip
        rw [← nI_0, nI_leI (by omega) (by decide)] at c_22
        have hc : tkA B n p2 = 1002 ∧ 0 < H.1 := ⟨hI2.mp c_18, by omega⟩
        unfold pTy at hX2
        rw [if_pos hc] at hX2
        have hH3 := hH2.fr g3.1 (by decide)
        have t3 := g3.tape hT2.1
        have f3 := f2.tr (Fr2.of5 g3.1)
        refine sW_go b_Tape_readTypes_25 (st' := ([.ref 11], [some (.ref 5), some (.ref 11), some (.int (nI H.1)), none], M3)) (φ := True) rfl trivial ?_
        refine sW_callV 3 [] [] d_Tape_readTypes_26 c_Tape_readTypes_26 ⟨rfl, rfl, rfl, Nat.le_of_ble_eq_true rfl, rfl, rfl⟩ oc_11 (k_House_namesOnlyItsOwn G oc_11 hH3 hHw) ?_
        rintro _ M₁ ⟨rfl, h₁⟩
        rw [h₁]
        show sW G m_Tape_readTypes 29 ([.int (tf (namesOK H))], [some (.ref 5), some (.ref 11), some (.int (nI H.1)), none], M3) _
        refine sW_if_ne 40 d_Tape_readTypes_29 (by decide) (fun c_29 => ?_) (fun c_29 => ?_)
        · skip
          replace c_29 := tf_nz.mp c_29
          refine sW_go b_Tape_readTypes_40 (st' := ([.int (nI 1)], [some (.ref 5), some (.ref 11), some (.int (nI H.1)), none], M3)) (φ := True) rfl trivial ?_
          refine sW_goto 45 d_Tape_readTypes_41 (by decide) ?_
          refine sW_retI d_Tape_readTypes_45 rfl nb_1 ?_
          rw [cif_t c_29] at hX2
          rw [← hX2, tf_t (isOkE_ok _)]
          exact ⟨rfl, f3, t3, fun e he => (by cases he), fun hs' he => (by cases he; exact ⟨g3.2.2.2.2.2.2.trans e2, hH3⟩)⟩
        · skip
          replace c_29 := tf_z.mp c_29
          refine sW_go b_Tape_readTypes_32 (st' := ([.int (nI 4), .ref 5], [some (.ref 5), some (.ref 11), some (.int (nI H.1)), none], M3)) (φ := True) rfl trivial ?_
          refine sW_callV 8 [.int (nI 4)] [] d_Tape_readTypes_34 c_Tape_readTypes_34 ⟨rfl, rfl, rfl, Nat.le_of_ble_eq_true rfl, rfl, rfl⟩ oc_5 (k_fails G 4) ?_
          rintro _ M4 ⟨rfl, g4⟩
          show sW G m_Tape_readTypes 37 ([.int (nI 0)], [some (.ref 5), some (.ref 11), some (.int (nI H.1)), none], M4) _
          refine sW_if_eq 44 d_Tape_readTypes_37 (by decide) (fun c_37 => ?_) (fun c_37 => ?_)
          · skip
            simp (disch := omega) only [nI_z] at c_37
            refine sW_go b_Tape_readTypes_44 (st' := ([.int (nI 0)], [some (.ref 5), some (.ref 11), some (.int (nI H.1)), none], M4)) (φ := True) rfl trivial ?_
            refine sW_retI d_Tape_readTypes_45 rfl nb_0 ?_
            rw [cif_f c_29] at hX2
            rw [← hX2, tf_f (isOkE_er _), g4]
            have e : ∀ j, j ≠ 6 → (mx_wr M3 5 6 (nI 4)) 5 j = M3 5 j := fun j hj => by rw [mx_wr_s, pk_un hj]
            exact ⟨rfl, RdR.er (f3.tr (Fr2.of5 (Fr.rf.wr (by decide) (by decide)))) (t3.of (e 1 (by decide)) (mx_wr_n _ _ _ (by decide))) ((e 5 (by decide)).trans g3.2.2.2.2.2.1) (by rw [mx_wr_s, pk_us])⟩
          · skip
            simp (disch := omega) only [nI_z] at c_37
            refine sW_go b_Tape_readTypes_40 (st' := ([.int (nI 1)], [some (.ref 5), some (.ref 11), some (.int (nI H.1)), none], M4)) (φ := True) rfl trivial ?_
            refine sW_goto 45 d_Tape_readTypes_41 (by decide) ?_
            refine sW_retI d_Tape_readTypes_45 rfl nb_1 ?_
            exact absurd trivial c_37

