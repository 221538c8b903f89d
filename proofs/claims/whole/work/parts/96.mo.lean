theorem k_h70 (G : mx_G) {M M0 : mx_M} {σ : Sg} {B : Nat → Nat} {n : Nat} (h0 : MInv M0 σ) (f0 : Fr M M0 119 139) : ∀ (f : Nat) {M2 : mx_M} {p : Nat} {hs : Hs}, MFr M0 M2 [124] rS → RdS M2 B n p → RowAt M2 124 0 hs → HsRd hs → hs.1 + f = 9 → (0 < hs.1 ∨ srtN (tkA B n p) ≠ 9) → sW G m_Mo_house 70 ([], [some (.ref 119), some (.int (nI 26))], M2) (MOk M (hsR σ (pTy B n f p hs)))
  | 0, M2, p, hs, _, _, _, hr, hf, _ => by
    have := hr.1.1.1
    omega
  | f + 1, M2, p, hs, f2, h, hR, hr, hf, hor => by
    have h8 := hr.1.1.1
    have mn : ∀ {M M' : mx_M}, MFr M M' [] rS → MFr M M' [124] rS := fun q => q.mono (by decide) (by decide)
    by_cases hs9 : srtN (tkA B n p) = 9
    · have hpos : 0 < hs.1 := hor.elim id (fun q => absurd hs9 q)
      have e0 := h.2.2.1
      have k14 := h.2.1.2.1
      by_cases ht : tkA B n p = 1002
      · have k14 : M2 119 14 = nI 1 := by rw [k14, ht]; rfl
        by_cases hn : namesOK hs
        · have e : pTy B n (f + 1) p hs = .ok hs := by
            unfold pTy; rw [if_pos ⟨ht, hpos⟩, cif_t hn]
          rw [e]
          have hn' := hr.named.mp hn
          refine sW_go b_Mo_house_70 (st' := ([.ref 119], [some (.ref 119), some (.int (nI 26))], M2)) (φ := True) rfl trivial ?_
          refine sW_callV 10 [] [] d_Mo_house_71 c_Mo_house_71 ⟨rfl, rfl, rfl, Nat.le_of_ble_eq_true rfl, rfl, rfl⟩ oc_119 (k_isSort G h) ?_
          rintro _ M₁ ⟨rfl, h₁⟩
          rw [h₁]
          show sW G m_Mo_house 74 ([.int (tf (srtN (tkA B n p) ≠ 9))], [some (.ref 119), some (.int (nI 26))], M2) _
          refine sW_if_eq 84 d_Mo_house_74 (by decide) (fun c_74 => ?_) (fun c_74 => ?_)
          · skip
            replace c_74 := tf_z.mp c_74
            refine sW_go b_Mo_house_84 (st' := ([.int (M2 119 16)], [some (.ref 119), some (.int (nI 26))], M2)) (φ := mx_ocl LAY 119 = 10 ∧ True) rfl ⟨oc_119, trivial⟩ ?_
            refine sW_eq (st' := ([.int (nI 0)], [some (.ref 119), some (.int (nI 26))], M2)) (by simp (disch := omega) only [e0]) ?_
            refine sW_if_ne 111 d_Mo_house_88 (by decide) (fun c_88 => ?_) (fun c_88 => ?_)
            · skip
              exact absurd (by decide +kernel) c_88
            · skip
              simp (disch := omega) only [nI_z] at c_88
              refine sW_go b_Mo_house_91 (st' := ([.int (nI 1), .int (M2 119 14)], [some (.ref 119), some (.int (nI 26))], M2)) (φ := mx_ocl LAY 119 = 10 ∧ True) rfl ⟨oc_119, trivial⟩ ?_
              refine sW_eq (st' := ([.int (nI 1), .int (nI 1)], [some (.ref 119), some (.int (nI 26))], M2)) (by simp (disch := omega) only [k14]) ?_
              refine sW_ic_ne 111 d_Mo_house_96 (by decide) (fun c_96 => ?_) (fun c_96 => ?_)
              · skip
                exact absurd (by decide +kernel) c_96
              · skip
                simp (disch := omega) only [nI_eq] at c_96
                refine sW_go b_Mo_house_99 (st' := ([.ref 119], [some (.ref 119), some (.int (nI 26))], M2)) (φ := True) rfl trivial ?_
                refine sW_callV 10 [] [] d_Mo_house_100 c_Mo_house_100 ⟨rfl, rfl, rfl, Nat.le_of_ble_eq_true rfl, rfl, rfl⟩ oc_119 (k_areNamed G hR hr.1) ?_
                rintro _ M₁ ⟨rfl, h₁⟩
                rw [h₁]
                show sW G m_Mo_house 103 ([.int (tf (∀ k, k < hs.1 → (Sf hs k = 1 ∨ Sf hs k = 2) → Af hs k < hs.1 ∧ Bf hs k < hs.1))], [some (.ref 119), some (.int (nI 26))], M2) _
                refine sW_if_ne 111 d_Mo_house_103 (by decide) (fun c_103 => ?_) (fun c_103 => ?_)
                · skip
                  replace c_103 := tf_nz.mp c_103
                  exact k_h111E G h0 f0 f2 h ht hR
                · skip
                  replace c_103 := tf_z.mp c_103
                  exact absurd hn' c_103
          · skip
            replace c_74 := tf_nz.mp c_74
            exact absurd hs9 c_74
        · have e : pTy B n (f + 1) p hs = .error (4, p) := by
            unfold pTy; rw [if_pos ⟨ht, hpos⟩, cif_f hn]
          rw [e]
          have hn' : ¬ _ := fun q => hn (hr.named.mpr q)
          refine sW_go b_Mo_house_70 (st' := ([.ref 119], [some (.ref 119), some (.int (nI 26))], M2)) (φ := True) rfl trivial ?_
          refine sW_callV 10 [] [] d_Mo_house_71 c_Mo_house_71 ⟨rfl, rfl, rfl, Nat.le_of_ble_eq_true rfl, rfl, rfl⟩ oc_119 (k_isSort G h) ?_
          rintro _ M₁ ⟨rfl, h₁⟩
          rw [h₁]
          show sW G m_Mo_house 74 ([.int (tf (srtN (tkA B n p) ≠ 9))], [some (.ref 119), some (.int (nI 26))], M2) _
          refine sW_if_eq 84 d_Mo_house_74 (by decide) (fun c_74 => ?_) (fun c_74 => ?_)
          · skip
            replace c_74 := tf_z.mp c_74
            refine sW_go b_Mo_house_84 (st' := ([.int (M2 119 16)], [some (.ref 119), some (.int (nI 26))], M2)) (φ := mx_ocl LAY 119 = 10 ∧ True) rfl ⟨oc_119, trivial⟩ ?_
            refine sW_eq (st' := ([.int (nI 0)], [some (.ref 119), some (.int (nI 26))], M2)) (by simp (disch := omega) only [e0]) ?_
            refine sW_if_ne 111 d_Mo_house_88 (by decide) (fun c_88 => ?_) (fun c_88 => ?_)
            · skip
              exact absurd (by decide +kernel) c_88
            · skip
              simp (disch := omega) only [nI_z] at c_88
              refine sW_go b_Mo_house_91 (st' := ([.int (nI 1), .int (M2 119 14)], [some (.ref 119), some (.int (nI 26))], M2)) (φ := mx_ocl LAY 119 = 10 ∧ True) rfl ⟨oc_119, trivial⟩ ?_
              refine sW_eq (st' := ([.int (nI 1), .int (nI 1)], [some (.ref 119), some (.int (nI 26))], M2)) (by simp (disch := omega) only [k14]) ?_
              refine sW_ic_ne 111 d_Mo_house_96 (by decide) (fun c_96 => ?_) (fun c_96 => ?_)
              · skip
                exact absurd (by decide +kernel) c_96
              · skip
                simp (disch := omega) only [nI_eq] at c_96
                refine sW_go b_Mo_house_99 (st' := ([.ref 119], [some (.ref 119), some (.int (nI 26))], M2)) (φ := True) rfl trivial ?_
                refine sW_callV 10 [] [] d_Mo_house_100 c_Mo_house_100 ⟨rfl, rfl, rfl, Nat.le_of_ble_eq_true rfl, rfl, rfl⟩ oc_119 (k_areNamed G hR hr.1) ?_
                rintro _ M₁ ⟨rfl, h₁⟩
                rw [h₁]
                show sW G m_Mo_house 103 ([.int (tf (∀ k, k < hs.1 → (Sf hs k = 1 ∨ Sf hs k = 2) → Af hs k < hs.1 ∧ Bf hs k < hs.1))], [some (.ref 119), some (.int (nI 26))], M2) _
                refine sW_if_ne 111 d_Mo_house_103 (by decide) (fun c_103 => ?_) (fun c_103 => ?_)
                · skip
                  replace c_103 := tf_nz.mp c_103
                  exact absurd c_103 hn'
                · skip
                  replace c_103 := tf_z.mp c_103
                  refine sW_go b_Mo_house_106 (st' := ([.int (nI 4), .ref 119], [some (.ref 119), some (.int (nI 26))], M2)) (φ := True) rfl trivial ?_
                  refine sW_callV 10 [.int (nI 4)] [] d_Mo_house_108 c_Mo_house_108 ⟨rfl, rfl, rfl, Nat.le_of_ble_eq_true rfl, rfl, rfl⟩ oc_119 (k_bad0 G h (by decide) (by decide)) ?_
                  rintro _ M3 ⟨rfl, f3, t3⟩
                  show sW G m_Mo_house 111 ([], [some (.ref 119), some (.int (nI 26))], M3) _
                  exact k_h111F G h0 f0 (f2.tr (mn f3)) t3
          · skip
            replace c_74 := tf_nz.mp c_74
            exact absurd hs9 c_74
      · have e : pTy B n (f + 1) p hs = .error (1, p) := by
          unfold pTy; rw [if_neg (fun q => ht q.1), if_pos hs9]
        rw [e]
        have hm4 := mtk_le (tkA B n p)
        have hiv := (mtk_inv B n p).2.1
        refine sW_go b_Mo_house_70 (st' := ([.ref 119], [some (.ref 119), some (.int (nI 26))], M2)) (φ := True) rfl trivial ?_
        refine sW_callV 10 [] [] d_Mo_house_71 c_Mo_house_71 ⟨rfl, rfl, rfl, Nat.le_of_ble_eq_true rfl, rfl, rfl⟩ oc_119 (k_isSort G h) ?_
        rintro _ M₁ ⟨rfl, h₁⟩
        rw [h₁]
        show sW G m_Mo_house 74 ([.int (tf (srtN (tkA B n p) ≠ 9))], [some (.ref 119), some (.int (nI 26))], M2) _
        refine sW_if_eq 84 d_Mo_house_74 (by decide) (fun c_74 => ?_) (fun c_74 => ?_)
        · skip
          replace c_74 := tf_z.mp c_74
          refine sW_go b_Mo_house_84 (st' := ([.int (M2 119 16)], [some (.ref 119), some (.int (nI 26))], M2)) (φ := mx_ocl LAY 119 = 10 ∧ True) rfl ⟨oc_119, trivial⟩ ?_
          refine sW_eq (st' := ([.int (nI 0)], [some (.ref 119), some (.int (nI 26))], M2)) (by simp (disch := omega) only [e0]) ?_
          refine sW_if_ne 111 d_Mo_house_88 (by decide) (fun c_88 => ?_) (fun c_88 => ?_)
          · skip
            exact absurd (by decide +kernel) c_88
          · skip
            simp (disch := omega) only [nI_z] at c_88
            refine sW_go b_Mo_house_91 (st' := ([.int (nI 1), .int (M2 119 14)], [some (.ref 119), some (.int (nI 26))], M2)) (φ := mx_ocl LAY 119 = 10 ∧ True) rfl ⟨oc_119, trivial⟩ ?_
            refine sW_eq (st' := ([.int (nI 1), .int (nI (mtk (tkA B n p)))], [some (.ref 119), some (.int (nI 26))], M2)) (by simp (disch := omega) only [k14]) ?_
            refine sW_ic_ne 111 d_Mo_house_96 (by decide) (fun c_96 => ?_) (fun c_96 => ?_)
            · skip
              simp (disch := omega) only [nI_eq] at c_96
              exact k_h111N G h0 f0 f2 h ht
            · skip
              simp (disch := omega) only [nI_eq] at c_96
              exact absurd (hiv c_96) ht
        · skip
          replace c_74 := tf_nz.mp c_74
          exact absurd hs9 c_74
    · have hl := srt_letter hs9
      have e1 : pTy B n (f + 1) p hs = (if hs.1 = 8 then .error (3, p) else match pEq B n (nxA B n p) hs.1 (srtN (tkA B n p)) with
        | .error e => .error e
        | .ok (a, b, q) => pTy B n f q (hsAdd hs (srtN (tkA B n p)) a b)) := by
        show (if _ then _ else if _ then _ else _) = _
        rw [if_neg (fun q => by have := q.1; omega), if_neg hs9]
        by_cases hk : hs.1 = 8
        · rw [if_pos hk, if_pos hk]
        · rw [if_neg hk, if_neg hk]
          cases pEq B n (nxA B n p) hs.1 (srtN (tkA B n p)) <;> rfl
      rw [e1]
      have hs6 : srtN (tkA B n p) < 6 := by have := srtN_or (tkA B n p); omega
      have hp := h.2.2.2
      refine sW_go b_Mo_house_70 (st' := ([.ref 119], [some (.ref 119), some (.int (nI 26))], M2)) (φ := True) rfl trivial ?_
      refine sW_callV 10 [] [] d_Mo_house_71 c_Mo_house_71 ⟨rfl, rfl, rfl, Nat.le_of_ble_eq_true rfl, rfl, rfl⟩ oc_119 (k_isSort G h) ?_
      rintro _ M₁ ⟨rfl, h₁⟩
      rw [h₁]
      show sW G m_Mo_house 74 ([.int (tf (srtN (tkA B n p) ≠ 9))], [some (.ref 119), some (.int (nI 26))], M2) _
      refine sW_if_eq 84 d_Mo_house_74 (by decide) (fun c_74 => ?_) (fun c_74 => ?_)
      · skip
        replace c_74 := tf_z.mp c_74
        exact absurd hs9 c_74
      · skip
        replace c_74 := tf_nz.mp c_74
        refine sW_go b_Mo_house_77 (st' := ([.ref 119], [some (.ref 119), some (.int (nI 26))], M2)) (φ := True) rfl trivial ?_
        refine sW_callV 10 [] [] d_Mo_house_78 c_Mo_house_78 ⟨rfl, rfl, rfl, Nat.le_of_ble_eq_true rfl, rfl, rfl⟩ oc_119 (k_readType G h hR h8 hs9) ?_
        rintro _ M3 ⟨rfl, f3, t3, u3⟩
        show sW G m_Mo_house 81 ([], [some (.ref 119), some (.int (nI 26))], M3) _
        refine sW_goto 70 d_Mo_house_81 (by decide) ?_
        by_cases hk : hs.1 = 8
        · rw [if_pos hk] at t3 ⊢
          exact k_h70F G h0 f0 (f2.tr f3) (t3 _ rfl)
        · rw [if_neg hk] at t3 u3 ⊢
          match hq : pEq B n (nxA B n p) hs.1 (srtN (tkA B n p)) with
          | .error e =>
            rw [hq] at t3
            exact k_h70F G h0 f0 (f2.tr f3) (t3 _ rfl)
          | .ok (a, b, q) =>
            rw [hq] at u3
            obtain ⟨v1, v2⟩ := u3 a b q rfl
            exact k_h70 G h0 f0 f (f2.tr f3) v1 v2 (hr.add (by omega) hs6 hq (nxA_le hp)) (by show hs.1 + 1 + f = 9; omega) (Or.inl (Nat.succ_pos _))
theorem k_h58F (G : mx_G) {M M0 M2 : mx_M} {σ : Sg} {e : Nat × Nat} (h0 : MInv M0 σ) (f0 : Fr M M0 119 139) (f2 : MFr M0 M2 [124] rS) (h : RdF M2 e) : sW G m_Mo_house 58 ([], [some (.ref 119), some (.int (nI 26))], M2) (MOk M (hsR σ (.error e))) := by
  refine sW_go b_Mo_house_58 (st' := ([.ref 119], [some (.ref 119), some (.int (nI 26))], M2)) (φ := True) rfl trivial ?_
  refine sW_callV 10 [] [] d_Mo_house_59 c_Mo_house_59 ⟨rfl, rfl, rfl, Nat.le_of_ble_eq_true rfl, rfl, rfl⟩ oc_119 (k_isSortF G h) ?_
  rintro _ M₁ ⟨rfl, h₁⟩
  rw [h₁]
  show sW G m_Mo_house 62 ([.int (nI 0)], [some (.ref 119), some (.int (nI 26))], M2) _
  refine sW_if_ne 70 d_Mo_house_62 (by decide) (fun c_62 => ?_) (fun c_62 => ?_)
  · skip
    exact absurd (by decide +kernel) c_62
  · skip
    simp (disch := omega) only [nI_z] at c_62
    refine sW_go b_Mo_house_65 (st' := ([.int (nI 1), .ref 119], [some (.ref 119), some (.int (nI 26))], M2)) (φ := True) rfl trivial ?_
    refine sW_callV 10 [.int (nI 1)] [] d_Mo_house_67 c_Mo_house_67 ⟨rfl, rfl, rfl, Nat.le_of_ble_eq_true rfl, rfl, rfl⟩ oc_119 (k_badF G h (nI 1)) ?_
    rintro _ M₁ ⟨rfl, h₁⟩
    rw [h₁]
    show sW G m_Mo_house 70 ([], [some (.ref 119), some (.int (nI 26))], M2) _
    exact k_h70F G h0 f0 f2 h
theorem k_h58 (G : mx_G) {M M0 M2 : mx_M} {σ : Sg} {B : Nat → Nat} {n p c : Nat} (h0 : MInv M0 σ) (f0 : Fr M M0 119 139) (f2 : MFr M0 M2 [124] rS) (h : RdS M2 B n p) (hR : RowAt M2 124 0 (hsE c)) (hc : 1 ≤ c ∧ c ≤ 4) : sW G m_Mo_house 58 ([], [some (.ref 119), some (.int (nI 26))], M2) (MOk M (hsR σ (pTy B n 9 p (hsE c)))) := by
  have hr : HsRd (hsE c) := ⟨⟨⟨Nat.zero_le 8, hc.2, fun k hk => absurd hk (Nat.not_lt_zero k)⟩, fun k _ => ⟨rfl, rfl, rfl⟩, fun w => absurd w (Nat.lt_irrefl 0)⟩, hc.1, fun k hk => absurd hk (Nat.not_lt_zero k)⟩
  have mn : ∀ {M M' : mx_M}, MFr M M' [] rS → MFr M M' [124] rS := fun q => q.mono (by decide) (by decide)
  refine sW_go b_Mo_house_58 (st' := ([.ref 119], [some (.ref 119), some (.int (nI 26))], M2)) (φ := True) rfl trivial ?_
  refine sW_callV 10 [] [] d_Mo_house_59 c_Mo_house_59 ⟨rfl, rfl, rfl, Nat.le_of_ble_eq_true rfl, rfl, rfl⟩ oc_119 (k_isSort G h) ?_
  rintro _ M₁ ⟨rfl, h₁⟩
  rw [h₁]
  show sW G m_Mo_house 62 ([.int (tf (srtN (tkA B n p) ≠ 9))], [some (.ref 119), some (.int (nI 26))], M2) _
  refine sW_if_ne 70 d_Mo_house_62 (by decide) (fun c_62 => ?_) (fun c_62 => ?_)
  · skip
    replace c_62 := tf_nz.mp c_62
    exact k_h70 G h0 f0 9 f2 h hR hr rfl (Or.inr c_62)
  · skip
    replace c_62 := tf_z.mp c_62
    refine sW_go b_Mo_house_65 (st' := ([.int (nI 1), .ref 119], [some (.ref 119), some (.int (nI 26))], M2)) (φ := True) rfl trivial ?_
    refine sW_callV 10 [.int (nI 1)] [] d_Mo_house_67 c_Mo_house_67 ⟨rfl, rfl, rfl, Nat.le_of_ble_eq_true rfl, rfl, rfl⟩ oc_119 (k_bad0 G h (by decide) (by decide)) ?_
    rintro _ M3 ⟨rfl, f3, t3⟩
    show sW G m_Mo_house 70 ([], [some (.ref 119), some (.int (nI 26))], M3) _
    have hs9 : srtN (tkA B n p) = 9 := Classical.not_not.mp c_62
    have e : pTy B n 9 p (hsE c) = .error (1, p) := by
      show (if _ then _ else if _ then _ else _) = _
      rw [if_neg (fun q => Nat.lt_irrefl 0 q.2), if_pos hs9]
    rw [e]
    exact k_h70F G h0 f0 (f2.tr (mn f3)) t3
theorem enc_E (i : Nat) : enc (hsE 0) i = 0 := by
  unfold enc hsE
  repeat' split
  all_goals rfl
theorem row_E {M : mx_M} {c : Nat} (h : RowAt M 124 0 (hsE 0)) : RowAt (mx_wr M 124 1 (nI c)) 124 0 (hsE c) := by
  refine RowAt.of ?_ rd_s (fun k hk => ⟨?_, ?_, ?_⟩)
  · rw [rd_n (by decide)]; exact h.n
  · rw [rd_n (by omega)]; exact h.S hk
  · rw [rd_n (by omega)]; exact h.A hk
  · rw [rd_n (by omega)]; exact h.B hk
theorem mo_house (G : mx_G) {M : mx_M} {σ : Sg} (h : MInv M σ) : sOk G m_Mo_house [.ref 119] M (MOk M (sp_house σ)) := by
  obtain ⟨M0, e0, h0, f0, g0⟩ := h.th
  have ht : MTape M0 (gB σ, gn σ, gf σ) := h0.2.1
  have e : sp_house σ = hsR σ (pHs (gB σ) (gn σ)) := rfl
  rw [e]
  generalize gB σ = B at ht ⊢
  generalize gn σ = n at ht ⊢
  have mn : ∀ {M M' : mx_M}, MFr M M' [] rS → MFr M M' [124] rS := fun q => q.mono (by decide) (by decide)
  refine sOk_of ⟨by decide +kernel, by decide +kernel, Nat.le_of_ble_eq_true rfl⟩ ?_
  show sW G m_Mo_house 0 ([], [some (.ref 119), none], M) _
  refine sW_go b_Mo_house_0 (st' := ([.ref 119], [some (.ref 119), none], mx_wr M 119 0 (nI 0))) (φ := mx_ocl LAY 119 = 10 ∧ True) rfl ⟨oc_119, trivial⟩ ?_
  refine sW_eq (st' := ([.ref 119], [some (.ref 119), none], M0)) (by simp (disch := omega) only [e0]) ?_
  refine sW_callV 10 [] [] d_Mo_house_6 c_Mo_house_6 ⟨rfl, rfl, rfl, Nat.le_of_ble_eq_true rfl, rfl, rfl⟩ oc_119 (k_mbegin G ht) ?_
  rintro _ M1 ⟨rfl, f1, t1⟩
  show sW G m_Mo_house 9 ([], [some (.ref 119), none], M1) _
  refine sW_go b_Mo_house_9 (st' := ([], [some (.ref 119), some (.int (nI 0))], M1)) (φ := True) rfl trivial ?_
  refine mx_ind (α := Nat × mx_M) (fun q => 26 - q.1) (fun q => q.1 ≤ 26 → (∀ a, a ≠ 124 → q.2 a = M1 a) → (∀ i, i < q.1 → q.2 124 i = nI 0) → sW G m_Mo_house 11 ([], [some (.ref 119), some (.int (nI q.1))], q.2) _) ?_ (0, M1) (Nat.zero_le _) (fun _ _ => rfl) (fun i hi => absurd hi (Nat.not_lt_zero i))
  rintro ⟨q, M2⟩ ih hq i1 i2
  dsimp only at ih hq i1 i2 ⊢
  by_cases hqn : q < 26
  · skip
    refine sW_go b_Mo_house_11 (st' := ([.int (nI 26), .int (nI q)], [some (.ref 119), some (.int (nI q))], M2)) (φ := True) rfl trivial ?_
    refine sW_ic_ge 30 d_Mo_house_14 (by decide) (fun c_14 => ?_) (fun c_14 => ?_)
    · skip
      simp (disch := omega) only [nI_leI] at c_14
      omega
    · skip
      simp (disch := omega) only [nI_leI] at c_14
      refine sW_go b_Mo_house_17 (st' := ([], [some (.ref 119), some (.int (nI q + nI 1))], mx_wr M2 124 (nI q).toNatClampNeg (nI 0))) (φ := mx_ocl LAY 119 = 10 ∧ vp_in (nI q) (mx_len LAY false 124) ∧ True) rfl ⟨oc_119, (by simp (disch := omega) only [ln_124]; exact vp_in_nI (by omega) (by decide)), trivial⟩ ?_
      refine sW_eq (st' := ([], [some (.ref 119), some (.int (nI (q + 1)))], mx_wr M2 124 q (nI 0))) (by simp (disch := omega) only [nI_add, nI_clamp]) ?_
      refine sW_goto 11 d_Mo_house_27 (by decide) ?_
      refine ih (q + 1, (mx_wr M2 124 q (nI 0))) (by dsimp only; omega) (by dsimp only; omega) (fun a ha => ?_) (fun i hi => ?_)
      · dsimp only
        rw [mx_wr_n _ _ _ ha]; exact i1 a ha
      · dsimp only at hi ⊢
        rw [mx_wr_s]
        by_cases hx : i = q
        · rw [hx, pk_us]
        · rw [pk_un hx]; exact i2 i (by omega)
  · obtain rfl : q = 26 := by omega
    have fa : MFr M1 M2 [124] [0] := MFr.one i1 (by decide) (by decide)
    have fb : MFr M0 M2 [124] rS := (mn f1).tr (MFr.one i1 (by decide) (by decide))
    have t2 : RdS M2 B n 0 := t1.of fa
    have hR : RowAt M2 124 0 (hsE 0) := fun i hi => by rw [Nat.zero_add, i2 i hi, enc_E]
    have rw124 : ∀ {Ma Mb : mx_M}, MFr Ma Mb [] rS → RowAt Ma 124 0 (hsE 0) → RowAt Mb 124 0 (hsE 0) := fun q r => r.eq (q.1 _ (by decide) (by decide))
    have hkl := k_isLetter G t2
    by_cases h1 : tkA B n 0 = 115
    · rw [tf_t h1] at hkl
      by_cases h2 : numF B n (nxA B n 0) 1 4 = 0
      · have hc4 := numF_0 h2
        by_cases h3 : tkA B n (nx2 B n 0) = 59
        · have e : pHs B n = pTy B n 9 (nx3 B n 0) (hsE (nmA B n (nxA B n 0))) := by
            unfold pHs; rw [if_neg (fun q => q h1), if_neg (fun q => q h2), if_neg (fun q => q h3)]
          rw [e]
          refine sW_go b_Mo_house_11 (st' := ([.int (nI 26), .int (nI 26)], [some (.ref 119), some (.int (nI 26))], M2)) (φ := True) rfl trivial ?_
          refine sW_ic_ge 30 d_Mo_house_14 (by decide) (fun c_14 => ?_) (fun c_14 => ?_)
          · skip
            simp (disch := omega) only [nI_leI] at c_14
            refine sW_go b_Mo_house_30 (st' := ([.int (nI 115), .ref 119, .ref 119], [some (.ref 119), some (.int (nI 26))], M2)) (φ := True) rfl trivial ?_
            refine sW_callV 10 [.int (nI 115)] [.ref 119] d_Mo_house_34 c_Mo_house_34 ⟨rfl, rfl, rfl, Nat.le_of_ble_eq_true rfl, rfl, rfl⟩ oc_119 (hkl) ?_
            rintro _ M₁ ⟨rfl, h₁⟩
            rw [h₁]
            show sW G m_Mo_house 37 ([.int (nI 1), .ref 119], [some (.ref 119), some (.int (nI 26))], M2) _
            refine sW_callV 10 [.int (nI 1)] [] d_Mo_house_37 c_Mo_house_37 ⟨rfl, rfl, rfl, Nat.le_of_ble_eq_true rfl, rfl, rfl⟩ oc_119 (k_mustT G t2) ?_
            rintro _ M3 ⟨rfl, f3, t3⟩
            show sW G m_Mo_house 40 ([], [some (.ref 119), some (.int (nI 26))], M3) _
            refine sW_go b_Mo_house_40 (st' := ([.int (nI 4), .int (nI 1), .ref 119, .int (nI 1), .ref 124], [some (.ref 119), some (.int (nI 26))], M3)) (φ := mx_ocl LAY 119 = 10 ∧ True) rfl ⟨oc_119, trivial⟩ ?_
            refine sW_callV 10 [.int (nI 1), .int (nI 4)] [.int (nI 1), .ref 124] d_Mo_house_48 c_Mo_house_48 ⟨rfl, rfl, rfl, Nat.le_of_ble_eq_true rfl, rfl, rfl⟩ oc_119 (k_num0 (z := 4) G t3 (by decide) (nI_toInt (by decide)) h2) ?_
            rintro _ M4 ⟨rfl, f4, t4⟩
            have fw : MFr M4 (mx_wr M4 124 1 (nI (nmA B n (nxA B n 0)))) [124] [0] := MFr.rf.wr (by decide) (by decide)
            have fv : MFr M4 (mx_wr M4 124 1 (nI (nmA B n (nxA B n 0)))) [124] rS := MFr.rf.wr (by decide) (by decide)
            have t5 := t4.of fw
            have r5 := row_E (c := nmA B n (nxA B n 0)) (rw124 f4 (rw124 f3 hR))
            show sW G m_Mo_house 51 ([.int (nI (nmA B n (nxA B n 0))), .int (nI 1), .ref 124], [some (.ref 119), some (.int (nI 26))], M4) _
            refine sW_go b_Mo_house_51 (st' := ([.int (nI 59), .ref 119], [some (.ref 119), some (.int (nI 26))], mx_wr M4 124 (nI 1).toNatClampNeg (nI (nmA B n (nxA B n 0))))) (φ := vp_in (nI 1) (mx_len LAY false 124) ∧ True) rfl ⟨(by simp (disch := omega) only [ln_124]; exact vp_in_nI (by omega) (by decide)), trivial⟩ ?_
            refine sW_eq (st' := ([.int (nI 59), .ref 119], [some (.ref 119), some (.int (nI 26))], mx_wr M4 124 1 (nI (nmA B n (nxA B n 0))))) (by simp (disch := omega) only [nI_clamp]) ?_
            refine sW_callV 10 [.int (nI 59)] [] d_Mo_house_55 c_Mo_house_55 ⟨rfl, rfl, rfl, Nat.le_of_ble_eq_true rfl, rfl, rfl⟩ oc_119 (k_mustSignT G t5 (by decide) h3) ?_
            rintro _ M6 ⟨rfl, f6, t6⟩
            show sW G m_Mo_house 58 ([], [some (.ref 119), some (.int (nI 26))], M6) _
            exact k_h58 G h0 f0 ((((fb.tr (mn f3)).tr (mn f4)).tr fv).tr (mn f6)) t6 (r5.eq (f6.1 _ (by decide) (by decide))) (by omega)
          · skip
            exact absurd (by decide +kernel) c_14
        · have e : pHs B n = .error (1, nx2 B n 0) := by
            unfold pHs; rw [if_neg (fun q => q h1), if_neg (fun q => q h2), if_pos h3]
          rw [e]
          refine sW_go b_Mo_house_11 (st' := ([.int (nI 26), .int (nI 26)], [some (.ref 119), some (.int (nI 26))], M2)) (φ := True) rfl trivial ?_
          refine sW_ic_ge 30 d_Mo_house_14 (by decide) (fun c_14 => ?_) (fun c_14 => ?_)
          · skip
            simp (disch := omega) only [nI_leI] at c_14
            refine sW_go b_Mo_house_30 (st' := ([.int (nI 115), .ref 119, .ref 119], [some (.ref 119), some (.int (nI 26))], M2)) (φ := True) rfl trivial ?_
            refine sW_callV 10 [.int (nI 115)] [.ref 119] d_Mo_house_34 c_Mo_house_34 ⟨rfl, rfl, rfl, Nat.le_of_ble_eq_true rfl, rfl, rfl⟩ oc_119 (hkl) ?_
            rintro _ M₁ ⟨rfl, h₁⟩
            rw [h₁]
            show sW G m_Mo_house 37 ([.int (nI 1), .ref 119], [some (.ref 119), some (.int (nI 26))], M2) _
            refine sW_callV 10 [.int (nI 1)] [] d_Mo_house_37 c_Mo_house_37 ⟨rfl, rfl, rfl, Nat.le_of_ble_eq_true rfl, rfl, rfl⟩ oc_119 (k_mustT G t2) ?_
            rintro _ M3 ⟨rfl, f3, t3⟩
            show sW G m_Mo_house 40 ([], [some (.ref 119), some (.int (nI 26))], M3) _
            refine sW_go b_Mo_house_40 (st' := ([.int (nI 4), .int (nI 1), .ref 119, .int (nI 1), .ref 124], [some (.ref 119), some (.int (nI 26))], M3)) (φ := mx_ocl LAY 119 = 10 ∧ True) rfl ⟨oc_119, trivial⟩ ?_
            refine sW_callV 10 [.int (nI 1), .int (nI 4)] [.int (nI 1), .ref 124] d_Mo_house_48 c_Mo_house_48 ⟨rfl, rfl, rfl, Nat.le_of_ble_eq_true rfl, rfl, rfl⟩ oc_119 (k_num0 (z := 4) G t3 (by decide) (nI_toInt (by decide)) h2) ?_
            rintro _ M4 ⟨rfl, f4, t4⟩
            have fw : MFr M4 (mx_wr M4 124 1 (nI (nmA B n (nxA B n 0)))) [124] [0] := MFr.rf.wr (by decide) (by decide)
            have fv : MFr M4 (mx_wr M4 124 1 (nI (nmA B n (nxA B n 0)))) [124] rS := MFr.rf.wr (by decide) (by decide)
            have t5 := t4.of fw
            show sW G m_Mo_house 51 ([.int (nI (nmA B n (nxA B n 0))), .int (nI 1), .ref 124], [some (.ref 119), some (.int (nI 26))], M4) _
            refine sW_go b_Mo_house_51 (st' := ([.int (nI 59), .ref 119], [some (.ref 119), some (.int (nI 26))], mx_wr M4 124 (nI 1).toNatClampNeg (nI (nmA B n (nxA B n 0))))) (φ := vp_in (nI 1) (mx_len LAY false 124) ∧ True) rfl ⟨(by simp (disch := omega) only [ln_124]; exact vp_in_nI (by omega) (by decide)), trivial⟩ ?_
            refine sW_eq (st' := ([.int (nI 59), .ref 119], [some (.ref 119), some (.int (nI 26))], mx_wr M4 124 1 (nI (nmA B n (nxA B n 0))))) (by simp (disch := omega) only [nI_clamp]) ?_
            refine sW_callV 10 [.int (nI 59)] [] d_Mo_house_55 c_Mo_house_55 ⟨rfl, rfl, rfl, Nat.le_of_ble_eq_true rfl, rfl, rfl⟩ oc_119 (k_mustSignN G t5 (by decide) h3) ?_
            rintro _ M6 ⟨rfl, f6, t6⟩
            show sW G m_Mo_house 58 ([], [some (.ref 119), some (.int (nI 26))], M6) _
            exact k_h58F G h0 f0 ((((fb.tr (mn f3)).tr (mn f4)).tr fv).tr (mn f6)) t6
          · skip
            exact absurd (by decide +kernel) c_14
      · have e : pHs B n = .error (numF B n (nxA B n 0) 1 4, nxA B n 0) := by
          unfold pHs; rw [if_neg (fun q => q h1), if_pos h2]
        rw [e]
        refine sW_go b_Mo_house_11 (st' := ([.int (nI 26), .int (nI 26)], [some (.ref 119), some (.int (nI 26))], M2)) (φ := True) rfl trivial ?_
        refine sW_ic_ge 30 d_Mo_house_14 (by decide) (fun c_14 => ?_) (fun c_14 => ?_)
        · skip
          simp (disch := omega) only [nI_leI] at c_14
          refine sW_go b_Mo_house_30 (st' := ([.int (nI 115), .ref 119, .ref 119], [some (.ref 119), some (.int (nI 26))], M2)) (φ := True) rfl trivial ?_
          refine sW_callV 10 [.int (nI 115)] [.ref 119] d_Mo_house_34 c_Mo_house_34 ⟨rfl, rfl, rfl, Nat.le_of_ble_eq_true rfl, rfl, rfl⟩ oc_119 (hkl) ?_
          rintro _ M₁ ⟨rfl, h₁⟩
          rw [h₁]
          show sW G m_Mo_house 37 ([.int (nI 1), .ref 119], [some (.ref 119), some (.int (nI 26))], M2) _
          refine sW_callV 10 [.int (nI 1)] [] d_Mo_house_37 c_Mo_house_37 ⟨rfl, rfl, rfl, Nat.le_of_ble_eq_true rfl, rfl, rfl⟩ oc_119 (k_mustT G t2) ?_
          rintro _ M3 ⟨rfl, f3, t3⟩
          show sW G m_Mo_house 40 ([], [some (.ref 119), some (.int (nI 26))], M3) _
          refine sW_go b_Mo_house_40 (st' := ([.int (nI 4), .int (nI 1), .ref 119, .int (nI 1), .ref 124], [some (.ref 119), some (.int (nI 26))], M3)) (φ := mx_ocl LAY 119 = 10 ∧ True) rfl ⟨oc_119, trivial⟩ ?_
          refine sW_callV 10 [.int (nI 1), .int (nI 4)] [.int (nI 1), .ref 124] d_Mo_house_48 c_Mo_house_48 ⟨rfl, rfl, rfl, Nat.le_of_ble_eq_true rfl, rfl, rfl⟩ oc_119 (k_num1 (z := 4) G t3 (by decide) (nI_toInt (by decide)) h2) ?_
          rintro _ M4 ⟨rfl, f4, t4⟩
          have fw : MFr M4 (mx_wr M4 124 1 (nI 1)) [124] [0] := MFr.rf.wr (by decide) (by decide)
          have fv : MFr M4 (mx_wr M4 124 1 (nI 1)) [124] rS := MFr.rf.wr (by decide) (by decide)
          have t5 := t4.of fw
          show sW G m_Mo_house 51 ([.int (nI 1), .int (nI 1), .ref 124], [some (.ref 119), some (.int (nI 26))], M4) _
          refine sW_go b_Mo_house_51 (st' := ([.int (nI 59), .ref 119], [some (.ref 119), some (.int (nI 26))], mx_wr M4 124 (nI 1).toNatClampNeg (nI 1))) (φ := vp_in (nI 1) (mx_len LAY false 124) ∧ True) rfl ⟨(by simp (disch := omega) only [ln_124]; exact vp_in_nI (by omega) (by decide)), trivial⟩ ?_
          refine sW_eq (st' := ([.int (nI 59), .ref 119], [some (.ref 119), some (.int (nI 26))], mx_wr M4 124 1 (nI 1))) (by simp (disch := omega) only [nI_clamp]) ?_
          refine sW_callV 10 [.int (nI 59)] [] d_Mo_house_55 c_Mo_house_55 ⟨rfl, rfl, rfl, Nat.le_of_ble_eq_true rfl, rfl, rfl⟩ oc_119 (k_mustSignF G t5 (nI 59)) ?_
          rintro _ M₁ ⟨rfl, h₁⟩
          rw [h₁]
          show sW G m_Mo_house 58 ([], [some (.ref 119), some (.int (nI 26))], mx_wr M4 124 1 (nI 1)) _
          exact k_h58F G h0 f0 (((fb.tr (mn f3)).tr (mn f4)).tr fv) t5
        · skip
          exact absurd (by decide +kernel) c_14
    · rw [tf_f h1] at hkl
      have e : pHs B n = .error (1, 0) := by
        unfold pHs; rw [if_pos h1]
      rw [e]
      refine sW_go b_Mo_house_11 (st' := ([.int (nI 26), .int (nI 26)], [some (.ref 119), some (.int (nI 26))], M2)) (φ := True) rfl trivial ?_
      refine sW_ic_ge 30 d_Mo_house_14 (by decide) (fun c_14 => ?_) (fun c_14 => ?_)
      · skip
        simp (disch := omega) only [nI_leI] at c_14
        refine sW_go b_Mo_house_30 (st' := ([.int (nI 115), .ref 119, .ref 119], [some (.ref 119), some (.int (nI 26))], M2)) (φ := True) rfl trivial ?_
        refine sW_callV 10 [.int (nI 115)] [.ref 119] d_Mo_house_34 c_Mo_house_34 ⟨rfl, rfl, rfl, Nat.le_of_ble_eq_true rfl, rfl, rfl⟩ oc_119 (hkl) ?_
        rintro _ M₁ ⟨rfl, h₁⟩
        rw [h₁]
        show sW G m_Mo_house 37 ([.int (nI 0), .ref 119], [some (.ref 119), some (.int (nI 26))], M2) _
        refine sW_callV 10 [.int (nI 0)] [] d_Mo_house_37 c_Mo_house_37 ⟨rfl, rfl, rfl, Nat.le_of_ble_eq_true rfl, rfl, rfl⟩ oc_119 (k_mustN G t2) ?_
        rintro _ M3 ⟨rfl, f3, t3⟩
        have fw : MFr M3 (mx_wr M3 124 1 (nI 1)) [124] [0] := MFr.rf.wr (by decide) (by decide)
        have fv : MFr M3 (mx_wr M3 124 1 (nI 1)) [124] rS := MFr.rf.wr (by decide) (by decide)
        have t5 := t3.of fw
        show sW G m_Mo_house 40 ([], [some (.ref 119), some (.int (nI 26))], M3) _
        refine sW_go b_Mo_house_40 (st' := ([.int (nI 4), .int (nI 1), .ref 119, .int (nI 1), .ref 124], [some (.ref 119), some (.int (nI 26))], M3)) (φ := mx_ocl LAY 119 = 10 ∧ True) rfl ⟨oc_119, trivial⟩ ?_
        refine sW_callV 10 [.int (nI 1), .int (nI 4)] [.int (nI 1), .ref 124] d_Mo_house_48 c_Mo_house_48 ⟨rfl, rfl, rfl, Nat.le_of_ble_eq_true rfl, rfl, rfl⟩ oc_119 (k_numF G t3 (nI 1) (nI 4)) ?_
        rintro _ M₁ ⟨rfl, h₁⟩
        rw [h₁]
        show sW G m_Mo_house 51 ([.int (nI 1), .int (nI 1), .ref 124], [some (.ref 119), some (.int (nI 26))], M3) _
        refine sW_go b_Mo_house_51 (st' := ([.int (nI 59), .ref 119], [some (.ref 119), some (.int (nI 26))], mx_wr M3 124 (nI 1).toNatClampNeg (nI 1))) (φ := vp_in (nI 1) (mx_len LAY false 124) ∧ True) rfl ⟨(by simp (disch := omega) only [ln_124]; exact vp_in_nI (by omega) (by decide)), trivial⟩ ?_
        refine sW_eq (st' := ([.int (nI 59), .ref 119], [some (.ref 119), some (.int (nI 26))], mx_wr M3 124 1 (nI 1))) (by simp (disch := omega) only [nI_clamp]) ?_
        refine sW_callV 10 [.int (nI 59)] [] d_Mo_house_55 c_Mo_house_55 ⟨rfl, rfl, rfl, Nat.le_of_ble_eq_true rfl, rfl, rfl⟩ oc_119 (k_mustSignF G t5 (nI 59)) ?_
        rintro _ M₁ ⟨rfl, h₁⟩
        rw [h₁]
        show sW G m_Mo_house 58 ([], [some (.ref 119), some (.int (nI 26))], mx_wr M3 124 1 (nI 1)) _
        exact k_h58F G h0 f0 ((fb.tr (mn f3)).tr fv) t5
      · skip
        exact absurd (by decide +kernel) c_14

