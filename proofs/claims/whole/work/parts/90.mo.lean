/-! ===== the model: a type is told anew ===== -/
theorem enc_cases {i : Nat} (hi : i < 26) : i = 0 ∨ i = 1 ∨ ∃ k, k < 8 ∧ (i = 2 + 3 * k ∨ i = 2 + 3 * k + 1 ∨ i = 2 + 3 * k + 2) := by
  by_cases h0 : i = 0
  · exact Or.inl h0
  by_cases h1 : i = 1
  · exact Or.inr (Or.inl h1)
  exact Or.inr (Or.inr ⟨(i - 2) / 3, by omega, by omega⟩)
theorem RowAt.of {M : mx_M} {a : Nat} {hs : Hs} (h0 : M a 0 = nI hs.1) (h1 : M a 1 = nI hs.2.1) (h2 : ∀ k, k < 8 → M a (2 + 3 * k) = nI (Sf hs k) ∧ M a (2 + 3 * k + 1) = nI (Af hs k) ∧ M a (2 + 3 * k + 2) = nI (Bf hs k)) : RowAt M a 0 hs := by
  intro i hi
  rw [Nat.zero_add]
  rcases enc_cases hi with rfl | rfl | ⟨k, hk, rfl | rfl | rfl⟩
  · exact h0
  · exact h1
  · rw [enc_S]; exact (h2 k hk).1
  · rw [enc_A]; exact (h2 k hk).2.1
  · rw [enc_B]; exact (h2 k hk).2.2
theorem RowAt.tell {M : mx_M} {a j s x y : Nat} {hs : Hs} (h : RowAt M a 0 hs) : RowAt (mx_wr (mx_wr (mx_wr M a (2 + 3 * j) (nI s)) a (2 + 3 * j + 1) (nI x)) a (2 + 3 * j + 2) (nI y)) a 0 (hsTell hs j s x y) := by
  have e : ∀ i, (mx_wr (mx_wr (mx_wr M a (2 + 3 * j) (nI s)) a (2 + 3 * j + 1) (nI x)) a (2 + 3 * j + 2) (nI y)) a i = upd (upd (upd (M a) (2 + 3 * j) (nI s)) (2 + 3 * j + 1) (nI x)) (2 + 3 * j + 2) (nI y) i := fun i => by rw [mx_wr_s, mx_wr_s, mx_wr_s]
  refine RowAt.of ?_ ?_ (fun k hk => ?_)
  · rw [e, pk_un (by omega), pk_un (by omega), pk_un (by omega)]; exact h.n
  · rw [e, pk_un (by omega), pk_un (by omega), pk_un (by omega)]; exact h.c
  · show _ = nI (updN hs.2.2.1 j s k) ∧ _ = nI (updN hs.2.2.2.1 j x k) ∧ _ = nI (updN hs.2.2.2.2 j y k)
    rw [e, e, e]
    by_cases hx : k = j
    · subst hx
      rw [updN_s, updN_s, updN_s]
      refine ⟨?_, ?_, ?_⟩
      · rw [pk_un (by omega), pk_un (by omega), pk_us]
      · rw [pk_un (by omega), pk_us]
      · rw [pk_us]
    · rw [updN_n _ _ hx, updN_n _ _ hx, updN_n _ _ hx]
      refine ⟨?_, ?_, ?_⟩
      · rw [pk_un (by omega), pk_un (by omega), pk_un (by omega)]; exact h.S hk
      · rw [pk_un (by omega), pk_un (by omega), pk_un (by omega)]; exact h.A hk
      · rw [pk_un (by omega), pk_un (by omega), pk_un (by omega)]; exact h.B hk
/-- the houses that are kept, from row o on -/
def KpAt (M : mx_M) (A : List Hs) (d : Hs) : Prop := ∀ i, i < A.length → RowAt M 126 (26 * i) (A.getD i d)
theorem k_keep49 (G : mx_G) {M : mx_M} {hs : Hs} {A : List Hs} {d : Hs} {v : Option Value} (hR : RowAt M 123 0 hs) (hn : M 119 9 = nI A.length) (hl : A.length < 24) (hA : KpAt M A d) :
  sW G m_Mo_keep 49 ([], [some (.ref 119), none], M) (fun r M' => r = none ∧ MFr M M' [126] [9] ∧ M' 119 9 = nI (A ++ [hs]).length ∧ KpAt M' (A ++ [hs]) d) := by
  refine sW_go b_Mo_keep_49 (st' := ([], [some (.ref 119), some (.int (nI 0))], M)) (φ := True) rfl trivial ?_
  refine mx_ind (α := Nat × mx_M) (fun q => 26 - q.1) (fun q => q.1 ≤ 26 → CpI M q.2 123 0 126 (26 * A.length) q.1 → sW G m_Mo_keep 51 ([], [some (.ref 119), some (.int (nI q.1))], q.2) _) ?_ (0, M) (Nat.zero_le _) CpI.z
  rintro ⟨q, M2⟩ ih hq i1
  dsimp only at ih hq i1 ⊢
  have b2 : M2 119 9 = nI A.length := by rw [i1.1 119 (by decide)]; exact hn
  by_cases hqn : q < 26
  · have er : M2 123 q = M 123 (0 + q) := by rw [i1.1 123 (by decide), Nat.zero_add]
    refine sW_go b_Mo_keep_51 (st' := ([.int (nI 26), .int (nI q)], [some (.ref 119), some (.int (nI q))], M2)) (φ := True) rfl trivial ?_
    refine sW_ic_ge 83 d_Mo_keep_54 (by decide) (fun c_54 => ?_) (fun c_54 => ?_)
    · skip
      simp (disch := omega) only [nI_leI] at c_54
      omega
    · skip
      simp (disch := omega) only [nI_leI] at c_54
      refine sW_go b_Mo_keep_57 (st' := ([], [some (.ref 119), some (.int (nI q + nI 1))], mx_wr M2 126 ((nI 26 * M2 119 9) + nI q).toNatClampNeg (M2 123 (nI q).toNatClampNeg))) (φ := mx_ocl LAY 119 = 10 ∧ mx_ocl LAY 119 = 10 ∧ mx_ocl LAY 119 = 10 ∧ vp_in (nI q) (mx_len LAY false 123) ∧ vp_in ((nI 26 * M2 119 9) + nI q) (mx_len LAY false 126) ∧ True) rfl ⟨oc_119, oc_119, oc_119, (by simp (disch := omega) only [ln_123]; exact vp_in_nI (by omega) (by decide)), (by simp (disch := omega) only [b2, nI_add, pk_mul, ln_126]; exact vp_in_nI (by omega) (by decide)), trivial⟩ ?_
      refine sW_eq (st' := ([], [some (.ref 119), some (.int (nI (q + 1)))], mx_wr M2 126 (26 * A.length + q) (M 123 (0 + q)))) (by simp (disch := omega) only [b2, er, nI_add, nI_clamp, pk_mul]) ?_
      refine sW_goto 51 d_Mo_keep_80 (by decide) ?_
      exact ih (q + 1, (mx_wr M2 126 (26 * A.length + q) (M 123 (0 + q)))) (by dsimp only; omega) (by dsimp only; omega) (i1.s hqn)
  · obtain rfl : q = 26 := by omega
    refine sW_go b_Mo_keep_51 (st' := ([.int (nI 26), .int (nI 26)], [some (.ref 119), some (.int (nI 26))], M2)) (φ := True) rfl trivial ?_
    refine sW_ic_ge 83 d_Mo_keep_54 (by decide) (fun c_54 => ?_) (fun c_54 => ?_)
    · skip
      simp (disch := omega) only [nI_leI] at c_54
      refine sW_go b_Mo_keep_83 (st' := ([], [some (.ref 119), some (.int (nI 26))], mx_wr M2 119 9 (M2 119 9 + nI 1))) (φ := mx_ocl LAY 119 = 10 ∧ mx_ocl LAY 119 = 10 ∧ True) rfl ⟨oc_119, oc_119, trivial⟩ ?_
      refine sW_eq (st' := ([], [some (.ref 119), some (.int (nI 26))], mx_wr M2 119 9 (nI (A.length + 1)))) (by simp (disch := omega) only [b2, nI_add]) ?_
      refine sW_retV d_Mo_keep_93 rfl ?_
      have hlen : (A ++ [hs]).length = A.length + 1 := by rw [List.length_append]; rfl
      refine ⟨rfl, (i1.fr (by decide) (by decide)).wo (by decide), by rw [mx_wr_s, pk_us, hlen], fun i hi => ?_⟩
      refine RowAt.eq (M := M2) ?_ (mx_wr_n _ _ _ (by decide))
      by_cases hx : i = A.length
      · rw [hx, hsD_r]; exact i1.row hR
      · have hi' : i < A.length := by omega
        rw [hsD_l hi' d d]
        exact RowAt.out i1 (hA i hi') (by omega)
    · skip
      exact absurd (by decide +kernel) c_54
theorem k_mkeep (G : mx_G) {M : mx_M} {hs : Hs} {A : List Hs} {d : Hs} (hR : RowAt M 123 0 hs) (hn : M 119 9 = nI A.length) (hl : A.length ≤ 24) (hA : KpAt M A d) :
  sOk G m_Mo_keep [.ref 119] M (fun r M' => r = none ∧ MFr M M' [126] [9] ∧ M' 119 9 = nI (anewA A hs).length ∧ KpAt M' (anewA A hs) d) := by
  refine sOk_of ⟨by decide +kernel, by decide +kernel, Nat.le_of_ble_eq_true rfl⟩ ?_
  show sW G m_Mo_keep 0 ([], [some (.ref 119), none], M) _
  refine sW_go b_Mo_keep_0 (st' := ([.int (nI 24), .int (M 119 9)], [some (.ref 119), none], M)) (φ := mx_ocl LAY 119 = 10 ∧ True) rfl ⟨oc_119, trivial⟩ ?_
  refine sW_eq (st' := ([.int (nI 24), .int (nI A.length)], [some (.ref 119), none], M)) (by simp (disch := omega) only [hn]) ?_
  refine sW_ic_ne 49 d_Mo_keep_6 (by decide) (fun c_6 => ?_) (fun c_6 => ?_)
  · skip
    simp (disch := omega) only [nI_eq] at c_6
    have e : anewA A hs = A ++ [hs] := by unfold anewA; rw [if_neg c_6]
    rw [e]
    exact k_keep49 G (v := none) hR hn (by omega) hA
  · skip
    simp (disch := omega) only [nI_eq] at c_6
    refine sW_go b_Mo_keep_9 (st' := ([], [some (.ref 119), some (.int (nI 0))], M)) (φ := True) rfl trivial ?_
    have hd : (A.drop 1).length = 23 := by rw [List.length_drop]; omega
    have e : anewA A hs = A.drop 1 ++ [hs] := by unfold anewA; rw [if_pos c_6]
    rw [e]
    refine mx_ind (α := Nat × mx_M) (fun q => 598 - q.1) (fun q => q.1 ≤ 598 → (∀ a, a ≠ 126 → q.2 a = M a) → (∀ i, i < q.1 → q.2 126 i = M 126 (i + 26)) → (∀ i, q.1 ≤ i → q.2 126 i = M 126 i) → sW G m_Mo_keep 11 ([], [some (.ref 119), some (.int (nI q.1))], q.2) _) ?_ (0, M) (Nat.zero_le _) (fun _ _ => rfl) (fun i hi => absurd hi (Nat.not_lt_zero i)) (fun _ _ => rfl)
    rintro ⟨q, M2⟩ ih hq i1 i2 i3
    dsimp only at ih hq i1 i2 i3 ⊢
    by_cases hqn : q < 598
    · have er : M2 126 (q + 26) = M 126 (q + 26) := i3 _ (by omega)
      refine sW_go b_Mo_keep_11 (st' := ([.int (nI 598), .int (nI q)], [some (.ref 119), some (.int (nI q))], M2)) (φ := True) rfl trivial ?_
      refine sW_ic_ge 39 d_Mo_keep_15 (by decide) (fun c_15 => ?_) (fun c_15 => ?_)
      · skip
        simp (disch := omega) only [nI_leI] at c_15
        omega
      · skip
        simp (disch := omega) only [nI_leI] at c_15
        refine sW_go b_Mo_keep_18 (st' := ([], [some (.ref 119), some (.int (nI q + nI 1))], mx_wr M2 126 (nI q).toNatClampNeg (M2 126 (nI q + nI 26).toNatClampNeg))) (φ := mx_ocl LAY 119 = 10 ∧ mx_ocl LAY 119 = 10 ∧ vp_in (nI q + nI 26) (mx_len LAY false 126) ∧ vp_in (nI q) (mx_len LAY false 126) ∧ True) rfl ⟨oc_119, oc_119, (by simp (disch := omega) only [nI_add, ln_126]; exact vp_in_nI (by omega) (by decide)), (by simp (disch := omega) only [ln_126]; exact vp_in_nI (by omega) (by decide)), trivial⟩ ?_
        refine sW_eq (st' := ([], [some (.ref 119), some (.int (nI (q + 1)))], mx_wr M2 126 q (M 126 (q + 26)))) (by simp (disch := omega) only [er, nI_add, nI_clamp]) ?_
        refine sW_goto 11 d_Mo_keep_36 (by decide) ?_
        refine ih (q + 1, (mx_wr M2 126 q (M 126 (q + 26)))) (by dsimp only; omega) (by dsimp only; omega) (fun a ha => ?_) (fun i hi => ?_) (fun i hi => ?_)
        · dsimp only
          rw [mx_wr_n _ _ _ ha]; exact i1 a ha
        · dsimp only at hi ⊢
          rw [mx_wr_s]
          by_cases hx : i = q
          · rw [hx, pk_us]
          · rw [pk_un hx]; exact i2 i (by omega)
        · dsimp only at hi ⊢
          rw [mx_wr_s, pk_un (by omega)]; exact i3 i (by omega)
    · obtain rfl : q = 598 := by omega
      have b2 : M2 119 9 = nI (23 + 1) := by rw [i1 119 (by decide), hn, c_6]
      have s1 := sub_1 23
      obtain ⟨M3, e3⟩ : ∃ M3, mx_wr M2 119 9 (nI 23) = M3 := ⟨_, rfl⟩
      refine sW_go b_Mo_keep_11 (st' := ([.int (nI 598), .int (nI 598)], [some (.ref 119), some (.int (nI 598))], M2)) (φ := True) rfl trivial ?_
      refine sW_ic_ge 39 d_Mo_keep_15 (by decide) (fun c_15 => ?_) (fun c_15 => ?_)
      · skip
        simp (disch := omega) only [nI_leI] at c_15
        refine sW_go b_Mo_keep_39 (st' := ([], [some (.ref 119), some (.int (nI 598))], mx_wr M2 119 9 (M2 119 9 - nI 1))) (φ := mx_ocl LAY 119 = 10 ∧ mx_ocl LAY 119 = 10 ∧ True) rfl ⟨oc_119, oc_119, trivial⟩ ?_
        refine sW_eq (st' := ([], [some (.ref 119), some (.int (nI 598))], M3)) (by simp (disch := omega) only [b2, e3, s1]) ?_
        refine sW_fg [false, true] ?_
        show sW G m_Mo_keep 49 ([], [some (.ref 119), none], M3) _
        have f3 : MFr M M3 [126] [9] := by rw [← e3]; exact (MFr.one i1 (by decide) (by decide)).wo (by decide)
        have h9 : M3 119 9 = nI (A.drop 1).length := by rw [← e3, mx_wr_s, pk_us, hd]
        have e126 : M3 126 = M2 126 := by rw [← e3]; exact mx_wr_n _ _ _ (by decide)
        have hK : KpAt M3 (A.drop 1) d := fun i hi => by
          have hr := hA (i + 1) (by omega)
          have eg : (A.drop 1).getD i d = A.getD (i + 1) d := by
            rw [List.getD_eq_getElem?_getD, List.getD_eq_getElem?_getD, List.getElem?_drop, Nat.add_comm 1 i]
          rw [eg]
          intro j hj
          rw [e126, i2 _ (by omega)]
          have := hr j hj
          rw [show 26 * (i + 1) + j = 26 * i + j + 26 by omega] at this
          exact this
        refine sW_mono (k_keep49 G (v := none) (hR.eq (f3.1 _ (by decide) (by decide))) h9 (by omega) hK) ?_
        rintro r M' ⟨x1, x2, x3, x4⟩
        exact ⟨x1, f3.tr x2, x3, x4⟩
      · skip
        exact absurd (by decide +kernel) c_15
theorem mo_anew (G : mx_G) {M : mx_M} {σ : Sg} (h : MInv M σ) (hg : GOk σ) (t s a b : Int32) : sOk G m_Mo_anew [.ref 119, .int t, .int s, .int a, .int b] M (MOk M (sp_anew σ t s a b)) := by
  obtain ⟨M0, e0, h0, f0, g0⟩ := h.th
  obtain ⟨a1, a2, a3, a4⟩ := h0.2.2.1
  have hR : RowAt M0 123 0 (gH σ) := a1
  have h8 := hg.1.1.1
  by_cases hm : mayP (gH σ).1 t s a b
  · obtain ⟨t', s', a', b', rfl, rfl, rfl, rfl, ht, hs, ha, hb⟩ := may_nat h8 hm
    have ct : ∀ {x : Nat}, x < 8 → tn (nI x) = x := fun hx => nI_clamp (by omega)
    have e : sp_anew σ (nI t') (nI s') (nI a') (nI b') = (nI (Sf (gH σ) t'), wH σ (hsTell (gH σ) t' s' a' b', anewA (gA σ) (gH σ))) := by
      unfold sp_anew
      rw [cif_t hm, ct (by omega), ct (by omega), ct (by omega), ct (by omega)]
    rw [e]
    have vt : vp_in (nI t') (gH σ).1 := vp_in_nI ht (by omega)
    have vs : vp_in (nI s') 6 := vp_in_nI hs (by decide)
    have er := hR.n
    refine sOk_of ⟨by decide +kernel, by decide +kernel, Nat.le_of_ble_eq_true rfl⟩ ?_
    show sW G m_Mo_anew 0 ([], [some (.ref 119), some (.int (nI t')), some (.int (nI s')), some (.int (nI a')), some (.int (nI b')), none, none], M) _
    refine sW_go b_Mo_anew_0 (st' := ([.int (nI t'), .ref 119], [some (.ref 119), some (.int (nI t')), some (.int (nI s')), some (.int (nI a')), some (.int (nI b')), none, none], mx_wr M 119 0 (nI 0))) (φ := mx_ocl LAY 119 = 10 ∧ True) rfl ⟨oc_119, trivial⟩ ?_
    refine sW_eq (st' := ([.int (nI t'), .ref 119], [some (.ref 119), some (.int (nI t')), some (.int (nI s')), some (.int (nI a')), some (.int (nI b')), none, none], M0)) (by simp (disch := omega) only [e0]) ?_
    refine sW_callV 10 [.int (nI t')] [] d_Mo_anew_7 c_Mo_anew_7 ⟨rfl, rfl, rfl, Nat.le_of_ble_eq_true rfl, rfl, rfl⟩ oc_119 (k_isType G hR h8 (nI t')) ?_
    rintro _ M₁ ⟨rfl, h₁⟩
    rw [h₁]
    show sW G m_Mo_anew 10 ([.int (tf (vp_in (nI t') (gH σ).1))], [some (.ref 119), some (.int (nI t')), some (.int (nI s')), some (.int (nI a')), some (.int (nI b')), none, none], M0) _
    refine sW_if_eq 42 d_Mo_anew_10 (by decide) (fun c_10 => ?_) (fun c_10 => ?_)
    · skip
      replace c_10 := tf_z.mp c_10
      refine sW_go b_Mo_anew_42 (st' := ([.int (-1000001)], [some (.ref 119), some (.int (nI t')), some (.int (nI s')), some (.int (nI a')), some (.int (nI b')), none, none], M0)) (φ := True) rfl trivial ?_
      refine sW_retI d_Mo_anew_44 rfl (vp_nar_int _) ?_
      exact absurd vt c_10
    · skip
      replace c_10 := tf_nz.mp c_10
      refine sW_go b_Mo_anew_13 (st' := ([.long (lN 5), .long (lN 0), .long (nI s').toInt64], [some (.ref 119), some (.int (nI t')), some (.int (nI s')), some (.int (nI a')), some (.int (nI b')), none, none], M0)) (φ := True) rfl trivial ?_
      refine sW_callS [.long (nI s').toInt64, .long (lN 0), .long (lN 5)] [] d_Mo_anew_19 c_Mo_anew_19 ⟨rfl, rfl, Nat.le_of_ble_eq_true rfl, rfl, rfl⟩ (k_in0 G (nI s') 5 (by decide)) ?_
      rintro _ M₁ ⟨rfl, h₁⟩
      rw [h₁]
      show sW G m_Mo_anew 22 ([.int (tf (vp_in (nI s') 6))], [some (.ref 119), some (.int (nI t')), some (.int (nI s')), some (.int (nI a')), some (.int (nI b')), none, none], M0) _
      refine sW_if_eq 42 d_Mo_anew_22 (by decide) (fun c_22 => ?_) (fun c_22 => ?_)
      · skip
        replace c_22 := tf_z.mp c_22
        refine sW_go b_Mo_anew_42 (st' := ([.int (-1000001)], [some (.ref 119), some (.int (nI t')), some (.int (nI s')), some (.int (nI a')), some (.int (nI b')), none, none], M0)) (φ := True) rfl trivial ?_
        refine sW_retI d_Mo_anew_44 rfl (vp_nar_int _) ?_
        exact absurd vs c_22
      · skip
        replace c_22 := tf_nz.mp c_22
        refine sW_go b_Mo_anew_25 (st' := ([.int (nI b'), .int (nI a'), .int (nI s'), .int (nI t'), .int (M0 123 (nI 0).toNatClampNeg)], [some (.ref 119), some (.int (nI t')), some (.int (nI s')), some (.int (nI a')), some (.int (nI b')), none, none], M0)) (φ := mx_ocl LAY 119 = 10 ∧ vp_in (nI 0) (mx_len LAY false 123) ∧ True) rfl ⟨oc_119, (by simp (disch := omega) only [ln_123]; exact vp_in_nI (by omega) (by decide)), trivial⟩ ?_
        refine sW_eq (st' := ([.int (nI b'), .int (nI a'), .int (nI s'), .int (nI t'), .int (nI (gH σ).1)], [some (.ref 119), some (.int (nI t')), some (.int (nI s')), some (.int (nI a')), some (.int (nI b')), none, none], M0)) (by simp (disch := omega) only [er, nI_clamp]) ?_
        refine sW_callS [.int (nI (gH σ).1), .int (nI t'), .int (nI s'), .int (nI a'), .int (nI b')] [] d_Mo_anew_36 c_Mo_anew_36 ⟨rfl, rfl, Nat.le_of_ble_eq_true rfl, rfl, rfl⟩ (k_may G ht h8 hs (nI a') (nI b')) ?_
        rintro _ M₁ ⟨rfl, h₁⟩
        rw [h₁]
        show sW G m_Mo_anew 39 ([.int (tf (mayP (gH σ).1 (nI t') (nI s') (nI a') (nI b')))], [some (.ref 119), some (.int (nI t')), some (.int (nI s')), some (.int (nI a')), some (.int (nI b')), none, none], M0) _
        refine sW_if_ne 45 d_Mo_anew_39 (by decide) (fun c_39 => ?_) (fun c_39 => ?_)
        · skip
          replace c_39 := tf_nz.mp c_39
          refine sW_go b_Mo_anew_45 (st' := ([.ref 119], [some (.ref 119), some (.int (nI t')), some (.int (nI s')), some (.int (nI a')), some (.int (nI b')), none, none], M0)) (φ := True) rfl trivial ?_
          refine sW_callV 10 [] [] d_Mo_anew_46 c_Mo_anew_46 ⟨rfl, rfl, rfl, Nat.le_of_ble_eq_true rfl, rfl, rfl⟩ oc_119 (k_mkeep G hR a2 a3 a4) ?_
          rintro _ M2 ⟨rfl, f2, n2, k2⟩
          have r2 : RowAt M2 123 0 (gH σ) := hR.eq (f2.1 _ (by decide) (by decide))
          have er2 := r2.S (k := t') (by omega)
          show sW G m_Mo_anew 49 ([], [some (.ref 119), some (.int (nI t')), some (.int (nI s')), some (.int (nI a')), some (.int (nI b')), none, none], M2) _
          refine sW_go b_Mo_anew_49 (st' := ([.int (M2 123 (nI 2 + (nI 3 * nI t')).toNatClampNeg)], [some (.ref 119), some (.int (nI t')), some (.int (nI s')), some (.int (nI a')), some (.int (nI b')), some (.int (nI 2 + (nI 3 * nI t'))), some (.int (M2 123 (nI 2 + (nI 3 * nI t')).toNatClampNeg))], mx_wr (mx_wr (mx_wr M2 123 (nI 2 + (nI 3 * nI t')).toNatClampNeg (nI s')) 123 ((nI 2 + (nI 3 * nI t')) + nI 1).toNatClampNeg (nI a')) 123 ((nI 2 + (nI 3 * nI t')) + nI 2).toNatClampNeg (nI b'))) (φ := mx_ocl LAY 119 = 10 ∧ vp_in (nI 2 + (nI 3 * nI t')) (mx_len LAY false 123) ∧ mx_ocl LAY 119 = 10 ∧ vp_in (nI 2 + (nI 3 * nI t')) (mx_len LAY false 123) ∧ mx_ocl LAY 119 = 10 ∧ vp_in ((nI 2 + (nI 3 * nI t')) + nI 1) (mx_len LAY false 123) ∧ mx_ocl LAY 119 = 10 ∧ vp_in ((nI 2 + (nI 3 * nI t')) + nI 2) (mx_len LAY false 123) ∧ True) rfl ⟨oc_119, (by simp (disch := omega) only [nI_add, pk_mul, ln_123]; exact vp_in_nI (by omega) (by decide)), oc_119, (by simp (disch := omega) only [nI_add, pk_mul, ln_123]; exact vp_in_nI (by omega) (by decide)), oc_119, (by simp (disch := omega) only [nI_add, pk_mul, ln_123]; exact vp_in_nI (by omega) (by decide)), oc_119, (by simp (disch := omega) only [nI_add, pk_mul, ln_123]; exact vp_in_nI (by omega) (by decide)), trivial⟩ ?_
          refine sW_eq (st' := ([.int (nI (Sf (gH σ) t'))], [some (.ref 119), some (.int (nI t')), some (.int (nI s')), some (.int (nI a')), some (.int (nI b')), some (.int (nI (2 + 3 * t'))), some (.int (nI (Sf (gH σ) t')))], mx_wr (mx_wr (mx_wr M2 123 (2 + 3 * t') (nI s')) 123 (2 + 3 * t' + 1) (nI a')) 123 (2 + 3 * t' + 2) (nI b'))) (by simp (disch := omega) only [er2, nI_add, nI_clamp, pk_mul]) ?_
          refine sW_retI d_Mo_anew_96 rfl (vp_nar_int _) ?_
          obtain ⟨M3, e3⟩ : ∃ M3, M3 = (mx_wr (mx_wr (mx_wr M2 123 (2 + 3 * t') (nI s')) 123 (2 + 3 * t' + 1) (nI a')) 123 (2 + 3 * t' + 2) (nI b')) := ⟨_, rfl⟩
          rw [← e3]
          have r3 : RowAt M3 123 0 (hsTell (gH σ) t' s' a' b') := by rw [e3]; exact r2.tell
          have fa : MFr M0 M3 [123, 126] [0, 9] := by rw [e3]; exact (((f2.mono (by decide) (by decide)).wr (by decide) (by decide)).wr (by decide) (by decide)).wr (by decide) (by decide)
          have e9 : M3 119 = M2 119 := by rw [e3, mx_wr_n _ _ _ (by decide), mx_wr_n _ _ _ (by decide), mx_wr_n _ _ _ (by decide)]
          have e126 : M3 126 = M2 126 := by rw [e3, mx_wr_n _ _ _ (by decide), mx_wr_n _ _ _ (by decide), mx_wr_n _ _ _ (by decide)]
          have hlen : (anewA (gA σ) (gH σ)).length ≤ 24 := by
            have a3 : (gA σ).length ≤ 24 := a3
            unfold anewA
            rw [List.length_append]
            show _ + 1 ≤ 24
            split
            · rw [List.length_drop]; omega
            · omega
          refine ⟨rfl, f0.tr (fa.fr (by decide)), h0.house fa ⟨r3, by rw [e9]; exact n2, hlen, fun i hi => ?_⟩⟩
          have hi : i < (anewA (gA σ) (gH σ)).length := hi
          have hk := k2 i hi
          rw [List.getD_eq_getElem?_getD, List.getElem?_eq_getElem hi] at hk ⊢
          exact hk.eq e126
        · skip
          replace c_39 := tf_z.mp c_39
          refine sW_go b_Mo_anew_42 (st' := ([.int (-1000001)], [some (.ref 119), some (.int (nI t')), some (.int (nI s')), some (.int (nI a')), some (.int (nI b')), none, none], M0)) (φ := True) rfl trivial ?_
          refine sW_retI d_Mo_anew_44 rfl (vp_nar_int _) ?_
          exact absurd hm c_39
  · have e : sp_anew σ t s a b = ((-1000001), σ) := by unfold sp_anew; rw [cif_f hm]
    rw [e]
    by_cases hq : vp_in t (gH σ).1 ∧ vp_in s 6
    · obtain ⟨vt, vs⟩ := hq
      obtain ⟨t', ht, rfl⟩ := vp_in_of vt (by omega)
      obtain ⟨s', hs, rfl⟩ := vp_in_of vs (by decide)
      have er := hR.n
      refine sOk_of ⟨by decide +kernel, by decide +kernel, Nat.le_of_ble_eq_true rfl⟩ ?_
      show sW G m_Mo_anew 0 ([], [some (.ref 119), some (.int (nI t')), some (.int (nI s')), some (.int a), some (.int b), none, none], M) _
      refine sW_go b_Mo_anew_0 (st' := ([.int (nI t'), .ref 119], [some (.ref 119), some (.int (nI t')), some (.int (nI s')), some (.int a), some (.int b), none, none], mx_wr M 119 0 (nI 0))) (φ := mx_ocl LAY 119 = 10 ∧ True) rfl ⟨oc_119, trivial⟩ ?_
      refine sW_eq (st' := ([.int (nI t'), .ref 119], [some (.ref 119), some (.int (nI t')), some (.int (nI s')), some (.int a), some (.int b), none, none], M0)) (by simp (disch := omega) only [e0]) ?_
      refine sW_callV 10 [.int (nI t')] [] d_Mo_anew_7 c_Mo_anew_7 ⟨rfl, rfl, rfl, Nat.le_of_ble_eq_true rfl, rfl, rfl⟩ oc_119 (k_isType G hR h8 (nI t')) ?_
      rintro _ M₁ ⟨rfl, h₁⟩
      rw [h₁]
      show sW G m_Mo_anew 10 ([.int (tf (vp_in (nI t') (gH σ).1))], [some (.ref 119), some (.int (nI t')), some (.int (nI s')), some (.int a), some (.int b), none, none], M0) _
      refine sW_if_eq 42 d_Mo_anew_10 (by decide) (fun c_10 => ?_) (fun c_10 => ?_)
      · skip
        replace c_10 := tf_z.mp c_10
        refine sW_go b_Mo_anew_42 (st' := ([.int (-1000001)], [some (.ref 119), some (.int (nI t')), some (.int (nI s')), some (.int a), some (.int b), none, none], M0)) (φ := True) rfl trivial ?_
        refine sW_retI d_Mo_anew_44 rfl (vp_nar_int _) ?_
        exact ⟨rfl, f0, h0⟩
      · skip
        replace c_10 := tf_nz.mp c_10
        refine sW_go b_Mo_anew_13 (st' := ([.long (lN 5), .long (lN 0), .long (nI s').toInt64], [some (.ref 119), some (.int (nI t')), some (.int (nI s')), some (.int a), some (.int b), none, none], M0)) (φ := True) rfl trivial ?_
        refine sW_callS [.long (nI s').toInt64, .long (lN 0), .long (lN 5)] [] d_Mo_anew_19 c_Mo_anew_19 ⟨rfl, rfl, Nat.le_of_ble_eq_true rfl, rfl, rfl⟩ (k_in0 G (nI s') 5 (by decide)) ?_
        rintro _ M₁ ⟨rfl, h₁⟩
        rw [h₁]
        show sW G m_Mo_anew 22 ([.int (tf (vp_in (nI s') 6))], [some (.ref 119), some (.int (nI t')), some (.int (nI s')), some (.int a), some (.int b), none, none], M0) _
        refine sW_if_eq 42 d_Mo_anew_22 (by decide) (fun c_22 => ?_) (fun c_22 => ?_)
        · skip
          replace c_22 := tf_z.mp c_22
          refine sW_go b_Mo_anew_42 (st' := ([.int (-1000001)], [some (.ref 119), some (.int (nI t')), some (.int (nI s')), some (.int a), some (.int b), none, none], M0)) (φ := True) rfl trivial ?_
          refine sW_retI d_Mo_anew_44 rfl (vp_nar_int _) ?_
          exact ⟨rfl, f0, h0⟩
        · skip
          replace c_22 := tf_nz.mp c_22
          refine sW_go b_Mo_anew_25 (st' := ([.int b, .int a, .int (nI s'), .int (nI t'), .int (M0 123 (nI 0).toNatClampNeg)], [some (.ref 119), some (.int (nI t')), some (.int (nI s')), some (.int a), some (.int b), none, none], M0)) (φ := mx_ocl LAY 119 = 10 ∧ vp_in (nI 0) (mx_len LAY false 123) ∧ True) rfl ⟨oc_119, (by simp (disch := omega) only [ln_123]; exact vp_in_nI (by omega) (by decide)), trivial⟩ ?_
          refine sW_eq (st' := ([.int b, .int a, .int (nI s'), .int (nI t'), .int (nI (gH σ).1)], [some (.ref 119), some (.int (nI t')), some (.int (nI s')), some (.int a), some (.int b), none, none], M0)) (by simp (disch := omega) only [er, nI_clamp]) ?_
          refine sW_callS [.int (nI (gH σ).1), .int (nI t'), .int (nI s'), .int a, .int b] [] d_Mo_anew_36 c_Mo_anew_36 ⟨rfl, rfl, Nat.le_of_ble_eq_true rfl, rfl, rfl⟩ (k_may G ht h8 hs a b) ?_
          rintro _ M₁ ⟨rfl, h₁⟩
          rw [h₁]
          show sW G m_Mo_anew 39 ([.int (tf (mayP (gH σ).1 (nI t') (nI s') a b))], [some (.ref 119), some (.int (nI t')), some (.int (nI s')), some (.int a), some (.int b), none, none], M0) _
          refine sW_if_ne 45 d_Mo_anew_39 (by decide) (fun c_39 => ?_) (fun c_39 => ?_)
          · skip
            replace c_39 := tf_nz.mp c_39
            exact absurd c_39 hm
          · skip
            replace c_39 := tf_z.mp c_39
            refine sW_go b_Mo_anew_42 (st' := ([.int (-1000001)], [some (.ref 119), some (.int (nI t')), some (.int (nI s')), some (.int a), some (.int b), none, none], M0)) (φ := True) rfl trivial ?_
            refine sW_retI d_Mo_anew_44 rfl (vp_nar_int _) ?_
            exact ⟨rfl, f0, h0⟩
    · skip
      refine sOk_of ⟨by decide +kernel, by decide +kernel, Nat.le_of_ble_eq_true rfl⟩ ?_
      show sW G m_Mo_anew 0 ([], [some (.ref 119), some (.int t), some (.int s), some (.int a), some (.int b), none, none], M) _
      refine sW_go b_Mo_anew_0 (st' := ([.int t, .ref 119], [some (.ref 119), some (.int t), some (.int s), some (.int a), some (.int b), none, none], mx_wr M 119 0 (nI 0))) (φ := mx_ocl LAY 119 = 10 ∧ True) rfl ⟨oc_119, trivial⟩ ?_
      refine sW_eq (st' := ([.int t, .ref 119], [some (.ref 119), some (.int t), some (.int s), some (.int a), some (.int b), none, none], M0)) (by simp (disch := omega) only [e0]) ?_
      refine sW_callV 10 [.int t] [] d_Mo_anew_7 c_Mo_anew_7 ⟨rfl, rfl, rfl, Nat.le_of_ble_eq_true rfl, rfl, rfl⟩ oc_119 (k_isType G hR h8 t) ?_
      rintro _ M₁ ⟨rfl, h₁⟩
      rw [h₁]
      show sW G m_Mo_anew 10 ([.int (tf (vp_in t (gH σ).1))], [some (.ref 119), some (.int t), some (.int s), some (.int a), some (.int b), none, none], M0) _
      refine sW_if_eq 42 d_Mo_anew_10 (by decide) (fun c_10 => ?_) (fun c_10 => ?_)
      · skip
        replace c_10 := tf_z.mp c_10
        refine sW_go b_Mo_anew_42 (st' := ([.int (-1000001)], [some (.ref 119), some (.int t), some (.int s), some (.int a), some (.int b), none, none], M0)) (φ := True) rfl trivial ?_
        refine sW_retI d_Mo_anew_44 rfl (vp_nar_int _) ?_
        exact ⟨rfl, f0, h0⟩
      · skip
        replace c_10 := tf_nz.mp c_10
        refine sW_go b_Mo_anew_13 (st' := ([.long (lN 5), .long (lN 0), .long s.toInt64], [some (.ref 119), some (.int t), some (.int s), some (.int a), some (.int b), none, none], M0)) (φ := True) rfl trivial ?_
        refine sW_callS [.long s.toInt64, .long (lN 0), .long (lN 5)] [] d_Mo_anew_19 c_Mo_anew_19 ⟨rfl, rfl, Nat.le_of_ble_eq_true rfl, rfl, rfl⟩ (k_in0 G s 5 (by decide)) ?_
        rintro _ M₁ ⟨rfl, h₁⟩
        rw [h₁]
        show sW G m_Mo_anew 22 ([.int (tf (vp_in s 6))], [some (.ref 119), some (.int t), some (.int s), some (.int a), some (.int b), none, none], M0) _
        refine sW_if_eq 42 d_Mo_anew_22 (by decide) (fun c_22 => ?_) (fun c_22 => ?_)
        · skip
          replace c_22 := tf_z.mp c_22
          refine sW_go b_Mo_anew_42 (st' := ([.int (-1000001)], [some (.ref 119), some (.int t), some (.int s), some (.int a), some (.int b), none, none], M0)) (φ := True) rfl trivial ?_
          refine sW_retI d_Mo_anew_44 rfl (vp_nar_int _) ?_
          exact ⟨rfl, f0, h0⟩
        · skip
          replace c_22 := tf_nz.mp c_22
          exact absurd ⟨c_10, c_22⟩ hq
theorem k_layThen (G : mx_G) {M : mx_M} {hs : Hs} (hR : RowAt M 123 0 hs) : sOk G m_Mo_layThen [.ref 119] M (fun r M' => r = none ∧ MFr M M' [125] [] ∧ RowAt M' 125 0 hs) := by
  refine sOk_of ⟨by decide +kernel, by decide +kernel, Nat.le_of_ble_eq_true rfl⟩ ?_
  show sW G m_Mo_layThen 0 ([], [some (.ref 119), none], M) _
  refine sW_go b_Mo_layThen_0 (st' := ([], [some (.ref 119), some (.int (nI 0))], M)) (φ := True) rfl trivial ?_
  refine mx_ind (α := Nat × mx_M) (fun q => 26 - q.1) (fun q => q.1 ≤ 26 → CpI M q.2 123 0 125 0 q.1 → sW G m_Mo_layThen 2 ([], [some (.ref 119), some (.int (nI q.1))], q.2) _) ?_ (0, M) (Nat.zero_le _) CpI.z
  rintro ⟨q, M2⟩ ih hq i1
  dsimp only at ih hq i1 ⊢
  by_cases hqn : q < 26
  · have er : M2 123 q = M 123 q := by rw [i1.1 123 (by decide)]
    have i2 := i1.s hqn
    rw [Nat.zero_add] at i2
    refine sW_go b_Mo_layThen_2 (st' := ([.int (nI 26), .int (nI q)], [some (.ref 119), some (.int (nI q))], M2)) (φ := True) rfl trivial ?_
    refine sW_ic_ge 26 d_Mo_layThen_5 (by decide) (fun c_5 => ?_) (fun c_5 => ?_)
    · skip
      simp (disch := omega) only [nI_leI] at c_5
      omega
    · skip
      simp (disch := omega) only [nI_leI] at c_5
      refine sW_go b_Mo_layThen_8 (st' := ([], [some (.ref 119), some (.int (nI q + nI 1))], mx_wr M2 125 (nI q).toNatClampNeg (M2 123 (nI q).toNatClampNeg))) (φ := mx_ocl LAY 119 = 10 ∧ mx_ocl LAY 119 = 10 ∧ vp_in (nI q) (mx_len LAY false 123) ∧ vp_in (nI q) (mx_len LAY false 125) ∧ True) rfl ⟨oc_119, oc_119, (by simp (disch := omega) only [ln_123]; exact vp_in_nI (by omega) (by decide)), (by simp (disch := omega) only [ln_125]; exact vp_in_nI (by omega) (by decide)), trivial⟩ ?_
      refine sW_eq (st' := ([], [some (.ref 119), some (.int (nI (q + 1)))], mx_wr M2 125 q (M 123 q))) (by simp (disch := omega) only [er, nI_add, nI_clamp]) ?_
      refine sW_goto 2 d_Mo_layThen_23 (by decide) ?_
      exact ih (q + 1, (mx_wr M2 125 q (M 123 q))) (by dsimp only; omega) (by dsimp only; omega) i2
  · obtain rfl : q = 26 := by omega
    refine sW_go b_Mo_layThen_2 (st' := ([.int (nI 26), .int (nI 26)], [some (.ref 119), some (.int (nI 26))], M2)) (φ := True) rfl trivial ?_
    refine sW_ic_ge 26 d_Mo_layThen_5 (by decide) (fun c_5 => ?_) (fun c_5 => ?_)
    · skip
      simp (disch := omega) only [nI_leI] at c_5
      refine sW_retV d_Mo_layThen_26 rfl ?_
      exact ⟨rfl, i1.fr (by decide) (by decide), i1.row hR⟩
    · skip
      exact absurd (by decide +kernel) c_5

