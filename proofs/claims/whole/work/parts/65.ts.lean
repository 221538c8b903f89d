theorem cons_last {A : List Hs} (h : A ≠ []) (d : Hs) : A = A.dropLast ++ [A.getLastD d] := by
  rcases List.eq_nil_or_concat A with e | ⟨L, b, e⟩
  · exact absurd e h
  · rw [e]
    simp
def sp_undo (σ : Sg) : Int32 × Sg := if (gA σ).length = 0 then ((-1000002), σ) else (nI ((gA σ).length - 1), wH σ ((gA σ).getLastD (gH σ), (gA σ).dropLast))
theorem ts_undo (G : mx_G) {M : mx_M} {σ : Sg} (h : CInv M σ) (hg : GOk σ) : sOk G m_TS_undo [.ref 0] M (COk M (sp_undo σ)) := by
  have hA := h.2.2.2.2.2.1
  have hH := h.2.2.1
  have z := hA.1
  have zl := hA.2.1
  have h8 := hg.1.1.1
  refine sOk_of ⟨by decide +kernel, by decide +kernel, Nat.le_of_ble_eq_true rfl⟩ ?_
  show sW G m_TS_undo 0 ([], [some (.ref 0)], M) _
  refine sW_go b_TS_undo_0 (st' := ([.int (M 23 4)], [some (.ref 0)], M)) (φ := mx_ocl LAY 0 = 9 ∧ mx_ocl LAY 23 = 0 ∧ True) rfl ⟨oc_0, oc_23, trivial⟩ ?_
  refine sW_eq (st' := ([.int (nI (gA σ).length)], [some (.ref 0)], M)) (by simp (disch := omega) only [z]) ?_
  refine sW_if_ne 13 d_TS_undo_7 (by decide) (fun c_7 => ?_) (fun c_7 => ?_)
  · skip
    simp (disch := omega) only [nI_z] at c_7
    have hne : gA σ ≠ [] := fun q => c_7 (by rw [q]; rfl)
    have e : sp_undo σ = (nI ((gA σ).length - 1), wH σ ((gA σ).getLastD (gH σ), (gA σ).dropLast)) := by unfold sp_undo; rw [if_neg c_7]
    rw [e]
    have el := cons_last hne (gH σ)
    rw [el] at hA
    have ell : (gA σ).length - 1 = (gA σ).dropLast.length := by rw [List.length_dropLast]
    rw [ell]
    generalize hH' : (gA σ).getLastD (gH σ) = H at hA ⊢
    generalize hA' : (gA σ).dropLast = A at hA ⊢
    refine sW_go b_TS_undo_13 (st' := ([.ref 7, .ref 23], [some (.ref 0)], M)) (φ := mx_ocl LAY 0 = 9 ∧ mx_ocl LAY 0 = 9 ∧ True) rfl ⟨oc_0, oc_0, trivial⟩ ?_
    refine sW_callV 0 [.ref 7] [] d_TS_undo_21 c_TS_undo_21 ⟨rfl, rfl, rfl, Nat.le_of_ble_eq_true rfl, rfl, rfl⟩ oc_23 (k_takeBack G hA hH h8) ?_
    rintro _ M2 ⟨rfl, f2, g2, hH2, hA2⟩
    show sW G m_TS_undo 24 ([], [some (.ref 0)], M2) _
    refine sW_go b_TS_undo_24 (st' := ([.ref 0], [some (.ref 0)], M2)) (φ := True) rfl trivial ?_
    refine sW_callV 9 [] [] d_TS_undo_25 c_TS_undo_25 ⟨rfl, rfl, rfl, Nat.le_of_ble_eq_true rfl, rfl, rfl⟩ oc_0 (k_forget G) ?_
    rintro _ M3 ⟨rfl, g3⟩
    have e0 : ∀ a, a ≠ 0 → M3 a = M2 a := fun a h1 => by rw [g3, mx_wr_n _ _ _ h1, mx_wr_n _ _ _ h1]
    have z3 : M3 23 4 = nI A.length := by rw [e0 23 (by decide)]; exact hA2.1
    show sW G m_TS_undo 28 ([], [some (.ref 0)], M3) _
    refine sW_go b_TS_undo_28 (st' := ([.int (M3 23 4)], [some (.ref 0)], M3)) (φ := mx_ocl LAY 0 = 9 ∧ mx_ocl LAY 23 = 0 ∧ True) rfl ⟨oc_0, oc_23, trivial⟩ ?_
    refine sW_eq (st' := ([.int (nI A.length)], [some (.ref 0)], M3)) (by simp (disch := omega) only [z3]) ?_
    refine sW_retI d_TS_undo_35 rfl (vp_nar_int _) ?_
    have f3 : Fr M2 M3 0 1 := fun a ha => e0 a (by omega)
    refine ⟨rfl, fun a ha => (e0 a (by omega)).trans (f2 a (by omega)), h.house (fun a h1 h2 => (e0 a h2).trans (f2 a (by omega))) (fun a h1 h2 => (e0 a (by omega)).trans (g2 a (by omega) (by omega))) (hH2.fr f3 (by decide)) (hA2.fr f3 (by decide)) ?_ ?_ ?_⟩
    · rw [g3, mx_wr_s, pk_un (by decide), mx_wr_s, pk_us]
    · rw [g3, mx_wr_s, pk_us]
    · rw [g3, mx_wr_s, pk_un (by decide), mx_wr_s, pk_un (by decide), f2 0 (by decide)]
  · skip
    simp (disch := omega) only [nI_z] at c_7
    refine sW_go b_TS_undo_10 (st' := ([.int (-1000002)], [some (.ref 0)], M)) (φ := True) rfl trivial ?_
    refine sW_retI d_TS_undo_12 rfl (vp_nar_int _) ?_
    have e : sp_undo σ = ((-1000002), σ) := by unfold sp_undo; rw [if_pos c_7]
    rw [e]
    exact ⟨rfl, Fr.rf, h⟩
theorem may_nat {n : Nat} (hn : n ≤ 8) {t s a b : Int32} (h : mayP n t s a b) : ∃ t' s' a' b' : Nat, t = nI t' ∧ s = nI s' ∧ a = nI a' ∧ b = nI b' ∧ t' < n ∧ s' < 6 ∧ a' ≤ 7 ∧ b' ≤ 7 := by
  obtain ⟨⟨h1, h2⟩, ⟨h3, h4⟩, h5, h6, h7, h8, h9⟩ := h
  obtain ⟨t', ht, rfl⟩ := nat_of h1
  obtain ⟨s', hs, rfl⟩ := nat_of h3
  obtain ⟨a', ha, rfl⟩ := nat_of h5
  obtain ⟨b', hb, rfl⟩ := nat_of h6
  rw [nI_toInt ht] at h1 h2 h9
  rw [nI_toInt hs] at h3 h4 h7 h8 h9
  rw [nI_toInt ha] at h7 h8 h9
  rw [nI_toInt hb] at h7 h8 h9
  refine ⟨t', s', a', b', rfl, rfl, rfl, rfl, by omega, by omega, ?_, ?_⟩
  · by_cases e0 : s' = 0
    · have := h7 (by omega); omega
    · by_cases e1 : s' = 1 ∨ s' = 2
      · have := h8 (by omega); omega
      · have := h9 (by omega); omega
  · by_cases e0 : s' = 0
    · have := h7 (by omega); omega
    · by_cases e1 : s' = 1 ∨ s' = 2
      · have := h8 (by omega); omega
      · have := h9 (by omega); omega
noncomputable def sp_anew (σ : Sg) (t s a b : Int32) : Int32 × Sg := cif (mayP (gH σ).1 t s a b) (nI (Sf (gH σ) (tn t)), wH σ (hsTell (gH σ) (tn t) (tn s) (tn a) (tn b), anewA (gA σ) (gH σ))) ((-1000001), σ)
theorem ts_anew (G : mx_G) {M : mx_M} {σ : Sg} (h : CInv M σ) (hg : GOk σ) (t s a b : Int32) : sOk G m_TS_anew [.ref 0, .int t, .int s, .int a, .int b] M (COk M (sp_anew σ t s a b)) := by
  have hA := h.2.2.2.2.2.1
  have hH := h.2.2.1
  have h8 := hg.1.1.1
  by_cases hm : mayP (gH σ).1 t s a b
  · obtain ⟨t', s', a', b', rfl, rfl, rfl, rfl, b1, b2, b3, b4⟩ := may_nat h8 hm
    have e : sp_anew σ (nI t') (nI s') (nI a') (nI b') = (nI (Sf (gH σ) t'), wH σ (hsTell (gH σ) t' s' a' b', anewA (gA σ) (gH σ))) := by
      unfold sp_anew tn; rw [cif_t hm, nI_clamp (by omega), nI_clamp (by omega), nI_clamp (by omega), nI_clamp (by omega)]
    rw [e]
    have x1 : M 8 t' = nI (Sf (gH σ) t') := (hH.2.2 t' b1).1
    refine sOk_of ⟨by decide +kernel, by decide +kernel, Nat.le_of_ble_eq_true rfl⟩ ?_
    show sW G m_TS_anew 0 ([], [some (.ref 0), some (.int (nI t')), some (.int (nI s')), some (.int (nI a')), some (.int (nI b')), none], M) _
    refine sW_go b_TS_anew_0 (st' := ([.int (nI b'), .int (nI a'), .int (nI s'), .int (nI t'), .ref 7], [some (.ref 0), some (.int (nI t')), some (.int (nI s')), some (.int (nI a')), some (.int (nI b')), none], M)) (φ := mx_ocl LAY 0 = 9 ∧ True) rfl ⟨oc_0, trivial⟩ ?_
    refine sW_callV 3 [.int (nI t'), .int (nI s'), .int (nI a'), .int (nI b')] [] d_TS_anew_9 c_TS_anew_9 ⟨rfl, rfl, rfl, Nat.le_of_ble_eq_true rfl, rfl, rfl⟩ oc_7 (k_House_mayStand G oc_7 hH.1 h8 (nI t') (nI s') (nI a') (nI b')) ?_
    rintro _ M₁ ⟨rfl, h₁⟩
    rw [h₁]
    show sW G m_TS_anew 12 ([.int (tf (mayP (gH σ).1 (nI t') (nI s') (nI a') (nI b')))], [some (.ref 0), some (.int (nI t')), some (.int (nI s')), some (.int (nI a')), some (.int (nI b')), none], M) _
    refine sW_if_ne 18 d_TS_anew_12 (by decide) (fun c_12 => ?_) (fun c_12 => ?_)
    · skip
      replace c_12 := tf_nz.mp c_12
      refine sW_go b_TS_anew_18 (st' := ([.int (nI t'), .ref 7, .ref 23], [some (.ref 0), some (.int (nI t')), some (.int (nI s')), some (.int (nI a')), some (.int (nI b')), some (.int (M 8 (nI t').toNatClampNeg))], M)) (φ := mx_ocl LAY 0 = 9 ∧ mx_ocl LAY 7 = 3 ∧ vp_in (nI t') (mx_len LAY false 8) ∧ mx_ocl LAY 0 = 9 ∧ mx_ocl LAY 0 = 9 ∧ True) rfl ⟨oc_0, oc_7, (by simp (disch := omega) only [ln_8]; exact vp_in_nI (by omega) (by decide)), oc_0, oc_0, trivial⟩ ?_
      refine sW_eq (st' := ([.int (nI t'), .ref 7, .ref 23], [some (.ref 0), some (.int (nI t')), some (.int (nI s')), some (.int (nI a')), some (.int (nI b')), some (.int (nI (Sf (gH σ) t')))], M)) (by simp (disch := omega) only [nI_clamp, x1]) ?_
      refine sW_callV 0 [.ref 7, .int (nI t')] [] d_TS_anew_38 c_TS_anew_38 ⟨rfl, rfl, rfl, Nat.le_of_ble_eq_true rfl, rfl, rfl⟩ oc_23 (k_keep G hA hH b1 h8) ?_
      rintro _ M2 ⟨rfl, f2, g2⟩
      show sW G m_TS_anew 41 ([], [some (.ref 0), some (.int (nI t')), some (.int (nI s')), some (.int (nI a')), some (.int (nI b')), some (.int (nI (Sf (gH σ) t')))], M2) _
      refine sW_go b_TS_anew_41 (st' := ([.int (nI b'), .int (nI a'), .int (nI s'), .int (nI t'), .ref 7], [some (.ref 0), some (.int (nI t')), some (.int (nI s')), some (.int (nI a')), some (.int (nI b')), some (.int (nI (Sf (gH σ) t')))], M2)) (φ := mx_ocl LAY 0 = 9 ∧ True) rfl ⟨oc_0, trivial⟩ ?_
      refine sW_callV 3 [.int (nI t'), .int (nI s'), .int (nI a'), .int (nI b')] [] d_TS_anew_50 c_TS_anew_50 ⟨rfl, rfl, rfl, Nat.le_of_ble_eq_true rfl, rfl, rfl⟩ oc_7 (k_House_tell G oc_7 (by omega) (nI s') (nI a') (nI b')) ?_
      rintro _ M3 ⟨rfl, g3⟩
      show sW G m_TS_anew 53 ([], [some (.ref 0), some (.int (nI t')), some (.int (nI s')), some (.int (nI a')), some (.int (nI b')), some (.int (nI (Sf (gH σ) t')))], M3) _
      refine sW_go b_TS_anew_53 (st' := ([.ref 0], [some (.ref 0), some (.int (nI t')), some (.int (nI s')), some (.int (nI a')), some (.int (nI b')), some (.int (nI (Sf (gH σ) t')))], M3)) (φ := True) rfl trivial ?_
      refine sW_callV 9 [] [] d_TS_anew_54 c_TS_anew_54 ⟨rfl, rfl, rfl, Nat.le_of_ble_eq_true rfl, rfl, rfl⟩ oc_0 (k_forget G) ?_
      rintro _ M4 ⟨rfl, g4⟩
      show sW G m_TS_anew 57 ([], [some (.ref 0), some (.int (nI t')), some (.int (nI s')), some (.int (nI a')), some (.int (nI b')), some (.int (nI (Sf (gH σ) t')))], M4) _
      refine sW_go b_TS_anew_57 (st' := ([.int (nI (Sf (gH σ) t'))], [some (.ref 0), some (.int (nI t')), some (.int (nI s')), some (.int (nI a')), some (.int (nI b')), some (.int (nI (Sf (gH σ) t')))], M4)) (φ := True) rfl trivial ?_
      refine sW_retI d_TS_anew_59 rfl (vp_nar_int _) ?_
      have e4 : ∀ x, x ≠ 0 → M4 x = M3 x := fun x h1 => by rw [g4, mx_wr_n _ _ _ h1, mx_wr_n _ _ _ h1]
      have e3 : ∀ x, x ≠ 8 → x ≠ 9 → x ≠ 10 → M3 x = M2 x := fun x h1 h2 h3 => by rw [g3, mx_wr_n _ _ _ h3, mx_wr_n _ _ _ h2, mx_wr_n _ _ _ h1]
      have hH3 : HsAt M3 7 (hsTell (gH σ) t' s' a' b') := by rw [g3]; exact (hH.fr f2 (by decide)).tell b1
      have f3 : Fr M2 M3 7 11 := fun x hx => e3 x (by omega) (by omega) (by omega)
      have f4 : Fr M3 M4 0 1 := fun x hx => e4 x (by omega)
      refine ⟨rfl, fun x hx => (e4 x (by omega)).trans ((e3 x (by omega) (by omega) (by omega)).trans (f2 x (by omega))), h.house (fun x h1 h2 => (e4 x h2).trans ((e3 x (by omega) (by omega) (by omega)).trans (f2 x (by omega)))) (fun x h1 h2 => (e4 x (by omega)).trans ((e3 x (by omega) (by omega) (by omega)).trans (f2 x (by omega)))) (hH3.fr f4 (by decide)) (((g2 s' a' b').fr f3 (by decide)).fr f4 (by decide)) ?_ ?_ ?_⟩
      · rw [g4, mx_wr_s, pk_un (by decide), mx_wr_s, pk_us]
      · rw [g4, mx_wr_s, pk_us]
      · rw [g4, mx_wr_s, pk_un (by decide), mx_wr_s, pk_un (by decide), e3 0 (by decide) (by decide) (by decide), f2 0 (by decide)]
    · skip
      replace c_12 := tf_z.mp c_12
      refine sW_go b_TS_anew_15 (st' := ([.int (-1000001)], [some (.ref 0), some (.int (nI t')), some (.int (nI s')), some (.int (nI a')), some (.int (nI b')), none], M)) (φ := True) rfl trivial ?_
      refine sW_retI d_TS_anew_17 rfl (vp_nar_int _) ?_
      exact absurd hm c_12
  · have e : sp_anew σ t s a b = ((-1000001), σ) := by unfold sp_anew; rw [cif_f hm]
    rw [e]
    refine sOk_of ⟨by decide +kernel, by decide +kernel, Nat.le_of_ble_eq_true rfl⟩ ?_
    show sW G m_TS_anew 0 ([], [some (.ref 0), some (.int t), some (.int s), some (.int a), some (.int b), none], M) _
    refine sW_go b_TS_anew_0 (st' := ([.int b, .int a, .int s, .int t, .ref 7], [some (.ref 0), some (.int t), some (.int s), some (.int a), some (.int b), none], M)) (φ := mx_ocl LAY 0 = 9 ∧ True) rfl ⟨oc_0, trivial⟩ ?_
    refine sW_callV 3 [.int t, .int s, .int a, .int b] [] d_TS_anew_9 c_TS_anew_9 ⟨rfl, rfl, rfl, Nat.le_of_ble_eq_true rfl, rfl, rfl⟩ oc_7 (k_House_mayStand G oc_7 hH.1 h8 t s a b) ?_
    rintro _ M₁ ⟨rfl, h₁⟩
    rw [h₁]
    show sW G m_TS_anew 12 ([.int (tf (mayP (gH σ).1 t s a b))], [some (.ref 0), some (.int t), some (.int s), some (.int a), some (.int b), none], M) _
    refine sW_if_ne 18 d_TS_anew_12 (by decide) (fun c_12 => ?_) (fun c_12 => ?_)
    · skip
      replace c_12 := tf_nz.mp c_12
      exact absurd c_12 hm
    · skip
      replace c_12 := tf_z.mp c_12
      refine sW_go b_TS_anew_15 (st' := ([.int (-1000001)], [some (.ref 0), some (.int t), some (.int s), some (.int a), some (.int b), none], M)) (φ := True) rfl trivial ?_
      refine sW_retI d_TS_anew_17 rfl (vp_nar_int _) ?_
      exact ⟨rfl, Fr.rf, h⟩

