/-! ===== TypeSets: houses ===== -/
theorem k_forget (G : mx_G) {M : mx_M} : sOk G m_TS_forgetWhatStood [.ref 0] M (fun r M' => r = none ∧ M' = mx_wr (mx_wr M 0 11 (nI 0)) 0 12 (nI 0)) := by
  refine sOk_of ⟨by decide +kernel, by decide +kernel, Nat.le_of_ble_eq_true rfl⟩ ?_
  show sW G m_TS_forgetWhatStood 0 ([], [some (.ref 0)], M) _
  refine sW_go b_TS_forgetWhatStood_0 (st' := ([], [some (.ref 0)], mx_wr (mx_wr M 0 11 (nI 0)) 0 12 (nI 0))) (φ := (mx_ocl LAY 0 = 9 ∧ ((nI 0) = 0 ∨ (nI 0) = 1)) ∧ (mx_ocl LAY 0 = 9 ∧ ((nI 0) = 0 ∨ (nI 0) = 1)) ∧ True) rfl ⟨⟨oc_0, (by decide)⟩, ⟨oc_0, (by decide)⟩, trivial⟩ ?_
  refine sW_retV d_TS_forgetWhatStood_10 rfl ?_
  exact ⟨rfl, rfl⟩
theorem ts_standIn (G : mx_G) {M : mx_M} {σ : Sg} {o : Nat} {X : Hs} (h : CInv M σ) (ho : mx_ocl LAY o = 3) (ho2 : 11 ≤ o ∧ o + 4 ≤ 23) (hX : HsAt M o X) (h8 : X.1 ≤ 8) : sOk G m_TS_standIn [.ref 0, .ref o] M (fun r M' => r = none ∧ Fr M M' 0 119 ∧ CInv M' (wH σ (X, []))) := by
  refine sOk_of ⟨by decide +kernel, by decide +kernel, Nat.le_of_ble_eq_true rfl⟩ ?_
  show sW G m_TS_standIn 0 ([], [some (.ref 0), some (.ref o)], M) _
  refine sW_go b_TS_standIn_0 (st' := ([.ref o, .ref 7], [some (.ref 0), some (.ref o)], M)) (φ := mx_ocl LAY 0 = 9 ∧ True) rfl ⟨oc_0, trivial⟩ ?_
  refine sW_callV 3 [.ref o] [] d_TS_standIn_5 c_TS_standIn_5 ⟨rfl, rfl, rfl, Nat.le_of_ble_eq_true rfl, rfl, rfl⟩ oc_7 (k_House_takeFrom G oc_7 ho (by omega)) ?_
  rintro _ M1 ⟨rfl, f1, a1, a2, a3⟩
  show sW G m_TS_standIn 8 ([], [some (.ref 0), some (.ref o)], M1) _
  refine sW_go b_TS_standIn_8 (st' := ([.ref 0], [some (.ref 0), some (.ref o)], mx_wr M1 23 4 (nI 0))) (φ := mx_ocl LAY 0 = 9 ∧ mx_ocl LAY 23 = 0 ∧ True) rfl ⟨oc_0, oc_23, trivial⟩ ?_
  refine sW_callV 9 [] [] d_TS_standIn_17 c_TS_standIn_17 ⟨rfl, rfl, rfl, Nat.le_of_ble_eq_true rfl, rfl, rfl⟩ oc_0 (k_forget G) ?_
  rintro _ M3 ⟨rfl, g3⟩
  show sW G m_TS_standIn 20 ([], [some (.ref 0), some (.ref o)], M3) _
  refine sW_retV d_TS_standIn_20 rfl ?_
  have e0 : ∀ a, a ≠ 0 → a ≠ 23 → M3 a = M1 a := fun a h1 h2 => by rw [g3, mx_wr_n _ _ _ h1, mx_wr_n _ _ _ h1, mx_wr_n _ _ _ h2]
  have e1 : ∀ a, a ≠ 0 → a ≠ 23 → (a < 7 ∨ 11 ≤ a) → M3 a = M a := fun a h1 h2 h3 => (e0 a h1 h2).trans (f1 a (by omega))
  have hH : HsAt M3 7 X := by
    refine ⟨?_, ?_, fun k hk => ?_⟩
    · rw [e0 7 (by decide) (by decide), a1]; exact hX.1
    · rw [e0 7 (by decide) (by decide), a2]; exact hX.2.1
    · obtain ⟨b1, b2, b3⟩ := a3 k (by omega)
      obtain ⟨d1, d2, d3⟩ := hX.2.2 k hk
      rw [e0 (7 + 1) (by decide) (by decide), e0 (7 + 2) (by decide) (by decide), e0 (7 + 3) (by decide) (by decide), b1, b2, b3]
      exact ⟨d1, d2, d3⟩
  have e23 : M3 23 4 = nI 0 := by rw [g3, mx_wr_n _ _ _ (by decide), mx_wr_n _ _ _ (by decide), mx_wr_s, pk_us]
  have z0 : ∀ j, j ≠ 11 → j ≠ 12 → M3 0 j = M 0 j := fun j h1 h2 => by rw [g3, mx_wr_s, pk_un h2, mx_wr_s, pk_un h1, mx_wr_n _ _ _ (by decide), f1 0 (by decide)]
  refine ⟨rfl, fun a ha => e1 a (by omega) (by omega) (by omega), h.house (fun a h1 h2 => e1 a h2 (by omega) (by omega)) (fun a h1 h2 => e1 a (by omega) (by omega) (by omega)) hH ⟨e23, Nat.zero_le _, fun i hi => absurd hi (Nat.not_lt_zero i)⟩ ?_ ?_ (z0 13 (by decide) (by decide))⟩
  · rw [g3, mx_wr_s, pk_un (by decide), mx_wr_s, pk_us]
  · rw [g3, mx_wr_s, pk_us]
theorem CInv.tapeTrial {M M' : mx_M} {σ : Sg} {x : (Nat → Nat) × Nat × Nat} (h : CInv M σ) (f : Fr2 M M') (hT : TapeAt M' x.1 x.2.1) (hf : M' 5 6 = nI x.2.2) : CInv M' (wTp σ x) := by
  have hm : ∃ Ma : mx_M, Fr M Ma 11 15 ∧ Fr Ma M' 5 7 := ⟨fun a => if 11 ≤ a ∧ a < 15 then M' a else M a, fun a ha => if_neg (by omega), fun a ha => by
    by_cases hx : 11 ≤ a ∧ a < 15
    · exact (if_pos hx).symm
    · exact (f a (by omega) (by omega)).trans (if_neg hx).symm⟩
  obtain ⟨Ma, f1, f2⟩ := hm
  exact (h.trial f1).tape f2 hT hf
theorem WHs.add {hs : Hs} {s a b : Nat} (h : WHs hs) (hk : hs.1 < 8) (hs6 : s < 6) (ha : a ≤ 7) (hb : b ≤ 7) (hc : 0 < hs.2.1) : WHs (hsAdd hs s a b) := by
  refine ⟨h.1.add hk hs6 ha hb, fun k hk' => ?_, fun _ => hc⟩
  have hk' : hs.1 + 1 ≤ k := hk'
  show updN hs.2.2.1 hs.1 s k = 0 ∧ updN hs.2.2.2.1 hs.1 a k = 0 ∧ updN hs.2.2.2.2 hs.1 b k = 0
  rw [updN_n _ _ (by omega), updN_n _ _ (by omega), updN_n _ _ (by omega)]
  exact h.2.1 k (by omega)
theorem numF_le (B : Nat → Nat) (n p lo : Nat) (hi : Int) : numF B n p lo hi ≤ 2 := by
  unfold numF
  split
  · split <;> decide
  · decide
theorem pEq_er {B : Nat → Nat} {n p k s : Nat} {e : Nat × Nat} (h : pEq B n p k s = .error e) : e.1 ≤ 4 := by
  unfold pEq at h
  by_cases h1 : numF B n p 0 (mostZ s k) ≠ 0
  · rw [if_pos h1] at h; cases h; have := numF_le B n p 0 (mostZ s k); show _ ≤ 4; omega
  rw [if_neg h1] at h
  by_cases h2 : tkA B n (nxA B n p) ≠ 44
  · rw [if_pos h2] at h; cases h; show 1 ≤ 4; decide
  rw [if_neg h2] at h
  by_cases h3 : numF B n (nx2 B n p) (if s = 0 then nmA B n p else 0) (mostZ s k) ≠ 0
  · rw [if_pos h3] at h; cases h; have := numF_le B n (nx2 B n p) (if s = 0 then nmA B n p else 0) (mostZ s k); show _ ≤ 4; omega
  rw [if_neg h3] at h
  by_cases h4 : tkA B n (nx3 B n p) ≠ 59
  · rw [if_pos h4] at h; cases h; show 1 ≤ 4; decide
  rw [if_neg h4] at h
  cases h
theorem pTy_sp (B : Nat → Nat) (n : Nat) : ∀ f p (H : Hs), WHs H → 0 < H.2.1 → p ≤ n → (∀ e, pTy B n f p H = .error e → e.1 ≤ 4) ∧ ∀ hs, pTy B n f p H = .ok hs → WHs hs ∧ 0 < hs.1
  | 0, p, H, _, _, _ => ⟨fun e he => (by cases he; exact Nat.zero_le 4), fun hs he => (by cases he)⟩
  | f + 1, p, H, hW, hcc, hp => by
    unfold pTy
    by_cases h1 : tkA B n p = 1002 ∧ 0 < H.1
    · rw [if_pos h1]
      by_cases h2 : namesOK H
      · rw [cif_t h2]
        exact ⟨fun e he => (by cases he), fun hs he => (by cases he; exact ⟨hW, h1.2⟩)⟩
      · rw [cif_f h2]
        exact ⟨fun e he => (by cases he; exact Nat.le_refl 4), fun hs he => (by cases he)⟩
    rw [if_neg h1]
    by_cases h2 : srtN (tkA B n p) = 9
    · rw [if_pos h2]
      exact ⟨fun e he => (by cases he; show 1 ≤ 4; decide), fun hs he => (by cases he)⟩
    rw [if_neg h2]
    by_cases h3 : H.1 = 8
    · rw [if_pos h3]
      exact ⟨fun e he => (by cases he; show 3 ≤ 4; decide), fun hs he => (by cases he)⟩
    rw [if_neg h3]
    have h8 := hW.1.1
    match hq : pEq B n (nxA B n p) H.1 (srtN (tkA B n p)) with
    | .error e0 => exact ⟨fun e he => (by cases he; exact pEq_er hq), fun hs he => (by cases he)⟩
    | .ok (a, b, q) =>
      obtain ⟨k1, k2, k3⟩ := pEq_ok hq (by omega) (nxA_le hp)
      have hs6 := srtN_or (tkA B n p)
      exact pTy_sp B n f q _ (hW.add (by omega) (by omega) k1 k2 hcc) hcc k3
theorem pHs_sp (B : Nat → Nat) (n : Nat) : (∀ e, pHs B n = .error e → e.1 ≤ 4) ∧ ∀ hs, pHs B n = .ok hs → WHs hs ∧ 0 < hs.1 := by
  unfold pHs
  by_cases h1 : tkA B n 0 ≠ 115
  · rw [if_pos h1]
    exact ⟨fun e he => (by cases he; show 1 ≤ 4; decide), fun hs he => (by cases he)⟩
  rw [if_neg h1]
  by_cases h2 : numF B n (nxA B n 0) 1 4 ≠ 0
  · rw [if_pos h2]
    exact ⟨fun e he => (by cases he; have := numF_le B n (nxA B n 0) 1 4; show _ ≤ 4; omega), fun hs he => (by cases he)⟩
  rw [if_neg h2]
  by_cases h3 : tkA B n (nx2 B n 0) ≠ 59
  · rw [if_pos h3]
    exact ⟨fun e he => (by cases he; show 1 ≤ 4; decide), fun hs he => (by cases he)⟩
  rw [if_neg h3]
  have hc4 : 1 ≤ nmA B n (nxA B n 0) ∧ nmA B n (nxA B n 0) ≤ 4 := by
    have hq := Classical.not_not.mp h2
    unfold numF at hq
    split at hq
    · split at hq
      · rename_i g; have := g.2; omega
      · exact absurd hq (by decide)
    · exact absurd hq (by decide)
  refine pTy_sp B n 9 _ _ ⟨⟨Nat.zero_le 8, hc4.2, fun k hk => absurd hk (Nat.not_lt_zero k)⟩, fun k _ => ⟨rfl, rfl, rfl⟩, fun w => absurd w (Nat.lt_irrefl 0)⟩ hc4.1 (nxA_le (nxA_le (nxA_le (Nat.zero_le n))))
noncomputable def sp_house (σ : Sg) : Int32 × Sg := match pHs (gB σ) (gn σ) with
  | .error e => ((-1000100) - nI e.2, wTp σ (gB σ, 0, e.1))
  | .ok hs => (nI hs.1, wH (wTp σ (gB σ, 0, gf σ)) (hs, []))
theorem ts_house (G : mx_G) {M : mx_M} {σ : Sg} (h : CInv M σ) : sOk G m_TS_house [.ref 0] M (COk M (sp_house σ)) := by
  have hT := h.2.1.1
  have h26 := h.2.1.2
  refine sOk_of ⟨by decide +kernel, by decide +kernel, Nat.le_of_ble_eq_true rfl⟩ ?_
  show sW G m_TS_house 0 ([], [some (.ref 0), none], M) _
  refine sW_go b_TS_house_0 (st' := ([.ref 11, .ref 5], [some (.ref 0), none], M)) (φ := mx_ocl LAY 0 = 9 ∧ mx_ocl LAY 0 = 9 ∧ True) rfl ⟨oc_0, oc_0, trivial⟩ ?_
  refine sW_callV 8 [.ref 11] [] d_TS_house_8 c_TS_house_8 ⟨rfl, rfl, rfl, Nat.le_of_ble_eq_true rfl, rfl, rfl⟩ oc_5 (k_read G hT) ?_
  rintro _ M1 ⟨rfl, r1, r2, r3, r4⟩
  show sW G m_TS_house 11 ([.int (tf (isOkE (pHs (gB σ) (gn σ))))], [some (.ref 0), none], M1) _
  refine sW_go b_TS_house_11 (st' := ([.int (tf (isOkE (pHs (gB σ) (gn σ))))], [some (.ref 0), some (.int (tf (isOkE (pHs (gB σ) (gn σ)))))], mx_wr M1 5 1 (nI 0))) (φ := mx_ocl LAY 0 = 9 ∧ mx_ocl LAY 5 = 8 ∧ True) rfl ⟨oc_0, oc_5, trivial⟩ ?_
  refine sW_if_ne 35 d_TS_house_21 (by decide) (fun c_21 => ?_) (fun c_21 => ?_)
  · skip
    replace c_21 := tf_nz.mp c_21
    refine sW_fg [false, true] ?_
    show sW G m_TS_house 35 ([], [some (.ref 0), none], mx_wr M1 5 1 (nI 0)) _
    obtain ⟨X, hX⟩ := c_21
    obtain ⟨s1, s2⟩ := r4 X hX
    have e : sp_house σ = (nI X.1, wH (wTp σ (gB σ, 0, gf σ)) (X, [])) := by unfold sp_house; rw [hX]
    rw [e]
    have hW := (pHs_sp _ _).2 X hX
    have fM : Fr2 M (mx_wr M1 5 1 (nI 0)) := r1.tr (Fr2.of5 (Fr.rf.wr (by decide) (by decide)))
    have hT2 : TapeAt (mx_wr M1 5 1 (nI 0)) (gB σ) 0 := ⟨by rw [mx_wr_s, pk_us], Nat.zero_le _, fun i hi => absurd hi (Nat.not_lt_zero i)⟩
    have h6 : (mx_wr M1 5 1 (nI 0)) 5 6 = nI (gf σ) := by rw [mx_wr_s, pk_un (by decide), s1]; exact h26
    have hC := h.tapeTrial (x := (gB σ, 0, gf σ)) fM hT2 h6
    have hX2 : HsAt (mx_wr M1 5 1 (nI 0)) 11 X := s2.fr (Fr.rf.wr (lo := 5) (hi := 6) (by decide) (by decide)) (by decide)
    generalize hM2 : mx_wr M1 5 1 (nI 0) = M2 at fM hT2 h6 hC hX2 ⊢
    refine sW_go b_TS_house_35 (st' := ([.ref 11, .ref 0], [some (.ref 0), none], M2)) (φ := mx_ocl LAY 0 = 9 ∧ True) rfl ⟨oc_0, trivial⟩ ?_
    refine sW_callV 9 [.ref 11] [] d_TS_house_40 c_TS_house_40 ⟨rfl, rfl, rfl, Nat.le_of_ble_eq_true rfl, rfl, rfl⟩ oc_0 (ts_standIn G hC oc_11 (by decide) hX2 hW.1.1.1) ?_
    rintro _ M3 ⟨rfl, f3, g3⟩
    have z : M3 7 3 = nI X.1 := g3.2.2.1.1
    show sW G m_TS_house 43 ([], [some (.ref 0), none], M3) _
    refine sW_go b_TS_house_43 (st' := ([.int (M3 7 3)], [some (.ref 0), none], M3)) (φ := mx_ocl LAY 0 = 9 ∧ mx_ocl LAY 7 = 3 ∧ True) rfl ⟨oc_0, oc_7, trivial⟩ ?_
    refine sW_eq (st' := ([.int (nI X.1)], [some (.ref 0), none], M3)) (by simp (disch := omega) only [z]) ?_
    refine sW_retI d_TS_house_50 rfl (vp_nar_int _) ?_
    exact ⟨rfl, fun a ha => (f3 a ha).trans (fM a (by omega) (by omega)), g3⟩
  · skip
    replace c_21 := tf_z.mp c_21
    refine sW_fg [false, true] ?_
    show sW G m_TS_house 24 ([], [some (.ref 0), none], mx_wr M1 5 1 (nI 0)) _
    match hX : pHs (gB σ) (gn σ) with
    | .ok v => exact absurd ⟨v, hX⟩ c_21
    | .error e =>
      have e0 : sp_house σ = ((-1000100) - nI e.2, wTp σ (gB σ, 0, e.1)) := by unfold sp_house; rw [hX]
      rw [e0]
      obtain ⟨s1, s2⟩ := r3 e hX
      have fM : Fr2 M (mx_wr M1 5 1 (nI 0)) := r1.tr (Fr2.of5 (Fr.rf.wr (by decide) (by decide)))
      have hT2 : TapeAt (mx_wr M1 5 1 (nI 0)) (gB σ) 0 := ⟨by rw [mx_wr_s, pk_us], Nat.zero_le _, fun i hi => absurd hi (Nat.not_lt_zero i)⟩
      have h6 : (mx_wr M1 5 1 (nI 0)) 5 6 = nI e.1 := by rw [mx_wr_s, pk_un (by decide)]; exact s2
      have h5 : (mx_wr M1 5 1 (nI 0)) 5 5 = nI e.2 := by rw [mx_wr_s, pk_un (by decide)]; exact s1
      have hC := h.tapeTrial (x := (gB σ, 0, e.1)) fM hT2 h6
      generalize hM2 : mx_wr M1 5 1 (nI 0) = M2 at fM hT2 h6 h5 hC ⊢
      refine sW_go b_TS_house_24 (st' := ([.int ((-1000100) - M2 5 5)], [some (.ref 0), none], M2)) (φ := mx_ocl LAY 0 = 9 ∧ mx_ocl LAY 5 = 8 ∧ True) rfl ⟨oc_0, oc_5, trivial⟩ ?_
      refine sW_eq (st' := ([.int ((-1000100) - nI e.2)], [some (.ref 0), none], M2)) (by simp (disch := omega) only [h5]) ?_
      refine sW_retI d_TS_house_34 rfl (vp_nar_int _) ?_
      exact ⟨rfl, fun a ha => fM a (by omega) (by omega), hC⟩

