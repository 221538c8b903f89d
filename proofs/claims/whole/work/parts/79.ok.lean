theorem ok_undo {σ : Sg} (h : GOk σ) : GOk (sp_undo σ).2 := by
  unfold sp_undo
  by_cases hl : (gA σ).length = 0
  · rw [if_pos hl]; exact h
  · rw [if_neg hl]
    have hne : gA σ ≠ [] := fun q => hl (by rw [q]; rfl)
    have e := cons_last hne (gH σ)
    have hA := h.2.2.2.1
    have m1 : (gA σ).getLastD (gH σ) ∈ gA σ := by
      have : (gA σ).getLastD (gH σ) ∈ (gA σ).dropLast ++ [(gA σ).getLastD (gH σ)] := by simp
      rw [← e] at this
      exact this
    have m2 : ∀ H, H ∈ (gA σ).dropLast → H ∈ gA σ := fun H hH => List.dropLast_subset _ hH
    obtain ⟨l1, l2, l3⟩ := hA _ m1
    exact h.wH (x := ((gA σ).getLastD (gH σ), (gA σ).dropLast)) l3 (fun H hH => by
      obtain ⟨k1, k2, k3⟩ := hA H (m2 H hH)
      exact ⟨k1.trans l1.symm, k2.trans l2.symm, k3⟩)
theorem WHs.tell {hs : Hs} {j s a b : Nat} (h : WHs hs) (hj : j < hs.1) (hs5 : s ≤ 5) (ha : a ≤ 7) (hb : b ≤ 7) : WHs (hsTell hs j s a b) := by
  refine ⟨h.1.tell hs5 ha hb, fun k hk => ?_, h.2.2⟩
  have hk : hs.1 ≤ k := hk
  show updN hs.2.2.1 j s k = 0 ∧ updN hs.2.2.2.1 j a k = 0 ∧ updN hs.2.2.2.2 j b k = 0
  rw [updN_n _ _ (by omega), updN_n _ _ (by omega), updN_n _ _ (by omega)]
  exact h.2.1 k hk
theorem ok_anew {σ : Sg} (h : GOk σ) (t s a b : Int32) : GOk (sp_anew σ t s a b).2 := by
  unfold sp_anew
  by_cases hm : mayP (gH σ).1 t s a b
  · rw [cif_t hm]
    obtain ⟨t', s', a', b', rfl, rfl, rfl, rfl, b1, b2, b3, b4⟩ := may_nat h.1.1.1 hm
    have h8 := h.1.1.1
    rw [show tn (nI t') = t' from nI_clamp (by omega), show tn (nI s') = s' from nI_clamp (by omega), show tn (nI a') = a' from nI_clamp (by omega), show tn (nI b') = b' from nI_clamp (by omega)]
    refine h.wH (x := (hsTell (gH σ) t' s' a' b', anewA (gA σ) (gH σ))) (h.1.tell b1 (by omega) b3 b4) (fun H hH => ?_)
    unfold anewA at hH
    rcases List.mem_append.mp hH with q | q
    · have q2 : H ∈ gA σ := by
        split at q
        · exact List.mem_of_mem_drop q
        · exact q
      exact h.2.2.2.1 H q2
    · rw [List.mem_singleton.mp q]
      exact ⟨rfl, rfl, h.1⟩
  · rw [cif_f hm]; exact h
theorem ok_image {σ : Sg} (h : GOk σ) (k : Int32) : GOk (sp_image σ k).2 := by
  unfold sp_image
  by_cases hk : vp_in k 2
  · rw [cif_t hk]
    split
    · exact h
    · by_cases h0 : k = nI 0
      · rw [cif_t h0]; exact h.wI (x := (gH σ, gJ σ)) h.1 h.2.2.1
      · rw [cif_f h0]; exact h.wI (x := (gI σ, gH σ)) h.2.1 h.1
  · rw [cif_f hk]; exact h
theorem ok_restore {σ : Sg} (h : GOk σ) (k : Int32) : GOk (sp_restore σ k).2 := by
  unfold sp_restore
  by_cases hk : vp_in k 2
  · rw [cif_t hk]
    split
    · exact h
    · by_cases h0 : k = nI 0
      · rw [cif_t h0]; exact h.wH (x := (gI σ, [])) h.2.1 (fun H hH => absurd hH (by simp))
      · rw [cif_f h0]; exact h.wH (x := (gJ σ, [])) h.2.2.1 (fun H hH => absurd hH (by simp))
  · rw [cif_f hk]; exact h

