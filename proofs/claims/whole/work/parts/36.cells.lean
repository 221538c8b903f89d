theorem ins_app (L : List Nat) (s : Nat) : ∃ l, ins L s = L ++ l := by
  unfold ins
  split
  · exact ⟨[], by simp⟩
  · exact ⟨[s], rfl⟩
/-- at the head of a round: the cells of heights up to n have been seen (sn of them), those up to n + 1 found -/
def MesI (M : mx_M) (c : Nat) (hs : Hs) (n sn : Nat) (X : Cx) : Prop :=
  n ≤ sn ∧ sn ≤ (cF X).length ∧ CxM M c hs X ∧ CxI hs hs.2.1 X ∧ CxL hs (Kx hs n) X ∧ CxP hs (Kx hs n) X ∧ CxH hs X ∧ (∀ s, s ∈ (cF X).take sn ↔ Kx hs n s) ∧ SdA M c hs (cF X) sn
theorem take_at {L : List Nat} {i n : Nat} (h : i < n) (h2 : i < L.length) : L.getD i 0 ∈ L.take n := by
  have e : L.getD i 0 = (L.take n)[i]'(by simp; omega) := by simp [h2]
  rw [e]
  exact List.getElem_mem _
theorem Mes_seen {hs : Hs} {n sn : Nat} {X : Cx} {f : Nat → Nat} {L L' : List Nat} (h1 : ∀ u, u ∈ L ↔ ∃ s, Kx hs n s ∧ u = f s) (h2 : ∀ s, s ∈ (cF X).take sn ↔ Kx hs n s) (h3 : ∀ s, s ∈ cF X ↔ Kx hs (n + 1) s) (h4 : ∀ u, u ∈ L' ↔ u ∈ L ∨ ∃ j, j < (cF X).length ∧ sn ≤ j ∧ u = f ((cF X).getD j 0)) : ∀ u, u ∈ L' ↔ ∃ s, Kx hs (n + 1) s ∧ u = f s := by
  intro u
  rw [h4 u, h1 u]
  constructor
  · rintro (⟨s, a, b⟩ | ⟨j, a, _, b⟩)
    · exact ⟨s, Kx_up n a, b⟩
    · exact ⟨_, (h3 _).mp (getD_mem a), b⟩
  · rintro ⟨s, a, b⟩
    obtain ⟨j, hj, ej⟩ := mem_at ((h3 s).mpr a)
    by_cases hjs : j < sn
    · refine Or.inl ⟨s, (h2 s).mp ?_, b⟩
      rw [← ej]
      exact take_at hjs hj
    · exact Or.inr ⟨j, hj, by omega, by rw [ej]; exact b⟩
theorem Mes_H {hs : Hs} {n : Nat} {X W : Cx} (hX : CxH hs X) (hF : ∀ s, s ∈ cF X ↔ Kx hs (n + 1) s) (hFW : ∀ s, s ∈ cF W ↔ Kx hs (n + 2) s) (hl : ∃ l, cF W = cF X ++ l) (h6 : ∀ s, s ∈ cF X → cf W s = cf X s) (h7 : ∀ s, s ∈ cF W → s ∉ cF X → cf W s = n + 2) (hn : (cF W).Nodup) : CxH hs W := by
  obtain ⟨l, el⟩ := hl
  have hle : ∀ s, s ∈ cF X → cf X s ≤ n + 1 := fun s hs' => by
    rcases Nat.lt_or_ge (n + 1) (cf X s) with w | w
    · exact absurd ((hF s).mp hs') ((hX.1 s hs').2 (n + 1) w)
    · exact w
  have hnew : ∀ j, (cF X).length ≤ j → j < (cF W).length → (cF W).getD j 0 ∉ cF X := fun j h1 h2 hm => by
    obtain ⟨i, hi, ei⟩ := mem_at hm
    have e1 : (cF W).getD i 0 = (cF W).getD j 0 := by rw [← ei, el, getD_app hi]
    have e2 : (cF W)[i]'(by omega) = (cF W)[j] := by
      have a1 : (cF W).getD i 0 = (cF W)[i]'(by omega) := by simp [show i < (cF W).length by omega]
      have a2 : (cF W).getD j 0 = (cF W)[j] := by simp [h2]
      rw [← a1, ← a2, e1]
    exact List.pairwise_iff_getElem.mp hn i j (by omega) h2 (by omega) e2
  refine ⟨fun s hs' => ?_, fun i j hij hj => ?_⟩
  · by_cases hm : s ∈ cF X
    · rw [h6 s hm]
      exact hX.1 s hm
    · rw [h7 s hs' hm]
      refine ⟨(hFW s).mp hs', fun j hj hk => hm ((hF s).mpr (Kx_mono (by omega) hk))⟩
  · by_cases hj2 : j < (cF X).length
    · have ei : (cF W).getD i 0 = (cF X).getD i 0 := by rw [el]; exact getD_app (by omega)
      have ej : (cF W).getD j 0 = (cF X).getD j 0 := by rw [el]; exact getD_app hj2
      rw [ei, ej, h6 _ (getD_mem (by omega)), h6 _ (getD_mem hj2)]
      exact hX.2 i j hij hj2
    · rw [h7 _ (getD_mem hj) (hnew j (by omega) hj)]
      by_cases hi2 : i < (cF X).length
      · have ei : (cF W).getD i 0 = (cF X).getD i 0 := by rw [el]; exact getD_app hi2
        rw [ei, h6 _ (getD_mem hi2)]
        have := hle _ (getD_mem hi2)
        omega
      · rw [h7 _ (getD_mem (by omega)) (hnew i (by omega) (by omega))]
        exact Nat.le_refl _
/-- while cells are seen -/
def SeeI (M2 M3 : mx_M) (c : Nat) (hs : Hs) (X : Cx) (sn k : Nat) (Y : Cx) : Prop :=
  Fr M2 M3 c (c + 37) ∧ CxM M3 c hs Y ∧ Y.1 = X.1 ∧ Y.2.2.2 = X.2.2.2 ∧ (∃ l, cPL Y = cPL X ++ l) ∧ (∃ l, cPR Y = cPR X ++ l) ∧ (∃ l, cQL Y = cQL X ++ l) ∧ (∃ l, cQR Y = cQR X ++ l) ∧
  (∀ u, u ∈ cPL Y ↔ u ∈ cPL X ∨ ∃ j, j < k ∧ sn ≤ j ∧ u = L1 hs ((cF X).getD j 0)) ∧ (∀ u, u ∈ cPR Y ↔ u ∈ cPR X ∨ ∃ j, j < k ∧ sn ≤ j ∧ u = R1 hs ((cF X).getD j 0)) ∧
  (∀ u, u ∈ cQL Y ↔ u ∈ cQL X ∨ ∃ j, j < k ∧ sn ≤ j ∧ u = L2 hs ((cF X).getD j 0)) ∧ (∀ u, u ∈ cQR Y ↔ u ∈ cQR X ∨ ∃ j, j < k ∧ sn ≤ j ∧ u = R2 hs ((cF X).getD j 0)) ∧ SdA M3 c hs (cF X) k
theorem See_0 {M : mx_M} {c sn : Nat} {hs : Hs} {X : Cx} (hM : CxM M c hs X) (hS : SdA M c hs (cF X) sn) : SeeI M M c hs X sn sn X := by
  have h : ∀ (L : List Nat) (f : Nat → Nat), ∀ u, u ∈ L ↔ u ∈ L ∨ ∃ j, j < sn ∧ sn ≤ j ∧ u = f ((cF X).getD j 0) := fun L f u => ⟨Or.inl, fun q => q.elim id (fun ⟨j, a, b, _⟩ => absurd a (by omega))⟩
  exact ⟨Fr.rf, hM, rfl, rfl, ⟨[], by simp⟩, ⟨[], by simp⟩, ⟨[], by simp⟩, ⟨[], by simp⟩, h _ _, h _ _, h _ _, h _ _, hS⟩
theorem See_mem {F L L' : List Nat} {f : Nat → Nat} {sn k : Nat} (hk : sn ≤ k) (h : ∀ u, u ∈ L' ↔ u ∈ L ∨ ∃ j, j < k ∧ sn ≤ j ∧ u = f (F.getD j 0)) : ∀ u, u ∈ ins L' (f (F.getD k 0)) ↔ u ∈ L ∨ ∃ j, j < k + 1 ∧ sn ≤ j ∧ u = f (F.getD j 0) := by
  intro u
  rw [mem_ins, h u]
  constructor
  · rintro ((a | ⟨j, a, b, e⟩) | e)
    · exact Or.inl a
    · exact Or.inr ⟨j, by omega, b, e⟩
    · exact Or.inr ⟨k, by omega, hk, e⟩
  · rintro (a | ⟨j, a, b, e⟩)
    · exact Or.inl (Or.inl a)
    · rcases Nat.lt_or_ge j k with w | w
      · exact Or.inl (Or.inr ⟨j, w, b, e⟩)
      · obtain rfl : j = k := by omega
        exact Or.inr e
theorem app_ins {L L' : List Nat} (s : Nat) (h : ∃ l, L' = L ++ l) : ∃ l, ins L' s = L ++ l := by
  obtain ⟨l, rfl⟩ := h
  obtain ⟨r, hr⟩ := ins_app (L ++ l) s
  exact ⟨l ++ r, by rw [hr, List.append_assoc]⟩
theorem See_step {M2 M3 M4 M5 : mx_M} {c sn k : Nat} {hs : Hs} {X Y : Cx} (hk : sn ≤ k) (h : SeeI M2 M3 c hs X sn k Y)
    (a1 : Fr M3 M4 (c + 9) (c + 17)) (a2 : M4 (c + 9) = upd (M3 (c + 9)) k (nI (L1 hs ((cF X).getD k 0)))) (a3 : M4 (c + 10) = upd (M3 (c + 10)) k (nI (R1 hs ((cF X).getD k 0)))) (a4 : SetsL M4 (c + 11) (ins (cPL Y) (L1 hs ((cF X).getD k 0)))) (a5 : SetsL M4 (c + 14) (ins (cPR Y) (R1 hs ((cF X).getD k 0))))
    (b1 : Fr M4 M5 (c + 18) (c + 26)) (b2 : M5 (c + 18) = upd (M4 (c + 18)) k (nI (L2 hs ((cF X).getD k 0)))) (b3 : M5 (c + 19) = upd (M4 (c + 19)) k (nI (R2 hs ((cF X).getD k 0)))) (b4 : SetsL M5 (c + 20) (ins (cQL Y) (L2 hs ((cF X).getD k 0)))) (b5 : SetsL M5 (c + 23) (ins (cQR Y) (R2 hs ((cF X).getD k 0)))) :
    SeeI M2 M5 c hs X sn (k + 1) (Y.1, (ins (cPL Y) (L1 hs ((cF X).getD k 0)), ins (cPR Y) (R1 hs ((cF X).getD k 0))), (ins (cQL Y) (L2 hs ((cF X).getD k 0)), ins (cQR Y) (R2 hs ((cF X).getD k 0))), Y.2.2.2) := by
  obtain ⟨i1, i2, i3, i4, i5, i6, i7, i8, i9, i10, i11, i12, i13⟩ := h
  obtain ⟨m0, m1, m2, m3, m4, m5, m6, m7, m8, m9, m10, m11, m12, m13, m14⟩ := id i2
  have e : ∀ a, a < c + 9 ∨ c + 26 ≤ a → M5 a = M3 a := fun a ha => by rw [b1 a (by omega), a1 a (by omega)]
  refine ⟨(i1.tr (a1.mono (by omega) (by omega))).tr (b1.mono (by omega) (by omega)), ⟨?_, ?_, ?_, ?_, ?_, ?_, ?_, a4.fr b1 (by omega), a5.fr b1 (by omega), b4, b5, ?_, ?_, fun t ht => ?_, fun t ht => ?_⟩, i3, i4, app_ins _ i5, app_ins _ i6, app_ins _ i7, app_ins _ i8, See_mem hk i9, See_mem hk i10, See_mem hk i11, See_mem hk i12, fun j hj => ?_⟩
  · unfold HsAt
    rw [e (c + 1) (by omega), e (c + 1 + 1) (by omega), e (c + 1 + 2) (by omega), e (c + 1 + 3) (by omega)]
    exact m0
  · rw [e c (by omega)]; exact m1
  · rw [e c (by omega)]; exact m2
  · rw [e c (by omega)]; exact m3
  · rw [e c (by omega)]; exact m4
  · rw [e c (by omega)]; exact m5
  · exact m6.eq (e _ (by omega)) (e _ (by omega)) (e _ (by omega))
  · exact m11.eq (e _ (by omega)) (e _ (by omega)) (e _ (by omega))
  · exact m12.eq (e _ (by omega)) (e _ (by omega)) (e _ (by omega))
  · rw [e _ (by omega)]; exact m13 t ht
  · rw [e _ (by omega)]; exact m14 t ht
  · rw [b1 (c + 9) (by omega), b1 (c + 10) (by omega), a2, a3, b2, b3, a1 (c + 18) (by omega), a1 (c + 19) (by omega)]
    by_cases hx : j = k
    · rw [hx, pk_us, pk_us, pk_us, pk_us]
      exact ⟨rfl, rfl, rfl, rfl⟩
    · rw [pk_un hx, pk_un hx, pk_un hx, pk_un hx]
      exact i13 j (by omega)

