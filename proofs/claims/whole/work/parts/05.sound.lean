/-! ===== the straight instructions are sound ===== -/
theorem mx_w_at {G : mx_G} {Λ : List mx_K} {M : mx_M} {k : Nat} {kd : mx_K} (h : Λ[k]? = some kd) : (mx_w G Λ M)[k]? = some (mx_B G + k, mx_e G M k kd) := by
  simp [mx_w, List.getElem?_mapIdx, h]
theorem mx_w_inv {G : mx_G} {Λ : List mx_K} {M : mx_M} {k : Nat} {q : Nat × va_E} (h : (mx_w G Λ M)[k]? = some q) : q.1 = mx_B G + k := by
  simp only [mx_w, List.getElem?_mapIdx] at h
  cases hk : Λ[k]? with
  | none => rw [hk] at h; cases h
  | some kd => rw [hk] at h; cases h; rfl
theorem mx_w_D (G : mx_G) (Λ : List mx_K) (M : mx_M) : va_D (mx_A G) (mx_w G Λ M) := by
  refine ⟨fun i j p q hi hj h => ?_, fun k q hk => ?_⟩
  · have h1 := mx_w_inv hi
    have h2 := mx_w_inv hj
    omega
  · show mx_B G ≤ q.1
    rw [mx_w_inv hk]
    omega
theorem mx_w_len (G : mx_G) (Λ : List mx_K) (M : mx_M) : (mx_w G Λ M).length = Λ.length := by simp [mx_w]
theorem mx_e_ne {G : mx_G} {M M' : mx_M} {k : Nat} (kd : mx_K) (h : M' k = M k) : mx_e G M' k kd = mx_e G M k kd := by
  cases kd with
  | inl o =>
    obtain ⟨ci, fs⟩ := o
    simp only [mx_e]
    congr 2
    apply List.ext_getElem?
    intro j
    simp only [List.getElem?_mapIdx]
    cases fs[j]? with
    | none => rfl
    | some f => cases f with
      | none => simp [mx_fv, h]
      | some r => cases r <;> rfl
  | inr a =>
    obtain ⟨z, n⟩ := a
    simp [mx_e, h]
theorem mx_w_set {G : mx_G} {Λ : List mx_K} {M M' : mx_M} {h : Nat} {kd : mx_K} (hk : Λ[h]? = some kd) (ho : ∀ a, a ≠ h → M' a = M a) : mx_w G Λ M' = (mx_w G Λ M).set h (mx_B G + h, mx_e G M' h kd) := by
  have hl : h < Λ.length := (List.getElem?_eq_some_iff.mp hk).1
  apply List.ext_getElem?
  intro j
  by_cases hj : j = h
  · subst hj
    rw [List.getElem?_set_self (by rw [mx_w_len]; exact hl), mx_w_at hk]
  · rw [List.getElem?_set_ne (Ne.symm hj)]
    simp only [mx_w, List.getElem?_mapIdx]
    cases hkj : Λ[j]? with
    | none => rfl
    | some kd' => simp only [Option.map_some, mx_e_ne kd' (ho j hj)]
theorem mx_e_field {G : mx_G} {M : mx_M} {h k ci : Nat} {fs : List (Option (Option Nat))} (hf : fs[k]? = some none) (v : Int32) : mx_e G (mx_wr M h k v) h (.inl (ci, fs)) = .inr (ci, (fs.mapIdx (mx_fv G M h)).set k (.int v)) := by
  have hl : k < fs.length := (List.getElem?_eq_some_iff.mp hf).1
  simp only [mx_e]
  congr 2
  apply List.ext_getElem?
  intro j
  by_cases hj : j = k
  · subst hj
    rw [List.getElem?_set_self (by simpa using hl), List.getElem?_mapIdx, hf]
    simp [mx_fv, mx_wr_s, upd]
  · rw [List.getElem?_set_ne (Ne.symm hj)]
    simp only [List.getElem?_mapIdx]
    cases fs[j]? with
    | none => rfl
    | some f => cases f with
      | none => simp [mx_fv, mx_wr_s, upd, hj]
      | some r => cases r <;> rfl
theorem mx_e_arr {G : mx_G} {M : mx_M} {a j n : Nat} {z : Bool} (v : Int32) : mx_e G (mx_wr M a j v) a (.inr (z, n)) = .inl (if z then mx_cZ G else mx_cI G, n, .inl (upd (M a) j v)) := by
  simp only [mx_e, mx_wr_s]
theorem mx_R_wr {G : mx_G} {Λ : List mx_K} {M : mx_M} {H H1 : Heap} {a j : Nat} {v : Int32} (hR : mx_R G Λ M H) (hl : a < Λ.length) (hP : va_P G.1 vwCl (mx_w G Λ (mx_wr M a j v)) H1) (hz : H1.size = H.size) : mx_R G Λ (mx_wr M a j v) H1 := by
  obtain ⟨-, h1, h2, h3, h4⟩ := hR
  refine ⟨hP, fun h => by rw [hz]; exact h1 h, h2, fun k hk hk2 i => ?_, ?_⟩
  · rw [mx_wr_n M j v (by omega)]
    exact h3 k hk hk2 i
  · rw [mx_wr_n M j v (by omega)]
    exact h4
theorem mx_ocl_at {Λ : List mx_K} {h ci : Nat} (hc : ci ≠ 99) (ho : mx_ocl Λ h = ci) : Λ[h]? = some (.inl (ci, mx_refs ci h)) := by
  unfold mx_ocl at ho
  split at ho
  · rename_i c2 fs hq
    split at ho
    · rename_i hf
      subst ho
      rw [hq, ← hf]
    · exact absurd ho.symm hc
  · exact absurd ho.symm hc
theorem mx_len_at0 {Λ : List mx_K} {z : Bool} {a : Nat} (h0 : mx_len Λ z a ≠ 0) : Λ[a]? = some (.inr (z, mx_len Λ z a)) := by
  unfold mx_len at h0 ⊢
  split at h0
  · rename_i y n hq
    split at h0
    · rename_i hy
      subst hy
      rw [hq]
      simp
    · exact absurd rfl h0
  · exact absurd rfl h0
theorem mx_len_at {Λ : List mx_K} {z : Bool} {a : Nat} {i : Int32} (h : vp_in i (mx_len Λ z a)) : Λ[a]? = some (.inr (z, mx_len Λ z a)) :=
  mx_len_at0 (fun h1 => by
    rw [h1] at h
    exact h (Or.inr (Nat.zero_le _)))
def mx_holds (φ : Option Prop) : Prop := match φ with
  | none => True
  | some q => q
/-- what a step of the function gives: from the state behind it, the state ahead of it -/
def mx_Go (m : MR) (G : mx_G) (Λ : List mx_K) (pc n : Nat) (st : mx_St) (r : mx_O) : Prop :=
  ∀ (st' : mx_St) (φ : Option Prop), r = some (st', φ) → mx_holds φ → ∀ (cl sl : Nat) (Q : mx_Q), mx_W G m (pc + n) st' Λ cl sl Q → mx_W G m pc st Λ cl sl Q
theorem mx_ad_at {G : mx_G} {k : Nat} (h : k < 1000) : mx_ad G k = mx_B G + k := by
  unfold mx_ad
  rw [if_pos h]
theorem mx_R.lt {G : mx_G} {Λ : List mx_K} {M : mx_M} {H : Heap} (h : mx_R G Λ M H) {k : Nat} {kd : mx_K} (hk : Λ[k]? = some kd) : k < Λ.length ∧ k < 1000 := by
  have h1 := (List.getElem?_eq_some_iff.mp hk).1
  have h2 := h.2.2.1
  exact ⟨h1, by omega⟩
theorem mx_has.set1 {G : mx_G} {ls : Array Slot} {l l' : List (Option Value)} {i : Nat} {v : Value} (h : mx_has G ls l) (hc : v.category = 1) (hs : mx_set1 l i v = some l') :
    ∃ lv : List (Nat × Value), lv_has ls l.length lv ∧ i < l.length ∧ ∀ ls' : Array Slot, lv_has ls' l.length ((i, mx_ph G v) :: lv.filter (fun q => !(q.1 == i) && !(q.1 + 1 == i && q.2.category == 2))) → mx_has G ls' l' := by
  have key : ∀ (l l' : List (Option Value)) (i : Nat), mx_set1 l i v = some l' → i < l.length ∧ l'.length = l.length ∧ ∀ (j : Nat) (w : Value), l'[j]? = some (some w) → (j = i ∧ w = v) ∨ (j ≠ i ∧ l[j]? = some (some w) ∧ (j + 1 = i → ¬ w.category = 2)) := by
    intro l
    induction l with
    | nil => intro l' i h; simp [mx_set1] at h
    | cons x l ih =>
      intro l' i h
      cases i with
      | zero =>
        simp only [mx_set1, Option.some.injEq] at h
        subst h
        refine ⟨by simp, by simp, fun j w hj => ?_⟩
        cases j with
        | zero => simp at hj; exact Or.inl ⟨rfl, hj.symm⟩
        | succ j => exact Or.inr ⟨by omega, by simpa using hj, by omega⟩
      | succ i =>
        simp only [mx_set1] at h
        cases hm : mx_set1 l i v with
        | none => rw [hm] at h; cases h
        | some l1 =>
          rw [hm] at h
          simp only [Option.some.injEq] at h
          obtain ⟨a1, a2, a3⟩ := ih l1 i hm
          subst h
          refine ⟨by simp; omega, by simp [a2], fun j w hj => ?_⟩
          cases j with
          | zero =>
            refine Or.inr ⟨by omega, ?_, fun hi => ?_⟩
            · simp only [List.getElem?_cons_zero, Option.some.injEq] at hj ⊢
              by_cases h0 : i = 0
              · rw [if_pos h0] at hj
                split at hj <;> simp_all
              · rw [if_neg h0] at hj; exact hj
            · have h0 : i = 0 := by omega
              simp only [List.getElem?_cons_zero, Option.some.injEq] at hj
              rw [if_pos h0] at hj
              split at hj
              · cases hj
              · cases hj
              · rename_i n1 n2
                subst hj
                intro hw
                cases w with
                | long z => exact n1 z rfl
                | double z => exact n2 z rfl
                | _ => simp [Value.category] at hw
          | succ j =>
            rcases a3 j w (by simpa using hj) with ⟨e1, e2⟩ | ⟨e1, e2, e3⟩
            · exact Or.inl ⟨by omega, e2⟩
            · exact Or.inr ⟨by omega, by simpa using e2, fun q => e3 (by omega)⟩
  obtain ⟨k1, k2, k3⟩ := key l l' i hs
  refine ⟨l.zipIdx.filterMap (fun q => q.1.map (fun w => (q.2, mx_ph G w))), ⟨h.1, h.2.1, fun q hq => ?_⟩, k1, fun ls' h' => ⟨by rw [h'.1, k2], h'.2.1, fun j w hj => ?_⟩⟩
  · obtain ⟨⟨o, j⟩, hm, he⟩ := List.mem_filterMap.mp hq
    cases o with
    | none => simp at he
    | some w =>
      simp only [Option.map_some, Option.some.injEq] at he
      subst he
      have := List.mem_zipIdx_iff_getElem?.mp hm
      exact h.2.2 j w this
  · rcases k3 j w hj with ⟨e1, e2⟩ | ⟨e1, e2, e3⟩
    · subst e1; subst e2
      exact h'.2.2 _ List.mem_cons_self
    · refine h'.2.2 (j, mx_ph G w) (List.mem_cons_of_mem _ (List.mem_filter.mpr ⟨List.mem_filterMap.mpr ⟨(some w, j), List.mem_zipIdx_iff_getElem?.mpr e2, rfl⟩, ?_⟩))
      simp only [Bool.and_eq_true, Bool.not_eq_true', beq_eq_false_iff_ne, ne_eq, Bool.and_eq_false_iff, mx_ph_cat]
      refine ⟨e1, ?_⟩
      by_cases hji : j + 1 = i
      · exact Or.inr (e3 hji)
      · exact Or.inl hji
theorem mx_has.set2 {G : mx_G} {ls : Array Slot} {l l' : List (Option Value)} {i : Nat} {v : Value} (h : mx_has G ls l) (hs : mx_set2 l i v = some l') :
    ∃ lv : List (Nat × Value), lv_has ls l.length lv ∧ i + 1 < l.length ∧ ∀ ls' : Array Slot, lv_has ls' l.length ((i, mx_ph G v) :: lv.filter (fun q => !(q.1 == i) && (!(q.1 == i + 1) && !(q.1 + 1 == i && q.2.category == 2)))) → mx_has G ls' l' := by
  have key : ∀ (l l' : List (Option Value)) (i : Nat), mx_set2 l i v = some l' → i + 1 < l.length ∧ l'.length = l.length ∧ ∀ (j : Nat) (w : Value), l'[j]? = some (some w) → (j = i ∧ w = v) ∨ (j ≠ i ∧ j ≠ i + 1 ∧ l[j]? = some (some w) ∧ (j + 1 = i → ¬ w.category = 2)) := by
    intro l
    induction l with
    | nil => intro l' i h; simp [mx_set2] at h
    | cons x l ih =>
      intro l' i h
      cases i with
      | zero =>
        cases l with
        | nil => simp [mx_set2] at h
        | cons y l =>
          simp only [mx_set2, Option.some.injEq] at h
          subst h
          refine ⟨by simp, by simp, fun j w hj => ?_⟩
          match j, hj with
          | 0, hj => simp at hj; exact Or.inl ⟨rfl, hj.symm⟩
          | 1, hj => simp at hj
          | j + 2, hj => exact Or.inr ⟨by omega, by omega, by simpa using hj, by omega⟩
      | succ i =>
        simp only [mx_set2] at h
        cases hm : mx_set2 l i v with
        | none => rw [hm] at h; cases h
        | some l1 =>
          rw [hm] at h
          simp only [Option.some.injEq] at h
          obtain ⟨a1, a2, a3⟩ := ih l1 i hm
          subst h
          refine ⟨by simp; omega, by simp [a2], fun j w hj => ?_⟩
          cases j with
          | zero =>
            refine Or.inr ⟨by omega, by omega, ?_, fun hi => ?_⟩
            · simp only [List.getElem?_cons_zero, Option.some.injEq] at hj ⊢
              by_cases h0 : i = 0
              · rw [if_pos h0] at hj
                split at hj <;> simp_all
              · rw [if_neg h0] at hj; exact hj
            · have h0 : i = 0 := by omega
              simp only [List.getElem?_cons_zero, Option.some.injEq] at hj
              rw [if_pos h0] at hj
              split at hj
              · cases hj
              · cases hj
              · rename_i n1 n2
                subst hj
                intro hw
                cases w with
                | long z => exact n1 z rfl
                | double z => exact n2 z rfl
                | _ => simp [Value.category] at hw
          | succ j =>
            rcases a3 j w (by simpa using hj) with ⟨e1, e2⟩ | ⟨e1, e2, e3, e4⟩
            · exact Or.inl ⟨by omega, e2⟩
            · exact Or.inr ⟨by omega, by omega, by simpa using e3, fun q => e4 (by omega)⟩
  obtain ⟨k1, k2, k3⟩ := key l l' i hs
  refine ⟨l.zipIdx.filterMap (fun q => q.1.map (fun w => (q.2, mx_ph G w))), ⟨h.1, h.2.1, fun q hq => ?_⟩, k1, fun ls' h' => ⟨by rw [h'.1, k2], h'.2.1, fun j w hj => ?_⟩⟩
  · obtain ⟨⟨o, j⟩, hm, he⟩ := List.mem_filterMap.mp hq
    cases o with
    | none => simp at he
    | some w =>
      simp only [Option.map_some, Option.some.injEq] at he
      subst he
      have := List.mem_zipIdx_iff_getElem?.mp hm
      exact h.2.2 j w this
  · rcases k3 j w hj with ⟨e1, e2⟩ | ⟨e1, e2, e3, e4⟩
    · subst e1; subst e2
      exact h'.2.2 _ List.mem_cons_self
    · refine h'.2.2 (j, mx_ph G w) (List.mem_cons_of_mem _ (List.mem_filter.mpr ⟨List.mem_filterMap.mpr ⟨(some w, j), List.mem_zipIdx_iff_getElem?.mpr e3, rfl⟩, ?_⟩))
      simp only [Bool.and_eq_true, Bool.not_eq_true', beq_eq_false_iff_ne, ne_eq, Bool.and_eq_false_iff, mx_ph_cat]
      refine ⟨e1, e2, ?_⟩
      by_cases hji : j + 1 = i
      · exact Or.inr (e4 hji)
      · exact Or.inl hji
