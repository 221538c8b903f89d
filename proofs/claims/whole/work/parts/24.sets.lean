/-! ===== Sets: a list of sets of types, each with a number ===== -/
theorem nd_len : ∀ (n : Nat) (l : List Nat), l.Nodup → (∀ x ∈ l, x < n) → l.length ≤ n
  | 0, l, _, h => by
    cases l with
    | nil => simp
    | cons a t => exact absurd (h a List.mem_cons_self) (Nat.not_lt_zero a)
  | n + 1, l, hn, h => by
    by_cases hm : n ∈ l
    · have h1 := nd_len n (l.erase n) (hn.erase n) (fun x hx => by
        have h2 := (hn.mem_erase_iff).mp hx
        have := h x h2.2
        omega)
      rw [List.length_erase_of_mem hm] at h1
      omega
    · have h1 := nd_len n l hn (fun x hx => by
        have := h x hx
        have h3 : x ≠ n := fun q => hm (q ▸ hx)
        omega)
      omega
def SetsAt (M : mx_M) (q : Nat) (L : List Nat) (f : Nat → Nat) : Prop := M q 2 = nI L.length ∧ L.Nodup ∧ (∀ s ∈ L, s < 256) ∧ (∀ i, i < L.length → M (q + 1) i = nI (L.getD i 0)) ∧ (∀ s, s < 256 → M (q + 2) s = nI (f s) ∧ f s < 2 ^ 31) ∧ ∀ s, s < 256 → (f s ≠ 0 ↔ s ∈ L)
theorem SetsAt.len {M : mx_M} {q : Nat} {L : List Nat} {f : Nat → Nat} (h : SetsAt M q L f) : L.length ≤ 256 := nd_len 256 L h.2.1 h.2.2.1
theorem SetsAt.fr {M M' : mx_M} {q lo hi : Nat} {L : List Nat} {f : Nat → Nat} (h : SetsAt M q L f) (hf : Fr M M' lo hi) (hd : q + 3 ≤ lo ∨ hi ≤ q) : SetsAt M' q L f := by
  unfold SetsAt
  rw [hf q (by omega), hf (q + 1) (by omega), hf (q + 2) (by omega)]
  exact h
theorem SetsAt.lt {M : mx_M} {q : Nat} {L : List Nat} {f : Nat → Nat} (h : SetsAt M q L f) {i : Nat} (hi : i < L.length) : L.getD i 0 < 256 ∧ L.getD i 0 ∈ L := by
  have e : L.getD i 0 = L[i] := by simp [hi]
  rw [e]
  exact ⟨h.2.2.1 _ (List.getElem_mem hi), List.getElem_mem hi⟩
theorem upd_s {α : Type} (f : Nat → Int32) (k : Nat) (x : Int32) : upd f k x k = x := pk_us
def updN (f : Nat → Nat) (k x : Nat) : Nat → Nat := fun j => if j = k then x else f j
theorem updN_s (f : Nat → Nat) (k x : Nat) : updN f k x k = x := if_pos rfl
theorem updN_n (f : Nat → Nat) {k j : Nat} (x : Nat) (h : j ≠ k) : updN f k x j = f j := if_neg h
theorem SetsAt.add {M : mx_M} {q : Nat} {L : List Nat} {f : Nat → Nat} {s n : Nat} (h : SetsAt M q L f) (hs : s < 256) (hm : s ∉ L) (hn : 0 < n) (hn2 : n < 2 ^ 31) :
    SetsAt (mx_wr (mx_wr (mx_wr M (q + 1) L.length (nI s)) (q + 2) s (nI n)) q 2 (nI (L.length + 1))) q (L ++ [s]) (updN f s n) := by
  obtain ⟨h1, h2, h3, h4, h5, h6⟩ := h
  refine ⟨?_, ?_, ?_, ?_, ?_, ?_⟩
  · rw [mx_wr_s, pk_us]
    simp
  · rw [List.nodup_append]
    refine ⟨h2, by simp, fun a ha b hb => ?_⟩
    simp only [List.mem_singleton] at hb
    subst hb
    exact fun e => hm (e ▸ ha)
  · intro x hx
    rcases List.mem_append.mp hx with q1 | q1
    · exact h3 x q1
    · simp only [List.mem_singleton] at q1
      omega
  · intro i hi
    rw [mx_wr_n _ _ _ (by omega), mx_wr_n _ _ _ (by omega), mx_wr_s]
    simp only [List.length_append, List.length_singleton] at hi
    by_cases he : i = L.length
    · subst he
      rw [pk_us]
      simp
    · rw [pk_un he, h4 i (by omega)]
      congr 1
      simp [List.getD_eq_getElem?_getD, List.getElem?_append_left (show i < L.length by omega)]
  · intro x hx
    rw [mx_wr_n _ _ _ (by omega), mx_wr_s, mx_wr_n _ _ _ (by omega)]
    by_cases he : x = s
    · subst he
      rw [pk_us, updN_s]
      exact ⟨rfl, hn2⟩
    · rw [pk_un he, updN_n f n he]
      exact h5 x hx
  · intro x hx
    by_cases he : x = s
    · subst he
      rw [updN_s]
      simp
      omega
    · rw [updN_n f n he, h6 x hx]
      simp [he]
theorem k_add21 (G : mx_G) {M : mx_M} {q : Nat} {L : List Nat} {f : Nat → Nat} (ho : mx_ocl LAY q = 6) (hA : SetsAt M q L f) {s n : Nat} (hs : s < 256) (hm : s ∉ L) (hn : 0 < n) (hn2 : n < 2 ^ 31) (h1 : M q 2 = nI L.length) (hlt : L.length < 256) (e7 : mx_wr (mx_wr M (q + 1) L.length (nI s)) (q + 2) s (nI n) q 2 = nI L.length) : sW G m_Sets_add 21 ([], [some (.ref q), some (.int (nI s)), some (.int (nI n))], M) (fun r M' => r = some (.int (tf (s ∉ L))) ∧ Fr M M' q (q + 3) ∧ (s ∈ L → M' = M) ∧ (s ∉ L → SetsAt M' q (L ++ [s]) (updN f s n))) := by
  refine sW_go b_Sets_add_21 (st' := ([.int (nI 1)], [some (.ref q), some (.int (nI s)), some (.int (nI n))], mx_wr (mx_wr (mx_wr M (q + 1) (M q 2).toNatClampNeg (nI s)) (q + 2) (nI s).toNatClampNeg (nI n)) q 2 ((mx_wr (mx_wr M (q + 1) (M q 2).toNatClampNeg (nI s)) (q + 2) (nI s).toNatClampNeg (nI n)) q 2 + nI 1))) (φ := mx_ocl LAY q = 6 ∧ mx_ocl LAY q = 6 ∧ vp_in (M q 2) (mx_len LAY false (q + 1)) ∧ mx_ocl LAY q = 6 ∧ vp_in (nI s) (mx_len LAY false (q + 2)) ∧ mx_ocl LAY q = 6 ∧ mx_ocl LAY q = 6 ∧ True) rfl ⟨ho, ho, (by simp (disch := omega) only [h1, (ln_Sets_at ho)]; exact vp_in_nI (by omega) (by decide)), ho, (by simp (disch := omega) only [(ln_Sets_number ho)]; exact vp_in_nI (by omega) (by decide)), ho, ho, trivial⟩ ?_
  refine sW_eq (st' := ([.int (nI 1)], [some (.ref q), some (.int (nI s)), some (.int (nI n))], mx_wr (mx_wr (mx_wr M (q + 1) L.length (nI s)) (q + 2) s (nI n)) q 2 (nI (L.length + 1)))) (by simp (disch := omega) only [e7, h1, nI_add, nI_clamp]) ?_
  refine sW_retI d_Sets_add_49 rfl nb_1 ?_
  exact ⟨by rw [tf_t hm], ((Fr.rf.wr (by omega) (by omega)).wr (by omega) (by omega)).wr (by omega) (by omega), fun h => absurd h hm, fun _ => hA.add hs hm hn hn2⟩
theorem k_Sets_add (G : mx_G) {M : mx_M} {q : Nat} {L : List Nat} {f : Nat → Nat} (ho : mx_ocl LAY q = 6) (hA : SetsAt M q L f) {s n : Nat} (hs : s < 256) (hn : 0 < n) (hn2 : n < 2 ^ 31) : sOk G m_Sets_add [.ref q, .int (nI s), .int (nI n)] M (fun r M' => r = some (.int (tf (s ∉ L))) ∧ Fr M M' q (q + 3) ∧ (s ∈ L → M' = M) ∧ (s ∉ L → SetsAt M' q (L ++ [s]) (updN f s n))) := by
  obtain ⟨h1, h2, h3, h4, h5, h6⟩ := id hA
  have hl := hA.len
  obtain ⟨e5, b5⟩ := h5 s hs
  have hlt : s ∉ L → L.length < 256 := fun hm => by
    have := nd_len 256 (s :: L) (List.nodup_cons.mpr ⟨hm, h2⟩) (fun x hx => by
      rcases List.mem_cons.mp hx with rfl | hx
      · exact hs
      · exact h3 x hx)
    simp only [List.length_cons] at this
    omega
  refine sOk_of ⟨by decide +kernel, by decide +kernel, Nat.le_of_ble_eq_true rfl⟩ ?_
  show sW G m_Sets_add 0 ([], [some (.ref q), some (.int (nI s)), some (.int (nI n))], M) _
  refine sW_go b_Sets_add_0 (st' := ([.int (M (q + 2) (nI s).toNatClampNeg)], [some (.ref q), some (.int (nI s)), some (.int (nI n))], M)) (φ := mx_ocl LAY q = 6 ∧ vp_in (nI s) (mx_len LAY false (q + 2)) ∧ True) rfl ⟨ho, (by simp (disch := omega) only [(ln_Sets_number ho)]; exact vp_in_nI (by omega) (by decide)), trivial⟩ ?_
  refine sW_eq (st' := ([.int (nI (f s))], [some (.ref q), some (.int (nI s)), some (.int (nI n))], M)) (by simp (disch := omega) only [e5, nI_clamp]) ?_
  refine sW_if_ne 19 d_Sets_add_6 (by decide) (fun c_6 => ?_) (fun c_6 => ?_)
  · skip
    simp (disch := omega) only [nI_z] at c_6
    refine sW_go b_Sets_add_19 (st' := ([.int (nI 0)], [some (.ref q), some (.int (nI s)), some (.int (nI n))], M)) (φ := True) rfl trivial ?_
    refine sW_retI d_Sets_add_20 rfl nb_0 ?_
    have hm : s ∈ L := (h6 s hs).mp c_6
    exact ⟨by rw [tf_f (fun q => q hm)], Fr.rf, fun _ => rfl, fun q => absurd hm q⟩
  · skip
    simp (disch := omega) only [nI_z] at c_6
    refine sW_go b_Sets_add_9 (st' := ([.int (nI 256), .int (M q 2)], [some (.ref q), some (.int (nI s)), some (.int (nI n))], M)) (φ := mx_ocl LAY q = 6 ∧ True) rfl ⟨ho, trivial⟩ ?_
    refine sW_eq (st' := ([.int (nI 256), .int (nI L.length)], [some (.ref q), some (.int (nI s)), some (.int (nI n))], M)) (by simp (disch := omega) only [h1]) ?_
    refine sW_ic_lt 21 d_Sets_add_16 (by decide) (fun c_16 => ?_) (fun c_16 => ?_)
    · skip
      simp (disch := omega) only [nI_ltI] at c_16
      have hm : s ∉ L := fun q => (h6 s hs).mpr q c_6
      have hlt := hlt hm
      have e7 : mx_wr (mx_wr M (q + 1) L.length (nI s)) (q + 2) s (nI n) q 2 = nI L.length := by
        rw [mx_wr_n _ _ _ (by omega), mx_wr_n _ _ _ (by omega)]
        exact h1
      exact k_add21 G ho hA hs hm hn hn2 h1 hlt e7
    · skip
      simp (disch := omega) only [nI_ltI] at c_16
      refine sW_go b_Sets_add_19 (st' := ([.int (nI 0)], [some (.ref q), some (.int (nI s)), some (.int (nI n))], M)) (φ := True) rfl trivial ?_
      refine sW_retI d_Sets_add_20 rfl nb_0 ?_
      have hm : s ∉ L := fun q => (h6 s hs).mpr q c_6
      exact absurd (hlt hm) c_16
theorem mem_take_s {L : List Nat} {k s : Nat} (h : k < L.length) : s ∈ L.take (k + 1) ↔ s ∈ L.take k ∨ s = L.getD k 0 := by
  have e : L.getD k 0 = L[k] := by simp [h]
  rw [List.take_add_one, List.getElem?_eq_getElem h, List.mem_append, e]
  simp only [Option.toList_some, List.mem_singleton]
theorem k_Sets_clear (G : mx_G) {M : mx_M} {q : Nat} {L : List Nat} {f : Nat → Nat} (ho : mx_ocl LAY q = 6) (hA : SetsAt M q L f) : sOk G m_Sets_clear [.ref q] M (fun r M' => r = none ∧ Fr M M' q (q + 3) ∧ SetsAt M' q [] (fun _ => 0)) := by
  obtain ⟨h1, h2, h3, h4, h5, h6⟩ := id hA
  have hl := hA.len
  refine sOk_of ⟨by decide +kernel, by decide +kernel, Nat.le_of_ble_eq_true rfl⟩ ?_
  show sW G m_Sets_clear 0 ([], [some (.ref q), none], M) _
  refine sW_go b_Sets_clear_0 (st' := ([], [some (.ref q), some (.int (nI 0))], M)) (φ := True) rfl trivial ?_
  refine mx_ind (α := Nat × mx_M) (fun a => L.length - a.1) (fun a => a.1 ≤ L.length → (∀ s, s < 256 → a.2 (q + 2) s = if s ∈ L.take a.1 then 0 else M (q + 2) s) → (∀ b, b ≠ q + 2 → a.2 b = M b) → sW G m_Sets_clear 2 ([], [some (.ref q), some (.int (nI a.1))], a.2) _) ?_ (0, M) (Nat.zero_le _) (fun s hs => by simp) (fun _ _ => rfl)
  rintro ⟨k, M2⟩ ih hk i1 i2
  dsimp only at ih hk i1 i2 ⊢
  have e1 : M2 q 2 = nI L.length := by rw [i2 q (by omega)]; exact h1
  by_cases hkn : k < L.length
  · have e2 : M2 (q + 1) k = nI (L.getD k 0) := by rw [i2 (q + 1) (by omega)]; exact h4 k hkn
    obtain ⟨l1, l2⟩ := hA.lt hkn
    refine sW_go b_Sets_clear_2 (st' := ([.int (M2 q 2), .int (nI k)], [some (.ref q), some (.int (nI k))], M2)) (φ := mx_ocl LAY q = 6 ∧ True) rfl ⟨ho, trivial⟩ ?_
    refine sW_eq (st' := ([.int (nI L.length), .int (nI k)], [some (.ref q), some (.int (nI k))], M2)) (by simp (disch := omega) only [e1]) ?_
    refine sW_ic_ge 28 d_Sets_clear_7 (by decide) (fun c_7 => ?_) (fun c_7 => ?_)
    · skip
      simp (disch := omega) only [nI_leI] at c_7
      refine sW_go b_Sets_clear_28 (st' := ([], [some (.ref q), some (.int (nI k))], mx_wr M2 q 2 (nI 0))) (φ := mx_ocl LAY q = 6 ∧ True) rfl ⟨ho, trivial⟩ ?_
      refine sW_retV d_Sets_clear_33 rfl ?_
      omega
    · skip
      simp (disch := omega) only [nI_leI] at c_7
      refine sW_go b_Sets_clear_10 (st' := ([], [some (.ref q), some (.int (nI k + nI 1))], mx_wr M2 (q + 2) (M2 (q + 1) (nI k).toNatClampNeg).toNatClampNeg (nI 0))) (φ := mx_ocl LAY q = 6 ∧ mx_ocl LAY q = 6 ∧ vp_in (nI k) (mx_len LAY false (q + 1)) ∧ vp_in (M2 (q + 1) (nI k).toNatClampNeg) (mx_len LAY false (q + 2)) ∧ True) rfl ⟨ho, ho, (by simp (disch := omega) only [(ln_Sets_at ho)]; exact vp_in_nI (by omega) (by decide)), (by simp (disch := omega) only [e2, nI_clamp, (ln_Sets_number ho)]; exact vp_in_nI (by omega) (by decide)), trivial⟩ ?_
      refine sW_eq (st' := ([], [some (.ref q), some (.int (nI (k + 1)))], mx_wr M2 (q + 2) (L.getD k 0) (nI 0))) (by simp (disch := omega) only [e2, nI_add, nI_clamp]) ?_
      refine sW_goto 2 d_Sets_clear_25 (by decide) ?_
      refine ih (k + 1, (mx_wr M2 (q + 2) (L.getD k 0) (nI 0))) (by dsimp only; omega) (by dsimp only; omega) (fun s hs => ?_) (fun b hb => ?_)
      · dsimp only
        rw [mx_wr_s]
        by_cases hx : s = L.getD k 0
        · rw [hx, pk_us, if_pos ((mem_take_s hkn).mpr (Or.inr rfl))]
          rfl
        · rw [pk_un hx, i1 s hs]
          by_cases hm : s ∈ L.take k
          · rw [if_pos hm, if_pos ((mem_take_s hkn).mpr (Or.inl hm))]
          · rw [if_neg hm, if_neg (fun q => ((mem_take_s hkn).mp q).elim hm hx)]
      · dsimp only
        rw [mx_wr_n _ _ _ hb]
        exact i2 b hb
  · have hke : k = L.length := by omega
    refine sW_go b_Sets_clear_2 (st' := ([.int (M2 q 2), .int (nI k)], [some (.ref q), some (.int (nI k))], M2)) (φ := mx_ocl LAY q = 6 ∧ True) rfl ⟨ho, trivial⟩ ?_
    refine sW_eq (st' := ([.int (nI L.length), .int (nI k)], [some (.ref q), some (.int (nI k))], M2)) (by simp (disch := omega) only [e1]) ?_
    refine sW_ic_ge 28 d_Sets_clear_7 (by decide) (fun c_7 => ?_) (fun c_7 => ?_)
    · skip
      simp (disch := omega) only [nI_leI] at c_7
      refine sW_go b_Sets_clear_28 (st' := ([], [some (.ref q), some (.int (nI k))], mx_wr M2 q 2 (nI 0))) (φ := mx_ocl LAY q = 6 ∧ True) rfl ⟨ho, trivial⟩ ?_
      refine sW_retV d_Sets_clear_33 rfl ?_
      refine ⟨rfl, fun a ha => ?_, ?_, List.nodup_nil, fun s hs => by simp at hs, fun i hi => by simp at hi, fun s hs => ?_, fun s _ => by simp⟩
      · rw [mx_wr_n _ _ _ (by omega)]
        exact i2 a (by omega)
      · rw [mx_wr_s, pk_us]
        rfl
      · rw [mx_wr_n _ _ _ (by omega), i1 s hs, hke, List.take_length]
        refine ⟨?_, show (0 : Nat) < 2 ^ 31 by decide⟩
        by_cases hm : s ∈ L
        · rw [if_pos hm]
          rfl
        · rw [if_neg hm, (h5 s hs).1]
          congr 1
          exact Classical.not_not.mp (fun w => hm ((h6 s hs).mp w))
    · skip
      simp (disch := omega) only [nI_leI] at c_7
      exact absurd c_7 (by omega)
theorem SetsAt.bump {M : mx_M} {q : Nat} {L : List Nat} {f : Nat → Nat} {s n : Nat} (h : SetsAt M q L f) (hs : s < 256) (hm : s ∈ L) (hn2 : f s + n < 2 ^ 31) :
    SetsAt (mx_wr M (q + 2) s (nI (f s + n))) q L (updN f s (f s + n)) := by
  obtain ⟨h1, h2, h3, h4, h5, h6⟩ := h
  refine ⟨?_, h2, h3, fun i hi => ?_, fun x hx => ?_, fun x hx => ?_⟩
  · rw [mx_wr_n _ _ _ (by omega)]
    exact h1
  · rw [mx_wr_n _ _ _ (by omega)]
    exact h4 i hi
  · rw [mx_wr_s]
    by_cases he : x = s
    · subst he
      rw [pk_us, updN_s]
      exact ⟨rfl, hn2⟩
    · rw [pk_un he, updN_n f _ he]
      exact h5 x hx
  · by_cases he : x = s
    · subst he
      rw [updN_s]
      have := (h6 x hx).mpr hm
      exact ⟨fun _ => hm, fun _ => by omega⟩
    · rw [updN_n f _ he]
      exact h6 x hx
theorem k_raise9 (G : mx_G) {M : mx_M} {q : Nat} {L : List Nat} {f : Nat → Nat} (ho : mx_ocl LAY q = 6) (hA : SetsAt M q L f) {s n : Nat} (hs : s < 256) (hm : s ∈ L) (e5 : M (q + 2) s = nI (f s)) (b5 : f s < 2 ^ 31) (hn2 : f s + n < 2 ^ 31) : sW G m_Sets_raise 9 ([], [some (.ref q), some (.int (nI s)), some (.int (nI n))], M) (fun r M' => r = none ∧ Fr M M' q (q + 3) ∧ SetsAt M' q (if s ∈ L then L else L ++ [s]) (updN f s (f s + n))) := by
  refine sW_go b_Sets_raise_9 (st' := ([], [some (.ref q), some (.int (nI s)), some (.int (nI n))], mx_wr M (q + 2) (nI s).toNatClampNeg (M (q + 2) (nI s).toNatClampNeg + nI n))) (φ := mx_ocl LAY q = 6 ∧ vp_in (nI s) (mx_len LAY false (q + 2)) ∧ vp_in (nI s) (mx_len LAY false (q + 2)) ∧ True) rfl ⟨ho, (by simp (disch := omega) only [(ln_Sets_number ho)]; exact vp_in_nI (by omega) (by decide)), (by simp (disch := omega) only [(ln_Sets_number ho)]; exact vp_in_nI (by omega) (by decide)), trivial⟩ ?_
  refine sW_eq (st' := ([], [some (.ref q), some (.int (nI s)), some (.int (nI n))], mx_wr M (q + 2) s (nI (f s + n)))) (by simp (disch := omega) only [e5, nI_add, nI_clamp]) ?_
  refine sW_retV d_Sets_raise_19 rfl ?_
  refine ⟨rfl, Fr.rf.wr (by omega) (by omega), ?_⟩
  rw [if_pos hm]
  exact hA.bump hs hm hn2
theorem k_Sets_raise (G : mx_G) {M : mx_M} {q : Nat} {L : List Nat} {f : Nat → Nat} (ho : mx_ocl LAY q = 6) (hA : SetsAt M q L f) {s n : Nat} (hs : s < 256) (hn : 0 < n) (hn2 : f s + n < 2 ^ 31) : sOk G m_Sets_raise [.ref q, .int (nI s), .int (nI n)] M (fun r M' => r = none ∧ Fr M M' q (q + 3) ∧ SetsAt M' q (if s ∈ L then L else L ++ [s]) (updN f s (f s + n))) := by
  obtain ⟨h1, h2, h3, h4, h5, h6⟩ := id hA
  obtain ⟨e5, b5⟩ := h5 s hs
  refine sOk_of ⟨by decide +kernel, by decide +kernel, Nat.le_of_ble_eq_true rfl⟩ ?_
  show sW G m_Sets_raise 0 ([], [some (.ref q), some (.int (nI s)), some (.int (nI n))], M) _
  refine sW_go b_Sets_raise_0 (st' := ([.int (nI n), .int (nI s), .ref q], [some (.ref q), some (.int (nI s)), some (.int (nI n))], M)) (φ := True) rfl trivial ?_
  refine sW_callV 6 [.int (nI s), .int (nI n)] [] d_Sets_raise_3 c_Sets_raise_3 ⟨rfl, rfl, rfl, Nat.le_of_ble_eq_true rfl, rfl, rfl⟩ ho (k_Sets_add G ho hA hs hn (by omega)) ?_
  rintro _ M2 ⟨rfl, g1, g2, g3⟩
  show sW G m_Sets_raise 6 ([.int (tf (s ∉ L))], [some (.ref q), some (.int (nI s)), some (.int (nI n))], M2) _
  refine sW_if_ne 19 d_Sets_raise_6 (by decide) (fun c_6 => ?_) (fun c_6 => ?_)
  · skip
    replace c_6 := tf_nz.mp c_6
    refine sW_retV d_Sets_raise_19 rfl ?_
    have hm : s ∉ L := c_6
    have h0 : f s = 0 := Classical.not_not.mp (fun w => hm ((h6 s hs).mp w))
    refine ⟨rfl, g1, ?_⟩
    rw [if_neg hm, h0, Nat.zero_add]
    exact g3 hm
  · skip
    replace c_6 := tf_z.mp c_6
    have hm : s ∈ L := Classical.not_not.mp c_6
    have e2 := g2 hm
    subst e2
    exact k_raise9 G ho hA hs hm e5 b5 hn2

