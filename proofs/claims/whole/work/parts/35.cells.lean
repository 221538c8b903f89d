/-! ===== cells by height ===== -/
def L1 (hs : Hs) (x : Nat) : Nat := bsum (lftB hs 1 x) hs.1
def R1 (hs : Hs) (x : Nat) : Nat := bsum (rgtB hs 1 x) hs.1
def L2 (hs : Hs) (x : Nat) : Nat := bsum (lftB hs 2 x) hs.1
def R2 (hs : Hs) (x : Nat) : Nat := bsum (rgtB hs 2 x) hs.1
def pairC (hs : Hs) (x y : Nat) : Nat := cellOf hs (L1 hs x &&& R1 hs y)
/-- what a case takes, from a cell of K to a cell of K or to no answer -/
def Tk (hs : Hs) (K : Nat → Prop) (t : Nat) : Prop := ∃ x, K x ∧ (t = L2 hs x ∨ ∃ y, K y ∧ t = andn (L2 hs x) (R2 hs y))
/-- the cells of values of height h or less -/
def Kx (hs : Hs) : Nat → Nat → Prop
  | 0, _ => False
  | h + 1, c => (∃ i, i < hs.2.1 ∧ c = constCell hs i) ∨ (∃ x y, Kx hs h x ∧ Kx hs h y ∧ c = pairC hs x y) ∨ ∃ v, Jn (Tk hs (Kx hs h)) v ∧ c = funC hs v
/-- the cells of all values -/
def Kw (hs : Hs) (c : Nat) : Prop := ∃ h, Kx hs h c
theorem Tk_mono {hs : Hs} {K K' : Nat → Prop} (h : ∀ x, K x → K' x) {t : Nat} (ht : Tk hs K t) : Tk hs K' t := by
  obtain ⟨x, a, b | ⟨y, b, e⟩⟩ := ht
  · exact ⟨x, h x a, Or.inl b⟩
  · exact ⟨x, h x a, Or.inr ⟨y, h y b, e⟩⟩
theorem Kx_up {hs : Hs} : ∀ (h : Nat) {c : Nat}, Kx hs h c → Kx hs (h + 1) c
  | 0, _, hc => hc.elim
  | h + 1, c, hc => by
    rcases hc with a | ⟨x, y, a, b, e⟩ | ⟨v, a, e⟩
    · exact Or.inl a
    · exact Or.inr (Or.inl ⟨x, y, Kx_up h a, Kx_up h b, e⟩)
    · exact Or.inr (Or.inr ⟨v, Jn_mono (fun t => Tk_mono (fun x => Kx_up h)) a, e⟩)
theorem Kx_mono {hs : Hs} {i j : Nat} (h : i ≤ j) {c : Nat} (hc : Kx hs i c) : Kx hs j c := by
  induction j with
  | zero =>
    obtain rfl : i = 0 := by omega
    exact hc
  | succ j ih =>
    by_cases he : i = j + 1
    · subst he; exact hc
    · exact Kx_up j (ih (by omega))
theorem Kx_fix {hs : Hs} {n : Nat} (h : ∀ c, Kx hs (n + 1) c → Kx hs n c) : ∀ j c, Kx hs j c → Kx hs n c := by
  have key : ∀ d c, Kx hs (n + d) c → Kx hs n c := by
    intro d
    induction d with
    | zero => intro c hc; exact hc
    | succ d ih =>
      intro c hc
      apply h c
      have hc : Kx hs (n + d + 1) c := hc
      rcases hc with a | ⟨x, y, a, b, e⟩ | ⟨v, a, e⟩
      · exact Or.inl a
      · exact Or.inr (Or.inl ⟨x, y, ih x a, ih y b, e⟩)
      · exact Or.inr (Or.inr ⟨v, Jn_mono (fun t => Tk_mono ih) a, e⟩)
  intro j c hc
  by_cases hj : j ≤ n
  · exact Kx_mono hj hc
  · exact key (j - n) c (by rw [show n + (j - n) = j by omega]; exact hc)
theorem L1_lt {hs : Hs} (hw : HsOk hs) (x : Nat) : L1 hs x < 256 := bsum_lt8 (lftB_le hs 1 x) hw.1
theorem R1_lt {hs : Hs} (hw : HsOk hs) (x : Nat) : R1 hs x < 256 := bsum_lt8 (rgtB_le hs 1 x) hw.1
theorem L2_lt {hs : Hs} (hw : HsOk hs) (x : Nat) : L2 hs x < 256 := bsum_lt8 (lftB_le hs 2 x) hw.1
theorem R2_lt {hs : Hs} (hw : HsOk hs) (x : Nat) : R2 hs x < 256 := bsum_lt8 (rgtB_le hs 2 x) hw.1
/-- the lists, when the cells of K have been seen -/
def CxL (hs : Hs) (K : Nat → Prop) (X : Cx) : Prop :=
  (∀ u, u ∈ cPL X ↔ ∃ s, K s ∧ u = L1 hs s) ∧ (∀ u, u ∈ cPR X ↔ ∃ s, K s ∧ u = R1 hs s) ∧ (∀ u, u ∈ cQL X ↔ ∃ s, K s ∧ u = L2 hs s) ∧ (∀ u, u ∈ cQR X ↔ u = 0 ∨ ∃ s, K s ∧ u = R2 hs s)
def CxP (hs : Hs) (K : Nat → Prop) (X : Cx) : Prop :=
  (∀ u, u ∈ cPS X ↔ ∃ x y, K x ∧ K y ∧ u = L1 hs x &&& R1 hs y) ∧ ∀ v, v ∈ cMS X ↔ Jn (Tk hs K) v
/-- heights, and the order of the found cells -/
def CxH (hs : Hs) (X : Cx) : Prop := (∀ s, s ∈ cF X → Kx hs (cf X s) s ∧ ∀ j, j < cf X s → ¬ Kx hs j s) ∧ ∀ i j, i ≤ j → j < (cF X).length → cf X ((cF X).getD i 0) ≤ cf X ((cF X).getD j 0)
def SdA (M : mx_M) (c : Nat) (hs : Hs) (F : List Nat) (n : Nat) : Prop := ∀ k, k < n → M (c + 9) k = nI (L1 hs (F.getD k 0)) ∧ M (c + 10) k = nI (R1 hs (F.getD k 0)) ∧ M (c + 18) k = nI (L2 hs (F.getD k 0)) ∧ M (c + 19) k = nI (R2 hs (F.getD k 0))
theorem CxF {hs : Hs} {h : Nat} {X : Cx} (hI : CxI hs hs.2.1 X) (hP : CxP hs (Kx hs h) X) : ∀ s, s ∈ cF X ↔ Kx hs (h + 1) s := by
  intro s
  rw [hI.1 s]
  show _ ↔ _ ∨ _ ∨ _
  refine or_congr Iff.rfl (or_congr ⟨?_, ?_⟩ ⟨?_, ?_⟩)
  · rintro ⟨t, a, b⟩
    obtain ⟨x, y, p, q, e⟩ := (hP.1 t).mp a
    exact ⟨x, y, p, q, by rw [b, e]; rfl⟩
  · rintro ⟨x, y, p, q, e⟩
    exact ⟨_, (hP.1 _).mpr ⟨x, y, p, q, rfl⟩, e⟩
  · rintro ⟨v, a, b⟩
    exact ⟨v, (hP.2 v).mp a, b⟩
  · rintro ⟨v, a, b⟩
    exact ⟨v, (hP.2 v).mpr a, b⟩
theorem andn_0 (a : Nat) : andn a 0 = a := by simp [andn]
theorem mem_at {L : List Nat} {u : Nat} (h : u ∈ L) : ∃ i, i < L.length ∧ L.getD i 0 = u := by
  obtain ⟨i, hi, rfl⟩ := List.getElem_of_mem h
  exact ⟨i, hi, by simp [hi]⟩
theorem getD_mem {L : List Nat} {i : Nat} (h : i < L.length) : L.getD i 0 ∈ L := by
  have e : L.getD i 0 = L[i] := by simp [h]
  rw [e]
  exact List.getElem_mem h
/-- a round: the lists grow from K to K', then pairs and cases with one that is new -/
theorem CxP_pairs {hs : Hs} {K K' : Nat → Prop} {X Y : Cx} (hK : ∀ x, K x → K' x) (hX : CxL hs K X) (hP : ∀ u, u ∈ cPS X ↔ ∃ x y, K x ∧ K y ∧ u = L1 hs x &&& R1 hs y) (hY : CxL hs K' Y) (hl : ∃ l, cPL Y = cPL X ++ l) (hr : ∃ l, cPR Y = cPR X ++ l) (u : Nat) :
    (u ∈ cPS X ∨ prs Y (cPL X).length (cPR X).length (cPL Y).length u) ↔ ∃ x y, K' x ∧ K' y ∧ u = L1 hs x &&& R1 hs y := by
  obtain ⟨l, el⟩ := hl
  obtain ⟨r, er⟩ := hr
  constructor
  · rintro (a | ⟨i, j, a, b, _, e⟩)
    · obtain ⟨x, y, p, q, e⟩ := (hP u).mp a
      exact ⟨x, y, hK x p, hK y q, e⟩
    · obtain ⟨x, p, ex⟩ := (hY.1 _).mp (getD_mem a)
      obtain ⟨y, q, ey⟩ := (hY.2.1 _).mp (getD_mem b)
      exact ⟨x, y, p, q, by rw [e, ex, ey]⟩
  · rintro ⟨x, y, p, q, e⟩
    obtain ⟨i, hi, ei⟩ := mem_at ((hY.1 _).mpr ⟨x, p, rfl⟩)
    obtain ⟨j, hj, ej⟩ := mem_at ((hY.2.1 _).mpr ⟨y, q, rfl⟩)
    by_cases hij : i < (cPL X).length ∧ j < (cPR X).length
    · rw [el, getD_app hij.1] at ei
      rw [er, getD_app hij.2] at ej
      obtain ⟨x', p', ex⟩ := (hX.1 _).mp (getD_mem hij.1)
      obtain ⟨y', q', ey⟩ := (hX.2.1 _).mp (getD_mem hij.2)
      exact Or.inl ((hP u).mpr ⟨x', y', p', q', by rw [e, ← ei, ← ej, ex, ey]⟩)
    · exact Or.inr ⟨i, j, hi, hj, fun w => by omega, by rw [ei, ej, e]⟩
theorem CxP_cases {hs : Hs} {K K' : Nat → Prop} {X Y : Cx} (hK : ∀ x, K x → K' x) (hX : CxL hs K X) (hY : CxL hs K' Y) (hl : ∃ l, cQL Y = cQL X ++ l) (hr : ∃ l, cQR Y = cQR X ++ l) (t : Nat) :
    (Tk hs K t ∨ css Y (cQL X).length (cQR X).length (cQL Y).length t) ↔ Tk hs K' t := by
  obtain ⟨l, el⟩ := hl
  obtain ⟨r, er⟩ := hr
  constructor
  · rintro (a | ⟨i, j, a, b, _, e⟩)
    · exact Tk_mono hK a
    · obtain ⟨x, p, ex⟩ := (hY.2.2.1 _).mp (getD_mem a)
      rcases (hY.2.2.2 _).mp (getD_mem b) with q | ⟨y, q, ey⟩
      · exact ⟨x, p, Or.inl (by rw [e, ex, q, andn_0])⟩
      · exact ⟨x, p, Or.inr ⟨y, q, by rw [e, ex, ey]⟩⟩
  · have key : ∀ x r0, K' x → r0 ∈ cQR Y → t = andn (L2 hs x) r0 → (Tk hs K t ∨ css Y (cQL X).length (cQR X).length (cQL Y).length t) := by
      intro x r0 p q e
      obtain ⟨i, hi, ei⟩ := mem_at ((hY.2.2.1 _).mpr ⟨x, p, rfl⟩)
      obtain ⟨j, hj, ej⟩ := mem_at q
      by_cases hij : i < (cQL X).length ∧ j < (cQR X).length
      · rw [el, getD_app hij.1] at ei
        rw [er, getD_app hij.2] at ej
        obtain ⟨x', p', ex⟩ := (hX.2.2.1 _).mp (getD_mem hij.1)
        rcases (hX.2.2.2 _).mp (getD_mem hij.2) with q' | ⟨y', q', ey⟩
        · exact Or.inl ⟨x', p', Or.inl (by rw [e, ← ei, ← ej, ex, q', andn_0])⟩
        · exact Or.inl ⟨x', p', Or.inr ⟨y', q', by rw [e, ← ei, ← ej, ex, ey]⟩⟩
      · exact Or.inr ⟨i, j, hi, hj, fun w => by omega, by rw [ei, ej, e]⟩
    rintro ⟨x, p, e | ⟨y, q, e⟩⟩
    · exact key x 0 p ((hY.2.2.2 0).mpr (Or.inl rfl)) (by rw [andn_0]; exact e)
    · exact key x _ p ((hY.2.2.2 _).mpr (Or.inr ⟨y, q, rfl⟩)) e

