/-! ===== Cells: what it holds ===== -/
def andn (a b : Nat) : Nat := a ^^^ (a &&& b)
theorem andn_tb (a b i : Nat) : (andn a b).testBit i = (a.testBit i && !b.testBit i) := by
  unfold andn
  rw [Nat.testBit_xor, Nat.testBit_and]
  cases a.testBit i <;> cases b.testBit i <;> rfl
theorem andn_le (a b : Nat) : andn a b ≤ a := by
  apply Nat.le_of_testBit
  intro i h
  rw [andn_tb] at h
  simp at h
  exact h.1
theorem an_i (a b : Nat) : nI a &&& (nI b ^^^ (-1)) = nI (andn a b) := by
  apply Int32.toBitVec_inj.1
  have e : ((-1 : Int32)).toBitVec = BitVec.allOnes 32 := by decide
  show BitVec.ofNat 32 a &&& (BitVec.ofNat 32 b ^^^ ((-1 : Int32)).toBitVec) = BitVec.ofNat 32 (andn a b)
  rw [e]
  apply BitVec.eq_of_getLsbD_eq
  intro i hi
  simp only [BitVec.getLsbD_and, BitVec.getLsbD_xor, BitVec.getLsbD_allOnes, BitVec.getLsbD_ofNat, hi, decide_true, Bool.true_and, andn_tb, Bool.xor_true]
/-- found cells and their heights; of pairs: lefts, rights; of cases: lefts, rights; the pairs' sets; what functions miss; of which types are constants, pairs, functions -/
abbrev Cx : Type := (List Nat × (Nat → Nat)) × (List Nat × List Nat) × (List Nat × List Nat) × List Nat × List Nat × (Nat × Nat × Nat)
abbrev cF (X : Cx) : List Nat := X.1.1
abbrev cf (X : Cx) : Nat → Nat := X.1.2
abbrev cPL (X : Cx) : List Nat := X.2.1.1
abbrev cPR (X : Cx) : List Nat := X.2.1.2
abbrev cQL (X : Cx) : List Nat := X.2.2.1.1
abbrev cQR (X : Cx) : List Nat := X.2.2.1.2
abbrev cPS (X : Cx) : List Nat := X.2.2.2.1
abbrev cMS (X : Cx) : List Nat := X.2.2.2.2.1
abbrev cwc (X : Cx) : Nat := X.2.2.2.2.2.1
abbrev cwp (X : Cx) : Nat := X.2.2.2.2.2.2.1
abbrev cwf (X : Cx) : Nat := X.2.2.2.2.2.2.2
def funC (hs : Hs) (v : Nat) : Nat := cellOf hs (andn (bsum (sortB hs 2) hs.1) v)
theorem funT_lt {hs : Hs} (hw : HsOk hs) (v : Nat) : andn (bsum (sortB hs 2) hs.1) v < 256 := Nat.lt_of_le_of_lt (andn_le _ _) (bsum_lt8 (sortB_le hs 2) hw.1)
theorem funC_lt {hs : Hs} (hw : HsOk hs) (v : Nat) : funC hs v < 256 := cellOf_lt hw (funT_lt hw v)
theorem constCell_lt {hs : Hs} (hw : HsOk hs) (v : Nat) : constCell hs v < 256 := cellOf_lt hw (bsum_lt8 (spanB_le hs v) hw.1)
/-- how found cells and masks come from constants (the first cc), pairs' sets, what functions miss -/
def CxI (hs : Hs) (cc : Nat) (X : Cx) : Prop :=
  (∀ s, s ∈ cF X ↔ (∃ i, i < cc ∧ s = constCell hs i) ∨ (∃ t, t ∈ cPS X ∧ s = cellOf hs t) ∨ ∃ v, v ∈ cMS X ∧ s = funC hs v) ∧
  (cwc X < 256 ∧ ∀ k, bt (cwc X) k = 1 ↔ ∃ i, i < cc ∧ bt (constCell hs i) k = 1) ∧
  (cwp X < 256 ∧ ∀ k, bt (cwp X) k = 1 ↔ ∃ t, t ∈ cPS X ∧ bt (cellOf hs t) k = 1) ∧
  (cwf X < 256 ∧ ∀ k, bt (cwf X) k = 1 ↔ ∃ v, v ∈ cMS X ∧ bt (funC hs v) k = 1)
def CxM (M : mx_M) (c : Nat) (hs : Hs) (X : Cx) : Prop :=
  HsAt M (c + 1) hs ∧ M c 1 = nI (2 ^ hs.1 - 1) ∧ M c 2 = nI (bsum (sortB hs 2) hs.1) ∧ M c 3 = nI (cwc X) ∧ M c 4 = nI (cwp X) ∧ M c 5 = nI (cwf X) ∧
  SetsAt M (c + 5) (cF X) (cf X) ∧ SetsL M (c + 11) (cPL X) ∧ SetsL M (c + 14) (cPR X) ∧ SetsL M (c + 20) (cQL X) ∧ SetsL M (c + 23) (cQR X) ∧ SetsL M (c + 26) (cPS X) ∧ SetsL M (c + 29) (cMS X) ∧
  (∀ t, t ∈ cPS X → M (c + 32) t = nI (cellOf hs t)) ∧ ∀ v, v ∈ cMS X → M (c + 33) v = nI (funC hs v)
/-- Y has come from X, what is new at height h -/
def Ext (h : Nat) (X Y : Cx) : Prop := Y.2.1 = X.2.1 ∧ Y.2.2.1 = X.2.2.1 ∧ (∃ l, cF Y = cF X ++ l) ∧ (∃ l, cPS Y = cPS X ++ l) ∧ (∃ l, cMS Y = cMS X ++ l) ∧ (∀ s, s ∈ cF X → cf Y s = cf X s) ∧ ∀ s, s ∈ cF Y → s ∉ cF X → cf Y s = h
theorem Ext.rf {h : Nat} {X : Cx} : Ext h X X := ⟨rfl, rfl, ⟨[], by simp⟩, ⟨[], by simp⟩, ⟨[], by simp⟩, fun _ _ => rfl, fun _ a b => absurd a b⟩
theorem Ext.tr {h : Nat} {X Y Z : Cx} (a : Ext h X Y) (b : Ext h Y Z) : Ext h X Z := by
  obtain ⟨a1, a2, ⟨l3, a3⟩, ⟨l4, a4⟩, ⟨l5, a5⟩, a6, a7⟩ := a
  obtain ⟨b1, b2, ⟨m3, b3⟩, ⟨m4, b4⟩, ⟨m5, b5⟩, b6, b7⟩ := b
  refine ⟨b1.trans a1, b2.trans a2, ⟨l3 ++ m3, by rw [b3, a3, List.append_assoc]⟩, ⟨l4 ++ m4, by rw [b4, a4, List.append_assoc]⟩, ⟨l5 ++ m5, by rw [b5, a5, List.append_assoc]⟩, fun s hs => ?_, fun s hs hn => ?_⟩
  · rw [b6 s (by rw [a3]; exact List.mem_append_left _ hs)]
    exact a6 s hs
  · by_cases hy : s ∈ cF Y
    · rw [b6 s hy]
      exact a7 s hy hn
    · exact b7 s hs hy
theorem bt_or (a b k : Nat) : bt (a ||| b) k = 1 ↔ bt a k = 1 ∨ bt b k = 1 := by
  have h1 := bt_tb (a ||| b) k
  rw [Nat.testBit_or, bt_tb a k, bt_tb b k] at h1
  have h2 : (decide (bt a k = 1) || decide (bt b k = 1)) = true ↔ decide (bt (a ||| b) k = 1) = true := by rw [h1]
  simp at h2
  exact h2.symm
theorem or256 {a b : Nat} (ha : a < 256) (hb : b < 256) : a ||| b < 256 := or_lt (k := 8) ha hb
/-- a found cell comes -/
def xAdd (X : Cx) (s n : Nat) : List Nat × (Nat → Nat) := if s ∈ cF X then X.1 else (cF X ++ [s], updN (cf X) s n)
def xPair (hs : Hs) (h : Nat) (X : Cx) (t : Nat) : Cx := (xAdd X (cellOf hs t) h, X.2.1, X.2.2.1, cPS X ++ [t], cMS X, (cwc X, cwp X ||| cellOf hs t, cwf X))
def xFun (hs : Hs) (h : Nat) (X : Cx) (v : Nat) : Cx := (xAdd X (funC hs v) h, X.2.1, X.2.2.1, cPS X, cMS X ++ [v], (cwc X, cwp X, cwf X ||| funC hs v))
theorem xAdd_mem {X : Cx} {s n x : Nat} : x ∈ (xAdd X s n).1 ↔ x ∈ cF X ∨ x = s := by
  unfold xAdd
  split
  · rename_i h
    exact ⟨Or.inl, fun q => q.elim id (fun e => e ▸ h)⟩
  · simp
theorem xAdd_ext {X : Cx} {s n : Nat} : (∃ l, (xAdd X s n).1 = cF X ++ l) ∧ (∀ x, x ∈ cF X → (xAdd X s n).2 x = cf X x) ∧ ∀ x, x ∈ (xAdd X s n).1 → x ∉ cF X → (xAdd X s n).2 x = n := by
  unfold xAdd
  split
  · exact ⟨⟨[], by simp⟩, fun _ _ => rfl, fun _ a b => absurd a b⟩
  · rename_i hm
    refine ⟨⟨[s], rfl⟩, fun x hx => updN_n _ _ (fun e => hm (e ▸ hx)), fun x hx hn => ?_⟩
    have : x = s := by simpa [hn] using hx
    rw [this]
    exact updN_s _ _ _
theorem xPair_ext (hs : Hs) (h : Nat) (X : Cx) (t : Nat) : Ext h X (xPair hs h X t) := by
  obtain ⟨a, b, c⟩ := xAdd_ext (X := X) (s := cellOf hs t) (n := h)
  exact ⟨rfl, rfl, a, ⟨[t], rfl⟩, ⟨[], by simp [xPair]⟩, b, c⟩
theorem xFun_ext (hs : Hs) (h : Nat) (X : Cx) (v : Nat) : Ext h X (xFun hs h X v) := by
  obtain ⟨a, b, c⟩ := xAdd_ext (X := X) (s := funC hs v) (n := h)
  exact ⟨rfl, rfl, a, ⟨[], by simp [xFun]⟩, ⟨[v], rfl⟩, b, c⟩
theorem xPair_I {hs : Hs} {cc h : Nat} {X : Cx} (hw : HsOk hs) (hI : CxI hs cc X) {t : Nat} (ht : t < 256) : CxI hs cc (xPair hs h X t) := by
  obtain ⟨h1, h2, ⟨h3, h4⟩, h5⟩ := hI
  refine ⟨fun s => ?_, h2, ⟨or256 h3 (cellOf_lt hw ht), fun k => ?_⟩, h5⟩
  · show s ∈ (xAdd X (cellOf hs t) h).1 ↔ _ ∨ (∃ u, u ∈ cPS X ++ [t] ∧ _) ∨ _
    rw [xAdd_mem, h1 s]
    constructor
    · rintro ((a | ⟨u, a, b⟩ | a) | a)
      · exact Or.inl a
      · exact Or.inr (Or.inl ⟨u, List.mem_append_left _ a, b⟩)
      · exact Or.inr (Or.inr a)
      · exact Or.inr (Or.inl ⟨t, by simp, a⟩)
    · rintro (a | ⟨u, a, b⟩ | a)
      · exact Or.inl (Or.inl a)
      · rcases List.mem_append.mp a with q | q
        · exact Or.inl (Or.inr (Or.inl ⟨u, q, b⟩))
        · simp only [List.mem_singleton] at q
          exact Or.inr (q ▸ b)
      · exact Or.inl (Or.inr (Or.inr a))
  · show bt (cwp X ||| cellOf hs t) k = 1 ↔ ∃ u, u ∈ cPS X ++ [t] ∧ _
    rw [bt_or, h4 k]
    constructor
    · rintro (⟨u, a, b⟩ | a)
      · exact ⟨u, List.mem_append_left _ a, b⟩
      · exact ⟨t, by simp, a⟩
    · rintro ⟨u, a, b⟩
      rcases List.mem_append.mp a with q | q
      · exact Or.inl ⟨u, q, b⟩
      · simp only [List.mem_singleton] at q
        exact Or.inr (q ▸ b)
theorem xFun_I {hs : Hs} {cc h : Nat} {X : Cx} (hw : HsOk hs) (hI : CxI hs cc X) (v : Nat) : CxI hs cc (xFun hs h X v) := by
  obtain ⟨h1, h2, h5, ⟨h3, h4⟩⟩ := hI
  refine ⟨fun s => ?_, h2, h5, ⟨or256 h3 (funC_lt hw v), fun k => ?_⟩⟩
  · show s ∈ (xAdd X (funC hs v) h).1 ↔ _ ∨ _ ∨ (∃ u, u ∈ cMS X ++ [v] ∧ _)
    rw [xAdd_mem, h1 s]
    constructor
    · rintro ((a | a | ⟨u, a, b⟩) | a)
      · exact Or.inl a
      · exact Or.inr (Or.inl a)
      · exact Or.inr (Or.inr ⟨u, List.mem_append_left _ a, b⟩)
      · exact Or.inr (Or.inr ⟨v, by simp, a⟩)
    · rintro (a | a | ⟨u, a, b⟩)
      · exact Or.inl (Or.inl a)
      · exact Or.inl (Or.inr (Or.inl a))
      · rcases List.mem_append.mp a with q | q
        · exact Or.inl (Or.inr (Or.inr ⟨u, q, b⟩))
        · simp only [List.mem_singleton] at q
          exact Or.inr (q ▸ b)
  · show bt (cwf X ||| funC hs v) k = 1 ↔ ∃ u, u ∈ cMS X ++ [v] ∧ _
    rw [bt_or, h4 k]
    constructor
    · rintro (⟨u, a, b⟩ | a)
      · exact ⟨u, List.mem_append_left _ a, b⟩
      · exact ⟨v, by simp, a⟩
    · rintro ⟨u, a, b⟩
      rcases List.mem_append.mp a with q | q
      · exact Or.inl ⟨u, q, b⟩
      · simp only [List.mem_singleton] at q
        exact Or.inr (q ▸ b)
theorem SetsAt.xadd {M M' : mx_M} {q s n : Nat} {X : Cx} (h : s ∈ cF X → M' = M) (h2 : s ∉ cF X → SetsAt M' q (cF X ++ [s]) (updN (cf X) s n)) (h0 : SetsAt M q (cF X) (cf X)) : SetsAt M' q (xAdd X s n).1 (xAdd X s n).2 := by
  unfold xAdd
  split
  · rename_i hm
    rw [h hm]
    exact h0
  · rename_i hm
    exact h2 hm

