/-! ===== the state that the document speaks of ===== -/
/-- rows; the tape: bytes, how many, the latest fault; the house, the houses that can be had back; two images; the trace; the status -/
abbrev Sg : Type := Rw × ((Nat → Nat) × Nat × Nat) × (Hs × List Hs) × (Hs × Hs) × List Nat × Nat
abbrev gR (σ : Sg) : Rw := σ.1
abbrev gB (σ : Sg) : Nat → Nat := σ.2.1.1
abbrev gn (σ : Sg) : Nat := σ.2.1.2.1
abbrev gf (σ : Sg) : Nat := σ.2.1.2.2
abbrev gH (σ : Sg) : Hs := σ.2.2.1.1
abbrev gA (σ : Sg) : List Hs := σ.2.2.1.2
abbrev gI (σ : Sg) : Hs := σ.2.2.2.1.1
abbrev gJ (σ : Sg) : Hs := σ.2.2.2.1.2
abbrev gT (σ : Sg) : List Nat := σ.2.2.2.2.1
abbrev gs (σ : Sg) : Nat := σ.2.2.2.2.2
abbrev wR (σ : Sg) (R : Rw) : Sg := (R, σ.2)
abbrev wTp (σ : Sg) (x : (Nat → Nat) × Nat × Nat) : Sg := (σ.1, x, σ.2.2)
abbrev wH (σ : Sg) (x : Hs × List Hs) : Sg := (σ.1, σ.2.1, x, σ.2.2.2)
abbrev wI (σ : Sg) (x : Hs × Hs) : Sg := (σ.1, σ.2.1, σ.2.2.1, x, σ.2.2.2.2)
abbrev wT (σ : Sg) (x : List Nat) : Sg := (σ.1, σ.2.1, σ.2.2.1, σ.2.2.2.1, x, σ.2.2.2.2.2)
abbrev ws (σ : Sg) (x : Nat) : Sg := (σ.1, σ.2.1, σ.2.2.1, σ.2.2.2.1, σ.2.2.2.2.1, x)
def WHs (hs : Hs) : Prop := HsOk hs ∧ (∀ k, hs.1 ≤ k → Sf hs k = 0 ∧ Af hs k = 0 ∧ Bf hs k = 0) ∧ (0 < hs.1 → 0 < hs.2.1)
def GOk (σ : Sg) : Prop := WHs (gH σ) ∧ WHs (gI σ) ∧ WHs (gJ σ) ∧ (∀ H, H ∈ gA σ → H.1 = (gH σ).1 ∧ H.2.1 = (gH σ).2.1 ∧ WHs H) ∧ gf σ ≤ 4 ∧ gs σ ≤ 5 ∧ (gT σ).length ≤ 16
def CSt (M : mx_M) (hs : Hs) : Prop := CellsSh M 28 ∧ (M 0 11 = nI 0 ∨ (M 0 11 = nI 1 ∧ CellsOK M 28 hs))
def PSt (M : mx_M) (hs : Hs) : Prop := PlSh M 102 ∧ (M 0 12 = nI 0 ∨ (M 0 12 = nI 1 ∧ PlainOK M 102 hs))
/-- the object holds the state -/
def CInv (M : mx_M) (σ : Sg) : Prop := RowsAt M 2 3 4 (gR σ) ∧ (TapeAt M (gB σ) (gn σ) ∧ M 5 6 = nI (gf σ)) ∧ HsAt M 7 (gH σ) ∧ HsAt M 15 (gI σ) ∧ HsAt M 19 (gJ σ) ∧ ActsAt M (gH σ) (gA σ) ∧ CSt M (gH σ) ∧ CellsSh M 65 ∧ PSt M (gH σ) ∧ TrcAt M (gT σ) ∧ M 0 13 = nI (gs σ)
def COk (M : mx_M) (x : Int32 × Sg) : Option Value → mx_M → Prop := fun r M' => r = some (.int x.1) ∧ Fr M M' 0 119 ∧ CInv M' x.2
theorem CSt.of {M M' : mx_M} {hs : Hs} {lo hi : Nat} (h : CSt M hs) (hf : Fr M M' lo hi) (h0 : M' 0 11 = M 0 11) (hd : 65 ≤ lo ∨ hi ≤ 28) : CSt M' hs := by
  refine ⟨h.1.fr hf (by omega), ?_⟩
  rw [h0]
  exact h.2.imp id (fun q => ⟨q.1, q.2.fr hf (by omega)⟩)
theorem PSt.of {M M' : mx_M} {hs : Hs} {lo hi : Nat} (h : PSt M hs) (hf : Fr M M' lo hi) (h0 : M' 0 12 = M 0 12) (hd : 117 ≤ lo ∨ hi ≤ 102) : PSt M' hs := by
  refine ⟨h.1.fr hf (by omega), ?_⟩
  rw [h0]
  exact h.2.imp id (fun q => ⟨q.1, q.2.fr hf (by omega)⟩)
theorem wr0 {M : mx_M} {j i : Nat} {v : Int32} (h : i ≠ j) : (mx_wr M 0 j v) 0 i = M 0 i := by rw [mx_wr_s, pk_un h]
/-- only the status is new -/
theorem CInv.st {M : mx_M} {σ : Sg} (h : CInv M σ) (k : Nat) : CInv (mx_wr M 0 13 (nI k)) (ws σ k) := by
  obtain ⟨h1, ⟨h2, h2'⟩, h3, h4, h5, h6, h7, h8, h9, h10, h11⟩ := h
  have f : Fr M (mx_wr M 0 13 (nI k)) 0 1 := Fr.rf.wr (by decide) (by decide)
  refine ⟨h1.fr f (by decide), ⟨h2.fr f (by decide), ?_⟩, h3.fr f (by decide), h4.fr f (by decide), h5.fr f (by decide), h6.fr f (by decide), h7.of f (wr0 (by decide)) (by decide), h8.fr f (by decide), h9.of f (wr0 (by decide)) (by decide), h10.fr f (by decide), ?_⟩
  · rw [f 5 (by decide)]; exact h2'
  · rw [mx_wr_s, pk_us]
theorem CInv.rows {M M' : mx_M} {σ : Sg} {R : Rw} (h : CInv M σ) (f : Fr M M' 2 5) (hR : RowsAt M' 2 3 4 R) : CInv M' (wR σ R) := by
  obtain ⟨h1, ⟨h2, h2'⟩, h3, h4, h5, h6, h7, h8, h9, h10, h11⟩ := h
  refine ⟨hR, ⟨h2.fr f (by decide), ?_⟩, h3.fr f (by decide), h4.fr f (by decide), h5.fr f (by decide), h6.fr f (by decide), h7.of f (by rw [f 0 (by decide)]) (by decide), h8.fr f (by decide), h9.of f (by rw [f 0 (by decide)]) (by decide), h10.fr f (by decide), ?_⟩
  · rw [f 5 (by decide)]; exact h2'
  · rw [f 0 (by decide)]; exact h11
theorem CInv.tape {M M' : mx_M} {σ : Sg} {x : (Nat → Nat) × Nat × Nat} (h : CInv M σ) (f : Fr M M' 5 7) (hT : TapeAt M' x.1 x.2.1) (hf : M' 5 6 = nI x.2.2) : CInv M' (wTp σ x) := by
  obtain ⟨h1, ⟨h2, h2'⟩, h3, h4, h5, h6, h7, h8, h9, h10, h11⟩ := h
  refine ⟨h1.fr f (by decide), ⟨hT, hf⟩, h3.fr f (by decide), h4.fr f (by decide), h5.fr f (by decide), h6.fr f (by decide), h7.of f (by rw [f 0 (by decide)]) (by decide), h8.fr f (by decide), h9.of f (by rw [f 0 (by decide)]) (by decide), h10.fr f (by decide), ?_⟩
  rw [f 0 (by decide)]; exact h11
/-- only the trial house is new -/
theorem CInv.trial {M M' : mx_M} {σ : Sg} (h : CInv M σ) (f : Fr M M' 11 15) : CInv M' σ := by
  obtain ⟨h1, ⟨h2, h2'⟩, h3, h4, h5, h6, h7, h8, h9, h10, h11⟩ := h
  refine ⟨h1.fr f (by decide), ⟨h2.fr f (by decide), ?_⟩, h3.fr f (by decide), h4.fr f (by decide), h5.fr f (by decide), h6.fr f (by decide), h7.of f (by rw [f 0 (by decide)]) (by decide), h8.fr f (by decide), h9.of f (by rw [f 0 (by decide)]) (by decide), h10.fr f (by decide), ?_⟩
  · rw [f 5 (by decide)]; exact h2'
  · rw [f 0 (by decide)]; exact h11
/-- the house is new, the acts are; nothing stands -/
theorem CInv.house {M M' : mx_M} {σ : Sg} {x : Hs × List Hs} (h : CInv M σ) (f : ∀ a, (a < 7 ∨ 28 ≤ a) → a ≠ 0 → M' a = M a) (f2 : ∀ a, 15 ≤ a → a < 23 → M' a = M a) (hH : HsAt M' 7 x.1) (hA : ActsAt M' x.1 x.2) (h11' : M' 0 11 = nI 0) (h12 : M' 0 12 = nI 0) (h13 : M' 0 13 = M 0 13) : CInv M' (wH σ x) := by
  obtain ⟨h1, ⟨h2, h2'⟩, h3, h4, h5, h6, h7, h8, h9, h10, h11⟩ := h
  have g1 : ∀ a, (a = 2 ∨ a = 3 ∨ a = 4 ∨ a = 5 ∨ a = 6) → M' a = M a := fun a ha => f a (by omega) (by omega)
  have hi : Fr M M' 0 28 := fun a ha => f a (by omega) (by omega)
  refine ⟨?_, ⟨?_, ?_⟩, hH, ?_, ?_, hA, ⟨h7.1.fr hi (by decide), Or.inl h11'⟩, h8.fr hi (by decide), ⟨h9.1.fr hi (by decide), Or.inl h12⟩, h10.fr hi (by decide), ?_⟩
  · unfold RowsAt; rw [g1 2 (by decide), g1 3 (by decide), g1 4 (by decide)]; exact h1
  · unfold TapeAt; rw [g1 5 (by decide), g1 6 (by decide)]; exact h2
  · rw [g1 5 (by decide)]; exact h2'
  · unfold HsAt; rw [f2 15 (by decide) (by decide), f2 (15 + 1) (by decide) (by decide), f2 (15 + 2) (by decide) (by decide), f2 (15 + 3) (by decide) (by decide)]; exact h4
  · unfold HsAt; rw [f2 19 (by decide) (by decide), f2 (19 + 1) (by decide) (by decide), f2 (19 + 2) (by decide) (by decide), f2 (19 + 3) (by decide) (by decide)]; exact h5
  · rw [h13]; exact h11
/-- the live cells stand now -/
theorem CInv.cells {M M' : mx_M} {σ : Sg} (h : CInv M σ) (f : ∀ a, (a < 28 ∨ 65 ≤ a) → a ≠ 0 → M' a = M a) (h11' : M' 0 11 = nI 1) (h12 : M' 0 12 = M 0 12) (h13 : M' 0 13 = M 0 13) (hC : CellsOK M' 28 (gH σ)) : CInv M' σ := by
  obtain ⟨h1, ⟨h2, h2'⟩, h3, h4, h5, h6, h7, h8, h9, h10, h11⟩ := h
  have lo : ∀ a, 1 ≤ a → a < 28 → M' a = M a := fun a ha hb => f a (by omega) (by omega)
  have hi : Fr M M' 0 65 := fun a ha => f a (by omega) (by omega)
  refine ⟨?_, ⟨?_, ?_⟩, ?_, ?_, ?_, ?_, ⟨hC.sh, Or.inr ⟨h11', hC⟩⟩, h8.fr hi (by decide), h9.of hi h12 (by decide), h10.fr hi (by decide), ?_⟩
  · unfold RowsAt; rw [lo 2 (by decide) (by decide), lo 3 (by decide) (by decide), lo 4 (by decide) (by decide)]; exact h1
  · unfold TapeAt; rw [lo 5 (by decide) (by decide), lo 6 (by decide) (by decide)]; exact h2
  · rw [lo 5 (by decide) (by decide)]; exact h2'
  · unfold HsAt; rw [lo 7 (by decide) (by decide), lo (7 + 1) (by decide) (by decide), lo (7 + 2) (by decide) (by decide), lo (7 + 3) (by decide) (by decide)]; exact h3
  · unfold HsAt; rw [lo 15 (by decide) (by decide), lo (15 + 1) (by decide) (by decide), lo (15 + 2) (by decide) (by decide), lo (15 + 3) (by decide) (by decide)]; exact h4
  · unfold HsAt; rw [lo 19 (by decide) (by decide), lo (19 + 1) (by decide) (by decide), lo (19 + 2) (by decide) (by decide), lo (19 + 3) (by decide) (by decide)]; exact h5
  · unfold ActsAt actE; rw [lo 23 (by decide) (by decide), lo 24 (by decide) (by decide), lo 25 (by decide) (by decide), lo 26 (by decide) (by decide), lo 27 (by decide) (by decide)]; exact h6
  · rw [h13]; exact h11
/-- the marks of the live cells are new; the cells of the trial are; the trace is -/
theorem CInv.opn {M M' : mx_M} {σ : Sg} (h : CInv M σ) (f : Fr M M' (28 + 34) (28 + 35)) : CInv M' σ := by
  obtain ⟨h1, ⟨h2, h2'⟩, h3, h4, h5, h6, h7, h8, h9, h10, h11⟩ := h
  refine ⟨h1.fr f (by decide), ⟨h2.fr f (by decide), ?_⟩, h3.fr f (by decide), h4.fr f (by decide), h5.fr f (by decide), h6.fr f (by decide), ⟨?_, ?_⟩, h8.fr f (by decide), h9.of f (by rw [f 0 (by decide)]) (by decide), h10.fr f (by decide), ?_⟩
  · rw [f 5 (by decide)]; exact h2'
  · obtain ⟨F, g, PL, PR, QL, QR, PS, MS, s1, s2, s3, s4, s5, s6, s7⟩ := h7.1
    exact ⟨F, g, PL, PR, QL, QR, PS, MS, s1.fr f (by decide), s2.fr f (by decide), s3.fr f (by decide), s4.fr f (by decide), s5.fr f (by decide), s6.fr f (by decide), s7.fr f (by decide)⟩
  · rw [f 0 (by decide)]
    exact h7.2.imp id (fun q => ⟨q.1, q.2.op f⟩)
  · rw [f 0 (by decide)]; exact h11
theorem CInv.trialC {M M' : mx_M} {σ : Sg} (h : CInv M σ) (f : Fr M M' 65 102) (hS : CellsSh M' 65) : CInv M' σ := by
  obtain ⟨h1, ⟨h2, h2'⟩, h3, h4, h5, h6, h7, h8, h9, h10, h11⟩ := h
  refine ⟨h1.fr f (by decide), ⟨h2.fr f (by decide), ?_⟩, h3.fr f (by decide), h4.fr f (by decide), h5.fr f (by decide), h6.fr f (by decide), h7.of f (by rw [f 0 (by decide)]) (by decide), hS, h9.of f (by rw [f 0 (by decide)]) (by decide), h10.fr f (by decide), ?_⟩
  · rw [f 5 (by decide)]; exact h2'
  · rw [f 0 (by decide)]; exact h11
theorem CInv.trace {M M' : mx_M} {σ : Sg} {T : List Nat} (h : CInv M σ) (f : Fr M M' 117 119) (hT : TrcAt M' T) : CInv M' (wT σ T) := by
  obtain ⟨h1, ⟨h2, h2'⟩, h3, h4, h5, h6, h7, h8, h9, h10, h11⟩ := h
  refine ⟨h1.fr f (by decide), ⟨h2.fr f (by decide), ?_⟩, h3.fr f (by decide), h4.fr f (by decide), h5.fr f (by decide), h6.fr f (by decide), h7.of f (by rw [f 0 (by decide)]) (by decide), h8.fr f (by decide), h9.of f (by rw [f 0 (by decide)]) (by decide), hT, ?_⟩
  · rw [f 5 (by decide)]; exact h2'
  · rw [f 0 (by decide)]; exact h11
theorem CInv.plain {M M' : mx_M} {σ : Sg} (h : CInv M σ) (f : ∀ a, (a < 102 ∨ 117 ≤ a) → a ≠ 0 → M' a = M a) (h11' : M' 0 11 = M 0 11) (h12 : M' 0 12 = nI 1) (h13 : M' 0 13 = M 0 13) (hC : PlainOK M' 102 (gH σ)) : CInv M' σ := by
  obtain ⟨h1, ⟨h2, h2'⟩, h3, h4, h5, h6, h7, h8, h9, h10, h11⟩ := h
  have lo : ∀ a, 1 ≤ a → a < 102 → M' a = M a := fun a ha hb => f a (by omega) (by omega)
  have hi : Fr M M' 0 117 := fun a ha => f a (by omega) (by omega)
  have md : ∃ M1, Fr M M1 0 1 ∧ Fr M1 M' 102 117 ∧ M1 0 = M' 0 := ⟨fun a => if a = 0 then M' 0 else M a, fun a ha => if_neg (by omega), fun a ha => by
    by_cases hz : a = 0
    · rw [hz]; exact (if_pos rfl).symm
    · exact (f a ha hz).trans (if_neg hz).symm, if_pos rfl⟩
  obtain ⟨M1, f1, f2, e0⟩ := md
  have k7 : CSt M1 (gH σ) := h7.of f1 (by rw [e0]; exact h11') (by decide)
  refine ⟨?_, ⟨?_, ?_⟩, ?_, ?_, ?_, ?_, k7.of f2 (by rw [e0]) (by decide), (h8.fr f1 (by decide)).fr f2 (by decide), ⟨hC.2, Or.inr ⟨h12, hC⟩⟩, h10.fr hi (by decide), ?_⟩
  · exact (h1.fr f1 (by decide)).fr f2 (by decide)
  · exact (h2.fr f1 (by decide)).fr f2 (by decide)
  · rw [lo 5 (by decide) (by decide)]; exact h2'
  · exact (h3.fr f1 (by decide)).fr f2 (by decide)
  · exact (h4.fr f1 (by decide)).fr f2 (by decide)
  · exact (h5.fr f1 (by decide)).fr f2 (by decide)
  · exact (h6.fr f1 (by decide)).fr f2 (by decide)
  · rw [h13]; exact h11

