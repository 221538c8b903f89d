/-! ===== the model: frames, the invariant ===== -/
/-- but for these cells, and these slots of the object, all is as it was -/
def MFr (M M' : mx_M) (cs ss : List Nat) : Prop := (∀ a, a ≠ 119 → a ∉ cs → M' a = M a) ∧ ∀ j, j ∉ ss → M' 119 j = M 119 j
theorem MFr.rf {M : mx_M} {cs ss : List Nat} : MFr M M cs ss := ⟨fun _ _ _ => rfl, fun _ _ => rfl⟩
theorem MFr.tr {M M' M'' : mx_M} {cs ss : List Nat} (h1 : MFr M M' cs ss) (h2 : MFr M' M'' cs ss) : MFr M M'' cs ss := ⟨fun a b c => (h2.1 a b c).trans (h1.1 a b c), fun j b => (h2.2 j b).trans (h1.2 j b)⟩
theorem MFr.wr {M M' : mx_M} {cs ss : List Nat} (h : MFr M M' cs ss) {a j : Nat} {v : Int32} (ha : a ∈ cs) (hn : a ≠ 119) : MFr M (mx_wr M' a j v) cs ss := by
  refine ⟨fun b h1 h2 => ?_, fun i hi => ?_⟩
  · rw [mx_wr_n _ _ _ (show b ≠ a from fun q => h2 (q ▸ ha))]; exact h.1 b h1 h2
  · rw [mx_wr_n _ _ _ (Ne.symm hn)]; exact h.2 i hi
theorem MFr.wo {M M' : mx_M} {cs ss : List Nat} (h : MFr M M' cs ss) {j : Nat} {v : Int32} (hj : j ∈ ss) : MFr M (mx_wr M' 119 j v) cs ss := by
  refine ⟨fun b h1 h2 => ?_, fun i hi => ?_⟩
  · rw [mx_wr_n _ _ _ h1]; exact h.1 b h1 h2
  · rw [mx_wr_s, pk_un (show i ≠ j from fun q => hi (q ▸ hj))]; exact h.2 i hi
theorem MFr.mono {M M' : mx_M} {cs ss cs' ss' : List Nat} (h : MFr M M' cs ss) (h1 : ∀ x, x ∈ cs → x ∈ cs') (h2 : ∀ x, x ∈ ss → x ∈ ss') : MFr M M' cs' ss' := ⟨fun a b c => h.1 a b (fun q => c (h1 a q)), fun j b => h.2 j (fun q => b (h2 j q))⟩
theorem MFr.fr {M M' : mx_M} {cs ss : List Nat} (h : MFr M M' cs ss) (hc : ∀ x, x ∈ cs → 119 ≤ x ∧ x < 139) : Fr M M' 119 139 := fun a ha => h.1 a (by omega) (fun q => by have := hc a q; omega)
/-- which cells have a height, in order -/
def gat (H : Nat → Nat) : List Nat := (List.range 256).filter (fun c => decide (H c ≠ 0))
theorem mem_gat {H : Nat → Nat} {c : Nat} : c ∈ gat H ↔ c < 256 ∧ H c ≠ 0 := by
  unfold gat
  rw [List.mem_filter, List.mem_range, decide_eq_true_eq]
theorem gat_len (H : Nat → Nat) : (gat H).length ≤ 256 := by
  have := List.length_filter_le (fun c => decide (H c ≠ 0)) (List.range 256)
  rw [List.length_range] at this
  exact this
theorem gat_at {H : Nat → Nat} {i : Nat} (h : i < (gat H).length) : (gat H).getD i 0 < 256 ∧ H ((gat H).getD i 0) ≠ 0 := mem_gat.mp (getD_mem h)
def HgtAt (M : mx_M) (H : Nat → Nat) : Prop := ∀ c, c < 256 → M 128 c = nI (H c)
def SrtAt (M : mx_M) (S : Nat → Nat) : Prop := ∀ c, c < 256 → M 129 c = nI (S c)
def GatAt (M : mx_M) (L : List Nat) : Prop := M 119 22 = nI L.length ∧ ∀ i, i < L.length → M 130 i = nI (L.getD i 0)
/-- heights, of the cells of n rounds; sorts, of K -/
def HOk (hs : Hs) (n : Nat) (H : Nat → Nat) : Prop := ∀ c, c < 256 → (H c ≠ 0 ↔ Kx hs n c) ∧ (H c ≠ 0 → Kx hs (H c) c ∧ ∀ j, j < H c → ¬ Kx hs j c) ∧ H c ≤ n
def SOk (hs : Hs) (K : Nat → Prop) (S : Nat → Nat) : Prop := ∀ c, c < 256 → S c < 8 ∧ (bt (S c) 0 = 1 ↔ ∃ i, i < hs.2.1 ∧ c = constCell hs i) ∧ (bt (S c) 1 = 1 ↔ ∃ x y, K x ∧ K y ∧ c = pairC hs x y) ∧ (bt (S c) 2 = 1 ↔ ∃ v, Jn (Tk hs K) v ∧ c = funC hs v)
def MCells (M : mx_M) (hs : Hs) : Prop := ∃ n H S, n ≤ 300 ∧ HgtAt M H ∧ SrtAt M S ∧ GatAt M (gat H) ∧ HOk hs n H ∧ SOk hs (Kw hs) S ∧ ∀ c, Kw hs c → Kx hs n c
def MTape (M : mx_M) (x : (Nat → Nat) × Nat × Nat) : Prop := M 119 11 = nI x.2.1 ∧ x.2.1 ≤ 80 ∧ (∀ i, i < x.2.1 → M 127 i = nI (x.1 i) ∧ x.1 i < 256) ∧ M 119 18 = nI x.2.2
def MActs (M : mx_M) (x : Hs × List Hs) : Prop := RowAt M 123 0 x.1 ∧ M 119 9 = nI x.2.length ∧ x.2.length ≤ 24 ∧ ∀ i, i < x.2.length → RowAt M 126 (26 * i) (x.2.getD i x.1)
def MImg (M : mx_M) (x : Hs × Hs) : Prop := M 136 0 = tf (x.1.1 ≠ 0) ∧ M 136 1 = tf (x.2.1 ≠ 0) ∧ (x.1.1 ≠ 0 → RowAt M 137 0 x.1) ∧ (x.2.1 ≠ 0 → RowAt M 137 26 x.2)
def MTrc (M : mx_M) (T : List Nat) : Prop := M 119 31 = nI T.length ∧ ∀ i, i < T.length → M 138 i = nI (T.getD i 0)
def MKn (M : mx_M) : Prop := ∃ K, WHs K ∧ RowAt M 133 0 K ∧ (K.1 ≠ 0 → MCells M K)
/-- the model holds the state -/
def MInv (M : mx_M) (σ : Sg) : Prop := RowsAt M 120 121 122 (gR σ) ∧ MTape M σ.2.1 ∧ MActs M σ.2.2.1 ∧ MImg M σ.2.2.2.1 ∧ MTrc M (gT σ) ∧ M 119 1 = nI (gs σ) ∧ MKn M
def MOk (M : mx_M) (x : Int32 × Sg) : Option Value → mx_M → Prop := fun r M' => r = some (.int x.1) ∧ Fr M M' 119 139 ∧ MInv M' x.2
theorem rows_eq {M M' : mx_M} {R : Rw} (h : RowsAt M 120 121 122 R) (h1 : M' 120 = M 120) (h2 : M' 121 = M 121) (h3 : M' 122 = M 122) : RowsAt M' 120 121 122 R := by
  unfold RowsAt
  rw [h1, h2, h3]
  exact h
theorem MTape.eq {M M' : mx_M} {x : (Nat → Nat) × Nat × Nat} (h : MTape M x) (h1 : M' 119 11 = M 119 11) (h2 : M' 127 = M 127) (h3 : M' 119 18 = M 119 18) : MTape M' x := by
  unfold MTape
  rw [h1, h2, h3]
  exact h
theorem MActs.eq {M M' : mx_M} {x : Hs × List Hs} (h : MActs M x) (h1 : M' 123 = M 123) (h2 : M' 119 9 = M 119 9) (h3 : M' 126 = M 126) : MActs M' x := by
  unfold MActs RowAt
  rw [h1, h2, h3]
  exact h
theorem MImg.eq {M M' : mx_M} {x : Hs × Hs} (h : MImg M x) (h1 : M' 136 = M 136) (h2 : M' 137 = M 137) : MImg M' x := by
  unfold MImg RowAt
  rw [h1, h2]
  exact h
theorem MTrc.eq {M M' : mx_M} {x : List Nat} (h : MTrc M x) (h1 : M' 119 31 = M 119 31) (h2 : M' 138 = M 138) : MTrc M' x := by
  unfold MTrc
  rw [h1, h2]
  exact h
theorem MCells.eq {M M' : mx_M} {x : Hs} (h : MCells M x) (h1 : M' 119 22 = M 119 22) (h2 : M' 128 = M 128) (h3 : M' 129 = M 129) (h4 : M' 130 = M 130) : MCells M' x := by
  unfold MCells HgtAt SrtAt GatAt
  rw [h1, h2, h3, h4]
  exact h
theorem MKn.eq {M M' : mx_M} (h : MKn M) (h0 : M' 133 = M 133) (h1 : M' 119 22 = M 119 22) (h2 : M' 128 = M 128) (h3 : M' 129 = M 129) (h4 : M' 130 = M 130) : MKn M' := by
  obtain ⟨K, a, b, c⟩ := h
  exact ⟨K, a, b.eq h0, fun q => (c q).eq h1 h2 h3 h4⟩
abbrev scC : List Nat := [124, 125, 131, 132, 134, 135]
abbrev scS : List Nat := [0, 12, 13, 14, 15, 16, 17]
/-- only what is laid anew at each call has changed -/
theorem MInv.scr {M M' : mx_M} {σ : Sg} (h : MInv M σ) (f : MFr M M' scC scS) : MInv M' σ := by
  obtain ⟨h1, h2, h3, h4, h5, h6, h7⟩ := h
  obtain ⟨f1, f2⟩ := f
  exact ⟨rows_eq h1 (f1 _ (by decide) (by decide)) (f1 _ (by decide) (by decide)) (f1 _ (by decide) (by decide)), h2.eq (f2 _ (by decide)) (f1 _ (by decide) (by decide)) (f2 _ (by decide)), h3.eq (f1 _ (by decide) (by decide)) (f2 _ (by decide)) (f1 _ (by decide) (by decide)), h4.eq (f1 _ (by decide) (by decide)) (f1 _ (by decide) (by decide)), h5.eq (f2 _ (by decide)) (f1 _ (by decide) (by decide)), (f2 1 (by decide)).trans h6, h7.eq (f1 _ (by decide) (by decide)) (f2 _ (by decide)) (f1 _ (by decide) (by decide)) (f1 _ (by decide) (by decide)) (f1 _ (by decide) (by decide))⟩
/-- the rows and the status are new -/
theorem MInv.rows {M M' : mx_M} {σ : Sg} {R : Rw} {k : Nat} (h : MInv M σ) (f : MFr M M' [120, 121, 122] [0, 1]) (hR : RowsAt M' 120 121 122 R) (hk : M' 119 1 = nI k) : MInv M' (wR (ws σ k) R) := by
  obtain ⟨h1, h2, h3, h4, h5, h6, h7⟩ := h
  obtain ⟨f1, f2⟩ := f
  exact ⟨hR, h2.eq (f2 _ (by decide)) (f1 _ (by decide) (by decide)) (f2 _ (by decide)), h3.eq (f1 _ (by decide) (by decide)) (f2 _ (by decide)) (f1 _ (by decide) (by decide)), h4.eq (f1 _ (by decide) (by decide)) (f1 _ (by decide) (by decide)), h5.eq (f2 _ (by decide)) (f1 _ (by decide) (by decide)), hk, h7.eq (f1 _ (by decide) (by decide)) (f2 _ (by decide)) (f1 _ (by decide) (by decide)) (f1 _ (by decide) (by decide)) (f1 _ (by decide) (by decide))⟩
theorem MInv.stat {M M' : mx_M} {σ : Sg} {k : Nat} (h : MInv M σ) (f : MFr M M' [] [0, 1]) (hk : M' 119 1 = nI k) : MInv M' (ws σ k) :=
  h.rows (f.mono (by decide) (by decide)) (rows_eq h.1 (f.1 _ (by decide) (by decide)) (f.1 _ (by decide) (by decide)) (f.1 _ (by decide) (by decide))) hk
theorem MInv.tape {M M' : mx_M} {σ : Sg} {x : (Nat → Nat) × Nat × Nat} (h : MInv M σ) (f : MFr M M' [127, 124] [0, 11, 12, 13, 14, 15, 16, 17, 18]) (hT : MTape M' x) : MInv M' (wTp σ x) := by
  obtain ⟨h1, h2, h3, h4, h5, h6, h7⟩ := h
  obtain ⟨f1, f2⟩ := f
  exact ⟨rows_eq h1 (f1 _ (by decide) (by decide)) (f1 _ (by decide) (by decide)) (f1 _ (by decide) (by decide)), hT, h3.eq (f1 _ (by decide) (by decide)) (f2 _ (by decide)) (f1 _ (by decide) (by decide)), h4.eq (f1 _ (by decide) (by decide)) (f1 _ (by decide) (by decide)), h5.eq (f2 _ (by decide)) (f1 _ (by decide) (by decide)), (f2 1 (by decide)).trans h6, h7.eq (f1 _ (by decide) (by decide)) (f2 _ (by decide)) (f1 _ (by decide) (by decide)) (f1 _ (by decide) (by decide)) (f1 _ (by decide) (by decide))⟩
theorem MInv.house {M M' : mx_M} {σ : Sg} {x : Hs × List Hs} (h : MInv M σ) (f : MFr M M' [123, 126] [0, 9]) (hT : MActs M' x) : MInv M' (wH σ x) := by
  obtain ⟨h1, h2, h3, h4, h5, h6, h7⟩ := h
  obtain ⟨f1, f2⟩ := f
  exact ⟨rows_eq h1 (f1 _ (by decide) (by decide)) (f1 _ (by decide) (by decide)) (f1 _ (by decide) (by decide)), h2.eq (f2 _ (by decide)) (f1 _ (by decide) (by decide)) (f2 _ (by decide)), hT, h4.eq (f1 _ (by decide) (by decide)) (f1 _ (by decide) (by decide)), h5.eq (f2 _ (by decide)) (f1 _ (by decide) (by decide)), (f2 1 (by decide)).trans h6, h7.eq (f1 _ (by decide) (by decide)) (f2 _ (by decide)) (f1 _ (by decide) (by decide)) (f1 _ (by decide) (by decide)) (f1 _ (by decide) (by decide))⟩
theorem MInv.img {M M' : mx_M} {σ : Sg} {x : Hs × Hs} (h : MInv M σ) (f : MFr M M' [136, 137] [0]) (hT : MImg M' x) : MInv M' (wI σ x) := by
  obtain ⟨h1, h2, h3, h4, h5, h6, h7⟩ := h
  obtain ⟨f1, f2⟩ := f
  exact ⟨rows_eq h1 (f1 _ (by decide) (by decide)) (f1 _ (by decide) (by decide)) (f1 _ (by decide) (by decide)), h2.eq (f2 _ (by decide)) (f1 _ (by decide) (by decide)) (f2 _ (by decide)), h3.eq (f1 _ (by decide) (by decide)) (f2 _ (by decide)) (f1 _ (by decide) (by decide)), hT, h5.eq (f2 _ (by decide)) (f1 _ (by decide) (by decide)), (f2 1 (by decide)).trans h6, h7.eq (f1 _ (by decide) (by decide)) (f2 _ (by decide)) (f1 _ (by decide) (by decide)) (f1 _ (by decide) (by decide)) (f1 _ (by decide) (by decide))⟩
theorem MInv.trc {M M' : mx_M} {σ : Sg} {x : List Nat} (h : MInv M σ) (f : MFr M M' [138] [0, 31]) (hT : MTrc M' x) : MInv M' (wT σ x) := by
  obtain ⟨h1, h2, h3, h4, h5, h6, h7⟩ := h
  obtain ⟨f1, f2⟩ := f
  exact ⟨rows_eq h1 (f1 _ (by decide) (by decide)) (f1 _ (by decide) (by decide)) (f1 _ (by decide) (by decide)), h2.eq (f2 _ (by decide)) (f1 _ (by decide) (by decide)) (f2 _ (by decide)), h3.eq (f1 _ (by decide) (by decide)) (f2 _ (by decide)) (f1 _ (by decide) (by decide)), h4.eq (f1 _ (by decide) (by decide)) (f1 _ (by decide) (by decide)), hT, (f2 1 (by decide)).trans h6, h7.eq (f1 _ (by decide) (by decide)) (f2 _ (by decide)) (f1 _ (by decide) (by decide)) (f1 _ (by decide) (by decide)) (f1 _ (by decide) (by decide))⟩
abbrev rkC : List Nat := [124, 125, 128, 129, 130, 131, 132, 133, 134, 135]
abbrev rkS : List Nat := [0, 22]
/-- the cells are reckoned anew -/
theorem MInv.rk {M M' : mx_M} {σ : Sg} (h : MInv M σ) (f : MFr M M' rkC rkS) (hT : MKn M') : MInv M' σ := by
  obtain ⟨h1, h2, h3, h4, h5, h6, h7⟩ := h
  obtain ⟨f1, f2⟩ := f
  exact ⟨rows_eq h1 (f1 _ (by decide) (by decide)) (f1 _ (by decide) (by decide)) (f1 _ (by decide) (by decide)), h2.eq (f2 _ (by decide)) (f1 _ (by decide) (by decide)) (f2 _ (by decide)), h3.eq (f1 _ (by decide) (by decide)) (f2 _ (by decide)) (f1 _ (by decide) (by decide)), h4.eq (f1 _ (by decide) (by decide)) (f1 _ (by decide) (by decide)), h5.eq (f2 _ (by decide)) (f1 _ (by decide) (by decide)), (f2 1 (by decide)).trans h6, hT⟩
/-- the first write of every call -/
theorem MInv.th {M : mx_M} {σ : Sg} (h : MInv M σ) : ∃ M0, mx_wr M 119 0 (nI 0) = M0 ∧ MInv M0 σ ∧ Fr M M0 119 139 ∧ MFr M M0 [] [0] := by
  have f : MFr M (mx_wr M 119 0 (nI 0)) [] [0] := MFr.rf.wo (by decide)
  exact ⟨_, rfl, h.scr (f.mono (by decide) (by decide)), f.fr (by decide), f⟩
theorem k_inP (G : mx_G) {M : mx_M} {P : Prop} {a b c : Int64} (hP : (b.toInt ≤ a.toInt ∧ a.toInt ≤ c.toInt) ↔ P) : sOk G m_Mo_in [.long a, .long b, .long c] M (fun r M' => r = some (.int (tf P)) ∧ M' = M) := by
  rw [← propext hP]
  exact k_in G a b c
theorem k_in0 (G : mx_G) {M : mx_M} (t : Int32) (n : Nat) (hn : n < 2 ^ 30) : sOk G m_Mo_in [.long t.toInt64, .long (lN 0), .long (lN n)] M (fun r M' => r = some (.int (tf (vp_in t (n + 1)))) ∧ M' = M) := k_inP G (by
  rw [i2l_ti, lN_ti (by decide), lN_ti (by omega), vp_in_iff]
  all_goals omega)
theorem k_in1 (G : mx_G) {M : mx_M} (t : Int32) (n : Nat) (hn : n < 2 ^ 30) : sOk G m_Mo_in [.long t.toInt64, .long (lN 1), .long (lN n)] M (fun r M' => r = some (.int (tf (nI 1 ≤ t ∧ t ≤ nI n))) ∧ M' = M) := k_inP G (by
  rw [i2l_ti, lN_ti (by decide), lN_ti (by omega), Int32.le_iff_toInt_le, Int32.le_iff_toInt_le, nI_toInt (by decide), nI_toInt (by omega)]
  all_goals omega)
/-- between numbers -/
theorem k_inN (G : mx_G) {M : mx_M} {t : Nat} (lo hi : Nat) (ht : t < 2 ^ 31) (hl : lo < 2 ^ 31) (hn : hi < 2 ^ 31) : sOk G m_Mo_in [.long (nI t).toInt64, .long (lN lo), .long (lN hi)] M (fun r M' => r = some (.int (tf (lo ≤ t ∧ t ≤ hi))) ∧ M' = M) := k_inP G (by
  rw [i2l_ti, lN_ti (by omega), lN_ti (by omega), nI_toInt ht]
  all_goals omega)
theorem k_inB (G : mx_G) {M : mx_M} (t : Int32) (n : Nat) (hn : n < 2 ^ 30) : sOk G m_Mo_in [.long t.toInt64, .long (lN 0), .long (nI n - nI 1).toInt64] M (fun r M' => r = some (.int (tf (vp_in t n))) ∧ M' = M) := k_inP G (by
  have e : (nI n - nI 1).toInt = (n : Int) - 1 := pk_sub_toInt hn (by decide)
  rw [i2l_ti, i2l_ti, lN_ti (by decide), e, vp_in_iff]
  all_goals omega)

