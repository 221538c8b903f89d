/-! ===== the model holds the state ===== -/
def enc (hs : Hs) (i : Nat) : Nat := if i = 0 then hs.1 else if i = 1 then hs.2.1 else if (i - 2) % 3 = 0 then Sf hs ((i - 2) / 3) else if (i - 2) % 3 = 1 then Af hs ((i - 2) / 3) else Bf hs ((i - 2) / 3)
theorem enc_S (hs : Hs) (k : Nat) : enc hs (2 + 3 * k) = Sf hs k := by
  unfold enc
  rw [if_neg (by omega), if_neg (by omega), if_pos (by omega), show (2 + 3 * k - 2) / 3 = k by omega]
theorem enc_A (hs : Hs) (k : Nat) : enc hs (2 + 3 * k + 1) = Af hs k := by
  unfold enc
  rw [if_neg (by omega), if_neg (by omega), if_neg (by omega), if_pos (by omega), show (2 + 3 * k + 1 - 2) / 3 = k by omega]
theorem enc_B (hs : Hs) (k : Nat) : enc hs (2 + 3 * k + 2) = Bf hs k := by
  unfold enc
  rw [if_neg (by omega), if_neg (by omega), if_neg (by omega), if_neg (by omega), show (2 + 3 * k + 2 - 2) / 3 = k by omega]
theorem enc_inj {a b : Hs} (ha : WHs a) (hb : WHs b) (h : ∀ i, i < 26 → enc a i = enc b i) : a = b := by
  have h0 : a.1 = b.1 := h 0 (by decide)
  have h1 : a.2.1 = b.2.1 := h 1 (by decide)
  have key : ∀ k, Sf a k = Sf b k ∧ Af a k = Af b k ∧ Bf a k = Bf b k := fun k => by
    by_cases hk : k < 8
    · have x1 := h (2 + 3 * k) (by omega)
      have x2 := h (2 + 3 * k + 1) (by omega)
      have x3 := h (2 + 3 * k + 2) (by omega)
      rw [enc_S, enc_S] at x1
      rw [enc_A, enc_A] at x2
      rw [enc_B, enc_B] at x3
      exact ⟨x1, x2, x3⟩
    · have w1 := ha.1.1
      have w2 := hb.1.1
      obtain ⟨y1, y2, y3⟩ := ha.2.1 k (by omega)
      obtain ⟨z1, z2, z3⟩ := hb.2.1 k (by omega)
      exact ⟨y1.trans z1.symm, y2.trans z2.symm, y3.trans z3.symm⟩
  obtain ⟨a1, a2, aS, aA, aB⟩ := a
  obtain ⟨b1, b2, bS, bA, bB⟩ := b
  have e1 : aS = bS := funext (fun k => (key k).1)
  have e2 : aA = bA := funext (fun k => (key k).2.1)
  have e3 : aB = bB := funext (fun k => (key k).2.2)
  dsimp only at h0 h1
  rw [h0, h1, e1, e2, e3]
theorem enc_lt {hs : Hs} (hw : WHs hs) (i : Nat) : enc hs i ≤ 8 := by
  unfold enc
  have w1 := hw.1.1
  have w2 := hw.1.2.1
  have key : ∀ k, Sf hs k ≤ 5 ∧ Af hs k ≤ 7 ∧ Bf hs k ≤ 7 := fun k => by
    by_cases hk : k < hs.1
    · exact hw.1.2.2 k hk
    · obtain ⟨y1, y2, y3⟩ := hw.2.1 k (by omega)
      omega
  have := key ((i - 2) / 3)
  split
  · omega
  · split
    · omega
    · split
      · omega
      · split <;> omega
def RowAt (M : mx_M) (a o : Nat) (hs : Hs) : Prop := ∀ i, i < 26 → M a (o + i) = nI (enc hs i)
theorem RowAt.fr {M M' : mx_M} {a o lo hi : Nat} {hs : Hs} (h : RowAt M a o hs) (hf : Fr M M' lo hi) (hd : a < lo ∨ hi ≤ a) : RowAt M' a o hs := fun i hi' => by rw [hf a hd]; exact h i hi'
theorem RowAt.eq {M M' : mx_M} {a o : Nat} {hs : Hs} (h : RowAt M a o hs) (e : M' a = M a) : RowAt M' a o hs := fun i hi' => by rw [e]; exact h i hi'

