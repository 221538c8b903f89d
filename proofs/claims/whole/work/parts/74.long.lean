/-! ===== long numbers that are small ===== -/
theorem lN_ti {n : Nat} (h : n < 2 ^ 63) : (lN n).toInt = (n : Int) := by
  unfold lN
  rw [Int64.toInt_ofNat']
  have hs : Int64.size = 2 ^ 64 := rfl
  rw [hs]
  exact Int.bmod_eq_of_le (by omega) (by omega)
theorem lN_div {a b : Nat} (ha : a < 2 ^ 63) (hb : b < 2 ^ 63) : lN a / lN b = lN (a / b) := by
  have hl : a / b < 2 ^ 63 := Nat.lt_of_le_of_lt (Nat.div_le_self a b) ha
  apply Int64.toInt_inj.mp
  rw [Int64.toInt_div, lN_ti ha, lN_ti hb, lN_ti hl, ← Int.ofNat_tdiv]
  generalize a / b = c at hl
  exact Int.bmod_eq_of_le (by omega) (by omega)
theorem lN_rem {a b : Nat} (ha : a < 2 ^ 63) (hb : b < 2 ^ 63) : lN a - lN a / lN b * lN b = lN (a % b) := by
  have h1 := Nat.div_mul_le_self a b
  have h2 := Nat.div_add_mod a b
  rw [Nat.mul_comm] at h2
  rw [lN_div ha hb, lN_mul, lN_sub h1]
  congr 1
  omega

