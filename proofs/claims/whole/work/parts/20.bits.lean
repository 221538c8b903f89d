/-! ===== bits ===== -/
theorem nx_xor (a b : Nat) : nI a ^^^ nI b = nI (a ^^^ b) := by
  apply Int32.toBitVec_inj.1
  show BitVec.ofNat 32 a ^^^ BitVec.ofNat 32 b = BitVec.ofNat 32 (a ^^^ b)
  apply BitVec.eq_of_getLsbD_eq
  intro i hi
  simp [hi]
theorem bx_sl : ∀ n, n < 32 → ((nI n &&& 31).toBitVec.smod 32).toNat = n := by decide +kernel
def bt (c a : Nat) : Nat := c / 2 ^ a % 2
theorem bt_le (c a : Nat) : bt c a ≤ 1 := by unfold bt; omega
theorem bt_tb (c a : Nat) : c.testBit a = decide (bt c a = 1) := by rw [Nat.testBit_eq_decide_div_mod_eq]; rfl
theorem bt_01 (c a : Nat) : bt c a = 0 ∨ bt c a = 1 := by have := bt_le c a; omega
theorem sh_r {c a : Nat} (hc : c < 2 ^ 31) (ha : a < 32) : nI c >>> (nI a &&& 31) = nI (c / 2 ^ a) := pk_shrN hc _ a (bx_sl a ha)
theorem sh_b {c a : Nat} (hc : c < 2 ^ 31) (ha : a < 32) : (nI c >>> (nI a &&& 31)) &&& nI 1 = nI (bt c a) := by
  rw [sh_r hc ha, nx_and, Nat.and_one_is_mod]
  rfl
theorem p2_le {k : Nat} (hk : k < 8) : 2 ^ k ≤ 128 := by
  have : 2 ^ k ≤ 2 ^ 7 := Nat.pow_le_pow_right (by decide) (by omega)
  exact this
theorem sh_l {x k : Nat} (hx : x ≤ 1) (hk : k < 8) : nI x <<< (nI k &&& 31) = nI (x * 2 ^ k) := by
  refine pk_shlN _ k (bx_sl k (by omega)) ?_
  have h1 := p2_le hk
  have h2 : x * 2 ^ k ≤ 1 * 2 ^ k := Nat.mul_le_mul_right _ hx
  omega
theorem or_lt {a b k : Nat} (ha : a < 2 ^ k) (hb : b < 2 ^ k) : a ||| b < 2 ^ k := Nat.or_lt_two_pow ha hb
theorem b1_or {a b : Nat} (ha : a ≤ 1) (hb : b ≤ 1) : a ||| b ≤ 1 := by
  have : a ||| b < 2 ^ 1 := or_lt (by omega) (by omega)
  omega
theorem b1_and {a b : Nat} (ha : a ≤ 1) : a &&& b ≤ 1 := Nat.le_trans Nat.and_le_left ha
theorem b1_xor {a b : Nat} (ha : a ≤ 1) (hb : b ≤ 1) : a ^^^ b ≤ 1 := by
  have : a ^^^ b < 2 ^ 1 := Nat.xor_lt_two_pow (by omega) (by omega)
  omega
/-! ===== houses ===== -/
/-- how many types, how many constants, sorts, firsts, seconds -/
abbrev Hs : Type := Nat × Nat × (Nat → Nat) × (Nat → Nat) × (Nat → Nat)
abbrev Sf (hs : Hs) (k : Nat) : Nat := hs.2.2.1 k
abbrev Af (hs : Hs) (k : Nat) : Nat := hs.2.2.2.1 k
abbrev Bf (hs : Hs) (k : Nat) : Nat := hs.2.2.2.2 k
def HsOk (hs : Hs) : Prop := hs.1 ≤ 8 ∧ hs.2.1 ≤ 4 ∧ ∀ k, k < hs.1 → Sf hs k ≤ 5 ∧ Af hs k ≤ 7 ∧ Bf hs k ≤ 7
def HsAt (M : mx_M) (h : Nat) (hs : Hs) : Prop := M h 3 = nI hs.1 ∧ M h 4 = nI hs.2.1 ∧ ∀ k, k < hs.1 → M (h + 1) k = nI (Sf hs k) ∧ M (h + 2) k = nI (Af hs k) ∧ M (h + 3) k = nI (Bf hs k)
/-- what a joint type is, by its sort and what its two are -/
def jb (s a b : Nat) : Nat := if s = 3 then a ||| b else if s = 4 then a &&& b else if s = 5 then a &&& (1 ^^^ b) else 0
theorem jb_le {s a b : Nat} (ha : a ≤ 1) (hb : b ≤ 1) : jb s a b ≤ 1 := by
  unfold jb
  split
  · exact b1_or ha hb
  · split
    · exact b1_and ha
    · split
      · exact b1_and ha
      · omega
def cellN (hs : Hs) (told : Nat) : Nat → Nat
  | 0 => told
  | k + 1 => cellN hs told k ||| jb (Sf hs k) (bt (cellN hs told k) (Af hs k)) (bt (cellN hs told k) (Bf hs k)) * 2 ^ k
def cellOf (hs : Hs) (told : Nat) : Nat := cellN hs told hs.1
theorem bk_lt {x k n : Nat} (hx : x ≤ 1) (hk : k < n) : x * 2 ^ k < 2 ^ n := by
  have h1 : 2 ^ k < 2 ^ n := Nat.pow_lt_pow_right (by decide) hk
  have h2 : x * 2 ^ k ≤ 1 * 2 ^ k := Nat.mul_le_mul_right _ hx
  omega
theorem cellN_lt {hs : Hs} {told n : Nat} (ht : told < 2 ^ n) : ∀ k, k ≤ n → cellN hs told k < 2 ^ n
  | 0, _ => ht
  | k + 1, h => or_lt (cellN_lt ht k (by omega)) (bk_lt (jb_le (bt_le _ _) (bt_le _ _)) (by omega))
theorem cellOf_lt {hs : Hs} {told : Nat} (hw : HsOk hs) (ht : told < 256) : cellOf hs told < 256 := cellN_lt (n := 8) ht hs.1 hw.1
/-- the bits of which p is 1 -/
def bsum (p : Nat → Nat) : Nat → Nat
  | 0 => 0
  | k + 1 => bsum p k ||| p k * 2 ^ k
theorem bsum_lt {p : Nat → Nat} {n : Nat} (hp : ∀ k, k < n → p k ≤ 1) : ∀ k, k ≤ n → bsum p k < 2 ^ n
  | 0, _ => Nat.two_pow_pos n
  | k + 1, h => or_lt (bsum_lt hp k (by omega)) (bk_lt (hp k (by omega)) (by omega))
theorem bsum_lt8 {p : Nat → Nat} (hp : ∀ k, p k ≤ 1) {k : Nat} (hk : k ≤ 8) : bsum p k < 256 := bsum_lt (n := 8) (fun j _ => hp j) k hk
def spanB (hs : Hs) (c k : Nat) : Nat := if Sf hs k = 0 ∧ Af hs k ≤ c ∧ c ≤ Bf hs k then 1 else 0
theorem spanB_le (hs : Hs) (c k : Nat) : spanB hs c k ≤ 1 := by unfold spanB; split <;> omega
def constCell (hs : Hs) (c : Nat) : Nat := cellOf hs (bsum (spanB hs c) hs.1)
def sortB (hs : Hs) (t k : Nat) : Nat := if Sf hs k = t then 1 else 0
theorem sortB_le (hs : Hs) (t k : Nat) : sortB hs t k ≤ 1 := by unfold sortB; split <;> omega
def lftB (hs : Hs) (t x k : Nat) : Nat := if Sf hs k = t then bt x (Af hs k) else 0
theorem lftB_le (hs : Hs) (t x k : Nat) : lftB hs t x k ≤ 1 := by unfold lftB; split; exact bt_le _ _; omega
def rgtB (hs : Hs) (t x k : Nat) : Nat := if Sf hs k = t then bt x (Bf hs k) else 0
theorem rgtB_le (hs : Hs) (t x k : Nat) : rgtB hs t x k ≤ 1 := by unfold rgtB; split; exact bt_le _ _; omega
theorem vi_neg {t : Int32} {n : Nat} (h : t < 0) : ¬ vp_in t n := fun q => q (Or.inl h)
theorem vi_ge {t : Int32} {n : Nat} (hn : n < 2 ^ 31) (h : nI n ≤ t) : ¬ vp_in t n := by
  rw [vp_in_iff]
  rw [Int32.le_iff_toInt_le, nI_toInt hn] at h
  omega
theorem vi_mk {t : Int32} {n : Nat} (hn : n < 2 ^ 31) (h0 : ¬ t < 0) (h : ¬ nI n ≤ t) : vp_in t n := by
  rw [vp_in_iff]
  rw [Int32.le_iff_toInt_le, nI_toInt hn] at h
  rw [Int32.lt_iff_toInt_lt, Int32.toInt_zero] at h0
  omega
theorem all_n {n : Nat} (h8 : n ≤ 8) : nI 1 <<< (nI n &&& 31) - nI 1 = nI (2 ^ n - 1) := by
  have h : ∀ n, n < 9 → nI 1 <<< (nI n &&& 31) - nI 1 = nI (2 ^ n - 1) := by decide +kernel
  exact h n (by omega)
/-- whether a sort, a, b may stand at the type t of n -/
def mayZ (n t s a b : Int) : Prop := (0 ≤ t ∧ t < n) ∧ (0 ≤ s ∧ s < 6) ∧ 0 ≤ a ∧ 0 ≤ b ∧ (s = 0 → a ≤ b ∧ b ≤ 3) ∧ (s = 1 ∨ s = 2 → a < n ∧ b < n) ∧ (3 ≤ s → a < t ∧ b < t)
def mayP (n : Nat) (t s a b : Int32) : Prop := mayZ n t.toInt s.toInt a.toInt b.toInt
/-- nothing has changed outside the cells lo on, below hi -/
def Fr (M M' : mx_M) (lo hi : Nat) : Prop := ∀ a, (a < lo ∨ hi ≤ a) → M' a = M a
theorem Fr.rf {M : mx_M} {lo hi : Nat} : Fr M M lo hi := fun _ _ => rfl
theorem Fr.tr {M M' M'' : mx_M} {lo hi : Nat} (h1 : Fr M M' lo hi) (h2 : Fr M' M'' lo hi) : Fr M M'' lo hi := fun a ha => (h2 a ha).trans (h1 a ha)
theorem Fr.mono {M M' : mx_M} {lo hi lo' hi' : Nat} (h : Fr M M' lo hi) (h1 : lo' ≤ lo) (h2 : hi ≤ hi') : Fr M M' lo' hi' := fun a ha => h a (by omega)
theorem Fr.wr {M M' : mx_M} {lo hi k j : Nat} {v : Int32} (h : Fr M M' lo hi) (h1 : lo ≤ k) (h2 : k < hi) : Fr M (mx_wr M' k j v) lo hi := fun a ha => by
  rw [mx_wr_n M' j v (by omega)]
  exact h a ha
theorem Fr.cp {M M' : mx_M} {lo hi a0 k sp dp n : Nat} (h : Fr M M' lo hi) (h1 : lo ≤ k) (h2 : k < hi) : Fr M (mx_cp M' a0 k sp dp n) lo hi := fun a ha => by
  rw [mx_cp_n M' a0 sp dp n (by omega)]
  exact h a ha
theorem HsAt.fr {M M' : mx_M} {h lo hi : Nat} {hs : Hs} (hA : HsAt M h hs) (hf : Fr M M' lo hi) (hd : h + 4 ≤ lo ∨ hi ≤ h) : HsAt M' h hs := by
  unfold HsAt
  rw [hf h (by omega), hf (h + 1) (by omega), hf (h + 2) (by omega), hf (h + 3) (by omega)]
  exact hA
