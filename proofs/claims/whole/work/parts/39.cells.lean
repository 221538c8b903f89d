/-! ===== what is asked of measured cells ===== -/
noncomputable def mk8 (P : Nat → Prop) : Nat := bsum (fun k => cif (P k) 1 0) 8
theorem bsum_bt {p : Nat → Nat} (hp : ∀ k, p k ≤ 1) : ∀ n k, bt (bsum p n) k = 1 ↔ k < n ∧ p k = 1
  | 0, k => by
    show bt 0 k = 1 ↔ _
    simp [bt]
  | n + 1, k => by
    show bt (bsum p n ||| p n * 2 ^ n) k = 1 ↔ _
    rw [bt_or, bsum_bt hp n k]
    have h1 := hp n
    have h2 : bt (p n * 2 ^ n) k = 1 ↔ k = n ∧ p n = 1 := by
      have h3 : p n = 0 ∨ p n = 1 := by omega
      rcases h3 with h3 | h3
      · rw [h3]
        simp [bt]
      · rw [h3, Nat.one_mul]
        have h4 := bt_tb (2 ^ n) k
        rw [Nat.testBit_two_pow] at h4
        have h5 : decide (n = k) = true ↔ decide (bt (2 ^ n) k = 1) = true := by rw [h4]
        simp only [decide_eq_true_eq] at h5
        rw [← h5]
        exact ⟨fun e => ⟨e.symm, rfl⟩, fun e => e.1.symm⟩
    rw [h2]
    constructor
    · rintro (⟨a, b⟩ | ⟨a, b⟩)
      · exact ⟨by omega, b⟩
      · exact ⟨by omega, by rw [a]; exact b⟩
    · rintro ⟨a, b⟩
      rcases Nat.lt_or_ge k n with w | w
      · exact Or.inl ⟨w, b⟩
      · obtain rfl : k = n := by omega
        exact Or.inr ⟨rfl, b⟩
theorem cif_le (P : Prop) : (cif P 1 0 : Nat) ≤ 1 := by
  by_cases h : P
  · rw [cif_t h]; omega
  · rw [cif_f h]; omega
theorem cif_1 {P : Prop} : (cif P 1 0 : Nat) = 1 ↔ P := by
  by_cases h : P
  · rw [cif_t h]; exact ⟨fun _ => h, fun _ => rfl⟩
  · rw [cif_f h]; exact ⟨fun q => by omega, fun q => absurd q h⟩
theorem mk8_lt (P : Nat → Prop) : mk8 P < 256 := bsum_lt8 (fun k => cif_le (P k)) (Nat.le_refl 8)
theorem mk8_bt (P : Nat → Prop) (k : Nat) : bt (mk8 P) k = 1 ↔ k < 8 ∧ P k := by
  unfold mk8
  rw [bsum_bt (fun k => cif_le (P k)), cif_1]
theorem bt_ext {a b : Nat} (h : ∀ k, bt a k = 1 ↔ bt b k = 1) : a = b := by
  apply Nat.eq_of_testBit_eq
  intro i
  rw [bt_tb, bt_tb]
  exact decide_eq_decide.mpr (h i)
theorem bt_hi {a k : Nat} (ha : a < 256) (hk : 8 ≤ k) : ¬ bt a k = 1 := by
  unfold bt
  have h1 : 2 ^ 8 ≤ 2 ^ k := Nat.pow_le_pow_right (by decide) hk
  rw [Nat.div_eq_of_lt (by omega)]
  decide
theorem mk8_of {a : Nat} {P : Nat → Prop} (ha : a < 256) (h : ∀ k, k < 8 → (bt a k = 1 ↔ P k)) : a = mk8 P := by
  apply bt_ext
  intro k
  rw [mk8_bt]
  by_cases hk : k < 8
  · rw [h k hk]
    exact ⟨fun q => ⟨hk, q⟩, fun q => q.2⟩
  · exact ⟨fun q => absurd q (bt_hi ha (by omega)), fun q => absurd q.1 hk⟩
theorem mk8_congr {P P' : Nat → Prop} (h : ∀ k, k < 8 → (P k ↔ P' k)) : mk8 P = mk8 P' := mk8_of (mk8_lt P) (fun k hk => by rw [mk8_bt]; exact ⟨fun q => (h k hk).mp q.2, fun q => ⟨hk, (h k hk).mpr q⟩⟩)
theorem bt_and (a b k : Nat) : bt (a &&& b) k = 1 ↔ bt a k = 1 ∧ bt b k = 1 := by
  have h1 := bt_tb (a &&& b) k
  rw [Nat.testBit_and, bt_tb a k, bt_tb b k] at h1
  have h2 : (decide (bt a k = 1) && decide (bt b k = 1)) = true ↔ decide (bt (a &&& b) k = 1) = true := by rw [h1]
  simp at h2
  exact h2.symm
theorem bt_andn (a b k : Nat) : bt (andn a b) k = 1 ↔ bt a k = 1 ∧ ¬ bt b k = 1 := by
  have h1 := bt_tb (andn a b) k
  rw [andn_tb, bt_tb a k, bt_tb b k] at h1
  have h2 : (decide (bt a k = 1) && !decide (bt b k = 1)) = true ↔ decide (bt (andn a b) k = 1) = true := by rw [h1]
  simp only [Bool.and_eq_true, decide_eq_true_eq, Bool.not_eq_true', decide_eq_false_iff_not] at h2
  exact h2.symm
theorem bt_all (n k : Nat) : bt (2 ^ n - 1) k = 1 ↔ k < n := by
  have h1 := bt_tb (2 ^ n - 1) k
  rw [Nat.testBit_two_pow_sub_one] at h1
  have h2 : decide (k < n) = true ↔ decide (bt (2 ^ n - 1) k = 1) = true := by rw [h1]
  simp only [decide_eq_true_eq] at h2
  exact h2.symm
/-- what lies in what, which have a value in common, which have a value -/
def LiesIn (hs : Hs) (a b : Nat) : Prop := ∀ s, Kw hs s → bt s a = 1 → bt s b = 1
def Meets (hs : Hs) (a b : Nat) : Prop := ∃ s, Kw hs s ∧ bt s a = 1 ∧ bt s b = 1
def HasV (hs : Hs) (a : Nat) : Prop := ∃ s, Kw hs s ∧ bt s a = 1
theorem supP_bt (F : List Nat) (n k j : Nat) : ∀ i, bt (supP F n k i) j = 1 ↔ j < n ∧ ∀ i', i' < i → bt (F.getD i' 0) k = 1 → bt (F.getD i' 0) j = 1
  | 0 => by
    show bt (2 ^ n - 1) j = 1 ↔ _
    rw [bt_all]
    exact ⟨fun h => ⟨h, fun i' h2 => absurd h2 (Nat.not_lt_zero i')⟩, fun h => h.1⟩
  | i + 1 => by
    have ih := supP_bt F n k j i
    show bt (if _ then _ else _) j = 1 ↔ _
    by_cases h0 : bt (F.getD i 0) k = 0
    · rw [if_pos h0, ih]
      refine and_congr Iff.rfl ⟨fun h i' hi' hk => ?_, fun h i' hi' => h i' (by omega)⟩
      rcases Nat.lt_or_ge i' i with w | w
      · exact h i' w hk
      · obtain rfl : i' = i := by omega
        omega
    · rw [if_neg h0, bt_and, ih]
      have h1 : bt (F.getD i 0) k = 1 := by have := bt_le (F.getD i 0) k; omega
      constructor
      · rintro ⟨⟨a, b⟩, d⟩
        refine ⟨a, fun i' hi' hk => ?_⟩
        rcases Nat.lt_or_ge i' i with w | w
        · exact b i' w hk
        · obtain rfl : i' = i := by omega
          exact d
      · rintro ⟨a, b⟩
        exact ⟨⟨a, fun i' hi' => b i' (by omega)⟩, b i (by omega) h1⟩
theorem meetP_bt (F : List Nat) (k j : Nat) : ∀ i, bt (meetP F k i) j = 1 ↔ ∃ i', i' < i ∧ bt (F.getD i' 0) k = 1 ∧ bt (F.getD i' 0) j = 1
  | 0 => by
    show bt 0 j = 1 ↔ _
    simp [bt]
  | i + 1 => by
    have ih := meetP_bt F k j i
    show bt (if _ then _ else _) j = 1 ↔ _
    by_cases h0 : bt (F.getD i 0) k = 0
    · rw [if_pos h0, ih]
      constructor
      · rintro ⟨i', a, b⟩
        exact ⟨i', by omega, b⟩
      · rintro ⟨i', a, b⟩
        rcases Nat.lt_or_ge i' i with w | w
        · exact ⟨i', w, b⟩
        · obtain rfl : i' = i := by omega
          omega
    · rw [if_neg h0, bt_or, ih]
      have h1 : bt (F.getD i 0) k = 1 := by have := bt_le (F.getD i 0) k; omega
      constructor
      · rintro (⟨i', a, b⟩ | d)
        · exact ⟨i', by omega, b⟩
        · exact ⟨i, by omega, h1, d⟩
      · rintro ⟨i', a, b⟩
        rcases Nat.lt_or_ge i' i with w | w
        · exact Or.inl ⟨i', w, b⟩
        · obtain rfl : i' = i := by omega
          exact Or.inr b.2
theorem supP_lies {M : mx_M} {c : Nat} {hs : Hs} {X : Cx} (h : MesD M c hs X) (a b : Nat) : bt (supP (cF X) hs.1 a (cF X).length) b = 1 ↔ b < hs.1 ∧ LiesIn hs a b := by
  rw [supP_bt]
  refine and_congr Iff.rfl ⟨fun q s hs' h1 => ?_, fun q i hi h1 => ?_⟩
  · obtain ⟨i, hi, rfl⟩ := mem_at ((h.2.2.2.2.2.1 s).mpr hs')
    exact q i hi h1
  · exact q _ ((h.2.2.2.2.2.1 _).mp (getD_mem hi)) h1
theorem meetP_meets {M : mx_M} {c : Nat} {hs : Hs} {X : Cx} (h : MesD M c hs X) (a b : Nat) : bt (meetP (cF X) a (cF X).length) b = 1 ↔ Meets hs a b := by
  rw [meetP_bt]
  constructor
  · rintro ⟨i, hi, h1⟩
    exact ⟨_, (h.2.2.2.2.2.1 _).mp (getD_mem hi), h1⟩
  · rintro ⟨s, hs', h1⟩
    obtain ⟨i, hi, rfl⟩ := mem_at ((h.2.2.2.2.2.1 s).mpr hs')
    exact ⟨i, hi, h1⟩
theorem k_withoutValue (G : mx_G) {M : mx_M} {c : Nat} {hs : Hs} {X : Cx} (ho : mx_ocl LAY c = 2) (hw : HsOk hs) (h : MesD M c hs X) : sOk G m_Cells_withoutValue [.ref c] M (fun r M' => r = some (.int (nI (mk8 (fun k => k < hs.1 ∧ ¬ HasV hs k)))) ∧ M' = M) := by
  obtain ⟨⟨m0, m1, m2, m3, m4, m5, m6, m7, m8, m9, m10, m11, m12, m13, m14⟩, ⟨i1, ⟨i2, i3⟩, ⟨i4, i5⟩, ⟨i6, i7⟩⟩, d3, d4, d5, d6, d7⟩ := id h
  have e := an_i (2 ^ hs.1 - 1) (cwc X ||| cwp X ||| cwf X)
  have e2 : andn (2 ^ hs.1 - 1) (cwc X ||| cwp X ||| cwf X) = mk8 (fun k => k < hs.1 ∧ ¬ HasV hs k) := by
    have hp : 2 ^ hs.1 ≤ 2 ^ 8 := Nat.pow_le_pow_right (by decide) hw.1
    refine mk8_of (Nat.lt_of_le_of_lt (andn_le _ _) (by omega)) (fun k _ => ?_)
    rw [bt_andn, bt_all, bt_or, bt_or, i3 k, i5 k, i7 k]
    refine and_congr Iff.rfl (not_congr ?_)
    constructor
    · rintro ((⟨i, a, b⟩ | ⟨t, a, b⟩) | ⟨v, a, b⟩)
      · exact ⟨_, (d6 _).mp ((i1 _).mpr (Or.inl ⟨i, a, rfl⟩)), b⟩
      · exact ⟨_, (d6 _).mp ((i1 _).mpr (Or.inr (Or.inl ⟨t, a, rfl⟩))), b⟩
      · exact ⟨_, (d6 _).mp ((i1 _).mpr (Or.inr (Or.inr ⟨v, a, rfl⟩))), b⟩
    · rintro ⟨s, a, b⟩
      rcases (i1 s).mp ((d6 s).mpr a) with ⟨i, p, rfl⟩ | ⟨t, p, rfl⟩ | ⟨v, p, rfl⟩
      · exact Or.inl (Or.inl ⟨i, p, b⟩)
      · exact Or.inl (Or.inr ⟨t, p, b⟩)
      · exact Or.inr ⟨v, p, b⟩
  refine sOk_of ⟨by decide +kernel, by decide +kernel, Nat.le_of_ble_eq_true rfl⟩ ?_
  show sW G m_Cells_withoutValue 0 ([], [some (.ref c)], M) _
  refine sW_go b_Cells_withoutValue_0 (st' := ([.int (M c 1 &&& (((M c 3 ||| M c 4) ||| M c 5) ^^^ (-1)))], [some (.ref c)], M)) (φ := mx_ocl LAY c = 2 ∧ mx_ocl LAY c = 2 ∧ mx_ocl LAY c = 2 ∧ mx_ocl LAY c = 2 ∧ True) rfl ⟨ho, ho, ho, ho, trivial⟩ ?_
  refine sW_eq (st' := ([.int (nI (2 ^ hs.1 - 1) &&& (nI ((cwc X ||| cwp X) ||| cwf X) ^^^ (-1)))], [some (.ref c)], M)) (by simp (disch := omega) only [m1, m3, m4, m5, nx_or]) ?_
  refine sW_retI d_Cells_withoutValue_21 rfl (vp_nar_int _) ?_
  refine ⟨?_, rfl⟩
  rw [← e2, ← e]

