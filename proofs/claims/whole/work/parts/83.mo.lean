/-! ===== the model: of rows ===== -/
theorem RowAt.n {M : mx_M} {a : Nat} {hs : Hs} (h : RowAt M a 0 hs) : M a 0 = nI hs.1 := h 0 (by decide)
theorem RowAt.c {M : mx_M} {a : Nat} {hs : Hs} (h : RowAt M a 0 hs) : M a 1 = nI hs.2.1 := h 1 (by decide)
theorem RowAt.S {M : mx_M} {a k : Nat} {hs : Hs} (h : RowAt M a 0 hs) (hk : k < 8) : M a (2 + 3 * k) = nI (Sf hs k) := by
  have := h (2 + 3 * k) (by omega)
  rw [enc_S, Nat.zero_add] at this
  exact this
theorem RowAt.A {M : mx_M} {a k : Nat} {hs : Hs} (h : RowAt M a 0 hs) (hk : k < 8) : M a (2 + 3 * k + 1) = nI (Af hs k) := by
  have := h (2 + 3 * k + 1) (by omega)
  rw [enc_A, Nat.zero_add] at this
  exact this
theorem RowAt.B {M : mx_M} {a k : Nat} {hs : Hs} (h : RowAt M a 0 hs) (hk : k < 8) : M a (2 + 3 * k + 2) = nI (Bf hs k) := by
  have := h (2 + 3 * k + 2) (by omega)
  rw [enc_B, Nat.zero_add] at this
  exact this
theorem WHs.le {hs : Hs} (h : WHs hs) (k : Nat) : Sf hs k ≤ 5 ∧ Af hs k ≤ 7 ∧ Bf hs k ≤ 7 := by
  by_cases hk : k < hs.1
  · exact h.1.2.2 k hk
  · obtain ⟨y1, y2, y3⟩ := h.2.1 k (by omega)
    omega
theorem k_of (G : mx_G) {M : mx_M} {a k w : Nat} (hl : mx_len LAY false a = 26) (hk : k < 8) (hw : w ≤ 2) : sOk G m_Mo_of [.ref a, .int (nI k), .int (nI w)] M (fun r M' => r = some (.int (M a (2 + 3 * k + w))) ∧ M' = M) := by
  refine sOk_of ⟨by decide +kernel, by decide +kernel, Nat.le_of_ble_eq_true rfl⟩ ?_
  show sW G m_Mo_of 0 ([], [some (.ref a), some (.int (nI k)), some (.int (nI w))], M) _
  refine sW_go b_Mo_of_0 (st' := ([.int (M a ((nI 2 + (nI 3 * nI k)) + nI w).toNatClampNeg)], [some (.ref a), some (.int (nI k)), some (.int (nI w))], M)) (φ := vp_in ((nI 2 + (nI 3 * nI k)) + nI w) (mx_len LAY false a) ∧ True) rfl ⟨(by simp (disch := omega) only [nI_add, pk_mul, hl]; exact vp_in_nI (by omega) (by decide)), trivial⟩ ?_
  refine sW_eq (st' := ([.int (M a (2 + 3 * k + w))], [some (.ref a), some (.int (nI k)), some (.int (nI w))], M)) (by simp (disch := omega) only [nI_add, nI_clamp, pk_mul]) ?_
  refine sW_retI d_Mo_of_9 rfl (vp_nar_int _) ?_
  exact ⟨rfl, rfl⟩
theorem k_ofS (G : mx_G) {M : mx_M} {a k : Nat} {hs : Hs} (hl : mx_len LAY false a = 26) (h : RowAt M a 0 hs) (hk : k < 8) : sOk G m_Mo_of [.ref a, .int (nI k), .int (nI 0)] M (fun r M' => r = some (.int (nI (Sf hs k))) ∧ M' = M) := by
  have := k_of G (M := M) hl hk (w := 0) (by decide)
  rw [Nat.add_zero, h.S hk] at this
  exact this
theorem k_ofA (G : mx_G) {M : mx_M} {a k : Nat} {hs : Hs} (hl : mx_len LAY false a = 26) (h : RowAt M a 0 hs) (hk : k < 8) : sOk G m_Mo_of [.ref a, .int (nI k), .int (nI 1)] M (fun r M' => r = some (.int (nI (Af hs k))) ∧ M' = M) := by
  have := k_of G (M := M) hl hk (w := 1) (by decide)
  rw [h.A hk] at this
  exact this
theorem k_ofB (G : mx_G) {M : mx_M} {a k : Nat} {hs : Hs} (hl : mx_len LAY false a = 26) (h : RowAt M a 0 hs) (hk : k < 8) : sOk G m_Mo_of [.ref a, .int (nI k), .int (nI 2)] M (fun r M' => r = some (.int (nI (Bf hs k))) ∧ M' = M) := by
  have := k_of G (M := M) hl hk (w := 2) (by decide)
  rw [h.B hk] at this
  exact this
theorem k_has (G : mx_G) {M : mx_M} {x k : Nat} (hx : x < 2 ^ 31) (hk : k < 32) : sOk G m_Mo_has [.int (nI x), .int (nI k)] M (fun r M' => r = some (.int (tf (bt x k = 1))) ∧ M' = M) := by
  have e : (nI x >>> (nI k &&& 31)) &&& nI 1 = nI (bt x k) := sh_b hx hk
  have hb := bt_le x k
  refine sOk_of ⟨by decide +kernel, by decide +kernel, Nat.le_of_ble_eq_true rfl⟩ ?_
  show sW G m_Mo_has 0 ([], [some (.int (nI x)), some (.int (nI k))], M) _
  refine sW_go b_Mo_has_0 (st' := ([.int (nI 1), .int ((nI x >>> (nI k &&& 31)) &&& nI 1)], [some (.int (nI x)), some (.int (nI k))], M)) (φ := True) rfl trivial ?_
  refine sW_eq (st' := ([.int (nI 1), .int (nI (bt x k))], [some (.int (nI x)), some (.int (nI k))], M)) (by simp (disch := omega) only [e]) ?_
  refine sW_ic_ne 13 d_Mo_has_6 (by decide) (fun c_6 => ?_) (fun c_6 => ?_)
  · skip
    simp (disch := omega) only [nI_eq] at c_6
    refine sW_go b_Mo_has_13 (st' := ([.int (nI 0)], [some (.int (nI x)), some (.int (nI k))], M)) (φ := True) rfl trivial ?_
    refine sW_retI d_Mo_has_14 rfl nb_0 ?_
    exact ⟨by rw [tf_f c_6], rfl⟩
  · skip
    simp (disch := omega) only [nI_eq] at c_6
    refine sW_go b_Mo_has_9 (st' := ([.int (nI 1)], [some (.int (nI x)), some (.int (nI k))], M)) (φ := True) rfl trivial ?_
    refine sW_goto 14 d_Mo_has_10 (by decide) ?_
    refine sW_retI d_Mo_has_14 rfl nb_1 ?_
    exact ⟨by rw [tf_t c_6], rfl⟩
theorem k_isType (G : mx_G) {M : mx_M} {hs : Hs} (h : RowAt M 123 0 hs) (h8 : hs.1 ≤ 8) (t : Int32) : sOk G m_Mo_isType [.ref 119, .int t] M (fun r M' => r = some (.int (tf (vp_in t hs.1))) ∧ M' = M) := by
  have e := h.n
  refine sOk_of ⟨by decide +kernel, by decide +kernel, Nat.le_of_ble_eq_true rfl⟩ ?_
  show sW G m_Mo_isType 0 ([], [some (.ref 119), some (.int t)], M) _
  refine sW_go b_Mo_isType_0 (st' := ([.long (M 123 (nI 0).toNatClampNeg - nI 1).toInt64, .long (lN 0), .long t.toInt64], [some (.ref 119), some (.int t)], M)) (φ := mx_ocl LAY 119 = 10 ∧ vp_in (nI 0) (mx_len LAY false 123) ∧ True) rfl ⟨oc_119, (by simp (disch := omega) only [ln_123]; exact vp_in_nI (by omega) (by decide)), trivial⟩ ?_
  refine sW_eq (st' := ([.long (nI hs.1 - nI 1).toInt64, .long (lN 0), .long t.toInt64], [some (.ref 119), some (.int t)], M)) (by simp (disch := omega) only [e, nI_clamp]) ?_
  refine sW_callS [.long t.toInt64, .long (lN 0), .long (nI hs.1 - nI 1).toInt64] [] d_Mo_isType_12 c_Mo_isType_12 ⟨rfl, rfl, Nat.le_of_ble_eq_true rfl, rfl, rfl⟩ (k_inB G t hs.1 (by omega)) ?_
  rintro _ M₁ ⟨rfl, h₁⟩
  rw [h₁]
  show sW G m_Mo_isType 15 ([.int (tf (vp_in t hs.1))], [some (.ref 119), some (.int t)], M) _
  refine sW_retI d_Mo_isType_15 rfl (tf_b _) ?_
  exact ⟨rfl, rfl⟩
theorem k_isThere (G : mx_G) {M : mx_M} {hs : Hs} (h : RowAt M 123 0 hs) (h8 : hs.1 ≤ 8) : sOk G m_Mo_isThere [.ref 119] M (fun r M' => r = some (.int (tf (hs.1 ≠ 0))) ∧ M' = M) := by
  have e := h.n
  refine sOk_of ⟨by decide +kernel, by decide +kernel, Nat.le_of_ble_eq_true rfl⟩ ?_
  show sW G m_Mo_isThere 0 ([], [some (.ref 119)], M) _
  refine sW_go b_Mo_isThere_0 (st' := ([.int (M 123 (nI 0).toNatClampNeg)], [some (.ref 119)], M)) (φ := mx_ocl LAY 119 = 10 ∧ vp_in (nI 0) (mx_len LAY false 123) ∧ True) rfl ⟨oc_119, (by simp (disch := omega) only [ln_123]; exact vp_in_nI (by omega) (by decide)), trivial⟩ ?_
  refine sW_eq (st' := ([.int (nI hs.1)], [some (.ref 119)], M)) (by simp (disch := omega) only [e, nI_clamp]) ?_
  refine sW_if_le 13 d_Mo_isThere_6 (by decide) (fun c_6 => ?_) (fun c_6 => ?_)
  · skip
    refine sW_go b_Mo_isThere_13 (st' := ([.int (nI 0)], [some (.ref 119)], M)) (φ := True) rfl trivial ?_
    refine sW_retI d_Mo_isThere_14 rfl nb_0 ?_
    rw [Int32.le_iff_toInt_le, nI_toInt (by omega), Int32.toInt_zero] at c_6
    exact ⟨by rw [tf_f (by omega)], rfl⟩
  · skip
    refine sW_go b_Mo_isThere_9 (st' := ([.int (nI 1)], [some (.ref 119)], M)) (φ := True) rfl trivial ?_
    refine sW_goto 14 d_Mo_isThere_10 (by decide) ?_
    refine sW_retI d_Mo_isThere_14 rfl nb_1 ?_
    rw [Int32.le_iff_toInt_le, nI_toInt (by omega), Int32.toInt_zero] at c_6
    exact ⟨by rw [tf_t (by omega)], rfl⟩
theorem k_everyType (G : mx_G) {M : mx_M} {hs : Hs} (h : RowAt M 123 0 hs) (h8 : hs.1 ≤ 8) : sOk G m_Mo_everyType [.ref 119] M (fun r M' => r = some (.int (nI (2 ^ hs.1 - 1))) ∧ M' = M) := by
  have e := h.n
  have e1 : nI 1 <<< (nI hs.1 &&& 31) - nI 1 = nI (2 ^ hs.1 - 1) := all_n h8
  refine sOk_of ⟨by decide +kernel, by decide +kernel, Nat.le_of_ble_eq_true rfl⟩ ?_
  show sW G m_Mo_everyType 0 ([], [some (.ref 119)], M) _
  refine sW_go b_Mo_everyType_0 (st' := ([.int ((nI 1 <<< (M 123 (nI 0).toNatClampNeg &&& 31)) - nI 1)], [some (.ref 119)], M)) (φ := mx_ocl LAY 119 = 10 ∧ vp_in (nI 0) (mx_len LAY false 123) ∧ True) rfl ⟨oc_119, (by simp (disch := omega) only [ln_123]; exact vp_in_nI (by omega) (by decide)), trivial⟩ ?_
  refine sW_eq (st' := ([.int (nI (2 ^ hs.1 - 1))], [some (.ref 119)], M)) (by simp (disch := omega) only [e, e1, nI_clamp]) ?_
  refine sW_retI d_Mo_everyType_10 rfl (vp_nar_int _) ?_
  exact ⟨rfl, rfl⟩
theorem k_isSet (G : mx_G) {M : mx_M} {hs : Hs} (h : RowAt M 123 0 hs) (h8 : hs.1 ≤ 8) (t : Int32) : sOk G m_Mo_isSet [.ref 119, .int t] M (fun r M' => r = some (.int (tf (vp_in t (2 ^ hs.1)))) ∧ M' = M) := by
  have e := h.n
  have e1 : nI 1 <<< (nI hs.1 &&& 31) - nI 1 = nI (2 ^ hs.1 - 1) := all_n h8
  have hp : 2 ^ hs.1 ≤ 256 := Nat.pow_le_pow_right (by decide) h8
  have hp0 : 0 < 2 ^ hs.1 := Nat.two_pow_pos _
  have e2 : ((lN 0).toInt ≤ t.toInt64.toInt ∧ t.toInt64.toInt ≤ (nI (2 ^ hs.1 - 1)).toInt64.toInt) ↔ vp_in t (2 ^ hs.1) := by
    rw [i2l_ti, i2l_ti, lN_ti (by decide), nI_toInt (by omega), vp_in_iff]
    omega
  refine sOk_of ⟨by decide +kernel, by decide +kernel, Nat.le_of_ble_eq_true rfl⟩ ?_
  show sW G m_Mo_isSet 0 ([], [some (.ref 119), some (.int t)], M) _
  refine sW_go b_Mo_isSet_0 (st' := ([.long ((nI 1 <<< (M 123 (nI 0).toNatClampNeg &&& 31)) - nI 1).toInt64, .long (lN 0), .long t.toInt64], [some (.ref 119), some (.int t)], M)) (φ := mx_ocl LAY 119 = 10 ∧ vp_in (nI 0) (mx_len LAY false 123) ∧ True) rfl ⟨oc_119, (by simp (disch := omega) only [ln_123]; exact vp_in_nI (by omega) (by decide)), trivial⟩ ?_
  refine sW_eq (st' := ([.long (nI (2 ^ hs.1 - 1)).toInt64, .long (lN 0), .long t.toInt64], [some (.ref 119), some (.int t)], M)) (by simp (disch := omega) only [e, e1, nI_clamp]) ?_
  refine sW_callS [.long t.toInt64, .long (lN 0), .long (nI (2 ^ hs.1 - 1)).toInt64] [] d_Mo_isSet_14 c_Mo_isSet_14 ⟨rfl, rfl, Nat.le_of_ble_eq_true rfl, rfl, rfl⟩ (k_inP G e2) ?_
  rintro _ M₁ ⟨rfl, h₁⟩
  rw [h₁]
  show sW G m_Mo_isSet 17 ([.int (tf (vp_in t (2 ^ hs.1)))], [some (.ref 119), some (.int t)], M) _
  refine sW_retI d_Mo_isSet_17 rfl (tf_b _) ?_
  exact ⟨rfl, rfl⟩
theorem k_may (G : mx_G) {M : mx_M} {n k s : Nat} (hk : k < n) (hn : n ≤ 8) (hs : s < 6) (a b : Int32) : sOk G m_Mo_may [.int (nI n), .int (nI k), .int (nI s), .int a, .int b] M (fun r M' => r = some (.int (tf (mayP n (nI k) (nI s) a b))) ∧ M' = M) := by
  refine sOk_of ⟨by decide +kernel, by decide +kernel, Nat.le_of_ble_eq_true rfl⟩ ?_
  show sW G m_Mo_may 0 ([], [some (.int (nI n)), some (.int (nI k)), some (.int (nI s)), some (.int a), some (.int b), none], M) _
  refine sW_go b_Mo_may_0 (st' := ([.int (nI s)], [some (.int (nI n)), some (.int (nI k)), some (.int (nI s)), some (.int a), some (.int b), none], M)) (φ := True) rfl trivial ?_
  refine sW_if_ne 8 d_Mo_may_1 (by decide) (fun c_1 => ?_) (fun c_1 => ?_)
  · skip
    simp (disch := omega) only [nI_z] at c_1
    refine sW_go b_Mo_may_8 (st' := ([.int (nI 3), .int (nI s)], [some (.int (nI n)), some (.int (nI k)), some (.int (nI s)), some (.int a), some (.int b), none], M)) (φ := True) rfl trivial ?_
    refine sW_ic_ge 19 d_Mo_may_10 (by decide) (fun c_10 => ?_) (fun c_10 => ?_)
    · skip
      simp (disch := omega) only [nI_leI] at c_10
      refine sW_go b_Mo_may_19 (st' := ([.int (nI k - nI 1)], [some (.int (nI n)), some (.int (nI k)), some (.int (nI s)), some (.int a), some (.int b), none], M)) (φ := True) rfl trivial ?_
      refine sW_go b_Mo_may_22 (st' := ([.long (nI k - nI 1).toInt64, .long (lN 0), .long a.toInt64], [some (.int (nI n)), some (.int (nI k)), some (.int (nI s)), some (.int a), some (.int b), some (.int (nI k - nI 1))], M)) (φ := True) rfl trivial ?_
      refine sW_callS [.long a.toInt64, .long (lN 0), .long (nI k - nI 1).toInt64] [] d_Mo_may_30 c_Mo_may_30 ⟨rfl, rfl, Nat.le_of_ble_eq_true rfl, rfl, rfl⟩ (k_in G a.toInt64 (lN 0) (nI k - nI 1).toInt64) ?_
      rintro _ M₁ ⟨rfl, h₁⟩
      rw [h₁]
      show sW G m_Mo_may 33 ([.int (tf ((lN 0).toInt ≤ a.toInt64.toInt ∧ a.toInt64.toInt ≤ (nI k - nI 1).toInt64.toInt))], [some (.int (nI n)), some (.int (nI k)), some (.int (nI s)), some (.int a), some (.int b), some (.int (nI k - nI 1))], M) _
      refine sW_if_eq 62 d_Mo_may_33 (by decide) (fun c_33 => ?_) (fun c_33 => ?_)
      · skip
        replace c_33 := tf_z.mp c_33
        refine sW_go b_Mo_may_62 (st' := ([.int (nI 0)], [some (.int (nI n)), some (.int (nI k)), some (.int (nI s)), some (.int a), some (.int b), some (.int (nI k - nI 1))], M)) (φ := True) rfl trivial ?_
        refine sW_retI d_Mo_may_63 rfl nb_0 ?_
        first | exact ⟨by rw [tf_f]; unfold mayP mayZ; (simp (disch := omega) only [i2l_ti, lN_ti, Int32.lt_iff_toInt_lt, Int32.le_iff_toInt_le, ← Int32.toInt_inj, Int32.toInt_zero, nI_toInt, pk_sub_toInt] at *; omega), rfl⟩ | exact ⟨by rw [tf_t]; unfold mayP mayZ; (simp (disch := omega) only [i2l_ti, lN_ti, Int32.lt_iff_toInt_lt, Int32.le_iff_toInt_le, ← Int32.toInt_inj, Int32.toInt_zero, nI_toInt, pk_sub_toInt] at *; omega), rfl⟩
      · skip
        replace c_33 := tf_nz.mp c_33
        refine sW_go b_Mo_may_36 (st' := ([.int (nI s), .long b.toInt64], [some (.int (nI n)), some (.int (nI k)), some (.int (nI s)), some (.int a), some (.int b), some (.int (nI k - nI 1))], M)) (φ := True) rfl trivial ?_
        refine sW_if_ne 48 d_Mo_may_40 (by decide) (fun c_40 => ?_) (fun c_40 => ?_)
        · skip
          simp (disch := omega) only [nI_z] at c_40
          refine sW_go b_Mo_may_48 (st' := ([.long (lN 0), .long b.toInt64], [some (.int (nI n)), some (.int (nI k)), some (.int (nI s)), some (.int a), some (.int b), some (.int (nI k - nI 1))], M)) (φ := True) rfl trivial ?_
          refine sW_go b_Mo_may_49 (st' := ([.long (nI k - nI 1).toInt64, .long (lN 0), .long b.toInt64], [some (.int (nI n)), some (.int (nI k)), some (.int (nI s)), some (.int a), some (.int b), some (.int (nI k - nI 1))], M)) (φ := True) rfl trivial ?_
          refine sW_callS [.long b.toInt64, .long (lN 0), .long (nI k - nI 1).toInt64] [] d_Mo_may_52 c_Mo_may_52 ⟨rfl, rfl, Nat.le_of_ble_eq_true rfl, rfl, rfl⟩ (k_in G b.toInt64 (lN 0) (nI k - nI 1).toInt64) ?_
          rintro _ M₁ ⟨rfl, h₁⟩
          rw [h₁]
          show sW G m_Mo_may 55 ([.int (tf ((lN 0).toInt ≤ b.toInt64.toInt ∧ b.toInt64.toInt ≤ (nI k - nI 1).toInt64.toInt))], [some (.int (nI n)), some (.int (nI k)), some (.int (nI s)), some (.int a), some (.int b), some (.int (nI k - nI 1))], M) _
          refine sW_if_eq 62 d_Mo_may_55 (by decide) (fun c_55 => ?_) (fun c_55 => ?_)
          · skip
            replace c_55 := tf_z.mp c_55
            refine sW_go b_Mo_may_62 (st' := ([.int (nI 0)], [some (.int (nI n)), some (.int (nI k)), some (.int (nI s)), some (.int a), some (.int b), some (.int (nI k - nI 1))], M)) (φ := True) rfl trivial ?_
            refine sW_retI d_Mo_may_63 rfl nb_0 ?_
            first | exact ⟨by rw [tf_f]; unfold mayP mayZ; (simp (disch := omega) only [i2l_ti, lN_ti, Int32.lt_iff_toInt_lt, Int32.le_iff_toInt_le, ← Int32.toInt_inj, Int32.toInt_zero, nI_toInt, pk_sub_toInt] at *; omega), rfl⟩ | exact ⟨by rw [tf_t]; unfold mayP mayZ; (simp (disch := omega) only [i2l_ti, lN_ti, Int32.lt_iff_toInt_lt, Int32.le_iff_toInt_le, ← Int32.toInt_inj, Int32.toInt_zero, nI_toInt, pk_sub_toInt] at *; omega), rfl⟩
          · skip
            replace c_55 := tf_nz.mp c_55
            refine sW_go b_Mo_may_58 (st' := ([.int (nI 1)], [some (.int (nI n)), some (.int (nI k)), some (.int (nI s)), some (.int a), some (.int b), some (.int (nI k - nI 1))], M)) (φ := True) rfl trivial ?_
            refine sW_goto 63 d_Mo_may_59 (by decide) ?_
            refine sW_retI d_Mo_may_63 rfl nb_1 ?_
            first | exact ⟨by rw [tf_f]; unfold mayP mayZ; (simp (disch := omega) only [i2l_ti, lN_ti, Int32.lt_iff_toInt_lt, Int32.le_iff_toInt_le, ← Int32.toInt_inj, Int32.toInt_zero, nI_toInt, pk_sub_toInt] at *; omega), rfl⟩ | exact ⟨by rw [tf_t]; unfold mayP mayZ; (simp (disch := omega) only [i2l_ti, lN_ti, Int32.lt_iff_toInt_lt, Int32.le_iff_toInt_le, ← Int32.toInt_inj, Int32.toInt_zero, nI_toInt, pk_sub_toInt] at *; omega), rfl⟩
        · skip
          simp (disch := omega) only [nI_z] at c_40
          refine sW_go b_Mo_may_43 (st' := ([.long a.toInt64, .long b.toInt64], [some (.int (nI n)), some (.int (nI k)), some (.int (nI s)), some (.int a), some (.int b), some (.int (nI k - nI 1))], M)) (φ := True) rfl trivial ?_
          refine sW_goto 49 d_Mo_may_45 (by decide) ?_
          refine sW_go b_Mo_may_49 (st' := ([.long (nI k - nI 1).toInt64, .long a.toInt64, .long b.toInt64], [some (.int (nI n)), some (.int (nI k)), some (.int (nI s)), some (.int a), some (.int b), some (.int (nI k - nI 1))], M)) (φ := True) rfl trivial ?_
          refine sW_callS [.long b.toInt64, .long a.toInt64, .long (nI k - nI 1).toInt64] [] d_Mo_may_52 c_Mo_may_52 ⟨rfl, rfl, Nat.le_of_ble_eq_true rfl, rfl, rfl⟩ (k_in G b.toInt64 a.toInt64 (nI k - nI 1).toInt64) ?_
          rintro _ M₁ ⟨rfl, h₁⟩
          rw [h₁]
          show sW G m_Mo_may 55 ([.int (tf (a.toInt64.toInt ≤ b.toInt64.toInt ∧ b.toInt64.toInt ≤ (nI k - nI 1).toInt64.toInt))], [some (.int (nI n)), some (.int (nI k)), some (.int (nI s)), some (.int a), some (.int b), some (.int (nI k - nI 1))], M) _
          refine sW_if_eq 62 d_Mo_may_55 (by decide) (fun c_55 => ?_) (fun c_55 => ?_)
          · skip
            replace c_55 := tf_z.mp c_55
            refine sW_go b_Mo_may_62 (st' := ([.int (nI 0)], [some (.int (nI n)), some (.int (nI k)), some (.int (nI s)), some (.int a), some (.int b), some (.int (nI k - nI 1))], M)) (φ := True) rfl trivial ?_
            refine sW_retI d_Mo_may_63 rfl nb_0 ?_
            first | exact ⟨by rw [tf_f]; unfold mayP mayZ; (simp (disch := omega) only [i2l_ti, lN_ti, Int32.lt_iff_toInt_lt, Int32.le_iff_toInt_le, ← Int32.toInt_inj, Int32.toInt_zero, nI_toInt, pk_sub_toInt] at *; omega), rfl⟩ | exact ⟨by rw [tf_t]; unfold mayP mayZ; (simp (disch := omega) only [i2l_ti, lN_ti, Int32.lt_iff_toInt_lt, Int32.le_iff_toInt_le, ← Int32.toInt_inj, Int32.toInt_zero, nI_toInt, pk_sub_toInt] at *; omega), rfl⟩
          · skip
            replace c_55 := tf_nz.mp c_55
            refine sW_go b_Mo_may_58 (st' := ([.int (nI 1)], [some (.int (nI n)), some (.int (nI k)), some (.int (nI s)), some (.int a), some (.int b), some (.int (nI k - nI 1))], M)) (φ := True) rfl trivial ?_
            refine sW_goto 63 d_Mo_may_59 (by decide) ?_
            refine sW_retI d_Mo_may_63 rfl nb_1 ?_
            first | exact ⟨by rw [tf_f]; unfold mayP mayZ; (simp (disch := omega) only [i2l_ti, lN_ti, Int32.lt_iff_toInt_lt, Int32.le_iff_toInt_le, ← Int32.toInt_inj, Int32.toInt_zero, nI_toInt, pk_sub_toInt] at *; omega), rfl⟩ | exact ⟨by rw [tf_t]; unfold mayP mayZ; (simp (disch := omega) only [i2l_ti, lN_ti, Int32.lt_iff_toInt_lt, Int32.le_iff_toInt_le, ← Int32.toInt_inj, Int32.toInt_zero, nI_toInt, pk_sub_toInt] at *; omega), rfl⟩
    · skip
      simp (disch := omega) only [nI_leI] at c_10
      refine sW_go b_Mo_may_13 (st' := ([.int (nI n - nI 1)], [some (.int (nI n)), some (.int (nI k)), some (.int (nI s)), some (.int a), some (.int b), none], M)) (φ := True) rfl trivial ?_
      refine sW_goto 22 d_Mo_may_16 (by decide) ?_
      refine sW_go b_Mo_may_22 (st' := ([.long (nI n - nI 1).toInt64, .long (lN 0), .long a.toInt64], [some (.int (nI n)), some (.int (nI k)), some (.int (nI s)), some (.int a), some (.int b), some (.int (nI n - nI 1))], M)) (φ := True) rfl trivial ?_
      refine sW_callS [.long a.toInt64, .long (lN 0), .long (nI n - nI 1).toInt64] [] d_Mo_may_30 c_Mo_may_30 ⟨rfl, rfl, Nat.le_of_ble_eq_true rfl, rfl, rfl⟩ (k_in G a.toInt64 (lN 0) (nI n - nI 1).toInt64) ?_
      rintro _ M₁ ⟨rfl, h₁⟩
      rw [h₁]
      show sW G m_Mo_may 33 ([.int (tf ((lN 0).toInt ≤ a.toInt64.toInt ∧ a.toInt64.toInt ≤ (nI n - nI 1).toInt64.toInt))], [some (.int (nI n)), some (.int (nI k)), some (.int (nI s)), some (.int a), some (.int b), some (.int (nI n - nI 1))], M) _
      refine sW_if_eq 62 d_Mo_may_33 (by decide) (fun c_33 => ?_) (fun c_33 => ?_)
      · skip
        replace c_33 := tf_z.mp c_33
        refine sW_go b_Mo_may_62 (st' := ([.int (nI 0)], [some (.int (nI n)), some (.int (nI k)), some (.int (nI s)), some (.int a), some (.int b), some (.int (nI n - nI 1))], M)) (φ := True) rfl trivial ?_
        refine sW_retI d_Mo_may_63 rfl nb_0 ?_
        first | exact ⟨by rw [tf_f]; unfold mayP mayZ; (simp (disch := omega) only [i2l_ti, lN_ti, Int32.lt_iff_toInt_lt, Int32.le_iff_toInt_le, ← Int32.toInt_inj, Int32.toInt_zero, nI_toInt, pk_sub_toInt] at *; omega), rfl⟩ | exact ⟨by rw [tf_t]; unfold mayP mayZ; (simp (disch := omega) only [i2l_ti, lN_ti, Int32.lt_iff_toInt_lt, Int32.le_iff_toInt_le, ← Int32.toInt_inj, Int32.toInt_zero, nI_toInt, pk_sub_toInt] at *; omega), rfl⟩
      · skip
        replace c_33 := tf_nz.mp c_33
        refine sW_go b_Mo_may_36 (st' := ([.int (nI s), .long b.toInt64], [some (.int (nI n)), some (.int (nI k)), some (.int (nI s)), some (.int a), some (.int b), some (.int (nI n - nI 1))], M)) (φ := True) rfl trivial ?_
        refine sW_if_ne 48 d_Mo_may_40 (by decide) (fun c_40 => ?_) (fun c_40 => ?_)
        · skip
          simp (disch := omega) only [nI_z] at c_40
          refine sW_go b_Mo_may_48 (st' := ([.long (lN 0), .long b.toInt64], [some (.int (nI n)), some (.int (nI k)), some (.int (nI s)), some (.int a), some (.int b), some (.int (nI n - nI 1))], M)) (φ := True) rfl trivial ?_
          refine sW_go b_Mo_may_49 (st' := ([.long (nI n - nI 1).toInt64, .long (lN 0), .long b.toInt64], [some (.int (nI n)), some (.int (nI k)), some (.int (nI s)), some (.int a), some (.int b), some (.int (nI n - nI 1))], M)) (φ := True) rfl trivial ?_
          refine sW_callS [.long b.toInt64, .long (lN 0), .long (nI n - nI 1).toInt64] [] d_Mo_may_52 c_Mo_may_52 ⟨rfl, rfl, Nat.le_of_ble_eq_true rfl, rfl, rfl⟩ (k_in G b.toInt64 (lN 0) (nI n - nI 1).toInt64) ?_
          rintro _ M₁ ⟨rfl, h₁⟩
          rw [h₁]
          show sW G m_Mo_may 55 ([.int (tf ((lN 0).toInt ≤ b.toInt64.toInt ∧ b.toInt64.toInt ≤ (nI n - nI 1).toInt64.toInt))], [some (.int (nI n)), some (.int (nI k)), some (.int (nI s)), some (.int a), some (.int b), some (.int (nI n - nI 1))], M) _
          refine sW_if_eq 62 d_Mo_may_55 (by decide) (fun c_55 => ?_) (fun c_55 => ?_)
          · skip
            replace c_55 := tf_z.mp c_55
            refine sW_go b_Mo_may_62 (st' := ([.int (nI 0)], [some (.int (nI n)), some (.int (nI k)), some (.int (nI s)), some (.int a), some (.int b), some (.int (nI n - nI 1))], M)) (φ := True) rfl trivial ?_
            refine sW_retI d_Mo_may_63 rfl nb_0 ?_
            first | exact ⟨by rw [tf_f]; unfold mayP mayZ; (simp (disch := omega) only [i2l_ti, lN_ti, Int32.lt_iff_toInt_lt, Int32.le_iff_toInt_le, ← Int32.toInt_inj, Int32.toInt_zero, nI_toInt, pk_sub_toInt] at *; omega), rfl⟩ | exact ⟨by rw [tf_t]; unfold mayP mayZ; (simp (disch := omega) only [i2l_ti, lN_ti, Int32.lt_iff_toInt_lt, Int32.le_iff_toInt_le, ← Int32.toInt_inj, Int32.toInt_zero, nI_toInt, pk_sub_toInt] at *; omega), rfl⟩
          · skip
            replace c_55 := tf_nz.mp c_55
            refine sW_go b_Mo_may_58 (st' := ([.int (nI 1)], [some (.int (nI n)), some (.int (nI k)), some (.int (nI s)), some (.int a), some (.int b), some (.int (nI n - nI 1))], M)) (φ := True) rfl trivial ?_
            refine sW_goto 63 d_Mo_may_59 (by decide) ?_
            refine sW_retI d_Mo_may_63 rfl nb_1 ?_
            first | exact ⟨by rw [tf_f]; unfold mayP mayZ; (simp (disch := omega) only [i2l_ti, lN_ti, Int32.lt_iff_toInt_lt, Int32.le_iff_toInt_le, ← Int32.toInt_inj, Int32.toInt_zero, nI_toInt, pk_sub_toInt] at *; omega), rfl⟩ | exact ⟨by rw [tf_t]; unfold mayP mayZ; (simp (disch := omega) only [i2l_ti, lN_ti, Int32.lt_iff_toInt_lt, Int32.le_iff_toInt_le, ← Int32.toInt_inj, Int32.toInt_zero, nI_toInt, pk_sub_toInt] at *; omega), rfl⟩
        · skip
          simp (disch := omega) only [nI_z] at c_40
          refine sW_go b_Mo_may_43 (st' := ([.long a.toInt64, .long b.toInt64], [some (.int (nI n)), some (.int (nI k)), some (.int (nI s)), some (.int a), some (.int b), some (.int (nI n - nI 1))], M)) (φ := True) rfl trivial ?_
          refine sW_goto 49 d_Mo_may_45 (by decide) ?_
          refine sW_go b_Mo_may_49 (st' := ([.long (nI n - nI 1).toInt64, .long a.toInt64, .long b.toInt64], [some (.int (nI n)), some (.int (nI k)), some (.int (nI s)), some (.int a), some (.int b), some (.int (nI n - nI 1))], M)) (φ := True) rfl trivial ?_
          refine sW_callS [.long b.toInt64, .long a.toInt64, .long (nI n - nI 1).toInt64] [] d_Mo_may_52 c_Mo_may_52 ⟨rfl, rfl, Nat.le_of_ble_eq_true rfl, rfl, rfl⟩ (k_in G b.toInt64 a.toInt64 (nI n - nI 1).toInt64) ?_
          rintro _ M₁ ⟨rfl, h₁⟩
          rw [h₁]
          show sW G m_Mo_may 55 ([.int (tf (a.toInt64.toInt ≤ b.toInt64.toInt ∧ b.toInt64.toInt ≤ (nI n - nI 1).toInt64.toInt))], [some (.int (nI n)), some (.int (nI k)), some (.int (nI s)), some (.int a), some (.int b), some (.int (nI n - nI 1))], M) _
          refine sW_if_eq 62 d_Mo_may_55 (by decide) (fun c_55 => ?_) (fun c_55 => ?_)
          · skip
            replace c_55 := tf_z.mp c_55
            refine sW_go b_Mo_may_62 (st' := ([.int (nI 0)], [some (.int (nI n)), some (.int (nI k)), some (.int (nI s)), some (.int a), some (.int b), some (.int (nI n - nI 1))], M)) (φ := True) rfl trivial ?_
            refine sW_retI d_Mo_may_63 rfl nb_0 ?_
            first | exact ⟨by rw [tf_f]; unfold mayP mayZ; (simp (disch := omega) only [i2l_ti, lN_ti, Int32.lt_iff_toInt_lt, Int32.le_iff_toInt_le, ← Int32.toInt_inj, Int32.toInt_zero, nI_toInt, pk_sub_toInt] at *; omega), rfl⟩ | exact ⟨by rw [tf_t]; unfold mayP mayZ; (simp (disch := omega) only [i2l_ti, lN_ti, Int32.lt_iff_toInt_lt, Int32.le_iff_toInt_le, ← Int32.toInt_inj, Int32.toInt_zero, nI_toInt, pk_sub_toInt] at *; omega), rfl⟩
          · skip
            replace c_55 := tf_nz.mp c_55
            refine sW_go b_Mo_may_58 (st' := ([.int (nI 1)], [some (.int (nI n)), some (.int (nI k)), some (.int (nI s)), some (.int a), some (.int b), some (.int (nI n - nI 1))], M)) (φ := True) rfl trivial ?_
            refine sW_goto 63 d_Mo_may_59 (by decide) ?_
            refine sW_retI d_Mo_may_63 rfl nb_1 ?_
            first | exact ⟨by rw [tf_f]; unfold mayP mayZ; (simp (disch := omega) only [i2l_ti, lN_ti, Int32.lt_iff_toInt_lt, Int32.le_iff_toInt_le, ← Int32.toInt_inj, Int32.toInt_zero, nI_toInt, pk_sub_toInt] at *; omega), rfl⟩ | exact ⟨by rw [tf_t]; unfold mayP mayZ; (simp (disch := omega) only [i2l_ti, lN_ti, Int32.lt_iff_toInt_lt, Int32.le_iff_toInt_le, ← Int32.toInt_inj, Int32.toInt_zero, nI_toInt, pk_sub_toInt] at *; omega), rfl⟩
  · skip
    simp (disch := omega) only [nI_z] at c_1
    refine sW_go b_Mo_may_4 (st' := ([.int (nI 3)], [some (.int (nI n)), some (.int (nI k)), some (.int (nI s)), some (.int a), some (.int b), none], M)) (φ := True) rfl trivial ?_
    refine sW_goto 22 d_Mo_may_5 (by decide) ?_
    refine sW_go b_Mo_may_22 (st' := ([.long (nI 3).toInt64, .long (lN 0), .long a.toInt64], [some (.int (nI n)), some (.int (nI k)), some (.int (nI s)), some (.int a), some (.int b), some (.int (nI 3))], M)) (φ := True) rfl trivial ?_
    refine sW_callS [.long a.toInt64, .long (lN 0), .long (nI 3).toInt64] [] d_Mo_may_30 c_Mo_may_30 ⟨rfl, rfl, Nat.le_of_ble_eq_true rfl, rfl, rfl⟩ (k_in G a.toInt64 (lN 0) (nI 3).toInt64) ?_
    rintro _ M₁ ⟨rfl, h₁⟩
    rw [h₁]
    show sW G m_Mo_may 33 ([.int (tf ((lN 0).toInt ≤ a.toInt64.toInt ∧ a.toInt64.toInt ≤ (nI 3).toInt64.toInt))], [some (.int (nI n)), some (.int (nI k)), some (.int (nI s)), some (.int a), some (.int b), some (.int (nI 3))], M) _
    refine sW_if_eq 62 d_Mo_may_33 (by decide) (fun c_33 => ?_) (fun c_33 => ?_)
    · skip
      replace c_33 := tf_z.mp c_33
      refine sW_go b_Mo_may_62 (st' := ([.int (nI 0)], [some (.int (nI n)), some (.int (nI k)), some (.int (nI s)), some (.int a), some (.int b), some (.int (nI 3))], M)) (φ := True) rfl trivial ?_
      refine sW_retI d_Mo_may_63 rfl nb_0 ?_
      first | exact ⟨by rw [tf_f]; unfold mayP mayZ; (simp (disch := omega) only [i2l_ti, lN_ti, Int32.lt_iff_toInt_lt, Int32.le_iff_toInt_le, ← Int32.toInt_inj, Int32.toInt_zero, nI_toInt, pk_sub_toInt] at *; omega), rfl⟩ | exact ⟨by rw [tf_t]; unfold mayP mayZ; (simp (disch := omega) only [i2l_ti, lN_ti, Int32.lt_iff_toInt_lt, Int32.le_iff_toInt_le, ← Int32.toInt_inj, Int32.toInt_zero, nI_toInt, pk_sub_toInt] at *; omega), rfl⟩
    · skip
      replace c_33 := tf_nz.mp c_33
      refine sW_go b_Mo_may_36 (st' := ([.int (nI s), .long b.toInt64], [some (.int (nI n)), some (.int (nI k)), some (.int (nI s)), some (.int a), some (.int b), some (.int (nI 3))], M)) (φ := True) rfl trivial ?_
      refine sW_if_ne 48 d_Mo_may_40 (by decide) (fun c_40 => ?_) (fun c_40 => ?_)
      · skip
        simp (disch := omega) only [nI_z] at c_40
        refine sW_go b_Mo_may_48 (st' := ([.long (lN 0), .long b.toInt64], [some (.int (nI n)), some (.int (nI k)), some (.int (nI s)), some (.int a), some (.int b), some (.int (nI 3))], M)) (φ := True) rfl trivial ?_
        refine sW_go b_Mo_may_49 (st' := ([.long (nI 3).toInt64, .long (lN 0), .long b.toInt64], [some (.int (nI n)), some (.int (nI k)), some (.int (nI s)), some (.int a), some (.int b), some (.int (nI 3))], M)) (φ := True) rfl trivial ?_
        refine sW_callS [.long b.toInt64, .long (lN 0), .long (nI 3).toInt64] [] d_Mo_may_52 c_Mo_may_52 ⟨rfl, rfl, Nat.le_of_ble_eq_true rfl, rfl, rfl⟩ (k_in G b.toInt64 (lN 0) (nI 3).toInt64) ?_
        rintro _ M₁ ⟨rfl, h₁⟩
        rw [h₁]
        show sW G m_Mo_may 55 ([.int (tf ((lN 0).toInt ≤ b.toInt64.toInt ∧ b.toInt64.toInt ≤ (nI 3).toInt64.toInt))], [some (.int (nI n)), some (.int (nI k)), some (.int (nI s)), some (.int a), some (.int b), some (.int (nI 3))], M) _
        refine sW_if_eq 62 d_Mo_may_55 (by decide) (fun c_55 => ?_) (fun c_55 => ?_)
        · skip
          replace c_55 := tf_z.mp c_55
          refine sW_go b_Mo_may_62 (st' := ([.int (nI 0)], [some (.int (nI n)), some (.int (nI k)), some (.int (nI s)), some (.int a), some (.int b), some (.int (nI 3))], M)) (φ := True) rfl trivial ?_
          refine sW_retI d_Mo_may_63 rfl nb_0 ?_
          first | exact ⟨by rw [tf_f]; unfold mayP mayZ; (simp (disch := omega) only [i2l_ti, lN_ti, Int32.lt_iff_toInt_lt, Int32.le_iff_toInt_le, ← Int32.toInt_inj, Int32.toInt_zero, nI_toInt, pk_sub_toInt] at *; omega), rfl⟩ | exact ⟨by rw [tf_t]; unfold mayP mayZ; (simp (disch := omega) only [i2l_ti, lN_ti, Int32.lt_iff_toInt_lt, Int32.le_iff_toInt_le, ← Int32.toInt_inj, Int32.toInt_zero, nI_toInt, pk_sub_toInt] at *; omega), rfl⟩
        · skip
          replace c_55 := tf_nz.mp c_55
          refine sW_go b_Mo_may_58 (st' := ([.int (nI 1)], [some (.int (nI n)), some (.int (nI k)), some (.int (nI s)), some (.int a), some (.int b), some (.int (nI 3))], M)) (φ := True) rfl trivial ?_
          refine sW_goto 63 d_Mo_may_59 (by decide) ?_
          refine sW_retI d_Mo_may_63 rfl nb_1 ?_
          first | exact ⟨by rw [tf_f]; unfold mayP mayZ; (simp (disch := omega) only [i2l_ti, lN_ti, Int32.lt_iff_toInt_lt, Int32.le_iff_toInt_le, ← Int32.toInt_inj, Int32.toInt_zero, nI_toInt, pk_sub_toInt] at *; omega), rfl⟩ | exact ⟨by rw [tf_t]; unfold mayP mayZ; (simp (disch := omega) only [i2l_ti, lN_ti, Int32.lt_iff_toInt_lt, Int32.le_iff_toInt_le, ← Int32.toInt_inj, Int32.toInt_zero, nI_toInt, pk_sub_toInt] at *; omega), rfl⟩
      · skip
        simp (disch := omega) only [nI_z] at c_40
        refine sW_go b_Mo_may_43 (st' := ([.long a.toInt64, .long b.toInt64], [some (.int (nI n)), some (.int (nI k)), some (.int (nI s)), some (.int a), some (.int b), some (.int (nI 3))], M)) (φ := True) rfl trivial ?_
        refine sW_goto 49 d_Mo_may_45 (by decide) ?_
        refine sW_go b_Mo_may_49 (st' := ([.long (nI 3).toInt64, .long a.toInt64, .long b.toInt64], [some (.int (nI n)), some (.int (nI k)), some (.int (nI s)), some (.int a), some (.int b), some (.int (nI 3))], M)) (φ := True) rfl trivial ?_
        refine sW_callS [.long b.toInt64, .long a.toInt64, .long (nI 3).toInt64] [] d_Mo_may_52 c_Mo_may_52 ⟨rfl, rfl, Nat.le_of_ble_eq_true rfl, rfl, rfl⟩ (k_in G b.toInt64 a.toInt64 (nI 3).toInt64) ?_
        rintro _ M₁ ⟨rfl, h₁⟩
        rw [h₁]
        show sW G m_Mo_may 55 ([.int (tf (a.toInt64.toInt ≤ b.toInt64.toInt ∧ b.toInt64.toInt ≤ (nI 3).toInt64.toInt))], [some (.int (nI n)), some (.int (nI k)), some (.int (nI s)), some (.int a), some (.int b), some (.int (nI 3))], M) _
        refine sW_if_eq 62 d_Mo_may_55 (by decide) (fun c_55 => ?_) (fun c_55 => ?_)
        · skip
          replace c_55 := tf_z.mp c_55
          refine sW_go b_Mo_may_62 (st' := ([.int (nI 0)], [some (.int (nI n)), some (.int (nI k)), some (.int (nI s)), some (.int a), some (.int b), some (.int (nI 3))], M)) (φ := True) rfl trivial ?_
          refine sW_retI d_Mo_may_63 rfl nb_0 ?_
          first | exact ⟨by rw [tf_f]; unfold mayP mayZ; (simp (disch := omega) only [i2l_ti, lN_ti, Int32.lt_iff_toInt_lt, Int32.le_iff_toInt_le, ← Int32.toInt_inj, Int32.toInt_zero, nI_toInt, pk_sub_toInt] at *; omega), rfl⟩ | exact ⟨by rw [tf_t]; unfold mayP mayZ; (simp (disch := omega) only [i2l_ti, lN_ti, Int32.lt_iff_toInt_lt, Int32.le_iff_toInt_le, ← Int32.toInt_inj, Int32.toInt_zero, nI_toInt, pk_sub_toInt] at *; omega), rfl⟩
        · skip
          replace c_55 := tf_nz.mp c_55
          refine sW_go b_Mo_may_58 (st' := ([.int (nI 1)], [some (.int (nI n)), some (.int (nI k)), some (.int (nI s)), some (.int a), some (.int b), some (.int (nI 3))], M)) (φ := True) rfl trivial ?_
          refine sW_goto 63 d_Mo_may_59 (by decide) ?_
          refine sW_retI d_Mo_may_63 rfl nb_1 ?_
          first | exact ⟨by rw [tf_f]; unfold mayP mayZ; (simp (disch := omega) only [i2l_ti, lN_ti, Int32.lt_iff_toInt_lt, Int32.le_iff_toInt_le, ← Int32.toInt_inj, Int32.toInt_zero, nI_toInt, pk_sub_toInt] at *; omega), rfl⟩ | exact ⟨by rw [tf_t]; unfold mayP mayZ; (simp (disch := omega) only [i2l_ti, lN_ti, Int32.lt_iff_toInt_lt, Int32.le_iff_toInt_le, ← Int32.toInt_inj, Int32.toInt_zero, nI_toInt, pk_sub_toInt] at *; omega), rfl⟩
/-! ===== bits, one by one ===== -/
noncomputable def mkN (P : Nat → Prop) (n : Nat) : Nat := bsum (fun k => cif (P k) 1 0) n
theorem mkN_1 {P : Nat → Prop} {k : Nat} (h : P k) : mkN P k ||| (1 * 2 ^ k) = mkN P (k + 1) := by
  show _ = mkN P k ||| cif (P k) 1 0 * 2 ^ k
  rw [cif_t h]
theorem mkN_0 {P : Nat → Prop} {k : Nat} (h : ¬ P k) : mkN P k ||| 0 = mkN P (k + 1) := by
  show _ = mkN P k ||| cif (P k) 1 0 * 2 ^ k
  rw [cif_f h, Nat.zero_mul]
theorem mkN_lt (P : Nat → Prop) {n : Nat} (hn : n ≤ 8) : mkN P n < 256 := bsum_lt8 (fun k => cif_le (P k)) hn
theorem mkN_bt (P : Nat → Prop) (n k : Nat) : bt (mkN P n) k = 1 ↔ k < n ∧ P k := by
  unfold mkN
  rw [bsum_bt (fun k => cif_le (P k)), cif_1]
theorem mkN_8 {P : Nat → Prop} {n : Nat} (hn : n ≤ 8) : mkN P n = mk8 (fun k => k < n ∧ P k) := mk8_of (mkN_lt P hn) (fun k _ => mkN_bt P n k)
theorem sh_1 {k : Nat} (hk : k < 8) : nI 1 <<< (nI k &&& 31) = nI (1 * 2 ^ k) := sh_l (Nat.le_refl 1) hk
theorem nI_nn {k : Nat} (hk : k < 2 ^ 31) : ¬ nI k < 0 := fun q => by
  rw [Int32.lt_iff_toInt_lt, nI_toInt hk, Int32.toInt_zero] at q
  omega
theorem jb_1 {s a b : Nat} (ha : a ≤ 1) (hb : b ≤ 1) (h : (s = 3 ∧ (a = 1 ∨ b = 1)) ∨ (s = 4 ∧ a = 1 ∧ b = 1) ∨ (s = 5 ∧ a = 1 ∧ ¬ b = 1)) : jb s a b = 1 := by
  unfold jb
  rcases (by omega : a = 0 ∨ a = 1) with rfl | rfl <;> rcases (by omega : b = 0 ∨ b = 1) with rfl | rfl <;> rcases h with ⟨rfl, h⟩ | ⟨rfl, h⟩ | ⟨rfl, h⟩ <;> first | rfl | (exfalso; omega)
theorem jb_0 {s a b : Nat} (ha : a ≤ 1) (hb : b ≤ 1) (h : ¬ ((s = 3 ∧ (a = 1 ∨ b = 1)) ∨ (s = 4 ∧ a = 1 ∧ b = 1) ∨ (s = 5 ∧ a = 1 ∧ ¬ b = 1))) : jb s a b = 0 := by
  unfold jb
  rcases (by omega : a = 0 ∨ a = 1) with rfl | rfl <;> rcases (by omega : b = 0 ∨ b = 1) with rfl | rfl <;> (repeat' split) <;> first | rfl | (exfalso; omega)
theorem k_mcellOf (G : mx_G) {M : mx_M} {a : Nat} {hs : Hs} (hl : mx_len LAY false a = 26) (h : RowAt M a 0 hs) (hw : WHs hs) {told : Nat} (ht : told < 256) : sOk G m_Mo_cellOf [.ref a, .int (nI told)] M (fun r M' => r = some (.int (nI (cellOf hs told))) ∧ M' = M) := by
  have e0 := h.n
  have w1 := hw.1.1
  refine sOk_of ⟨by decide +kernel, by decide +kernel, Nat.le_of_ble_eq_true rfl⟩ ?_
  show sW G m_Mo_cellOf 0 ([], [some (.ref a), some (.int (nI told)), none, none, none, none, none, none], M) _
  refine sW_go b_Mo_cellOf_0 (st' := ([], [some (.ref a), some (.int (nI told)), some (.int (nI told)), some (.int (nI 0)), none, none, none, none], M)) (φ := True) rfl trivial ?_
  refine mx_ind (α := Nat × Nat) (fun q => hs.1 - q.1) (fun q => q.1 ≤ hs.1 → q.2 = cellN hs told q.1 → sW G m_Mo_cellOf 4 ([], [some (.ref a), some (.int (nI told)), some (.int (nI q.2)), some (.int (nI q.1)), none, none, none, none], M) _) ?_ (0, told) (Nat.zero_le _) rfl
  rintro ⟨k, cell⟩ ih hk hc
  dsimp only at ih hk hc ⊢
  have hlt : cell < 256 := by rw [hc]; exact cellN_lt (n := 8) ht k (by omega)
  by_cases hkn : k < hs.1
  · obtain ⟨y1, y2, y3⟩ := hw.le k
    have b1 := bt_le cell (Af hs k)
    have b2 := bt_le cell (Bf hs k)
    have k8 : k < 8 := by omega
    have q1 : nI 1 <<< (nI k &&& 31) = nI (1 * 2 ^ k) := sh_1 k8
    have h1 : jb (Sf hs k) (bt cell (Af hs k)) (bt cell (Bf hs k)) = 1 → cell ||| (1 * 2 ^ k) = cellN hs told (k + 1) := fun hx => by
      subst hc
      show _ = cellN hs told k ||| jb _ _ _ * 2 ^ k
      rw [hx]
    have h0 : jb (Sf hs k) (bt cell (Af hs k)) (bt cell (Bf hs k)) = 0 → cell ||| 0 = cellN hs told (k + 1) := fun hx => by
      subst hc
      show _ = cellN hs told k ||| jb _ _ _ * 2 ^ k
      rw [hx, Nat.zero_mul]
    refine sW_go b_Mo_cellOf_4 (st' := ([.int (M a (nI 0).toNatClampNeg), .int (nI k)], [some (.ref a), some (.int (nI told)), some (.int (nI cell)), some (.int (nI k)), none, none, none, none], M)) (φ := vp_in (nI 0) (mx_len LAY false a) ∧ True) rfl ⟨(by simp (disch := omega) only [hl]; exact vp_in_nI (by omega) (by decide)), trivial⟩ ?_
    refine sW_eq (st' := ([.int (nI hs.1), .int (nI k)], [some (.ref a), some (.int (nI told)), some (.int (nI cell)), some (.int (nI k)), none, none, none, none], M)) (by simp (disch := omega) only [e0, nI_clamp]) ?_
    refine sW_ic_ge 119 d_Mo_cellOf_8 (by decide) (fun c_8 => ?_) (fun c_8 => ?_)
    · skip
      simp (disch := omega) only [nI_leI] at c_8
      omega
    · skip
      simp (disch := omega) only [nI_leI] at c_8
      refine sW_go b_Mo_cellOf_11 (st' := ([.int (nI 1), .int (nI k), .ref a, .int (nI cell)], [some (.ref a), some (.int (nI told)), some (.int (nI cell)), some (.int (nI k)), none, none, none, none], M)) (φ := True) rfl trivial ?_
      refine sW_callS [.ref a, .int (nI k), .int (nI 1)] [.int (nI cell)] d_Mo_cellOf_15 c_Mo_cellOf_15 ⟨rfl, rfl, Nat.le_of_ble_eq_true rfl, rfl, rfl⟩ (k_ofA G hl h k8) ?_
      rintro _ M₁ ⟨rfl, h₁⟩
      rw [h₁]
      show sW G m_Mo_cellOf 18 ([.int (nI (Af hs k)), .int (nI cell)], [some (.ref a), some (.int (nI told)), some (.int (nI cell)), some (.int (nI k)), none, none, none, none], M) _
      refine sW_callS [.int (nI cell), .int (nI (Af hs k))] [] d_Mo_cellOf_18 c_Mo_cellOf_18 ⟨rfl, rfl, Nat.le_of_ble_eq_true rfl, rfl, rfl⟩ (k_has G (by omega) (by omega)) ?_
      rintro _ M₁ ⟨rfl, h₁⟩
      rw [h₁]
      show sW G m_Mo_cellOf 21 ([.int (tf (bt cell (Af hs k) = 1))], [some (.ref a), some (.int (nI told)), some (.int (nI cell)), some (.int (nI k)), none, none, none, none], M) _
      refine sW_go b_Mo_cellOf_21 (st' := ([.int (nI 2), .int (nI k), .ref a, .int (nI cell)], [some (.ref a), some (.int (nI told)), some (.int (nI cell)), some (.int (nI k)), some (.int (tf (bt cell (Af hs k) = 1))), none, none, none], M)) (φ := True) rfl trivial ?_
      refine sW_callS [.ref a, .int (nI k), .int (nI 2)] [.int (nI cell)] d_Mo_cellOf_27 c_Mo_cellOf_27 ⟨rfl, rfl, Nat.le_of_ble_eq_true rfl, rfl, rfl⟩ (k_ofB G hl h k8) ?_
      rintro _ M₁ ⟨rfl, h₁⟩
      rw [h₁]
      show sW G m_Mo_cellOf 30 ([.int (nI (Bf hs k)), .int (nI cell)], [some (.ref a), some (.int (nI told)), some (.int (nI cell)), some (.int (nI k)), some (.int (tf (bt cell (Af hs k) = 1))), none, none, none], M) _
      refine sW_callS [.int (nI cell), .int (nI (Bf hs k))] [] d_Mo_cellOf_30 c_Mo_cellOf_30 ⟨rfl, rfl, Nat.le_of_ble_eq_true rfl, rfl, rfl⟩ (k_has G (by omega) (by omega)) ?_
      rintro _ M₁ ⟨rfl, h₁⟩
      rw [h₁]
      show sW G m_Mo_cellOf 33 ([.int (tf (bt cell (Bf hs k) = 1))], [some (.ref a), some (.int (nI told)), some (.int (nI cell)), some (.int (nI k)), some (.int (tf (bt cell (Af hs k) = 1))), none, none, none], M) _
      refine sW_go b_Mo_cellOf_33 (st' := ([.int (nI 0), .int (nI k), .ref a], [some (.ref a), some (.int (nI told)), some (.int (nI cell)), some (.int (nI k)), some (.int (tf (bt cell (Af hs k) = 1))), some (.int (tf (bt cell (Bf hs k) = 1))), none, none], M)) (φ := True) rfl trivial ?_
      refine sW_callS [.ref a, .int (nI k), .int (nI 0)] [] d_Mo_cellOf_38 c_Mo_cellOf_38 ⟨rfl, rfl, Nat.le_of_ble_eq_true rfl, rfl, rfl⟩ (k_ofS G hl h k8) ?_
      rintro _ M₁ ⟨rfl, h₁⟩
      rw [h₁]
      show sW G m_Mo_cellOf 41 ([.int (nI (Sf hs k))], [some (.ref a), some (.int (nI told)), some (.int (nI cell)), some (.int (nI k)), some (.int (tf (bt cell (Af hs k) = 1))), some (.int (tf (bt cell (Bf hs k) = 1))), none, none], M) _
      refine sW_go b_Mo_cellOf_41 (st' := ([.int (nI 3), .int (nI (Sf hs k))], [some (.ref a), some (.int (nI told)), some (.int (nI cell)), some (.int (nI k)), some (.int (tf (bt cell (Af hs k) = 1))), some (.int (tf (bt cell (Bf hs k) = 1))), some (.int (nI (Sf hs k))), none], M)) (φ := True) rfl trivial ?_
      refine sW_ic_ne 59 d_Mo_cellOf_46 (by decide) (fun c_46 => ?_) (fun c_46 => ?_)
      · skip
        simp (disch := omega) only [nI_eq] at c_46
        refine sW_go b_Mo_cellOf_59 (st' := ([.int (nI 4), .int (nI (Sf hs k))], [some (.ref a), some (.int (nI told)), some (.int (nI cell)), some (.int (nI k)), some (.int (tf (bt cell (Af hs k) = 1))), some (.int (tf (bt cell (Bf hs k) = 1))), some (.int (nI (Sf hs k))), none], M)) (φ := True) rfl trivial ?_
        refine sW_ic_ne 75 d_Mo_cellOf_62 (by decide) (fun c_62 => ?_) (fun c_62 => ?_)
        · skip
          simp (disch := omega) only [nI_eq] at c_62
          refine sW_go b_Mo_cellOf_75 (st' := ([.int (nI 5), .int (nI (Sf hs k))], [some (.ref a), some (.int (nI told)), some (.int (nI cell)), some (.int (nI k)), some (.int (tf (bt cell (Af hs k) = 1))), some (.int (tf (bt cell (Bf hs k) = 1))), some (.int (nI (Sf hs k))), none], M)) (φ := True) rfl trivial ?_
          refine sW_ic_ne 95 d_Mo_cellOf_78 (by decide) (fun c_78 => ?_) (fun c_78 => ?_)
          · skip
            simp (disch := omega) only [nI_eq] at c_78
            refine sW_go b_Mo_cellOf_95 (st' := ([.int (nI 0)], [some (.ref a), some (.int (nI told)), some (.int (nI cell)), some (.int (nI k)), some (.int (tf (bt cell (Af hs k) = 1))), some (.int (tf (bt cell (Bf hs k) = 1))), some (.int (nI (Sf hs k))), none], M)) (φ := True) rfl trivial ?_
            refine sW_go b_Mo_cellOf_96 (st' := ([.int (nI 0), .int (nI cell)], [some (.ref a), some (.int (nI told)), some (.int (nI cell)), some (.int (nI k)), some (.int (tf (bt cell (Af hs k) = 1))), some (.int (tf (bt cell (Bf hs k) = 1))), some (.int (nI (Sf hs k))), some (.int (nI 0))], M)) (φ := True) rfl trivial ?_
            refine sW_if_eq 110 d_Mo_cellOf_101 (by decide) (fun c_101 => ?_) (fun c_101 => ?_)
            · skip
              simp (disch := omega) only [nI_z] at c_101
              refine sW_go b_Mo_cellOf_110 (st' := ([.int (nI 0), .int (nI cell)], [some (.ref a), some (.int (nI told)), some (.int (nI cell)), some (.int (nI k)), some (.int (tf (bt cell (Af hs k) = 1))), some (.int (tf (bt cell (Bf hs k) = 1))), some (.int (nI (Sf hs k))), some (.int (nI 0))], M)) (φ := True) rfl trivial ?_
              refine sW_go b_Mo_cellOf_111 (st' := ([], [some (.ref a), some (.int (nI told)), some (.int (nI cell ||| nI 0)), some (.int (nI k + nI 1)), some (.int (tf (bt cell (Af hs k) = 1))), some (.int (tf (bt cell (Bf hs k) = 1))), some (.int (nI (Sf hs k))), some (.int (nI 0))], M)) (φ := True) rfl trivial ?_
              refine sW_eq (st' := ([], [some (.ref a), some (.int (nI told)), some (.int (nI (cell ||| 0))), some (.int (nI (k + 1))), some (.int (tf (bt cell (Af hs k) = 1))), some (.int (tf (bt cell (Bf hs k) = 1))), some (.int (nI (Sf hs k))), some (.int (nI 0))], M)) (by simp (disch := omega) only [nI_add, nx_or]) ?_
              refine sW_goto 4 d_Mo_cellOf_116 (by decide) ?_
              refine sW_fg [false, false, false, false, true, true, true, true] ?_
              show sW G m_Mo_cellOf 4 ([], [some (.ref a), some (.int (nI told)), some (.int (nI (cell ||| 0))), some (.int (nI (k + 1))), none, none, none, none], M) _
              first | exact ih (k + 1, _) (by dsimp only; omega) (by dsimp only; omega) (h1 (jb_1 b1 b2 (by omega))) | exact ih (k + 1, _) (by dsimp only; omega) (by dsimp only; omega) (h0 (jb_0 b1 b2 (by omega)))
            · skip
              exact absurd (by decide +kernel) c_101
          · skip
            simp (disch := omega) only [nI_eq] at c_78
            refine sW_go b_Mo_cellOf_81 (st' := ([.int (tf (bt cell (Af hs k) = 1))], [some (.ref a), some (.int (nI told)), some (.int (nI cell)), some (.int (nI k)), some (.int (tf (bt cell (Af hs k) = 1))), some (.int (tf (bt cell (Bf hs k) = 1))), some (.int (nI (Sf hs k))), none], M)) (φ := True) rfl trivial ?_
            refine sW_if_eq 95 d_Mo_cellOf_83 (by decide) (fun c_83 => ?_) (fun c_83 => ?_)
            · skip
              replace c_83 := tf_z.mp c_83
              refine sW_go b_Mo_cellOf_95 (st' := ([.int (nI 0)], [some (.ref a), some (.int (nI told)), some (.int (nI cell)), some (.int (nI k)), some (.int (tf (bt cell (Af hs k) = 1))), some (.int (tf (bt cell (Bf hs k) = 1))), some (.int (nI (Sf hs k))), none], M)) (φ := True) rfl trivial ?_
              refine sW_go b_Mo_cellOf_96 (st' := ([.int (nI 0), .int (nI cell)], [some (.ref a), some (.int (nI told)), some (.int (nI cell)), some (.int (nI k)), some (.int (tf (bt cell (Af hs k) = 1))), some (.int (tf (bt cell (Bf hs k) = 1))), some (.int (nI (Sf hs k))), some (.int (nI 0))], M)) (φ := True) rfl trivial ?_
              refine sW_if_eq 110 d_Mo_cellOf_101 (by decide) (fun c_101 => ?_) (fun c_101 => ?_)
              · skip
                simp (disch := omega) only [nI_z] at c_101
                refine sW_go b_Mo_cellOf_110 (st' := ([.int (nI 0), .int (nI cell)], [some (.ref a), some (.int (nI told)), some (.int (nI cell)), some (.int (nI k)), some (.int (tf (bt cell (Af hs k) = 1))), some (.int (tf (bt cell (Bf hs k) = 1))), some (.int (nI (Sf hs k))), some (.int (nI 0))], M)) (φ := True) rfl trivial ?_
                refine sW_go b_Mo_cellOf_111 (st' := ([], [some (.ref a), some (.int (nI told)), some (.int (nI cell ||| nI 0)), some (.int (nI k + nI 1)), some (.int (tf (bt cell (Af hs k) = 1))), some (.int (tf (bt cell (Bf hs k) = 1))), some (.int (nI (Sf hs k))), some (.int (nI 0))], M)) (φ := True) rfl trivial ?_
                refine sW_eq (st' := ([], [some (.ref a), some (.int (nI told)), some (.int (nI (cell ||| 0))), some (.int (nI (k + 1))), some (.int (tf (bt cell (Af hs k) = 1))), some (.int (tf (bt cell (Bf hs k) = 1))), some (.int (nI (Sf hs k))), some (.int (nI 0))], M)) (by simp (disch := omega) only [nI_add, nx_or]) ?_
                refine sW_goto 4 d_Mo_cellOf_116 (by decide) ?_
                refine sW_fg [false, false, false, false, true, true, true, true] ?_
                show sW G m_Mo_cellOf 4 ([], [some (.ref a), some (.int (nI told)), some (.int (nI (cell ||| 0))), some (.int (nI (k + 1))), none, none, none, none], M) _
                first | exact ih (k + 1, _) (by dsimp only; omega) (by dsimp only; omega) (h1 (jb_1 b1 b2 (by omega))) | exact ih (k + 1, _) (by dsimp only; omega) (by dsimp only; omega) (h0 (jb_0 b1 b2 (by omega)))
              · skip
                exact absurd (by decide +kernel) c_101
            · skip
              replace c_83 := tf_nz.mp c_83
              refine sW_go b_Mo_cellOf_86 (st' := ([.int (tf (bt cell (Bf hs k) = 1))], [some (.ref a), some (.int (nI told)), some (.int (nI cell)), some (.int (nI k)), some (.int (tf (bt cell (Af hs k) = 1))), some (.int (tf (bt cell (Bf hs k) = 1))), some (.int (nI (Sf hs k))), none], M)) (φ := True) rfl trivial ?_
              refine sW_if_ne 95 d_Mo_cellOf_88 (by decide) (fun c_88 => ?_) (fun c_88 => ?_)
              · skip
                replace c_88 := tf_nz.mp c_88
                refine sW_go b_Mo_cellOf_95 (st' := ([.int (nI 0)], [some (.ref a), some (.int (nI told)), some (.int (nI cell)), some (.int (nI k)), some (.int (tf (bt cell (Af hs k) = 1))), some (.int (tf (bt cell (Bf hs k) = 1))), some (.int (nI (Sf hs k))), none], M)) (φ := True) rfl trivial ?_
                refine sW_go b_Mo_cellOf_96 (st' := ([.int (nI 0), .int (nI cell)], [some (.ref a), some (.int (nI told)), some (.int (nI cell)), some (.int (nI k)), some (.int (tf (bt cell (Af hs k) = 1))), some (.int (tf (bt cell (Bf hs k) = 1))), some (.int (nI (Sf hs k))), some (.int (nI 0))], M)) (φ := True) rfl trivial ?_
                refine sW_if_eq 110 d_Mo_cellOf_101 (by decide) (fun c_101 => ?_) (fun c_101 => ?_)
                · skip
                  simp (disch := omega) only [nI_z] at c_101
                  refine sW_go b_Mo_cellOf_110 (st' := ([.int (nI 0), .int (nI cell)], [some (.ref a), some (.int (nI told)), some (.int (nI cell)), some (.int (nI k)), some (.int (tf (bt cell (Af hs k) = 1))), some (.int (tf (bt cell (Bf hs k) = 1))), some (.int (nI (Sf hs k))), some (.int (nI 0))], M)) (φ := True) rfl trivial ?_
                  refine sW_go b_Mo_cellOf_111 (st' := ([], [some (.ref a), some (.int (nI told)), some (.int (nI cell ||| nI 0)), some (.int (nI k + nI 1)), some (.int (tf (bt cell (Af hs k) = 1))), some (.int (tf (bt cell (Bf hs k) = 1))), some (.int (nI (Sf hs k))), some (.int (nI 0))], M)) (φ := True) rfl trivial ?_
                  refine sW_eq (st' := ([], [some (.ref a), some (.int (nI told)), some (.int (nI (cell ||| 0))), some (.int (nI (k + 1))), some (.int (tf (bt cell (Af hs k) = 1))), some (.int (tf (bt cell (Bf hs k) = 1))), some (.int (nI (Sf hs k))), some (.int (nI 0))], M)) (by simp (disch := omega) only [nI_add, nx_or]) ?_
                  refine sW_goto 4 d_Mo_cellOf_116 (by decide) ?_
                  refine sW_fg [false, false, false, false, true, true, true, true] ?_
                  show sW G m_Mo_cellOf 4 ([], [some (.ref a), some (.int (nI told)), some (.int (nI (cell ||| 0))), some (.int (nI (k + 1))), none, none, none, none], M) _
                  first | exact ih (k + 1, _) (by dsimp only; omega) (by dsimp only; omega) (h1 (jb_1 b1 b2 (by omega))) | exact ih (k + 1, _) (by dsimp only; omega) (by dsimp only; omega) (h0 (jb_0 b1 b2 (by omega)))
                · skip
                  exact absurd (by decide +kernel) c_101
              · skip
                replace c_88 := tf_z.mp c_88
                refine sW_go b_Mo_cellOf_91 (st' := ([.int (nI 1)], [some (.ref a), some (.int (nI told)), some (.int (nI cell)), some (.int (nI k)), some (.int (tf (bt cell (Af hs k) = 1))), some (.int (tf (bt cell (Bf hs k) = 1))), some (.int (nI (Sf hs k))), none], M)) (φ := True) rfl trivial ?_
                refine sW_goto 96 d_Mo_cellOf_92 (by decide) ?_
                refine sW_go b_Mo_cellOf_96 (st' := ([.int (nI 1), .int (nI cell)], [some (.ref a), some (.int (nI told)), some (.int (nI cell)), some (.int (nI k)), some (.int (tf (bt cell (Af hs k) = 1))), some (.int (tf (bt cell (Bf hs k) = 1))), some (.int (nI (Sf hs k))), some (.int (nI 1))], M)) (φ := True) rfl trivial ?_
                refine sW_if_eq 110 d_Mo_cellOf_101 (by decide) (fun c_101 => ?_) (fun c_101 => ?_)
                · skip
                  exact absurd c_101 (by decide +kernel)
                · skip
                  simp (disch := omega) only [nI_z] at c_101
                  refine sW_go b_Mo_cellOf_104 (st' := ([.int (nI 1 <<< (nI k &&& 31)), .int (nI cell)], [some (.ref a), some (.int (nI told)), some (.int (nI cell)), some (.int (nI k)), some (.int (tf (bt cell (Af hs k) = 1))), some (.int (tf (bt cell (Bf hs k) = 1))), some (.int (nI (Sf hs k))), some (.int (nI 1))], M)) (φ := True) rfl trivial ?_
                  refine sW_eq (st' := ([.int (nI (1 * 2 ^ k)), .int (nI cell)], [some (.ref a), some (.int (nI told)), some (.int (nI cell)), some (.int (nI k)), some (.int (tf (bt cell (Af hs k) = 1))), some (.int (tf (bt cell (Bf hs k) = 1))), some (.int (nI (Sf hs k))), some (.int (nI 1))], M)) (by simp (disch := omega) only [q1]) ?_
                  refine sW_goto 111 d_Mo_cellOf_107 (by decide) ?_
                  refine sW_go b_Mo_cellOf_111 (st' := ([], [some (.ref a), some (.int (nI told)), some (.int (nI cell ||| nI (1 * 2 ^ k))), some (.int (nI k + nI 1)), some (.int (tf (bt cell (Af hs k) = 1))), some (.int (tf (bt cell (Bf hs k) = 1))), some (.int (nI (Sf hs k))), some (.int (nI 1))], M)) (φ := True) rfl trivial ?_
                  refine sW_eq (st' := ([], [some (.ref a), some (.int (nI told)), some (.int (nI (cell ||| (1 * 2 ^ k)))), some (.int (nI (k + 1))), some (.int (tf (bt cell (Af hs k) = 1))), some (.int (tf (bt cell (Bf hs k) = 1))), some (.int (nI (Sf hs k))), some (.int (nI 1))], M)) (by simp (disch := omega) only [nI_add, nx_or]) ?_
                  refine sW_goto 4 d_Mo_cellOf_116 (by decide) ?_
                  refine sW_fg [false, false, false, false, true, true, true, true] ?_
                  show sW G m_Mo_cellOf 4 ([], [some (.ref a), some (.int (nI told)), some (.int (nI (cell ||| (1 * 2 ^ k)))), some (.int (nI (k + 1))), none, none, none, none], M) _
                  first | exact ih (k + 1, _) (by dsimp only; omega) (by dsimp only; omega) (h1 (jb_1 b1 b2 (by omega))) | exact ih (k + 1, _) (by dsimp only; omega) (by dsimp only; omega) (h0 (jb_0 b1 b2 (by omega)))
        · skip
          simp (disch := omega) only [nI_eq] at c_62
          refine sW_go b_Mo_cellOf_65 (st' := ([.int (tf (bt cell (Af hs k) = 1))], [some (.ref a), some (.int (nI told)), some (.int (nI cell)), some (.int (nI k)), some (.int (tf (bt cell (Af hs k) = 1))), some (.int (tf (bt cell (Bf hs k) = 1))), some (.int (nI (Sf hs k))), none], M)) (φ := True) rfl trivial ?_
          refine sW_if_eq 75 d_Mo_cellOf_67 (by decide) (fun c_67 => ?_) (fun c_67 => ?_)
          · skip
            replace c_67 := tf_z.mp c_67
            refine sW_go b_Mo_cellOf_75 (st' := ([.int (nI 5), .int (nI (Sf hs k))], [some (.ref a), some (.int (nI told)), some (.int (nI cell)), some (.int (nI k)), some (.int (tf (bt cell (Af hs k) = 1))), some (.int (tf (bt cell (Bf hs k) = 1))), some (.int (nI (Sf hs k))), none], M)) (φ := True) rfl trivial ?_
            refine sW_ic_ne 95 d_Mo_cellOf_78 (by decide) (fun c_78 => ?_) (fun c_78 => ?_)
            · skip
              simp (disch := omega) only [nI_eq] at c_78
              refine sW_go b_Mo_cellOf_95 (st' := ([.int (nI 0)], [some (.ref a), some (.int (nI told)), some (.int (nI cell)), some (.int (nI k)), some (.int (tf (bt cell (Af hs k) = 1))), some (.int (tf (bt cell (Bf hs k) = 1))), some (.int (nI (Sf hs k))), none], M)) (φ := True) rfl trivial ?_
              refine sW_go b_Mo_cellOf_96 (st' := ([.int (nI 0), .int (nI cell)], [some (.ref a), some (.int (nI told)), some (.int (nI cell)), some (.int (nI k)), some (.int (tf (bt cell (Af hs k) = 1))), some (.int (tf (bt cell (Bf hs k) = 1))), some (.int (nI (Sf hs k))), some (.int (nI 0))], M)) (φ := True) rfl trivial ?_
              refine sW_if_eq 110 d_Mo_cellOf_101 (by decide) (fun c_101 => ?_) (fun c_101 => ?_)
              · skip
                simp (disch := omega) only [nI_z] at c_101
                refine sW_go b_Mo_cellOf_110 (st' := ([.int (nI 0), .int (nI cell)], [some (.ref a), some (.int (nI told)), some (.int (nI cell)), some (.int (nI k)), some (.int (tf (bt cell (Af hs k) = 1))), some (.int (tf (bt cell (Bf hs k) = 1))), some (.int (nI (Sf hs k))), some (.int (nI 0))], M)) (φ := True) rfl trivial ?_
                refine sW_go b_Mo_cellOf_111 (st' := ([], [some (.ref a), some (.int (nI told)), some (.int (nI cell ||| nI 0)), some (.int (nI k + nI 1)), some (.int (tf (bt cell (Af hs k) = 1))), some (.int (tf (bt cell (Bf hs k) = 1))), some (.int (nI (Sf hs k))), some (.int (nI 0))], M)) (φ := True) rfl trivial ?_
                refine sW_eq (st' := ([], [some (.ref a), some (.int (nI told)), some (.int (nI (cell ||| 0))), some (.int (nI (k + 1))), some (.int (tf (bt cell (Af hs k) = 1))), some (.int (tf (bt cell (Bf hs k) = 1))), some (.int (nI (Sf hs k))), some (.int (nI 0))], M)) (by simp (disch := omega) only [nI_add, nx_or]) ?_
                refine sW_goto 4 d_Mo_cellOf_116 (by decide) ?_
                refine sW_fg [false, false, false, false, true, true, true, true] ?_
                show sW G m_Mo_cellOf 4 ([], [some (.ref a), some (.int (nI told)), some (.int (nI (cell ||| 0))), some (.int (nI (k + 1))), none, none, none, none], M) _
                first | exact ih (k + 1, _) (by dsimp only; omega) (by dsimp only; omega) (h1 (jb_1 b1 b2 (by omega))) | exact ih (k + 1, _) (by dsimp only; omega) (by dsimp only; omega) (h0 (jb_0 b1 b2 (by omega)))
              · skip
                exact absurd (by decide +kernel) c_101
            · skip
              simp (disch := omega) only [nI_eq] at c_78
              refine sW_go b_Mo_cellOf_81 (st' := ([.int (tf (bt cell (Af hs k) = 1))], [some (.ref a), some (.int (nI told)), some (.int (nI cell)), some (.int (nI k)), some (.int (tf (bt cell (Af hs k) = 1))), some (.int (tf (bt cell (Bf hs k) = 1))), some (.int (nI (Sf hs k))), none], M)) (φ := True) rfl trivial ?_
              refine sW_if_eq 95 d_Mo_cellOf_83 (by decide) (fun c_83 => ?_) (fun c_83 => ?_)
              · skip
                replace c_83 := tf_z.mp c_83
                refine sW_go b_Mo_cellOf_95 (st' := ([.int (nI 0)], [some (.ref a), some (.int (nI told)), some (.int (nI cell)), some (.int (nI k)), some (.int (tf (bt cell (Af hs k) = 1))), some (.int (tf (bt cell (Bf hs k) = 1))), some (.int (nI (Sf hs k))), none], M)) (φ := True) rfl trivial ?_
                refine sW_go b_Mo_cellOf_96 (st' := ([.int (nI 0), .int (nI cell)], [some (.ref a), some (.int (nI told)), some (.int (nI cell)), some (.int (nI k)), some (.int (tf (bt cell (Af hs k) = 1))), some (.int (tf (bt cell (Bf hs k) = 1))), some (.int (nI (Sf hs k))), some (.int (nI 0))], M)) (φ := True) rfl trivial ?_
                refine sW_if_eq 110 d_Mo_cellOf_101 (by decide) (fun c_101 => ?_) (fun c_101 => ?_)
                · skip
                  simp (disch := omega) only [nI_z] at c_101
                  refine sW_go b_Mo_cellOf_110 (st' := ([.int (nI 0), .int (nI cell)], [some (.ref a), some (.int (nI told)), some (.int (nI cell)), some (.int (nI k)), some (.int (tf (bt cell (Af hs k) = 1))), some (.int (tf (bt cell (Bf hs k) = 1))), some (.int (nI (Sf hs k))), some (.int (nI 0))], M)) (φ := True) rfl trivial ?_
                  refine sW_go b_Mo_cellOf_111 (st' := ([], [some (.ref a), some (.int (nI told)), some (.int (nI cell ||| nI 0)), some (.int (nI k + nI 1)), some (.int (tf (bt cell (Af hs k) = 1))), some (.int (tf (bt cell (Bf hs k) = 1))), some (.int (nI (Sf hs k))), some (.int (nI 0))], M)) (φ := True) rfl trivial ?_
                  refine sW_eq (st' := ([], [some (.ref a), some (.int (nI told)), some (.int (nI (cell ||| 0))), some (.int (nI (k + 1))), some (.int (tf (bt cell (Af hs k) = 1))), some (.int (tf (bt cell (Bf hs k) = 1))), some (.int (nI (Sf hs k))), some (.int (nI 0))], M)) (by simp (disch := omega) only [nI_add, nx_or]) ?_
                  refine sW_goto 4 d_Mo_cellOf_116 (by decide) ?_
                  refine sW_fg [false, false, false, false, true, true, true, true] ?_
                  show sW G m_Mo_cellOf 4 ([], [some (.ref a), some (.int (nI told)), some (.int (nI (cell ||| 0))), some (.int (nI (k + 1))), none, none, none, none], M) _
                  first | exact ih (k + 1, _) (by dsimp only; omega) (by dsimp only; omega) (h1 (jb_1 b1 b2 (by omega))) | exact ih (k + 1, _) (by dsimp only; omega) (by dsimp only; omega) (h0 (jb_0 b1 b2 (by omega)))
                · skip
                  exact absurd (by decide +kernel) c_101
              · skip
                replace c_83 := tf_nz.mp c_83
                refine sW_go b_Mo_cellOf_86 (st' := ([.int (tf (bt cell (Bf hs k) = 1))], [some (.ref a), some (.int (nI told)), some (.int (nI cell)), some (.int (nI k)), some (.int (tf (bt cell (Af hs k) = 1))), some (.int (tf (bt cell (Bf hs k) = 1))), some (.int (nI (Sf hs k))), none], M)) (φ := True) rfl trivial ?_
                refine sW_if_ne 95 d_Mo_cellOf_88 (by decide) (fun c_88 => ?_) (fun c_88 => ?_)
                · skip
                  replace c_88 := tf_nz.mp c_88
                  refine sW_go b_Mo_cellOf_95 (st' := ([.int (nI 0)], [some (.ref a), some (.int (nI told)), some (.int (nI cell)), some (.int (nI k)), some (.int (tf (bt cell (Af hs k) = 1))), some (.int (tf (bt cell (Bf hs k) = 1))), some (.int (nI (Sf hs k))), none], M)) (φ := True) rfl trivial ?_
                  refine sW_go b_Mo_cellOf_96 (st' := ([.int (nI 0), .int (nI cell)], [some (.ref a), some (.int (nI told)), some (.int (nI cell)), some (.int (nI k)), some (.int (tf (bt cell (Af hs k) = 1))), some (.int (tf (bt cell (Bf hs k) = 1))), some (.int (nI (Sf hs k))), some (.int (nI 0))], M)) (φ := True) rfl trivial ?_
                  refine sW_if_eq 110 d_Mo_cellOf_101 (by decide) (fun c_101 => ?_) (fun c_101 => ?_)
                  · skip
                    simp (disch := omega) only [nI_z] at c_101
                    refine sW_go b_Mo_cellOf_110 (st' := ([.int (nI 0), .int (nI cell)], [some (.ref a), some (.int (nI told)), some (.int (nI cell)), some (.int (nI k)), some (.int (tf (bt cell (Af hs k) = 1))), some (.int (tf (bt cell (Bf hs k) = 1))), some (.int (nI (Sf hs k))), some (.int (nI 0))], M)) (φ := True) rfl trivial ?_
                    refine sW_go b_Mo_cellOf_111 (st' := ([], [some (.ref a), some (.int (nI told)), some (.int (nI cell ||| nI 0)), some (.int (nI k + nI 1)), some (.int (tf (bt cell (Af hs k) = 1))), some (.int (tf (bt cell (Bf hs k) = 1))), some (.int (nI (Sf hs k))), some (.int (nI 0))], M)) (φ := True) rfl trivial ?_
                    refine sW_eq (st' := ([], [some (.ref a), some (.int (nI told)), some (.int (nI (cell ||| 0))), some (.int (nI (k + 1))), some (.int (tf (bt cell (Af hs k) = 1))), some (.int (tf (bt cell (Bf hs k) = 1))), some (.int (nI (Sf hs k))), some (.int (nI 0))], M)) (by simp (disch := omega) only [nI_add, nx_or]) ?_
                    refine sW_goto 4 d_Mo_cellOf_116 (by decide) ?_
                    refine sW_fg [false, false, false, false, true, true, true, true] ?_
                    show sW G m_Mo_cellOf 4 ([], [some (.ref a), some (.int (nI told)), some (.int (nI (cell ||| 0))), some (.int (nI (k + 1))), none, none, none, none], M) _
                    first | exact ih (k + 1, _) (by dsimp only; omega) (by dsimp only; omega) (h1 (jb_1 b1 b2 (by omega))) | exact ih (k + 1, _) (by dsimp only; omega) (by dsimp only; omega) (h0 (jb_0 b1 b2 (by omega)))
                  · skip
                    exact absurd (by decide +kernel) c_101
                · skip
                  replace c_88 := tf_z.mp c_88
                  refine sW_go b_Mo_cellOf_91 (st' := ([.int (nI 1)], [some (.ref a), some (.int (nI told)), some (.int (nI cell)), some (.int (nI k)), some (.int (tf (bt cell (Af hs k) = 1))), some (.int (tf (bt cell (Bf hs k) = 1))), some (.int (nI (Sf hs k))), none], M)) (φ := True) rfl trivial ?_
                  refine sW_goto 96 d_Mo_cellOf_92 (by decide) ?_
                  refine sW_go b_Mo_cellOf_96 (st' := ([.int (nI 1), .int (nI cell)], [some (.ref a), some (.int (nI told)), some (.int (nI cell)), some (.int (nI k)), some (.int (tf (bt cell (Af hs k) = 1))), some (.int (tf (bt cell (Bf hs k) = 1))), some (.int (nI (Sf hs k))), some (.int (nI 1))], M)) (φ := True) rfl trivial ?_
                  refine sW_if_eq 110 d_Mo_cellOf_101 (by decide) (fun c_101 => ?_) (fun c_101 => ?_)
                  · skip
                    exact absurd c_101 (by decide +kernel)
                  · skip
                    simp (disch := omega) only [nI_z] at c_101
                    refine sW_go b_Mo_cellOf_104 (st' := ([.int (nI 1 <<< (nI k &&& 31)), .int (nI cell)], [some (.ref a), some (.int (nI told)), some (.int (nI cell)), some (.int (nI k)), some (.int (tf (bt cell (Af hs k) = 1))), some (.int (tf (bt cell (Bf hs k) = 1))), some (.int (nI (Sf hs k))), some (.int (nI 1))], M)) (φ := True) rfl trivial ?_
                    refine sW_eq (st' := ([.int (nI (1 * 2 ^ k)), .int (nI cell)], [some (.ref a), some (.int (nI told)), some (.int (nI cell)), some (.int (nI k)), some (.int (tf (bt cell (Af hs k) = 1))), some (.int (tf (bt cell (Bf hs k) = 1))), some (.int (nI (Sf hs k))), some (.int (nI 1))], M)) (by simp (disch := omega) only [q1]) ?_
                    refine sW_goto 111 d_Mo_cellOf_107 (by decide) ?_
                    refine sW_go b_Mo_cellOf_111 (st' := ([], [some (.ref a), some (.int (nI told)), some (.int (nI cell ||| nI (1 * 2 ^ k))), some (.int (nI k + nI 1)), some (.int (tf (bt cell (Af hs k) = 1))), some (.int (tf (bt cell (Bf hs k) = 1))), some (.int (nI (Sf hs k))), some (.int (nI 1))], M)) (φ := True) rfl trivial ?_
                    refine sW_eq (st' := ([], [some (.ref a), some (.int (nI told)), some (.int (nI (cell ||| (1 * 2 ^ k)))), some (.int (nI (k + 1))), some (.int (tf (bt cell (Af hs k) = 1))), some (.int (tf (bt cell (Bf hs k) = 1))), some (.int (nI (Sf hs k))), some (.int (nI 1))], M)) (by simp (disch := omega) only [nI_add, nx_or]) ?_
                    refine sW_goto 4 d_Mo_cellOf_116 (by decide) ?_
                    refine sW_fg [false, false, false, false, true, true, true, true] ?_
                    show sW G m_Mo_cellOf 4 ([], [some (.ref a), some (.int (nI told)), some (.int (nI (cell ||| (1 * 2 ^ k)))), some (.int (nI (k + 1))), none, none, none, none], M) _
                    first | exact ih (k + 1, _) (by dsimp only; omega) (by dsimp only; omega) (h1 (jb_1 b1 b2 (by omega))) | exact ih (k + 1, _) (by dsimp only; omega) (by dsimp only; omega) (h0 (jb_0 b1 b2 (by omega)))
          · skip
            replace c_67 := tf_nz.mp c_67
            refine sW_go b_Mo_cellOf_70 (st' := ([.int (tf (bt cell (Bf hs k) = 1))], [some (.ref a), some (.int (nI told)), some (.int (nI cell)), some (.int (nI k)), some (.int (tf (bt cell (Af hs k) = 1))), some (.int (tf (bt cell (Bf hs k) = 1))), some (.int (nI (Sf hs k))), none], M)) (φ := True) rfl trivial ?_
            refine sW_if_ne 91 d_Mo_cellOf_72 (by decide) (fun c_72 => ?_) (fun c_72 => ?_)
            · skip
              replace c_72 := tf_nz.mp c_72
              refine sW_go b_Mo_cellOf_91 (st' := ([.int (nI 1)], [some (.ref a), some (.int (nI told)), some (.int (nI cell)), some (.int (nI k)), some (.int (tf (bt cell (Af hs k) = 1))), some (.int (tf (bt cell (Bf hs k) = 1))), some (.int (nI (Sf hs k))), none], M)) (φ := True) rfl trivial ?_
              refine sW_goto 96 d_Mo_cellOf_92 (by decide) ?_
              refine sW_go b_Mo_cellOf_96 (st' := ([.int (nI 1), .int (nI cell)], [some (.ref a), some (.int (nI told)), some (.int (nI cell)), some (.int (nI k)), some (.int (tf (bt cell (Af hs k) = 1))), some (.int (tf (bt cell (Bf hs k) = 1))), some (.int (nI (Sf hs k))), some (.int (nI 1))], M)) (φ := True) rfl trivial ?_
              refine sW_if_eq 110 d_Mo_cellOf_101 (by decide) (fun c_101 => ?_) (fun c_101 => ?_)
              · skip
                exact absurd c_101 (by decide +kernel)
              · skip
                simp (disch := omega) only [nI_z] at c_101
                refine sW_go b_Mo_cellOf_104 (st' := ([.int (nI 1 <<< (nI k &&& 31)), .int (nI cell)], [some (.ref a), some (.int (nI told)), some (.int (nI cell)), some (.int (nI k)), some (.int (tf (bt cell (Af hs k) = 1))), some (.int (tf (bt cell (Bf hs k) = 1))), some (.int (nI (Sf hs k))), some (.int (nI 1))], M)) (φ := True) rfl trivial ?_
                refine sW_eq (st' := ([.int (nI (1 * 2 ^ k)), .int (nI cell)], [some (.ref a), some (.int (nI told)), some (.int (nI cell)), some (.int (nI k)), some (.int (tf (bt cell (Af hs k) = 1))), some (.int (tf (bt cell (Bf hs k) = 1))), some (.int (nI (Sf hs k))), some (.int (nI 1))], M)) (by simp (disch := omega) only [q1]) ?_
                refine sW_goto 111 d_Mo_cellOf_107 (by decide) ?_
                refine sW_go b_Mo_cellOf_111 (st' := ([], [some (.ref a), some (.int (nI told)), some (.int (nI cell ||| nI (1 * 2 ^ k))), some (.int (nI k + nI 1)), some (.int (tf (bt cell (Af hs k) = 1))), some (.int (tf (bt cell (Bf hs k) = 1))), some (.int (nI (Sf hs k))), some (.int (nI 1))], M)) (φ := True) rfl trivial ?_
                refine sW_eq (st' := ([], [some (.ref a), some (.int (nI told)), some (.int (nI (cell ||| (1 * 2 ^ k)))), some (.int (nI (k + 1))), some (.int (tf (bt cell (Af hs k) = 1))), some (.int (tf (bt cell (Bf hs k) = 1))), some (.int (nI (Sf hs k))), some (.int (nI 1))], M)) (by simp (disch := omega) only [nI_add, nx_or]) ?_
                refine sW_goto 4 d_Mo_cellOf_116 (by decide) ?_
                refine sW_fg [false, false, false, false, true, true, true, true] ?_
                show sW G m_Mo_cellOf 4 ([], [some (.ref a), some (.int (nI told)), some (.int (nI (cell ||| (1 * 2 ^ k)))), some (.int (nI (k + 1))), none, none, none, none], M) _
                first | exact ih (k + 1, _) (by dsimp only; omega) (by dsimp only; omega) (h1 (jb_1 b1 b2 (by omega))) | exact ih (k + 1, _) (by dsimp only; omega) (by dsimp only; omega) (h0 (jb_0 b1 b2 (by omega)))
            · skip
              replace c_72 := tf_z.mp c_72
              refine sW_go b_Mo_cellOf_75 (st' := ([.int (nI 5), .int (nI (Sf hs k))], [some (.ref a), some (.int (nI told)), some (.int (nI cell)), some (.int (nI k)), some (.int (tf (bt cell (Af hs k) = 1))), some (.int (tf (bt cell (Bf hs k) = 1))), some (.int (nI (Sf hs k))), none], M)) (φ := True) rfl trivial ?_
              refine sW_ic_ne 95 d_Mo_cellOf_78 (by decide) (fun c_78 => ?_) (fun c_78 => ?_)
              · skip
                simp (disch := omega) only [nI_eq] at c_78
                refine sW_go b_Mo_cellOf_95 (st' := ([.int (nI 0)], [some (.ref a), some (.int (nI told)), some (.int (nI cell)), some (.int (nI k)), some (.int (tf (bt cell (Af hs k) = 1))), some (.int (tf (bt cell (Bf hs k) = 1))), some (.int (nI (Sf hs k))), none], M)) (φ := True) rfl trivial ?_
                refine sW_go b_Mo_cellOf_96 (st' := ([.int (nI 0), .int (nI cell)], [some (.ref a), some (.int (nI told)), some (.int (nI cell)), some (.int (nI k)), some (.int (tf (bt cell (Af hs k) = 1))), some (.int (tf (bt cell (Bf hs k) = 1))), some (.int (nI (Sf hs k))), some (.int (nI 0))], M)) (φ := True) rfl trivial ?_
                refine sW_if_eq 110 d_Mo_cellOf_101 (by decide) (fun c_101 => ?_) (fun c_101 => ?_)
                · skip
                  simp (disch := omega) only [nI_z] at c_101
                  refine sW_go b_Mo_cellOf_110 (st' := ([.int (nI 0), .int (nI cell)], [some (.ref a), some (.int (nI told)), some (.int (nI cell)), some (.int (nI k)), some (.int (tf (bt cell (Af hs k) = 1))), some (.int (tf (bt cell (Bf hs k) = 1))), some (.int (nI (Sf hs k))), some (.int (nI 0))], M)) (φ := True) rfl trivial ?_
                  refine sW_go b_Mo_cellOf_111 (st' := ([], [some (.ref a), some (.int (nI told)), some (.int (nI cell ||| nI 0)), some (.int (nI k + nI 1)), some (.int (tf (bt cell (Af hs k) = 1))), some (.int (tf (bt cell (Bf hs k) = 1))), some (.int (nI (Sf hs k))), some (.int (nI 0))], M)) (φ := True) rfl trivial ?_
                  refine sW_eq (st' := ([], [some (.ref a), some (.int (nI told)), some (.int (nI (cell ||| 0))), some (.int (nI (k + 1))), some (.int (tf (bt cell (Af hs k) = 1))), some (.int (tf (bt cell (Bf hs k) = 1))), some (.int (nI (Sf hs k))), some (.int (nI 0))], M)) (by simp (disch := omega) only [nI_add, nx_or]) ?_
                  refine sW_goto 4 d_Mo_cellOf_116 (by decide) ?_
                  refine sW_fg [false, false, false, false, true, true, true, true] ?_
                  show sW G m_Mo_cellOf 4 ([], [some (.ref a), some (.int (nI told)), some (.int (nI (cell ||| 0))), some (.int (nI (k + 1))), none, none, none, none], M) _
                  first | exact ih (k + 1, _) (by dsimp only; omega) (by dsimp only; omega) (h1 (jb_1 b1 b2 (by omega))) | exact ih (k + 1, _) (by dsimp only; omega) (by dsimp only; omega) (h0 (jb_0 b1 b2 (by omega)))
                · skip
                  exact absurd (by decide +kernel) c_101
              · skip
                simp (disch := omega) only [nI_eq] at c_78
                refine sW_go b_Mo_cellOf_81 (st' := ([.int (tf (bt cell (Af hs k) = 1))], [some (.ref a), some (.int (nI told)), some (.int (nI cell)), some (.int (nI k)), some (.int (tf (bt cell (Af hs k) = 1))), some (.int (tf (bt cell (Bf hs k) = 1))), some (.int (nI (Sf hs k))), none], M)) (φ := True) rfl trivial ?_
                refine sW_if_eq 95 d_Mo_cellOf_83 (by decide) (fun c_83 => ?_) (fun c_83 => ?_)
                · skip
                  replace c_83 := tf_z.mp c_83
                  refine sW_go b_Mo_cellOf_95 (st' := ([.int (nI 0)], [some (.ref a), some (.int (nI told)), some (.int (nI cell)), some (.int (nI k)), some (.int (tf (bt cell (Af hs k) = 1))), some (.int (tf (bt cell (Bf hs k) = 1))), some (.int (nI (Sf hs k))), none], M)) (φ := True) rfl trivial ?_
                  refine sW_go b_Mo_cellOf_96 (st' := ([.int (nI 0), .int (nI cell)], [some (.ref a), some (.int (nI told)), some (.int (nI cell)), some (.int (nI k)), some (.int (tf (bt cell (Af hs k) = 1))), some (.int (tf (bt cell (Bf hs k) = 1))), some (.int (nI (Sf hs k))), some (.int (nI 0))], M)) (φ := True) rfl trivial ?_
                  refine sW_if_eq 110 d_Mo_cellOf_101 (by decide) (fun c_101 => ?_) (fun c_101 => ?_)
                  · skip
                    simp (disch := omega) only [nI_z] at c_101
                    refine sW_go b_Mo_cellOf_110 (st' := ([.int (nI 0), .int (nI cell)], [some (.ref a), some (.int (nI told)), some (.int (nI cell)), some (.int (nI k)), some (.int (tf (bt cell (Af hs k) = 1))), some (.int (tf (bt cell (Bf hs k) = 1))), some (.int (nI (Sf hs k))), some (.int (nI 0))], M)) (φ := True) rfl trivial ?_
                    refine sW_go b_Mo_cellOf_111 (st' := ([], [some (.ref a), some (.int (nI told)), some (.int (nI cell ||| nI 0)), some (.int (nI k + nI 1)), some (.int (tf (bt cell (Af hs k) = 1))), some (.int (tf (bt cell (Bf hs k) = 1))), some (.int (nI (Sf hs k))), some (.int (nI 0))], M)) (φ := True) rfl trivial ?_
                    refine sW_eq (st' := ([], [some (.ref a), some (.int (nI told)), some (.int (nI (cell ||| 0))), some (.int (nI (k + 1))), some (.int (tf (bt cell (Af hs k) = 1))), some (.int (tf (bt cell (Bf hs k) = 1))), some (.int (nI (Sf hs k))), some (.int (nI 0))], M)) (by simp (disch := omega) only [nI_add, nx_or]) ?_
                    refine sW_goto 4 d_Mo_cellOf_116 (by decide) ?_
                    refine sW_fg [false, false, false, false, true, true, true, true] ?_
                    show sW G m_Mo_cellOf 4 ([], [some (.ref a), some (.int (nI told)), some (.int (nI (cell ||| 0))), some (.int (nI (k + 1))), none, none, none, none], M) _
                    first | exact ih (k + 1, _) (by dsimp only; omega) (by dsimp only; omega) (h1 (jb_1 b1 b2 (by omega))) | exact ih (k + 1, _) (by dsimp only; omega) (by dsimp only; omega) (h0 (jb_0 b1 b2 (by omega)))
                  · skip
                    exact absurd (by decide +kernel) c_101
                · skip
                  replace c_83 := tf_nz.mp c_83
                  refine sW_go b_Mo_cellOf_86 (st' := ([.int (tf (bt cell (Bf hs k) = 1))], [some (.ref a), some (.int (nI told)), some (.int (nI cell)), some (.int (nI k)), some (.int (tf (bt cell (Af hs k) = 1))), some (.int (tf (bt cell (Bf hs k) = 1))), some (.int (nI (Sf hs k))), none], M)) (φ := True) rfl trivial ?_
                  refine sW_if_ne 95 d_Mo_cellOf_88 (by decide) (fun c_88 => ?_) (fun c_88 => ?_)
                  · skip
                    replace c_88 := tf_nz.mp c_88
                    refine sW_go b_Mo_cellOf_95 (st' := ([.int (nI 0)], [some (.ref a), some (.int (nI told)), some (.int (nI cell)), some (.int (nI k)), some (.int (tf (bt cell (Af hs k) = 1))), some (.int (tf (bt cell (Bf hs k) = 1))), some (.int (nI (Sf hs k))), none], M)) (φ := True) rfl trivial ?_
                    refine sW_go b_Mo_cellOf_96 (st' := ([.int (nI 0), .int (nI cell)], [some (.ref a), some (.int (nI told)), some (.int (nI cell)), some (.int (nI k)), some (.int (tf (bt cell (Af hs k) = 1))), some (.int (tf (bt cell (Bf hs k) = 1))), some (.int (nI (Sf hs k))), some (.int (nI 0))], M)) (φ := True) rfl trivial ?_
                    refine sW_if_eq 110 d_Mo_cellOf_101 (by decide) (fun c_101 => ?_) (fun c_101 => ?_)
                    · skip
                      simp (disch := omega) only [nI_z] at c_101
                      refine sW_go b_Mo_cellOf_110 (st' := ([.int (nI 0), .int (nI cell)], [some (.ref a), some (.int (nI told)), some (.int (nI cell)), some (.int (nI k)), some (.int (tf (bt cell (Af hs k) = 1))), some (.int (tf (bt cell (Bf hs k) = 1))), some (.int (nI (Sf hs k))), some (.int (nI 0))], M)) (φ := True) rfl trivial ?_
                      refine sW_go b_Mo_cellOf_111 (st' := ([], [some (.ref a), some (.int (nI told)), some (.int (nI cell ||| nI 0)), some (.int (nI k + nI 1)), some (.int (tf (bt cell (Af hs k) = 1))), some (.int (tf (bt cell (Bf hs k) = 1))), some (.int (nI (Sf hs k))), some (.int (nI 0))], M)) (φ := True) rfl trivial ?_
                      refine sW_eq (st' := ([], [some (.ref a), some (.int (nI told)), some (.int (nI (cell ||| 0))), some (.int (nI (k + 1))), some (.int (tf (bt cell (Af hs k) = 1))), some (.int (tf (bt cell (Bf hs k) = 1))), some (.int (nI (Sf hs k))), some (.int (nI 0))], M)) (by simp (disch := omega) only [nI_add, nx_or]) ?_
                      refine sW_goto 4 d_Mo_cellOf_116 (by decide) ?_
                      refine sW_fg [false, false, false, false, true, true, true, true] ?_
                      show sW G m_Mo_cellOf 4 ([], [some (.ref a), some (.int (nI told)), some (.int (nI (cell ||| 0))), some (.int (nI (k + 1))), none, none, none, none], M) _
                      first | exact ih (k + 1, _) (by dsimp only; omega) (by dsimp only; omega) (h1 (jb_1 b1 b2 (by omega))) | exact ih (k + 1, _) (by dsimp only; omega) (by dsimp only; omega) (h0 (jb_0 b1 b2 (by omega)))
                    · skip
                      exact absurd (by decide +kernel) c_101
                  · skip
                    replace c_88 := tf_z.mp c_88
                    refine sW_go b_Mo_cellOf_91 (st' := ([.int (nI 1)], [some (.ref a), some (.int (nI told)), some (.int (nI cell)), some (.int (nI k)), some (.int (tf (bt cell (Af hs k) = 1))), some (.int (tf (bt cell (Bf hs k) = 1))), some (.int (nI (Sf hs k))), none], M)) (φ := True) rfl trivial ?_
                    refine sW_goto 96 d_Mo_cellOf_92 (by decide) ?_
                    refine sW_go b_Mo_cellOf_96 (st' := ([.int (nI 1), .int (nI cell)], [some (.ref a), some (.int (nI told)), some (.int (nI cell)), some (.int (nI k)), some (.int (tf (bt cell (Af hs k) = 1))), some (.int (tf (bt cell (Bf hs k) = 1))), some (.int (nI (Sf hs k))), some (.int (nI 1))], M)) (φ := True) rfl trivial ?_
                    refine sW_if_eq 110 d_Mo_cellOf_101 (by decide) (fun c_101 => ?_) (fun c_101 => ?_)
                    · skip
                      exact absurd c_101 (by decide +kernel)
                    · skip
                      simp (disch := omega) only [nI_z] at c_101
                      refine sW_go b_Mo_cellOf_104 (st' := ([.int (nI 1 <<< (nI k &&& 31)), .int (nI cell)], [some (.ref a), some (.int (nI told)), some (.int (nI cell)), some (.int (nI k)), some (.int (tf (bt cell (Af hs k) = 1))), some (.int (tf (bt cell (Bf hs k) = 1))), some (.int (nI (Sf hs k))), some (.int (nI 1))], M)) (φ := True) rfl trivial ?_
                      refine sW_eq (st' := ([.int (nI (1 * 2 ^ k)), .int (nI cell)], [some (.ref a), some (.int (nI told)), some (.int (nI cell)), some (.int (nI k)), some (.int (tf (bt cell (Af hs k) = 1))), some (.int (tf (bt cell (Bf hs k) = 1))), some (.int (nI (Sf hs k))), some (.int (nI 1))], M)) (by simp (disch := omega) only [q1]) ?_
                      refine sW_goto 111 d_Mo_cellOf_107 (by decide) ?_
                      refine sW_go b_Mo_cellOf_111 (st' := ([], [some (.ref a), some (.int (nI told)), some (.int (nI cell ||| nI (1 * 2 ^ k))), some (.int (nI k + nI 1)), some (.int (tf (bt cell (Af hs k) = 1))), some (.int (tf (bt cell (Bf hs k) = 1))), some (.int (nI (Sf hs k))), some (.int (nI 1))], M)) (φ := True) rfl trivial ?_
                      refine sW_eq (st' := ([], [some (.ref a), some (.int (nI told)), some (.int (nI (cell ||| (1 * 2 ^ k)))), some (.int (nI (k + 1))), some (.int (tf (bt cell (Af hs k) = 1))), some (.int (tf (bt cell (Bf hs k) = 1))), some (.int (nI (Sf hs k))), some (.int (nI 1))], M)) (by simp (disch := omega) only [nI_add, nx_or]) ?_
                      refine sW_goto 4 d_Mo_cellOf_116 (by decide) ?_
                      refine sW_fg [false, false, false, false, true, true, true, true] ?_
                      show sW G m_Mo_cellOf 4 ([], [some (.ref a), some (.int (nI told)), some (.int (nI (cell ||| (1 * 2 ^ k)))), some (.int (nI (k + 1))), none, none, none, none], M) _
                      first | exact ih (k + 1, _) (by dsimp only; omega) (by dsimp only; omega) (h1 (jb_1 b1 b2 (by omega))) | exact ih (k + 1, _) (by dsimp only; omega) (by dsimp only; omega) (h0 (jb_0 b1 b2 (by omega)))
      · skip
        simp (disch := omega) only [nI_eq] at c_46
        refine sW_go b_Mo_cellOf_49 (st' := ([.int (tf (bt cell (Af hs k) = 1))], [some (.ref a), some (.int (nI told)), some (.int (nI cell)), some (.int (nI k)), some (.int (tf (bt cell (Af hs k) = 1))), some (.int (tf (bt cell (Bf hs k) = 1))), some (.int (nI (Sf hs k))), none], M)) (φ := True) rfl trivial ?_
        refine sW_if_ne 91 d_Mo_cellOf_51 (by decide) (fun c_51 => ?_) (fun c_51 => ?_)
        · skip
          replace c_51 := tf_nz.mp c_51
          refine sW_go b_Mo_cellOf_91 (st' := ([.int (nI 1)], [some (.ref a), some (.int (nI told)), some (.int (nI cell)), some (.int (nI k)), some (.int (tf (bt cell (Af hs k) = 1))), some (.int (tf (bt cell (Bf hs k) = 1))), some (.int (nI (Sf hs k))), none], M)) (φ := True) rfl trivial ?_
          refine sW_goto 96 d_Mo_cellOf_92 (by decide) ?_
          refine sW_go b_Mo_cellOf_96 (st' := ([.int (nI 1), .int (nI cell)], [some (.ref a), some (.int (nI told)), some (.int (nI cell)), some (.int (nI k)), some (.int (tf (bt cell (Af hs k) = 1))), some (.int (tf (bt cell (Bf hs k) = 1))), some (.int (nI (Sf hs k))), some (.int (nI 1))], M)) (φ := True) rfl trivial ?_
          refine sW_if_eq 110 d_Mo_cellOf_101 (by decide) (fun c_101 => ?_) (fun c_101 => ?_)
          · skip
            exact absurd c_101 (by decide +kernel)
          · skip
            simp (disch := omega) only [nI_z] at c_101
            refine sW_go b_Mo_cellOf_104 (st' := ([.int (nI 1 <<< (nI k &&& 31)), .int (nI cell)], [some (.ref a), some (.int (nI told)), some (.int (nI cell)), some (.int (nI k)), some (.int (tf (bt cell (Af hs k) = 1))), some (.int (tf (bt cell (Bf hs k) = 1))), some (.int (nI (Sf hs k))), some (.int (nI 1))], M)) (φ := True) rfl trivial ?_
            refine sW_eq (st' := ([.int (nI (1 * 2 ^ k)), .int (nI cell)], [some (.ref a), some (.int (nI told)), some (.int (nI cell)), some (.int (nI k)), some (.int (tf (bt cell (Af hs k) = 1))), some (.int (tf (bt cell (Bf hs k) = 1))), some (.int (nI (Sf hs k))), some (.int (nI 1))], M)) (by simp (disch := omega) only [q1]) ?_
            refine sW_goto 111 d_Mo_cellOf_107 (by decide) ?_
            refine sW_go b_Mo_cellOf_111 (st' := ([], [some (.ref a), some (.int (nI told)), some (.int (nI cell ||| nI (1 * 2 ^ k))), some (.int (nI k + nI 1)), some (.int (tf (bt cell (Af hs k) = 1))), some (.int (tf (bt cell (Bf hs k) = 1))), some (.int (nI (Sf hs k))), some (.int (nI 1))], M)) (φ := True) rfl trivial ?_
            refine sW_eq (st' := ([], [some (.ref a), some (.int (nI told)), some (.int (nI (cell ||| (1 * 2 ^ k)))), some (.int (nI (k + 1))), some (.int (tf (bt cell (Af hs k) = 1))), some (.int (tf (bt cell (Bf hs k) = 1))), some (.int (nI (Sf hs k))), some (.int (nI 1))], M)) (by simp (disch := omega) only [nI_add, nx_or]) ?_
            refine sW_goto 4 d_Mo_cellOf_116 (by decide) ?_
            refine sW_fg [false, false, false, false, true, true, true, true] ?_
            show sW G m_Mo_cellOf 4 ([], [some (.ref a), some (.int (nI told)), some (.int (nI (cell ||| (1 * 2 ^ k)))), some (.int (nI (k + 1))), none, none, none, none], M) _
            first | exact ih (k + 1, _) (by dsimp only; omega) (by dsimp only; omega) (h1 (jb_1 b1 b2 (by omega))) | exact ih (k + 1, _) (by dsimp only; omega) (by dsimp only; omega) (h0 (jb_0 b1 b2 (by omega)))
        · skip
          replace c_51 := tf_z.mp c_51
          refine sW_go b_Mo_cellOf_54 (st' := ([.int (tf (bt cell (Bf hs k) = 1))], [some (.ref a), some (.int (nI told)), some (.int (nI cell)), some (.int (nI k)), some (.int (tf (bt cell (Af hs k) = 1))), some (.int (tf (bt cell (Bf hs k) = 1))), some (.int (nI (Sf hs k))), none], M)) (φ := True) rfl trivial ?_
          refine sW_if_ne 91 d_Mo_cellOf_56 (by decide) (fun c_56 => ?_) (fun c_56 => ?_)
          · skip
            replace c_56 := tf_nz.mp c_56
            refine sW_go b_Mo_cellOf_91 (st' := ([.int (nI 1)], [some (.ref a), some (.int (nI told)), some (.int (nI cell)), some (.int (nI k)), some (.int (tf (bt cell (Af hs k) = 1))), some (.int (tf (bt cell (Bf hs k) = 1))), some (.int (nI (Sf hs k))), none], M)) (φ := True) rfl trivial ?_
            refine sW_goto 96 d_Mo_cellOf_92 (by decide) ?_
            refine sW_go b_Mo_cellOf_96 (st' := ([.int (nI 1), .int (nI cell)], [some (.ref a), some (.int (nI told)), some (.int (nI cell)), some (.int (nI k)), some (.int (tf (bt cell (Af hs k) = 1))), some (.int (tf (bt cell (Bf hs k) = 1))), some (.int (nI (Sf hs k))), some (.int (nI 1))], M)) (φ := True) rfl trivial ?_
            refine sW_if_eq 110 d_Mo_cellOf_101 (by decide) (fun c_101 => ?_) (fun c_101 => ?_)
            · skip
              exact absurd c_101 (by decide +kernel)
            · skip
              simp (disch := omega) only [nI_z] at c_101
              refine sW_go b_Mo_cellOf_104 (st' := ([.int (nI 1 <<< (nI k &&& 31)), .int (nI cell)], [some (.ref a), some (.int (nI told)), some (.int (nI cell)), some (.int (nI k)), some (.int (tf (bt cell (Af hs k) = 1))), some (.int (tf (bt cell (Bf hs k) = 1))), some (.int (nI (Sf hs k))), some (.int (nI 1))], M)) (φ := True) rfl trivial ?_
              refine sW_eq (st' := ([.int (nI (1 * 2 ^ k)), .int (nI cell)], [some (.ref a), some (.int (nI told)), some (.int (nI cell)), some (.int (nI k)), some (.int (tf (bt cell (Af hs k) = 1))), some (.int (tf (bt cell (Bf hs k) = 1))), some (.int (nI (Sf hs k))), some (.int (nI 1))], M)) (by simp (disch := omega) only [q1]) ?_
              refine sW_goto 111 d_Mo_cellOf_107 (by decide) ?_
              refine sW_go b_Mo_cellOf_111 (st' := ([], [some (.ref a), some (.int (nI told)), some (.int (nI cell ||| nI (1 * 2 ^ k))), some (.int (nI k + nI 1)), some (.int (tf (bt cell (Af hs k) = 1))), some (.int (tf (bt cell (Bf hs k) = 1))), some (.int (nI (Sf hs k))), some (.int (nI 1))], M)) (φ := True) rfl trivial ?_
              refine sW_eq (st' := ([], [some (.ref a), some (.int (nI told)), some (.int (nI (cell ||| (1 * 2 ^ k)))), some (.int (nI (k + 1))), some (.int (tf (bt cell (Af hs k) = 1))), some (.int (tf (bt cell (Bf hs k) = 1))), some (.int (nI (Sf hs k))), some (.int (nI 1))], M)) (by simp (disch := omega) only [nI_add, nx_or]) ?_
              refine sW_goto 4 d_Mo_cellOf_116 (by decide) ?_
              refine sW_fg [false, false, false, false, true, true, true, true] ?_
              show sW G m_Mo_cellOf 4 ([], [some (.ref a), some (.int (nI told)), some (.int (nI (cell ||| (1 * 2 ^ k)))), some (.int (nI (k + 1))), none, none, none, none], M) _
              first | exact ih (k + 1, _) (by dsimp only; omega) (by dsimp only; omega) (h1 (jb_1 b1 b2 (by omega))) | exact ih (k + 1, _) (by dsimp only; omega) (by dsimp only; omega) (h0 (jb_0 b1 b2 (by omega)))
          · skip
            replace c_56 := tf_z.mp c_56
            refine sW_go b_Mo_cellOf_59 (st' := ([.int (nI 4), .int (nI (Sf hs k))], [some (.ref a), some (.int (nI told)), some (.int (nI cell)), some (.int (nI k)), some (.int (tf (bt cell (Af hs k) = 1))), some (.int (tf (bt cell (Bf hs k) = 1))), some (.int (nI (Sf hs k))), none], M)) (φ := True) rfl trivial ?_
            refine sW_ic_ne 75 d_Mo_cellOf_62 (by decide) (fun c_62 => ?_) (fun c_62 => ?_)
            · skip
              simp (disch := omega) only [nI_eq] at c_62
              refine sW_go b_Mo_cellOf_75 (st' := ([.int (nI 5), .int (nI (Sf hs k))], [some (.ref a), some (.int (nI told)), some (.int (nI cell)), some (.int (nI k)), some (.int (tf (bt cell (Af hs k) = 1))), some (.int (tf (bt cell (Bf hs k) = 1))), some (.int (nI (Sf hs k))), none], M)) (φ := True) rfl trivial ?_
              refine sW_ic_ne 95 d_Mo_cellOf_78 (by decide) (fun c_78 => ?_) (fun c_78 => ?_)
              · skip
                simp (disch := omega) only [nI_eq] at c_78
                refine sW_go b_Mo_cellOf_95 (st' := ([.int (nI 0)], [some (.ref a), some (.int (nI told)), some (.int (nI cell)), some (.int (nI k)), some (.int (tf (bt cell (Af hs k) = 1))), some (.int (tf (bt cell (Bf hs k) = 1))), some (.int (nI (Sf hs k))), none], M)) (φ := True) rfl trivial ?_
                refine sW_go b_Mo_cellOf_96 (st' := ([.int (nI 0), .int (nI cell)], [some (.ref a), some (.int (nI told)), some (.int (nI cell)), some (.int (nI k)), some (.int (tf (bt cell (Af hs k) = 1))), some (.int (tf (bt cell (Bf hs k) = 1))), some (.int (nI (Sf hs k))), some (.int (nI 0))], M)) (φ := True) rfl trivial ?_
                refine sW_if_eq 110 d_Mo_cellOf_101 (by decide) (fun c_101 => ?_) (fun c_101 => ?_)
                · skip
                  simp (disch := omega) only [nI_z] at c_101
                  refine sW_go b_Mo_cellOf_110 (st' := ([.int (nI 0), .int (nI cell)], [some (.ref a), some (.int (nI told)), some (.int (nI cell)), some (.int (nI k)), some (.int (tf (bt cell (Af hs k) = 1))), some (.int (tf (bt cell (Bf hs k) = 1))), some (.int (nI (Sf hs k))), some (.int (nI 0))], M)) (φ := True) rfl trivial ?_
                  refine sW_go b_Mo_cellOf_111 (st' := ([], [some (.ref a), some (.int (nI told)), some (.int (nI cell ||| nI 0)), some (.int (nI k + nI 1)), some (.int (tf (bt cell (Af hs k) = 1))), some (.int (tf (bt cell (Bf hs k) = 1))), some (.int (nI (Sf hs k))), some (.int (nI 0))], M)) (φ := True) rfl trivial ?_
                  refine sW_eq (st' := ([], [some (.ref a), some (.int (nI told)), some (.int (nI (cell ||| 0))), some (.int (nI (k + 1))), some (.int (tf (bt cell (Af hs k) = 1))), some (.int (tf (bt cell (Bf hs k) = 1))), some (.int (nI (Sf hs k))), some (.int (nI 0))], M)) (by simp (disch := omega) only [nI_add, nx_or]) ?_
                  refine sW_goto 4 d_Mo_cellOf_116 (by decide) ?_
                  refine sW_fg [false, false, false, false, true, true, true, true] ?_
                  show sW G m_Mo_cellOf 4 ([], [some (.ref a), some (.int (nI told)), some (.int (nI (cell ||| 0))), some (.int (nI (k + 1))), none, none, none, none], M) _
                  first | exact ih (k + 1, _) (by dsimp only; omega) (by dsimp only; omega) (h1 (jb_1 b1 b2 (by omega))) | exact ih (k + 1, _) (by dsimp only; omega) (by dsimp only; omega) (h0 (jb_0 b1 b2 (by omega)))
                · skip
                  exact absurd (by decide +kernel) c_101
              · skip
                simp (disch := omega) only [nI_eq] at c_78
                refine sW_go b_Mo_cellOf_81 (st' := ([.int (tf (bt cell (Af hs k) = 1))], [some (.ref a), some (.int (nI told)), some (.int (nI cell)), some (.int (nI k)), some (.int (tf (bt cell (Af hs k) = 1))), some (.int (tf (bt cell (Bf hs k) = 1))), some (.int (nI (Sf hs k))), none], M)) (φ := True) rfl trivial ?_
                refine sW_if_eq 95 d_Mo_cellOf_83 (by decide) (fun c_83 => ?_) (fun c_83 => ?_)
                · skip
                  replace c_83 := tf_z.mp c_83
                  refine sW_go b_Mo_cellOf_95 (st' := ([.int (nI 0)], [some (.ref a), some (.int (nI told)), some (.int (nI cell)), some (.int (nI k)), some (.int (tf (bt cell (Af hs k) = 1))), some (.int (tf (bt cell (Bf hs k) = 1))), some (.int (nI (Sf hs k))), none], M)) (φ := True) rfl trivial ?_
                  refine sW_go b_Mo_cellOf_96 (st' := ([.int (nI 0), .int (nI cell)], [some (.ref a), some (.int (nI told)), some (.int (nI cell)), some (.int (nI k)), some (.int (tf (bt cell (Af hs k) = 1))), some (.int (tf (bt cell (Bf hs k) = 1))), some (.int (nI (Sf hs k))), some (.int (nI 0))], M)) (φ := True) rfl trivial ?_
                  refine sW_if_eq 110 d_Mo_cellOf_101 (by decide) (fun c_101 => ?_) (fun c_101 => ?_)
                  · skip
                    simp (disch := omega) only [nI_z] at c_101
                    refine sW_go b_Mo_cellOf_110 (st' := ([.int (nI 0), .int (nI cell)], [some (.ref a), some (.int (nI told)), some (.int (nI cell)), some (.int (nI k)), some (.int (tf (bt cell (Af hs k) = 1))), some (.int (tf (bt cell (Bf hs k) = 1))), some (.int (nI (Sf hs k))), some (.int (nI 0))], M)) (φ := True) rfl trivial ?_
                    refine sW_go b_Mo_cellOf_111 (st' := ([], [some (.ref a), some (.int (nI told)), some (.int (nI cell ||| nI 0)), some (.int (nI k + nI 1)), some (.int (tf (bt cell (Af hs k) = 1))), some (.int (tf (bt cell (Bf hs k) = 1))), some (.int (nI (Sf hs k))), some (.int (nI 0))], M)) (φ := True) rfl trivial ?_
                    refine sW_eq (st' := ([], [some (.ref a), some (.int (nI told)), some (.int (nI (cell ||| 0))), some (.int (nI (k + 1))), some (.int (tf (bt cell (Af hs k) = 1))), some (.int (tf (bt cell (Bf hs k) = 1))), some (.int (nI (Sf hs k))), some (.int (nI 0))], M)) (by simp (disch := omega) only [nI_add, nx_or]) ?_
                    refine sW_goto 4 d_Mo_cellOf_116 (by decide) ?_
                    refine sW_fg [false, false, false, false, true, true, true, true] ?_
                    show sW G m_Mo_cellOf 4 ([], [some (.ref a), some (.int (nI told)), some (.int (nI (cell ||| 0))), some (.int (nI (k + 1))), none, none, none, none], M) _
                    first | exact ih (k + 1, _) (by dsimp only; omega) (by dsimp only; omega) (h1 (jb_1 b1 b2 (by omega))) | exact ih (k + 1, _) (by dsimp only; omega) (by dsimp only; omega) (h0 (jb_0 b1 b2 (by omega)))
                  · skip
                    exact absurd (by decide +kernel) c_101
                · skip
                  replace c_83 := tf_nz.mp c_83
                  refine sW_go b_Mo_cellOf_86 (st' := ([.int (tf (bt cell (Bf hs k) = 1))], [some (.ref a), some (.int (nI told)), some (.int (nI cell)), some (.int (nI k)), some (.int (tf (bt cell (Af hs k) = 1))), some (.int (tf (bt cell (Bf hs k) = 1))), some (.int (nI (Sf hs k))), none], M)) (φ := True) rfl trivial ?_
                  refine sW_if_ne 95 d_Mo_cellOf_88 (by decide) (fun c_88 => ?_) (fun c_88 => ?_)
                  · skip
                    replace c_88 := tf_nz.mp c_88
                    refine sW_go b_Mo_cellOf_95 (st' := ([.int (nI 0)], [some (.ref a), some (.int (nI told)), some (.int (nI cell)), some (.int (nI k)), some (.int (tf (bt cell (Af hs k) = 1))), some (.int (tf (bt cell (Bf hs k) = 1))), some (.int (nI (Sf hs k))), none], M)) (φ := True) rfl trivial ?_
                    refine sW_go b_Mo_cellOf_96 (st' := ([.int (nI 0), .int (nI cell)], [some (.ref a), some (.int (nI told)), some (.int (nI cell)), some (.int (nI k)), some (.int (tf (bt cell (Af hs k) = 1))), some (.int (tf (bt cell (Bf hs k) = 1))), some (.int (nI (Sf hs k))), some (.int (nI 0))], M)) (φ := True) rfl trivial ?_
                    refine sW_if_eq 110 d_Mo_cellOf_101 (by decide) (fun c_101 => ?_) (fun c_101 => ?_)
                    · skip
                      simp (disch := omega) only [nI_z] at c_101
                      refine sW_go b_Mo_cellOf_110 (st' := ([.int (nI 0), .int (nI cell)], [some (.ref a), some (.int (nI told)), some (.int (nI cell)), some (.int (nI k)), some (.int (tf (bt cell (Af hs k) = 1))), some (.int (tf (bt cell (Bf hs k) = 1))), some (.int (nI (Sf hs k))), some (.int (nI 0))], M)) (φ := True) rfl trivial ?_
                      refine sW_go b_Mo_cellOf_111 (st' := ([], [some (.ref a), some (.int (nI told)), some (.int (nI cell ||| nI 0)), some (.int (nI k + nI 1)), some (.int (tf (bt cell (Af hs k) = 1))), some (.int (tf (bt cell (Bf hs k) = 1))), some (.int (nI (Sf hs k))), some (.int (nI 0))], M)) (φ := True) rfl trivial ?_
                      refine sW_eq (st' := ([], [some (.ref a), some (.int (nI told)), some (.int (nI (cell ||| 0))), some (.int (nI (k + 1))), some (.int (tf (bt cell (Af hs k) = 1))), some (.int (tf (bt cell (Bf hs k) = 1))), some (.int (nI (Sf hs k))), some (.int (nI 0))], M)) (by simp (disch := omega) only [nI_add, nx_or]) ?_
                      refine sW_goto 4 d_Mo_cellOf_116 (by decide) ?_
                      refine sW_fg [false, false, false, false, true, true, true, true] ?_
                      show sW G m_Mo_cellOf 4 ([], [some (.ref a), some (.int (nI told)), some (.int (nI (cell ||| 0))), some (.int (nI (k + 1))), none, none, none, none], M) _
                      first | exact ih (k + 1, _) (by dsimp only; omega) (by dsimp only; omega) (h1 (jb_1 b1 b2 (by omega))) | exact ih (k + 1, _) (by dsimp only; omega) (by dsimp only; omega) (h0 (jb_0 b1 b2 (by omega)))
                    · skip
                      exact absurd (by decide +kernel) c_101
                  · skip
                    replace c_88 := tf_z.mp c_88
                    refine sW_go b_Mo_cellOf_91 (st' := ([.int (nI 1)], [some (.ref a), some (.int (nI told)), some (.int (nI cell)), some (.int (nI k)), some (.int (tf (bt cell (Af hs k) = 1))), some (.int (tf (bt cell (Bf hs k) = 1))), some (.int (nI (Sf hs k))), none], M)) (φ := True) rfl trivial ?_
                    refine sW_goto 96 d_Mo_cellOf_92 (by decide) ?_
                    refine sW_go b_Mo_cellOf_96 (st' := ([.int (nI 1), .int (nI cell)], [some (.ref a), some (.int (nI told)), some (.int (nI cell)), some (.int (nI k)), some (.int (tf (bt cell (Af hs k) = 1))), some (.int (tf (bt cell (Bf hs k) = 1))), some (.int (nI (Sf hs k))), some (.int (nI 1))], M)) (φ := True) rfl trivial ?_
                    refine sW_if_eq 110 d_Mo_cellOf_101 (by decide) (fun c_101 => ?_) (fun c_101 => ?_)
                    · skip
                      exact absurd c_101 (by decide +kernel)
                    · skip
                      simp (disch := omega) only [nI_z] at c_101
                      refine sW_go b_Mo_cellOf_104 (st' := ([.int (nI 1 <<< (nI k &&& 31)), .int (nI cell)], [some (.ref a), some (.int (nI told)), some (.int (nI cell)), some (.int (nI k)), some (.int (tf (bt cell (Af hs k) = 1))), some (.int (tf (bt cell (Bf hs k) = 1))), some (.int (nI (Sf hs k))), some (.int (nI 1))], M)) (φ := True) rfl trivial ?_
                      refine sW_eq (st' := ([.int (nI (1 * 2 ^ k)), .int (nI cell)], [some (.ref a), some (.int (nI told)), some (.int (nI cell)), some (.int (nI k)), some (.int (tf (bt cell (Af hs k) = 1))), some (.int (tf (bt cell (Bf hs k) = 1))), some (.int (nI (Sf hs k))), some (.int (nI 1))], M)) (by simp (disch := omega) only [q1]) ?_
                      refine sW_goto 111 d_Mo_cellOf_107 (by decide) ?_
                      refine sW_go b_Mo_cellOf_111 (st' := ([], [some (.ref a), some (.int (nI told)), some (.int (nI cell ||| nI (1 * 2 ^ k))), some (.int (nI k + nI 1)), some (.int (tf (bt cell (Af hs k) = 1))), some (.int (tf (bt cell (Bf hs k) = 1))), some (.int (nI (Sf hs k))), some (.int (nI 1))], M)) (φ := True) rfl trivial ?_
                      refine sW_eq (st' := ([], [some (.ref a), some (.int (nI told)), some (.int (nI (cell ||| (1 * 2 ^ k)))), some (.int (nI (k + 1))), some (.int (tf (bt cell (Af hs k) = 1))), some (.int (tf (bt cell (Bf hs k) = 1))), some (.int (nI (Sf hs k))), some (.int (nI 1))], M)) (by simp (disch := omega) only [nI_add, nx_or]) ?_
                      refine sW_goto 4 d_Mo_cellOf_116 (by decide) ?_
                      refine sW_fg [false, false, false, false, true, true, true, true] ?_
                      show sW G m_Mo_cellOf 4 ([], [some (.ref a), some (.int (nI told)), some (.int (nI (cell ||| (1 * 2 ^ k)))), some (.int (nI (k + 1))), none, none, none, none], M) _
                      first | exact ih (k + 1, _) (by dsimp only; omega) (by dsimp only; omega) (h1 (jb_1 b1 b2 (by omega))) | exact ih (k + 1, _) (by dsimp only; omega) (by dsimp only; omega) (h0 (jb_0 b1 b2 (by omega)))
            · skip
              simp (disch := omega) only [nI_eq] at c_62
              refine sW_go b_Mo_cellOf_65 (st' := ([.int (tf (bt cell (Af hs k) = 1))], [some (.ref a), some (.int (nI told)), some (.int (nI cell)), some (.int (nI k)), some (.int (tf (bt cell (Af hs k) = 1))), some (.int (tf (bt cell (Bf hs k) = 1))), some (.int (nI (Sf hs k))), none], M)) (φ := True) rfl trivial ?_
              refine sW_if_eq 75 d_Mo_cellOf_67 (by decide) (fun c_67 => ?_) (fun c_67 => ?_)
              · skip
                replace c_67 := tf_z.mp c_67
                refine sW_go b_Mo_cellOf_75 (st' := ([.int (nI 5), .int (nI (Sf hs k))], [some (.ref a), some (.int (nI told)), some (.int (nI cell)), some (.int (nI k)), some (.int (tf (bt cell (Af hs k) = 1))), some (.int (tf (bt cell (Bf hs k) = 1))), some (.int (nI (Sf hs k))), none], M)) (φ := True) rfl trivial ?_
                refine sW_ic_ne 95 d_Mo_cellOf_78 (by decide) (fun c_78 => ?_) (fun c_78 => ?_)
                · skip
                  simp (disch := omega) only [nI_eq] at c_78
                  refine sW_go b_Mo_cellOf_95 (st' := ([.int (nI 0)], [some (.ref a), some (.int (nI told)), some (.int (nI cell)), some (.int (nI k)), some (.int (tf (bt cell (Af hs k) = 1))), some (.int (tf (bt cell (Bf hs k) = 1))), some (.int (nI (Sf hs k))), none], M)) (φ := True) rfl trivial ?_
                  refine sW_go b_Mo_cellOf_96 (st' := ([.int (nI 0), .int (nI cell)], [some (.ref a), some (.int (nI told)), some (.int (nI cell)), some (.int (nI k)), some (.int (tf (bt cell (Af hs k) = 1))), some (.int (tf (bt cell (Bf hs k) = 1))), some (.int (nI (Sf hs k))), some (.int (nI 0))], M)) (φ := True) rfl trivial ?_
                  refine sW_if_eq 110 d_Mo_cellOf_101 (by decide) (fun c_101 => ?_) (fun c_101 => ?_)
                  · skip
                    simp (disch := omega) only [nI_z] at c_101
                    refine sW_go b_Mo_cellOf_110 (st' := ([.int (nI 0), .int (nI cell)], [some (.ref a), some (.int (nI told)), some (.int (nI cell)), some (.int (nI k)), some (.int (tf (bt cell (Af hs k) = 1))), some (.int (tf (bt cell (Bf hs k) = 1))), some (.int (nI (Sf hs k))), some (.int (nI 0))], M)) (φ := True) rfl trivial ?_
                    refine sW_go b_Mo_cellOf_111 (st' := ([], [some (.ref a), some (.int (nI told)), some (.int (nI cell ||| nI 0)), some (.int (nI k + nI 1)), some (.int (tf (bt cell (Af hs k) = 1))), some (.int (tf (bt cell (Bf hs k) = 1))), some (.int (nI (Sf hs k))), some (.int (nI 0))], M)) (φ := True) rfl trivial ?_
                    refine sW_eq (st' := ([], [some (.ref a), some (.int (nI told)), some (.int (nI (cell ||| 0))), some (.int (nI (k + 1))), some (.int (tf (bt cell (Af hs k) = 1))), some (.int (tf (bt cell (Bf hs k) = 1))), some (.int (nI (Sf hs k))), some (.int (nI 0))], M)) (by simp (disch := omega) only [nI_add, nx_or]) ?_
                    refine sW_goto 4 d_Mo_cellOf_116 (by decide) ?_
                    refine sW_fg [false, false, false, false, true, true, true, true] ?_
                    show sW G m_Mo_cellOf 4 ([], [some (.ref a), some (.int (nI told)), some (.int (nI (cell ||| 0))), some (.int (nI (k + 1))), none, none, none, none], M) _
                    first | exact ih (k + 1, _) (by dsimp only; omega) (by dsimp only; omega) (h1 (jb_1 b1 b2 (by omega))) | exact ih (k + 1, _) (by dsimp only; omega) (by dsimp only; omega) (h0 (jb_0 b1 b2 (by omega)))
                  · skip
                    exact absurd (by decide +kernel) c_101
                · skip
                  simp (disch := omega) only [nI_eq] at c_78
                  refine sW_go b_Mo_cellOf_81 (st' := ([.int (tf (bt cell (Af hs k) = 1))], [some (.ref a), some (.int (nI told)), some (.int (nI cell)), some (.int (nI k)), some (.int (tf (bt cell (Af hs k) = 1))), some (.int (tf (bt cell (Bf hs k) = 1))), some (.int (nI (Sf hs k))), none], M)) (φ := True) rfl trivial ?_
                  refine sW_if_eq 95 d_Mo_cellOf_83 (by decide) (fun c_83 => ?_) (fun c_83 => ?_)
                  · skip
                    replace c_83 := tf_z.mp c_83
                    refine sW_go b_Mo_cellOf_95 (st' := ([.int (nI 0)], [some (.ref a), some (.int (nI told)), some (.int (nI cell)), some (.int (nI k)), some (.int (tf (bt cell (Af hs k) = 1))), some (.int (tf (bt cell (Bf hs k) = 1))), some (.int (nI (Sf hs k))), none], M)) (φ := True) rfl trivial ?_
                    refine sW_go b_Mo_cellOf_96 (st' := ([.int (nI 0), .int (nI cell)], [some (.ref a), some (.int (nI told)), some (.int (nI cell)), some (.int (nI k)), some (.int (tf (bt cell (Af hs k) = 1))), some (.int (tf (bt cell (Bf hs k) = 1))), some (.int (nI (Sf hs k))), some (.int (nI 0))], M)) (φ := True) rfl trivial ?_
                    refine sW_if_eq 110 d_Mo_cellOf_101 (by decide) (fun c_101 => ?_) (fun c_101 => ?_)
                    · skip
                      simp (disch := omega) only [nI_z] at c_101
                      refine sW_go b_Mo_cellOf_110 (st' := ([.int (nI 0), .int (nI cell)], [some (.ref a), some (.int (nI told)), some (.int (nI cell)), some (.int (nI k)), some (.int (tf (bt cell (Af hs k) = 1))), some (.int (tf (bt cell (Bf hs k) = 1))), some (.int (nI (Sf hs k))), some (.int (nI 0))], M)) (φ := True) rfl trivial ?_
                      refine sW_go b_Mo_cellOf_111 (st' := ([], [some (.ref a), some (.int (nI told)), some (.int (nI cell ||| nI 0)), some (.int (nI k + nI 1)), some (.int (tf (bt cell (Af hs k) = 1))), some (.int (tf (bt cell (Bf hs k) = 1))), some (.int (nI (Sf hs k))), some (.int (nI 0))], M)) (φ := True) rfl trivial ?_
                      refine sW_eq (st' := ([], [some (.ref a), some (.int (nI told)), some (.int (nI (cell ||| 0))), some (.int (nI (k + 1))), some (.int (tf (bt cell (Af hs k) = 1))), some (.int (tf (bt cell (Bf hs k) = 1))), some (.int (nI (Sf hs k))), some (.int (nI 0))], M)) (by simp (disch := omega) only [nI_add, nx_or]) ?_
                      refine sW_goto 4 d_Mo_cellOf_116 (by decide) ?_
                      refine sW_fg [false, false, false, false, true, true, true, true] ?_
                      show sW G m_Mo_cellOf 4 ([], [some (.ref a), some (.int (nI told)), some (.int (nI (cell ||| 0))), some (.int (nI (k + 1))), none, none, none, none], M) _
                      first | exact ih (k + 1, _) (by dsimp only; omega) (by dsimp only; omega) (h1 (jb_1 b1 b2 (by omega))) | exact ih (k + 1, _) (by dsimp only; omega) (by dsimp only; omega) (h0 (jb_0 b1 b2 (by omega)))
                    · skip
                      exact absurd (by decide +kernel) c_101
                  · skip
                    replace c_83 := tf_nz.mp c_83
                    refine sW_go b_Mo_cellOf_86 (st' := ([.int (tf (bt cell (Bf hs k) = 1))], [some (.ref a), some (.int (nI told)), some (.int (nI cell)), some (.int (nI k)), some (.int (tf (bt cell (Af hs k) = 1))), some (.int (tf (bt cell (Bf hs k) = 1))), some (.int (nI (Sf hs k))), none], M)) (φ := True) rfl trivial ?_
                    refine sW_if_ne 95 d_Mo_cellOf_88 (by decide) (fun c_88 => ?_) (fun c_88 => ?_)
                    · skip
                      replace c_88 := tf_nz.mp c_88
                      refine sW_go b_Mo_cellOf_95 (st' := ([.int (nI 0)], [some (.ref a), some (.int (nI told)), some (.int (nI cell)), some (.int (nI k)), some (.int (tf (bt cell (Af hs k) = 1))), some (.int (tf (bt cell (Bf hs k) = 1))), some (.int (nI (Sf hs k))), none], M)) (φ := True) rfl trivial ?_
                      refine sW_go b_Mo_cellOf_96 (st' := ([.int (nI 0), .int (nI cell)], [some (.ref a), some (.int (nI told)), some (.int (nI cell)), some (.int (nI k)), some (.int (tf (bt cell (Af hs k) = 1))), some (.int (tf (bt cell (Bf hs k) = 1))), some (.int (nI (Sf hs k))), some (.int (nI 0))], M)) (φ := True) rfl trivial ?_
                      refine sW_if_eq 110 d_Mo_cellOf_101 (by decide) (fun c_101 => ?_) (fun c_101 => ?_)
                      · skip
                        simp (disch := omega) only [nI_z] at c_101
                        refine sW_go b_Mo_cellOf_110 (st' := ([.int (nI 0), .int (nI cell)], [some (.ref a), some (.int (nI told)), some (.int (nI cell)), some (.int (nI k)), some (.int (tf (bt cell (Af hs k) = 1))), some (.int (tf (bt cell (Bf hs k) = 1))), some (.int (nI (Sf hs k))), some (.int (nI 0))], M)) (φ := True) rfl trivial ?_
                        refine sW_go b_Mo_cellOf_111 (st' := ([], [some (.ref a), some (.int (nI told)), some (.int (nI cell ||| nI 0)), some (.int (nI k + nI 1)), some (.int (tf (bt cell (Af hs k) = 1))), some (.int (tf (bt cell (Bf hs k) = 1))), some (.int (nI (Sf hs k))), some (.int (nI 0))], M)) (φ := True) rfl trivial ?_
                        refine sW_eq (st' := ([], [some (.ref a), some (.int (nI told)), some (.int (nI (cell ||| 0))), some (.int (nI (k + 1))), some (.int (tf (bt cell (Af hs k) = 1))), some (.int (tf (bt cell (Bf hs k) = 1))), some (.int (nI (Sf hs k))), some (.int (nI 0))], M)) (by simp (disch := omega) only [nI_add, nx_or]) ?_
                        refine sW_goto 4 d_Mo_cellOf_116 (by decide) ?_
                        refine sW_fg [false, false, false, false, true, true, true, true] ?_
                        show sW G m_Mo_cellOf 4 ([], [some (.ref a), some (.int (nI told)), some (.int (nI (cell ||| 0))), some (.int (nI (k + 1))), none, none, none, none], M) _
                        first | exact ih (k + 1, _) (by dsimp only; omega) (by dsimp only; omega) (h1 (jb_1 b1 b2 (by omega))) | exact ih (k + 1, _) (by dsimp only; omega) (by dsimp only; omega) (h0 (jb_0 b1 b2 (by omega)))
                      · skip
                        exact absurd (by decide +kernel) c_101
                    · skip
                      replace c_88 := tf_z.mp c_88
                      refine sW_go b_Mo_cellOf_91 (st' := ([.int (nI 1)], [some (.ref a), some (.int (nI told)), some (.int (nI cell)), some (.int (nI k)), some (.int (tf (bt cell (Af hs k) = 1))), some (.int (tf (bt cell (Bf hs k) = 1))), some (.int (nI (Sf hs k))), none], M)) (φ := True) rfl trivial ?_
                      refine sW_goto 96 d_Mo_cellOf_92 (by decide) ?_
                      refine sW_go b_Mo_cellOf_96 (st' := ([.int (nI 1), .int (nI cell)], [some (.ref a), some (.int (nI told)), some (.int (nI cell)), some (.int (nI k)), some (.int (tf (bt cell (Af hs k) = 1))), some (.int (tf (bt cell (Bf hs k) = 1))), some (.int (nI (Sf hs k))), some (.int (nI 1))], M)) (φ := True) rfl trivial ?_
                      refine sW_if_eq 110 d_Mo_cellOf_101 (by decide) (fun c_101 => ?_) (fun c_101 => ?_)
                      · skip
                        exact absurd c_101 (by decide +kernel)
                      · skip
                        simp (disch := omega) only [nI_z] at c_101
                        refine sW_go b_Mo_cellOf_104 (st' := ([.int (nI 1 <<< (nI k &&& 31)), .int (nI cell)], [some (.ref a), some (.int (nI told)), some (.int (nI cell)), some (.int (nI k)), some (.int (tf (bt cell (Af hs k) = 1))), some (.int (tf (bt cell (Bf hs k) = 1))), some (.int (nI (Sf hs k))), some (.int (nI 1))], M)) (φ := True) rfl trivial ?_
                        refine sW_eq (st' := ([.int (nI (1 * 2 ^ k)), .int (nI cell)], [some (.ref a), some (.int (nI told)), some (.int (nI cell)), some (.int (nI k)), some (.int (tf (bt cell (Af hs k) = 1))), some (.int (tf (bt cell (Bf hs k) = 1))), some (.int (nI (Sf hs k))), some (.int (nI 1))], M)) (by simp (disch := omega) only [q1]) ?_
                        refine sW_goto 111 d_Mo_cellOf_107 (by decide) ?_
                        refine sW_go b_Mo_cellOf_111 (st' := ([], [some (.ref a), some (.int (nI told)), some (.int (nI cell ||| nI (1 * 2 ^ k))), some (.int (nI k + nI 1)), some (.int (tf (bt cell (Af hs k) = 1))), some (.int (tf (bt cell (Bf hs k) = 1))), some (.int (nI (Sf hs k))), some (.int (nI 1))], M)) (φ := True) rfl trivial ?_
                        refine sW_eq (st' := ([], [some (.ref a), some (.int (nI told)), some (.int (nI (cell ||| (1 * 2 ^ k)))), some (.int (nI (k + 1))), some (.int (tf (bt cell (Af hs k) = 1))), some (.int (tf (bt cell (Bf hs k) = 1))), some (.int (nI (Sf hs k))), some (.int (nI 1))], M)) (by simp (disch := omega) only [nI_add, nx_or]) ?_
                        refine sW_goto 4 d_Mo_cellOf_116 (by decide) ?_
                        refine sW_fg [false, false, false, false, true, true, true, true] ?_
                        show sW G m_Mo_cellOf 4 ([], [some (.ref a), some (.int (nI told)), some (.int (nI (cell ||| (1 * 2 ^ k)))), some (.int (nI (k + 1))), none, none, none, none], M) _
                        first | exact ih (k + 1, _) (by dsimp only; omega) (by dsimp only; omega) (h1 (jb_1 b1 b2 (by omega))) | exact ih (k + 1, _) (by dsimp only; omega) (by dsimp only; omega) (h0 (jb_0 b1 b2 (by omega)))
              · skip
                replace c_67 := tf_nz.mp c_67
                refine sW_go b_Mo_cellOf_70 (st' := ([.int (tf (bt cell (Bf hs k) = 1))], [some (.ref a), some (.int (nI told)), some (.int (nI cell)), some (.int (nI k)), some (.int (tf (bt cell (Af hs k) = 1))), some (.int (tf (bt cell (Bf hs k) = 1))), some (.int (nI (Sf hs k))), none], M)) (φ := True) rfl trivial ?_
                refine sW_if_ne 91 d_Mo_cellOf_72 (by decide) (fun c_72 => ?_) (fun c_72 => ?_)
                · skip
                  replace c_72 := tf_nz.mp c_72
                  refine sW_go b_Mo_cellOf_91 (st' := ([.int (nI 1)], [some (.ref a), some (.int (nI told)), some (.int (nI cell)), some (.int (nI k)), some (.int (tf (bt cell (Af hs k) = 1))), some (.int (tf (bt cell (Bf hs k) = 1))), some (.int (nI (Sf hs k))), none], M)) (φ := True) rfl trivial ?_
                  refine sW_goto 96 d_Mo_cellOf_92 (by decide) ?_
                  refine sW_go b_Mo_cellOf_96 (st' := ([.int (nI 1), .int (nI cell)], [some (.ref a), some (.int (nI told)), some (.int (nI cell)), some (.int (nI k)), some (.int (tf (bt cell (Af hs k) = 1))), some (.int (tf (bt cell (Bf hs k) = 1))), some (.int (nI (Sf hs k))), some (.int (nI 1))], M)) (φ := True) rfl trivial ?_
                  refine sW_if_eq 110 d_Mo_cellOf_101 (by decide) (fun c_101 => ?_) (fun c_101 => ?_)
                  · skip
                    exact absurd c_101 (by decide +kernel)
                  · skip
                    simp (disch := omega) only [nI_z] at c_101
                    refine sW_go b_Mo_cellOf_104 (st' := ([.int (nI 1 <<< (nI k &&& 31)), .int (nI cell)], [some (.ref a), some (.int (nI told)), some (.int (nI cell)), some (.int (nI k)), some (.int (tf (bt cell (Af hs k) = 1))), some (.int (tf (bt cell (Bf hs k) = 1))), some (.int (nI (Sf hs k))), some (.int (nI 1))], M)) (φ := True) rfl trivial ?_
                    refine sW_eq (st' := ([.int (nI (1 * 2 ^ k)), .int (nI cell)], [some (.ref a), some (.int (nI told)), some (.int (nI cell)), some (.int (nI k)), some (.int (tf (bt cell (Af hs k) = 1))), some (.int (tf (bt cell (Bf hs k) = 1))), some (.int (nI (Sf hs k))), some (.int (nI 1))], M)) (by simp (disch := omega) only [q1]) ?_
                    refine sW_goto 111 d_Mo_cellOf_107 (by decide) ?_
                    refine sW_go b_Mo_cellOf_111 (st' := ([], [some (.ref a), some (.int (nI told)), some (.int (nI cell ||| nI (1 * 2 ^ k))), some (.int (nI k + nI 1)), some (.int (tf (bt cell (Af hs k) = 1))), some (.int (tf (bt cell (Bf hs k) = 1))), some (.int (nI (Sf hs k))), some (.int (nI 1))], M)) (φ := True) rfl trivial ?_
                    refine sW_eq (st' := ([], [some (.ref a), some (.int (nI told)), some (.int (nI (cell ||| (1 * 2 ^ k)))), some (.int (nI (k + 1))), some (.int (tf (bt cell (Af hs k) = 1))), some (.int (tf (bt cell (Bf hs k) = 1))), some (.int (nI (Sf hs k))), some (.int (nI 1))], M)) (by simp (disch := omega) only [nI_add, nx_or]) ?_
                    refine sW_goto 4 d_Mo_cellOf_116 (by decide) ?_
                    refine sW_fg [false, false, false, false, true, true, true, true] ?_
                    show sW G m_Mo_cellOf 4 ([], [some (.ref a), some (.int (nI told)), some (.int (nI (cell ||| (1 * 2 ^ k)))), some (.int (nI (k + 1))), none, none, none, none], M) _
                    first | exact ih (k + 1, _) (by dsimp only; omega) (by dsimp only; omega) (h1 (jb_1 b1 b2 (by omega))) | exact ih (k + 1, _) (by dsimp only; omega) (by dsimp only; omega) (h0 (jb_0 b1 b2 (by omega)))
                · skip
                  replace c_72 := tf_z.mp c_72
                  refine sW_go b_Mo_cellOf_75 (st' := ([.int (nI 5), .int (nI (Sf hs k))], [some (.ref a), some (.int (nI told)), some (.int (nI cell)), some (.int (nI k)), some (.int (tf (bt cell (Af hs k) = 1))), some (.int (tf (bt cell (Bf hs k) = 1))), some (.int (nI (Sf hs k))), none], M)) (φ := True) rfl trivial ?_
                  refine sW_ic_ne 95 d_Mo_cellOf_78 (by decide) (fun c_78 => ?_) (fun c_78 => ?_)
                  · skip
                    simp (disch := omega) only [nI_eq] at c_78
                    refine sW_go b_Mo_cellOf_95 (st' := ([.int (nI 0)], [some (.ref a), some (.int (nI told)), some (.int (nI cell)), some (.int (nI k)), some (.int (tf (bt cell (Af hs k) = 1))), some (.int (tf (bt cell (Bf hs k) = 1))), some (.int (nI (Sf hs k))), none], M)) (φ := True) rfl trivial ?_
                    refine sW_go b_Mo_cellOf_96 (st' := ([.int (nI 0), .int (nI cell)], [some (.ref a), some (.int (nI told)), some (.int (nI cell)), some (.int (nI k)), some (.int (tf (bt cell (Af hs k) = 1))), some (.int (tf (bt cell (Bf hs k) = 1))), some (.int (nI (Sf hs k))), some (.int (nI 0))], M)) (φ := True) rfl trivial ?_
                    refine sW_if_eq 110 d_Mo_cellOf_101 (by decide) (fun c_101 => ?_) (fun c_101 => ?_)
                    · skip
                      simp (disch := omega) only [nI_z] at c_101
                      refine sW_go b_Mo_cellOf_110 (st' := ([.int (nI 0), .int (nI cell)], [some (.ref a), some (.int (nI told)), some (.int (nI cell)), some (.int (nI k)), some (.int (tf (bt cell (Af hs k) = 1))), some (.int (tf (bt cell (Bf hs k) = 1))), some (.int (nI (Sf hs k))), some (.int (nI 0))], M)) (φ := True) rfl trivial ?_
                      refine sW_go b_Mo_cellOf_111 (st' := ([], [some (.ref a), some (.int (nI told)), some (.int (nI cell ||| nI 0)), some (.int (nI k + nI 1)), some (.int (tf (bt cell (Af hs k) = 1))), some (.int (tf (bt cell (Bf hs k) = 1))), some (.int (nI (Sf hs k))), some (.int (nI 0))], M)) (φ := True) rfl trivial ?_
                      refine sW_eq (st' := ([], [some (.ref a), some (.int (nI told)), some (.int (nI (cell ||| 0))), some (.int (nI (k + 1))), some (.int (tf (bt cell (Af hs k) = 1))), some (.int (tf (bt cell (Bf hs k) = 1))), some (.int (nI (Sf hs k))), some (.int (nI 0))], M)) (by simp (disch := omega) only [nI_add, nx_or]) ?_
                      refine sW_goto 4 d_Mo_cellOf_116 (by decide) ?_
                      refine sW_fg [false, false, false, false, true, true, true, true] ?_
                      show sW G m_Mo_cellOf 4 ([], [some (.ref a), some (.int (nI told)), some (.int (nI (cell ||| 0))), some (.int (nI (k + 1))), none, none, none, none], M) _
                      first | exact ih (k + 1, _) (by dsimp only; omega) (by dsimp only; omega) (h1 (jb_1 b1 b2 (by omega))) | exact ih (k + 1, _) (by dsimp only; omega) (by dsimp only; omega) (h0 (jb_0 b1 b2 (by omega)))
                    · skip
                      exact absurd (by decide +kernel) c_101
                  · skip
                    simp (disch := omega) only [nI_eq] at c_78
                    refine sW_go b_Mo_cellOf_81 (st' := ([.int (tf (bt cell (Af hs k) = 1))], [some (.ref a), some (.int (nI told)), some (.int (nI cell)), some (.int (nI k)), some (.int (tf (bt cell (Af hs k) = 1))), some (.int (tf (bt cell (Bf hs k) = 1))), some (.int (nI (Sf hs k))), none], M)) (φ := True) rfl trivial ?_
                    refine sW_if_eq 95 d_Mo_cellOf_83 (by decide) (fun c_83 => ?_) (fun c_83 => ?_)
                    · skip
                      replace c_83 := tf_z.mp c_83
                      refine sW_go b_Mo_cellOf_95 (st' := ([.int (nI 0)], [some (.ref a), some (.int (nI told)), some (.int (nI cell)), some (.int (nI k)), some (.int (tf (bt cell (Af hs k) = 1))), some (.int (tf (bt cell (Bf hs k) = 1))), some (.int (nI (Sf hs k))), none], M)) (φ := True) rfl trivial ?_
                      refine sW_go b_Mo_cellOf_96 (st' := ([.int (nI 0), .int (nI cell)], [some (.ref a), some (.int (nI told)), some (.int (nI cell)), some (.int (nI k)), some (.int (tf (bt cell (Af hs k) = 1))), some (.int (tf (bt cell (Bf hs k) = 1))), some (.int (nI (Sf hs k))), some (.int (nI 0))], M)) (φ := True) rfl trivial ?_
                      refine sW_if_eq 110 d_Mo_cellOf_101 (by decide) (fun c_101 => ?_) (fun c_101 => ?_)
                      · skip
                        simp (disch := omega) only [nI_z] at c_101
                        refine sW_go b_Mo_cellOf_110 (st' := ([.int (nI 0), .int (nI cell)], [some (.ref a), some (.int (nI told)), some (.int (nI cell)), some (.int (nI k)), some (.int (tf (bt cell (Af hs k) = 1))), some (.int (tf (bt cell (Bf hs k) = 1))), some (.int (nI (Sf hs k))), some (.int (nI 0))], M)) (φ := True) rfl trivial ?_
                        refine sW_go b_Mo_cellOf_111 (st' := ([], [some (.ref a), some (.int (nI told)), some (.int (nI cell ||| nI 0)), some (.int (nI k + nI 1)), some (.int (tf (bt cell (Af hs k) = 1))), some (.int (tf (bt cell (Bf hs k) = 1))), some (.int (nI (Sf hs k))), some (.int (nI 0))], M)) (φ := True) rfl trivial ?_
                        refine sW_eq (st' := ([], [some (.ref a), some (.int (nI told)), some (.int (nI (cell ||| 0))), some (.int (nI (k + 1))), some (.int (tf (bt cell (Af hs k) = 1))), some (.int (tf (bt cell (Bf hs k) = 1))), some (.int (nI (Sf hs k))), some (.int (nI 0))], M)) (by simp (disch := omega) only [nI_add, nx_or]) ?_
                        refine sW_goto 4 d_Mo_cellOf_116 (by decide) ?_
                        refine sW_fg [false, false, false, false, true, true, true, true] ?_
                        show sW G m_Mo_cellOf 4 ([], [some (.ref a), some (.int (nI told)), some (.int (nI (cell ||| 0))), some (.int (nI (k + 1))), none, none, none, none], M) _
                        first | exact ih (k + 1, _) (by dsimp only; omega) (by dsimp only; omega) (h1 (jb_1 b1 b2 (by omega))) | exact ih (k + 1, _) (by dsimp only; omega) (by dsimp only; omega) (h0 (jb_0 b1 b2 (by omega)))
                      · skip
                        exact absurd (by decide +kernel) c_101
                    · skip
                      replace c_83 := tf_nz.mp c_83
                      refine sW_go b_Mo_cellOf_86 (st' := ([.int (tf (bt cell (Bf hs k) = 1))], [some (.ref a), some (.int (nI told)), some (.int (nI cell)), some (.int (nI k)), some (.int (tf (bt cell (Af hs k) = 1))), some (.int (tf (bt cell (Bf hs k) = 1))), some (.int (nI (Sf hs k))), none], M)) (φ := True) rfl trivial ?_
                      refine sW_if_ne 95 d_Mo_cellOf_88 (by decide) (fun c_88 => ?_) (fun c_88 => ?_)
                      · skip
                        replace c_88 := tf_nz.mp c_88
                        refine sW_go b_Mo_cellOf_95 (st' := ([.int (nI 0)], [some (.ref a), some (.int (nI told)), some (.int (nI cell)), some (.int (nI k)), some (.int (tf (bt cell (Af hs k) = 1))), some (.int (tf (bt cell (Bf hs k) = 1))), some (.int (nI (Sf hs k))), none], M)) (φ := True) rfl trivial ?_
                        refine sW_go b_Mo_cellOf_96 (st' := ([.int (nI 0), .int (nI cell)], [some (.ref a), some (.int (nI told)), some (.int (nI cell)), some (.int (nI k)), some (.int (tf (bt cell (Af hs k) = 1))), some (.int (tf (bt cell (Bf hs k) = 1))), some (.int (nI (Sf hs k))), some (.int (nI 0))], M)) (φ := True) rfl trivial ?_
                        refine sW_if_eq 110 d_Mo_cellOf_101 (by decide) (fun c_101 => ?_) (fun c_101 => ?_)
                        · skip
                          simp (disch := omega) only [nI_z] at c_101
                          refine sW_go b_Mo_cellOf_110 (st' := ([.int (nI 0), .int (nI cell)], [some (.ref a), some (.int (nI told)), some (.int (nI cell)), some (.int (nI k)), some (.int (tf (bt cell (Af hs k) = 1))), some (.int (tf (bt cell (Bf hs k) = 1))), some (.int (nI (Sf hs k))), some (.int (nI 0))], M)) (φ := True) rfl trivial ?_
                          refine sW_go b_Mo_cellOf_111 (st' := ([], [some (.ref a), some (.int (nI told)), some (.int (nI cell ||| nI 0)), some (.int (nI k + nI 1)), some (.int (tf (bt cell (Af hs k) = 1))), some (.int (tf (bt cell (Bf hs k) = 1))), some (.int (nI (Sf hs k))), some (.int (nI 0))], M)) (φ := True) rfl trivial ?_
                          refine sW_eq (st' := ([], [some (.ref a), some (.int (nI told)), some (.int (nI (cell ||| 0))), some (.int (nI (k + 1))), some (.int (tf (bt cell (Af hs k) = 1))), some (.int (tf (bt cell (Bf hs k) = 1))), some (.int (nI (Sf hs k))), some (.int (nI 0))], M)) (by simp (disch := omega) only [nI_add, nx_or]) ?_
                          refine sW_goto 4 d_Mo_cellOf_116 (by decide) ?_
                          refine sW_fg [false, false, false, false, true, true, true, true] ?_
                          show sW G m_Mo_cellOf 4 ([], [some (.ref a), some (.int (nI told)), some (.int (nI (cell ||| 0))), some (.int (nI (k + 1))), none, none, none, none], M) _
                          first | exact ih (k + 1, _) (by dsimp only; omega) (by dsimp only; omega) (h1 (jb_1 b1 b2 (by omega))) | exact ih (k + 1, _) (by dsimp only; omega) (by dsimp only; omega) (h0 (jb_0 b1 b2 (by omega)))
                        · skip
                          exact absurd (by decide +kernel) c_101
                      · skip
                        replace c_88 := tf_z.mp c_88
                        refine sW_go b_Mo_cellOf_91 (st' := ([.int (nI 1)], [some (.ref a), some (.int (nI told)), some (.int (nI cell)), some (.int (nI k)), some (.int (tf (bt cell (Af hs k) = 1))), some (.int (tf (bt cell (Bf hs k) = 1))), some (.int (nI (Sf hs k))), none], M)) (φ := True) rfl trivial ?_
                        refine sW_goto 96 d_Mo_cellOf_92 (by decide) ?_
                        refine sW_go b_Mo_cellOf_96 (st' := ([.int (nI 1), .int (nI cell)], [some (.ref a), some (.int (nI told)), some (.int (nI cell)), some (.int (nI k)), some (.int (tf (bt cell (Af hs k) = 1))), some (.int (tf (bt cell (Bf hs k) = 1))), some (.int (nI (Sf hs k))), some (.int (nI 1))], M)) (φ := True) rfl trivial ?_
                        refine sW_if_eq 110 d_Mo_cellOf_101 (by decide) (fun c_101 => ?_) (fun c_101 => ?_)
                        · skip
                          exact absurd c_101 (by decide +kernel)
                        · skip
                          simp (disch := omega) only [nI_z] at c_101
                          refine sW_go b_Mo_cellOf_104 (st' := ([.int (nI 1 <<< (nI k &&& 31)), .int (nI cell)], [some (.ref a), some (.int (nI told)), some (.int (nI cell)), some (.int (nI k)), some (.int (tf (bt cell (Af hs k) = 1))), some (.int (tf (bt cell (Bf hs k) = 1))), some (.int (nI (Sf hs k))), some (.int (nI 1))], M)) (φ := True) rfl trivial ?_
                          refine sW_eq (st' := ([.int (nI (1 * 2 ^ k)), .int (nI cell)], [some (.ref a), some (.int (nI told)), some (.int (nI cell)), some (.int (nI k)), some (.int (tf (bt cell (Af hs k) = 1))), some (.int (tf (bt cell (Bf hs k) = 1))), some (.int (nI (Sf hs k))), some (.int (nI 1))], M)) (by simp (disch := omega) only [q1]) ?_
                          refine sW_goto 111 d_Mo_cellOf_107 (by decide) ?_
                          refine sW_go b_Mo_cellOf_111 (st' := ([], [some (.ref a), some (.int (nI told)), some (.int (nI cell ||| nI (1 * 2 ^ k))), some (.int (nI k + nI 1)), some (.int (tf (bt cell (Af hs k) = 1))), some (.int (tf (bt cell (Bf hs k) = 1))), some (.int (nI (Sf hs k))), some (.int (nI 1))], M)) (φ := True) rfl trivial ?_
                          refine sW_eq (st' := ([], [some (.ref a), some (.int (nI told)), some (.int (nI (cell ||| (1 * 2 ^ k)))), some (.int (nI (k + 1))), some (.int (tf (bt cell (Af hs k) = 1))), some (.int (tf (bt cell (Bf hs k) = 1))), some (.int (nI (Sf hs k))), some (.int (nI 1))], M)) (by simp (disch := omega) only [nI_add, nx_or]) ?_
                          refine sW_goto 4 d_Mo_cellOf_116 (by decide) ?_
                          refine sW_fg [false, false, false, false, true, true, true, true] ?_
                          show sW G m_Mo_cellOf 4 ([], [some (.ref a), some (.int (nI told)), some (.int (nI (cell ||| (1 * 2 ^ k)))), some (.int (nI (k + 1))), none, none, none, none], M) _
                          first | exact ih (k + 1, _) (by dsimp only; omega) (by dsimp only; omega) (h1 (jb_1 b1 b2 (by omega))) | exact ih (k + 1, _) (by dsimp only; omega) (by dsimp only; omega) (h0 (jb_0 b1 b2 (by omega)))
  · have hke : k = hs.1 := by omega
    refine sW_go b_Mo_cellOf_4 (st' := ([.int (M a (nI 0).toNatClampNeg), .int (nI k)], [some (.ref a), some (.int (nI told)), some (.int (nI cell)), some (.int (nI k)), none, none, none, none], M)) (φ := vp_in (nI 0) (mx_len LAY false a) ∧ True) rfl ⟨(by simp (disch := omega) only [hl]; exact vp_in_nI (by omega) (by decide)), trivial⟩ ?_
    refine sW_eq (st' := ([.int (nI hs.1), .int (nI k)], [some (.ref a), some (.int (nI told)), some (.int (nI cell)), some (.int (nI k)), none, none, none, none], M)) (by simp (disch := omega) only [e0, nI_clamp]) ?_
    refine sW_ic_ge 119 d_Mo_cellOf_8 (by decide) (fun c_8 => ?_) (fun c_8 => ?_)
    · skip
      simp (disch := omega) only [nI_leI] at c_8
      refine sW_go b_Mo_cellOf_119 (st' := ([.int (nI cell)], [some (.ref a), some (.int (nI told)), some (.int (nI cell)), some (.int (nI k)), none, none, none, none], M)) (φ := True) rfl trivial ?_
      refine sW_retI d_Mo_cellOf_120 rfl (vp_nar_int _) ?_
      exact ⟨by rw [hc, hke]; rfl, rfl⟩
    · skip
      simp (disch := omega) only [nI_leI] at c_8
      exact absurd c_8 (by omega)

