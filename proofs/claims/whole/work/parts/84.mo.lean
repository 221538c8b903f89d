/-! ===== the model: cells of values ===== -/
def qP0 (hs : Hs) (x k : Nat) : Prop := Sf hs k = 0 ∧ Af hs k ≤ x ∧ x ≤ Bf hs k
def qP1 (hs : Hs) (x y k : Nat) : Prop := Sf hs k = 1 ∧ bt x (Af hs k) = 1 ∧ bt y (Bf hs k) = 1
def qP2 (hs : Hs) (v k : Nat) : Prop := Sf hs k = 2 ∧ ¬ bt v k = 1
def qP3 (hs : Hs) (x k : Nat) : Prop := Sf hs k = 2 ∧ bt x (Af hs k) = 1
def qP4 (hs : Hs) (x y k : Nat) : Prop := Sf hs k = 2 ∧ bt x (Af hs k) = 1 ∧ ¬ bt y (Bf hs k) = 1
theorem qP0_e (hs : Hs) (x n : Nat) : mkN (qP0 hs x) n = bsum (spanB hs x) n := bt_ext (fun k => by
  rw [mkN_bt, bsum_bt (spanB_le hs x)]
  unfold qP0 spanB
  by_cases q : Sf hs k = 0 ∧ Af hs k ≤ x ∧ x ≤ Bf hs k
  · rw [if_pos q]; exact ⟨fun w => ⟨w.1, rfl⟩, fun w => ⟨w.1, q⟩⟩
  · rw [if_neg q]; exact ⟨fun w => absurd w.2 q, fun w => absurd w.2 (by decide)⟩)
theorem lftB_1 (hs : Hs) (t x k : Nat) : lftB hs t x k = 1 ↔ Sf hs k = t ∧ bt x (Af hs k) = 1 := by
  unfold lftB
  by_cases q : Sf hs k = t
  · rw [if_pos q]; exact ⟨fun w => ⟨q, w⟩, fun w => w.2⟩
  · rw [if_neg q]; exact ⟨fun w => absurd w (by decide), fun w => absurd w.1 q⟩
theorem rgtB_1 (hs : Hs) (t x k : Nat) : rgtB hs t x k = 1 ↔ Sf hs k = t ∧ bt x (Bf hs k) = 1 := by
  unfold rgtB
  by_cases q : Sf hs k = t
  · rw [if_pos q]; exact ⟨fun w => ⟨q, w⟩, fun w => w.2⟩
  · rw [if_neg q]; exact ⟨fun w => absurd w (by decide), fun w => absurd w.1 q⟩
theorem qP1_e (hs : Hs) (x y : Nat) : mkN (qP1 hs x y) hs.1 = L1 hs x &&& R1 hs y := bt_ext (fun k => by
  unfold L1 R1
  rw [mkN_bt, bt_and, bsum_bt (lftB_le hs 1 x), bsum_bt (rgtB_le hs 1 y), lftB_1, rgtB_1]
  unfold qP1
  exact ⟨fun w => ⟨⟨w.1, w.2.1, w.2.2.1⟩, w.1, w.2.1, w.2.2.2⟩, fun w => ⟨w.1.1, w.1.2.1, w.1.2.2, w.2.2.2⟩⟩)
theorem qP2_e (hs : Hs) (v : Nat) : mkN (qP2 hs v) hs.1 = andn (bsum (sortB hs 2) hs.1) v := bt_ext (fun k => by
  have h2 := AR_bt hs k
  unfold AR at h2
  rw [mkN_bt, bt_andn, h2]
  unfold qP2
  exact ⟨fun w => ⟨⟨w.1, w.2.1⟩, w.2.2⟩, fun w => ⟨w.1.1, w.1.2, w.2⟩⟩)
theorem qP3_e (hs : Hs) (x : Nat) : mkN (qP3 hs x) hs.1 = L2 hs x := bt_ext (fun k => by
  unfold L2
  rw [mkN_bt, bsum_bt (lftB_le hs 2 x), lftB_1]
  rfl)
theorem qP4_e (hs : Hs) (x y : Nat) : mkN (qP4 hs x y) hs.1 = andn (L2 hs x) (R2 hs y) := bt_ext (fun k => by
  unfold L2 R2
  rw [mkN_bt, bt_andn, bsum_bt (lftB_le hs 2 x), bsum_bt (rgtB_le hs 2 y), lftB_1, rgtB_1]
  unfold qP4
  exact ⟨fun w => ⟨⟨w.1, w.2.1, w.2.2.1⟩, fun z => w.2.2.2 z.2.2⟩, fun w => ⟨w.1.1, w.1.2.1, w.1.2.2, fun z => w.2 ⟨w.1.1, w.1.2.1, z⟩⟩⟩)
theorem k_inNN (G : mx_G) {M : mx_M} {t lo hi : Nat} (ht : t < 2 ^ 31) (hl : lo < 2 ^ 31) (hn : hi < 2 ^ 31) : sOk G m_Mo_in [.long (nI t).toInt64, .long (nI lo).toInt64, .long (nI hi).toInt64] M (fun r M' => r = some (.int (tf (lo ≤ t ∧ t ≤ hi))) ∧ M' = M) := k_inP G (by
  rw [i2l_ti, i2l_ti, i2l_ti, nI_toInt ht, nI_toInt hl, nI_toInt hn]
  omega)
theorem k_mconst (G : mx_G) {M : mx_M} {a x : Nat} {hs : Hs} (hl : mx_len LAY false a = 26) (h : RowAt M a 0 hs) (hw : WHs hs) (hx : x < 4) : sOk G m_Mo_constantCell [.ref a, .int (nI x)] M (fun r M' => r = some (.int (nI (constCell hs x))) ∧ M' = M) := by
  have e0 := h.n
  have w1 := hw.1.1
  refine sOk_of ⟨by decide +kernel, by decide +kernel, Nat.le_of_ble_eq_true rfl⟩ ?_
  show sW G m_Mo_constantCell 0 ([], [some (.ref a), some (.int (nI x)), none, none], M) _
  refine sW_go b_Mo_constantCell_0 (st' := ([], [some (.ref a), some (.int (nI x)), some (.int (nI 0)), some (.int (nI 0))], M)) (φ := True) rfl trivial ?_
  refine mx_ind (α := Nat) (fun k => hs.1 - k) (fun k => k ≤ hs.1 → sW G m_Mo_constantCell 4 ([], [some (.ref a), some (.int (nI x)), some (.int (nI (mkN (qP0 hs x) k))), some (.int (nI k))], M) _) ?_ 0 (Nat.zero_le _)
  intro k ih hk
  have hlt := mkN_lt (qP0 hs x) (n := k) (by omega)
  by_cases hkn : k < hs.1
  · obtain ⟨y1, y2, y3⟩ := hw.le k
    have k8 : k < 8 := by omega
    have q1 : nI 1 <<< (nI k &&& 31) = nI (1 * 2 ^ k) := sh_1 k8
    refine sW_go b_Mo_constantCell_4 (st' := ([.int (M a (nI 0).toNatClampNeg), .int (nI k)], [some (.ref a), some (.int (nI x)), some (.int (nI (mkN (qP0 hs x) k))), some (.int (nI k))], M)) (φ := vp_in (nI 0) (mx_len LAY false a) ∧ True) rfl ⟨(by simp (disch := omega) only [hl]; exact vp_in_nI (by omega) (by decide)), trivial⟩ ?_
    refine sW_eq (st' := ([.int (nI hs.1), .int (nI k)], [some (.ref a), some (.int (nI x)), some (.int (nI (mkN (qP0 hs x) k))), some (.int (nI k))], M)) (by simp (disch := omega) only [e0, nI_clamp]) ?_
    refine sW_ic_ge 58 d_Mo_constantCell_8 (by decide) (fun c_8 => ?_) (fun c_8 => ?_)
    · skip
      simp (disch := omega) only [nI_leI] at c_8
      omega
    · skip
      simp (disch := omega) only [nI_leI] at c_8
      refine sW_go b_Mo_constantCell_11 (st' := ([.int (nI 0), .int (nI k), .ref a, .int (nI (mkN (qP0 hs x) k))], [some (.ref a), some (.int (nI x)), some (.int (nI (mkN (qP0 hs x) k))), some (.int (nI k))], M)) (φ := True) rfl trivial ?_
      refine sW_callS [.ref a, .int (nI k), .int (nI 0)] [.int (nI (mkN (qP0 hs x) k))] d_Mo_constantCell_15 c_Mo_constantCell_15 ⟨rfl, rfl, Nat.le_of_ble_eq_true rfl, rfl, rfl⟩ (k_ofS G hl h k8) ?_
      rintro _ M₁ ⟨rfl, h₁⟩
      rw [h₁]
      show sW G m_Mo_constantCell 18 ([.int (nI (Sf hs k)), .int (nI (mkN (qP0 hs x) k))], [some (.ref a), some (.int (nI x)), some (.int (nI (mkN (qP0 hs x) k))), some (.int (nI k))], M) _
      refine sW_if_ne 49 d_Mo_constantCell_18 (by decide) (fun c_18 => ?_) (fun c_18 => ?_)
      · skip
        simp (disch := omega) only [nI_z] at c_18
        refine sW_go b_Mo_constantCell_49 (st' := ([.int (nI 0), .int (nI (mkN (qP0 hs x) k))], [some (.ref a), some (.int (nI x)), some (.int (nI (mkN (qP0 hs x) k))), some (.int (nI k))], M)) (φ := True) rfl trivial ?_
        refine sW_go b_Mo_constantCell_50 (st' := ([], [some (.ref a), some (.int (nI x)), some (.int (nI (mkN (qP0 hs x) k) ||| nI 0)), some (.int (nI k + nI 1))], M)) (φ := True) rfl trivial ?_
        refine sW_eq (st' := ([], [some (.ref a), some (.int (nI x)), some (.int (nI (mkN (qP0 hs x) k ||| 0))), some (.int (nI (k + 1)))], M)) (by simp (disch := omega) only [nI_add, nx_or]) ?_
        refine sW_goto 4 d_Mo_constantCell_55 (by decide) ?_
        first | (rw [mkN_1 (P := qP0 hs x) (by unfold qP0; omega)]; exact ih (k + 1) (by omega) (by omega)) | (rw [mkN_0 (P := qP0 hs x) (by unfold qP0; omega)]; exact ih (k + 1) (by omega) (by omega))
      · skip
        simp (disch := omega) only [nI_z] at c_18
        refine sW_go b_Mo_constantCell_21 (st' := ([.int (nI 1), .int (nI k), .ref a, .long (nI x).toInt64, .int (nI (mkN (qP0 hs x) k))], [some (.ref a), some (.int (nI x)), some (.int (nI (mkN (qP0 hs x) k))), some (.int (nI k))], M)) (φ := True) rfl trivial ?_
        refine sW_callS [.ref a, .int (nI k), .int (nI 1)] [.long (nI x).toInt64, .int (nI (mkN (qP0 hs x) k))] d_Mo_constantCell_26 c_Mo_constantCell_26 ⟨rfl, rfl, Nat.le_of_ble_eq_true rfl, rfl, rfl⟩ (k_ofA G hl h k8) ?_
        rintro _ M₁ ⟨rfl, h₁⟩
        rw [h₁]
        show sW G m_Mo_constantCell 29 ([.int (nI (Af hs k)), .long (nI x).toInt64, .int (nI (mkN (qP0 hs x) k))], [some (.ref a), some (.int (nI x)), some (.int (nI (mkN (qP0 hs x) k))), some (.int (nI k))], M) _
        refine sW_go b_Mo_constantCell_29 (st' := ([.int (nI 2), .int (nI k), .ref a, .long (nI (Af hs k)).toInt64, .long (nI x).toInt64, .int (nI (mkN (qP0 hs x) k))], [some (.ref a), some (.int (nI x)), some (.int (nI (mkN (qP0 hs x) k))), some (.int (nI k))], M)) (φ := True) rfl trivial ?_
        refine sW_callS [.ref a, .int (nI k), .int (nI 2)] [.long (nI (Af hs k)).toInt64, .long (nI x).toInt64, .int (nI (mkN (qP0 hs x) k))] d_Mo_constantCell_33 c_Mo_constantCell_33 ⟨rfl, rfl, Nat.le_of_ble_eq_true rfl, rfl, rfl⟩ (k_ofB G hl h k8) ?_
        rintro _ M₁ ⟨rfl, h₁⟩
        rw [h₁]
        show sW G m_Mo_constantCell 36 ([.int (nI (Bf hs k)), .long (nI (Af hs k)).toInt64, .long (nI x).toInt64, .int (nI (mkN (qP0 hs x) k))], [some (.ref a), some (.int (nI x)), some (.int (nI (mkN (qP0 hs x) k))), some (.int (nI k))], M) _
        refine sW_go b_Mo_constantCell_36 (st' := ([.long (nI (Bf hs k)).toInt64, .long (nI (Af hs k)).toInt64, .long (nI x).toInt64, .int (nI (mkN (qP0 hs x) k))], [some (.ref a), some (.int (nI x)), some (.int (nI (mkN (qP0 hs x) k))), some (.int (nI k))], M)) (φ := True) rfl trivial ?_
        refine sW_callS [.long (nI x).toInt64, .long (nI (Af hs k)).toInt64, .long (nI (Bf hs k)).toInt64] [.int (nI (mkN (qP0 hs x) k))] d_Mo_constantCell_37 c_Mo_constantCell_37 ⟨rfl, rfl, Nat.le_of_ble_eq_true rfl, rfl, rfl⟩ (k_inNN G (by omega) (by omega) (by omega)) ?_
        rintro _ M₁ ⟨rfl, h₁⟩
        rw [h₁]
        show sW G m_Mo_constantCell 40 ([.int (tf (Af hs k ≤ x ∧ x ≤ Bf hs k)), .int (nI (mkN (qP0 hs x) k))], [some (.ref a), some (.int (nI x)), some (.int (nI (mkN (qP0 hs x) k))), some (.int (nI k))], M) _
        refine sW_if_eq 49 d_Mo_constantCell_40 (by decide) (fun c_40 => ?_) (fun c_40 => ?_)
        · skip
          replace c_40 := tf_z.mp c_40
          refine sW_go b_Mo_constantCell_49 (st' := ([.int (nI 0), .int (nI (mkN (qP0 hs x) k))], [some (.ref a), some (.int (nI x)), some (.int (nI (mkN (qP0 hs x) k))), some (.int (nI k))], M)) (φ := True) rfl trivial ?_
          refine sW_go b_Mo_constantCell_50 (st' := ([], [some (.ref a), some (.int (nI x)), some (.int (nI (mkN (qP0 hs x) k) ||| nI 0)), some (.int (nI k + nI 1))], M)) (φ := True) rfl trivial ?_
          refine sW_eq (st' := ([], [some (.ref a), some (.int (nI x)), some (.int (nI (mkN (qP0 hs x) k ||| 0))), some (.int (nI (k + 1)))], M)) (by simp (disch := omega) only [nI_add, nx_or]) ?_
          refine sW_goto 4 d_Mo_constantCell_55 (by decide) ?_
          first | (rw [mkN_1 (P := qP0 hs x) (by unfold qP0; omega)]; exact ih (k + 1) (by omega) (by omega)) | (rw [mkN_0 (P := qP0 hs x) (by unfold qP0; omega)]; exact ih (k + 1) (by omega) (by omega))
        · skip
          replace c_40 := tf_nz.mp c_40
          refine sW_go b_Mo_constantCell_43 (st' := ([.int (nI 1 <<< (nI k &&& 31)), .int (nI (mkN (qP0 hs x) k))], [some (.ref a), some (.int (nI x)), some (.int (nI (mkN (qP0 hs x) k))), some (.int (nI k))], M)) (φ := True) rfl trivial ?_
          refine sW_eq (st' := ([.int (nI (1 * 2 ^ k)), .int (nI (mkN (qP0 hs x) k))], [some (.ref a), some (.int (nI x)), some (.int (nI (mkN (qP0 hs x) k))), some (.int (nI k))], M)) (by simp (disch := omega) only [q1]) ?_
          refine sW_goto 50 d_Mo_constantCell_46 (by decide) ?_
          refine sW_go b_Mo_constantCell_50 (st' := ([], [some (.ref a), some (.int (nI x)), some (.int (nI (mkN (qP0 hs x) k) ||| nI (1 * 2 ^ k))), some (.int (nI k + nI 1))], M)) (φ := True) rfl trivial ?_
          refine sW_eq (st' := ([], [some (.ref a), some (.int (nI x)), some (.int (nI (mkN (qP0 hs x) k ||| (1 * 2 ^ k)))), some (.int (nI (k + 1)))], M)) (by simp (disch := omega) only [nI_add, nx_or]) ?_
          refine sW_goto 4 d_Mo_constantCell_55 (by decide) ?_
          first | (rw [mkN_1 (P := qP0 hs x) (by unfold qP0; omega)]; exact ih (k + 1) (by omega) (by omega)) | (rw [mkN_0 (P := qP0 hs x) (by unfold qP0; omega)]; exact ih (k + 1) (by omega) (by omega))
  · have hke : k = hs.1 := by omega
    subst hke
    refine sW_go b_Mo_constantCell_4 (st' := ([.int (M a (nI 0).toNatClampNeg), .int (nI hs.1)], [some (.ref a), some (.int (nI x)), some (.int (nI (mkN (qP0 hs x) hs.1))), some (.int (nI hs.1))], M)) (φ := vp_in (nI 0) (mx_len LAY false a) ∧ True) rfl ⟨(by simp (disch := omega) only [hl]; exact vp_in_nI (by omega) (by decide)), trivial⟩ ?_
    refine sW_eq (st' := ([.int (nI hs.1), .int (nI hs.1)], [some (.ref a), some (.int (nI x)), some (.int (nI (mkN (qP0 hs x) hs.1))), some (.int (nI hs.1))], M)) (by simp (disch := omega) only [e0, nI_clamp]) ?_
    refine sW_ic_ge 58 d_Mo_constantCell_8 (by decide) (fun c_8 => ?_) (fun c_8 => ?_)
    · skip
      simp (disch := omega) only [nI_leI] at c_8
      refine sW_go b_Mo_constantCell_58 (st' := ([.int (nI (mkN (qP0 hs x) hs.1)), .ref a], [some (.ref a), some (.int (nI x)), some (.int (nI (mkN (qP0 hs x) hs.1))), some (.int (nI hs.1))], M)) (φ := True) rfl trivial ?_
      refine sW_callS [.ref a, .int (nI (mkN (qP0 hs x) hs.1))] [] d_Mo_constantCell_60 c_Mo_constantCell_60 ⟨rfl, rfl, Nat.le_of_ble_eq_true rfl, rfl, rfl⟩ (k_mcellOf G hl h hw hlt) ?_
      rintro _ M₁ ⟨rfl, h₁⟩
      rw [h₁]
      show sW G m_Mo_constantCell 63 ([.int (nI (cellOf hs (mkN (qP0 hs x) hs.1)))], [some (.ref a), some (.int (nI x)), some (.int (nI (mkN (qP0 hs x) hs.1))), some (.int (nI hs.1))], M) _
      refine sW_retI d_Mo_constantCell_63 rfl (vp_nar_int _) ?_
      exact ⟨by rw [qP0_e]; rfl, rfl⟩
    · skip
      simp (disch := omega) only [nI_leI] at c_8
      omega
theorem k_mpair (G : mx_G) {M : mx_M} {a x y : Nat} {hs : Hs} (hl : mx_len LAY false a = 26) (h : RowAt M a 0 hs) (hw : WHs hs) (hx : x < 256) (hy : y < 256) : sOk G m_Mo_pairCell [.ref a, .int (nI x), .int (nI y)] M (fun r M' => r = some (.int (nI (pairC hs x y))) ∧ M' = M) := by
  have e0 := h.n
  have w1 := hw.1.1
  refine sOk_of ⟨by decide +kernel, by decide +kernel, Nat.le_of_ble_eq_true rfl⟩ ?_
  show sW G m_Mo_pairCell 0 ([], [some (.ref a), some (.int (nI x)), some (.int (nI y)), none, none], M) _
  refine sW_go b_Mo_pairCell_0 (st' := ([], [some (.ref a), some (.int (nI x)), some (.int (nI y)), some (.int (nI 0)), some (.int (nI 0))], M)) (φ := True) rfl trivial ?_
  refine mx_ind (α := Nat) (fun k => hs.1 - k) (fun k => k ≤ hs.1 → sW G m_Mo_pairCell 5 ([], [some (.ref a), some (.int (nI x)), some (.int (nI y)), some (.int (nI (mkN (qP1 hs x y) k))), some (.int (nI k))], M) _) ?_ 0 (Nat.zero_le _)
  intro k ih hk
  have hlt := mkN_lt (qP1 hs x y) (n := k) (by omega)
  by_cases hkn : k < hs.1
  · obtain ⟨y1, y2, y3⟩ := hw.le k
    have k8 : k < 8 := by omega
    have q1 : nI 1 <<< (nI k &&& 31) = nI (1 * 2 ^ k) := sh_1 k8
    refine sW_go b_Mo_pairCell_5 (st' := ([.int (M a (nI 0).toNatClampNeg), .int (nI k)], [some (.ref a), some (.int (nI x)), some (.int (nI y)), some (.int (nI (mkN (qP1 hs x y) k))), some (.int (nI k))], M)) (φ := vp_in (nI 0) (mx_len LAY false a) ∧ True) rfl ⟨(by simp (disch := omega) only [hl]; exact vp_in_nI (by omega) (by decide)), trivial⟩ ?_
    refine sW_eq (st' := ([.int (nI hs.1), .int (nI k)], [some (.ref a), some (.int (nI x)), some (.int (nI y)), some (.int (nI (mkN (qP1 hs x y) k))), some (.int (nI k))], M)) (by simp (disch := omega) only [e0, nI_clamp]) ?_
    refine sW_ic_ge 69 d_Mo_pairCell_10 (by decide) (fun c_10 => ?_) (fun c_10 => ?_)
    · skip
      simp (disch := omega) only [nI_leI] at c_10
      omega
    · skip
      simp (disch := omega) only [nI_leI] at c_10
      refine sW_go b_Mo_pairCell_13 (st' := ([.int (nI 0), .int (nI k), .ref a, .int (nI (mkN (qP1 hs x y) k))], [some (.ref a), some (.int (nI x)), some (.int (nI y)), some (.int (nI (mkN (qP1 hs x y) k))), some (.int (nI k))], M)) (φ := True) rfl trivial ?_
      refine sW_callS [.ref a, .int (nI k), .int (nI 0)] [.int (nI (mkN (qP1 hs x y) k))] d_Mo_pairCell_18 c_Mo_pairCell_18 ⟨rfl, rfl, Nat.le_of_ble_eq_true rfl, rfl, rfl⟩ (k_ofS G hl h k8) ?_
      rintro _ M₁ ⟨rfl, h₁⟩
      rw [h₁]
      show sW G m_Mo_pairCell 21 ([.int (nI (Sf hs k)), .int (nI (mkN (qP1 hs x y) k))], [some (.ref a), some (.int (nI x)), some (.int (nI y)), some (.int (nI (mkN (qP1 hs x y) k))), some (.int (nI k))], M) _
      refine sW_go b_Mo_pairCell_21 (st' := ([.int (nI 1), .int (nI (Sf hs k)), .int (nI (mkN (qP1 hs x y) k))], [some (.ref a), some (.int (nI x)), some (.int (nI y)), some (.int (nI (mkN (qP1 hs x y) k))), some (.int (nI k))], M)) (φ := True) rfl trivial ?_
      refine sW_ic_ne 60 d_Mo_pairCell_22 (by decide) (fun c_22 => ?_) (fun c_22 => ?_)
      · skip
        simp (disch := omega) only [nI_eq] at c_22
        refine sW_go b_Mo_pairCell_60 (st' := ([.int (nI 0), .int (nI (mkN (qP1 hs x y) k))], [some (.ref a), some (.int (nI x)), some (.int (nI y)), some (.int (nI (mkN (qP1 hs x y) k))), some (.int (nI k))], M)) (φ := True) rfl trivial ?_
        refine sW_go b_Mo_pairCell_61 (st' := ([], [some (.ref a), some (.int (nI x)), some (.int (nI y)), some (.int (nI (mkN (qP1 hs x y) k) ||| nI 0)), some (.int (nI k + nI 1))], M)) (φ := True) rfl trivial ?_
        refine sW_eq (st' := ([], [some (.ref a), some (.int (nI x)), some (.int (nI y)), some (.int (nI (mkN (qP1 hs x y) k ||| 0))), some (.int (nI (k + 1)))], M)) (by simp (disch := omega) only [nI_add, nx_or]) ?_
        refine sW_goto 5 d_Mo_pairCell_66 (by decide) ?_
        first | (rw [mkN_1 (P := qP1 hs x y) (by unfold qP1; omega)]; exact ih (k + 1) (by omega) (by omega)) | (rw [mkN_0 (P := qP1 hs x y) (by unfold qP1; omega)]; exact ih (k + 1) (by omega) (by omega))
      · skip
        simp (disch := omega) only [nI_eq] at c_22
        refine sW_go b_Mo_pairCell_25 (st' := ([.int (nI 1), .int (nI k), .ref a, .int (nI x), .int (nI (mkN (qP1 hs x y) k))], [some (.ref a), some (.int (nI x)), some (.int (nI y)), some (.int (nI (mkN (qP1 hs x y) k))), some (.int (nI k))], M)) (φ := True) rfl trivial ?_
        refine sW_callS [.ref a, .int (nI k), .int (nI 1)] [.int (nI x), .int (nI (mkN (qP1 hs x y) k))] d_Mo_pairCell_30 c_Mo_pairCell_30 ⟨rfl, rfl, Nat.le_of_ble_eq_true rfl, rfl, rfl⟩ (k_ofA G hl h k8) ?_
        rintro _ M₁ ⟨rfl, h₁⟩
        rw [h₁]
        show sW G m_Mo_pairCell 33 ([.int (nI (Af hs k)), .int (nI x), .int (nI (mkN (qP1 hs x y) k))], [some (.ref a), some (.int (nI x)), some (.int (nI y)), some (.int (nI (mkN (qP1 hs x y) k))), some (.int (nI k))], M) _
        refine sW_callS [.int (nI x), .int (nI (Af hs k))] [.int (nI (mkN (qP1 hs x y) k))] d_Mo_pairCell_33 c_Mo_pairCell_33 ⟨rfl, rfl, Nat.le_of_ble_eq_true rfl, rfl, rfl⟩ (k_has G (by omega) (by omega)) ?_
        rintro _ M₁ ⟨rfl, h₁⟩
        rw [h₁]
        show sW G m_Mo_pairCell 36 ([.int (tf (bt x (Af hs k) = 1)), .int (nI (mkN (qP1 hs x y) k))], [some (.ref a), some (.int (nI x)), some (.int (nI y)), some (.int (nI (mkN (qP1 hs x y) k))), some (.int (nI k))], M) _
        refine sW_if_eq 60 d_Mo_pairCell_36 (by decide) (fun c_36 => ?_) (fun c_36 => ?_)
        · skip
          replace c_36 := tf_z.mp c_36
          refine sW_go b_Mo_pairCell_60 (st' := ([.int (nI 0), .int (nI (mkN (qP1 hs x y) k))], [some (.ref a), some (.int (nI x)), some (.int (nI y)), some (.int (nI (mkN (qP1 hs x y) k))), some (.int (nI k))], M)) (φ := True) rfl trivial ?_
          refine sW_go b_Mo_pairCell_61 (st' := ([], [some (.ref a), some (.int (nI x)), some (.int (nI y)), some (.int (nI (mkN (qP1 hs x y) k) ||| nI 0)), some (.int (nI k + nI 1))], M)) (φ := True) rfl trivial ?_
          refine sW_eq (st' := ([], [some (.ref a), some (.int (nI x)), some (.int (nI y)), some (.int (nI (mkN (qP1 hs x y) k ||| 0))), some (.int (nI (k + 1)))], M)) (by simp (disch := omega) only [nI_add, nx_or]) ?_
          refine sW_goto 5 d_Mo_pairCell_66 (by decide) ?_
          first | (rw [mkN_1 (P := qP1 hs x y) (by unfold qP1; omega)]; exact ih (k + 1) (by omega) (by omega)) | (rw [mkN_0 (P := qP1 hs x y) (by unfold qP1; omega)]; exact ih (k + 1) (by omega) (by omega))
        · skip
          replace c_36 := tf_nz.mp c_36
          refine sW_go b_Mo_pairCell_39 (st' := ([.int (nI 2), .int (nI k), .ref a, .int (nI y), .int (nI (mkN (qP1 hs x y) k))], [some (.ref a), some (.int (nI x)), some (.int (nI y)), some (.int (nI (mkN (qP1 hs x y) k))), some (.int (nI k))], M)) (φ := True) rfl trivial ?_
          refine sW_callS [.ref a, .int (nI k), .int (nI 2)] [.int (nI y), .int (nI (mkN (qP1 hs x y) k))] d_Mo_pairCell_44 c_Mo_pairCell_44 ⟨rfl, rfl, Nat.le_of_ble_eq_true rfl, rfl, rfl⟩ (k_ofB G hl h k8) ?_
          rintro _ M₁ ⟨rfl, h₁⟩
          rw [h₁]
          show sW G m_Mo_pairCell 47 ([.int (nI (Bf hs k)), .int (nI y), .int (nI (mkN (qP1 hs x y) k))], [some (.ref a), some (.int (nI x)), some (.int (nI y)), some (.int (nI (mkN (qP1 hs x y) k))), some (.int (nI k))], M) _
          refine sW_callS [.int (nI y), .int (nI (Bf hs k))] [.int (nI (mkN (qP1 hs x y) k))] d_Mo_pairCell_47 c_Mo_pairCell_47 ⟨rfl, rfl, Nat.le_of_ble_eq_true rfl, rfl, rfl⟩ (k_has G (by omega) (by omega)) ?_
          rintro _ M₁ ⟨rfl, h₁⟩
          rw [h₁]
          show sW G m_Mo_pairCell 50 ([.int (tf (bt y (Bf hs k) = 1)), .int (nI (mkN (qP1 hs x y) k))], [some (.ref a), some (.int (nI x)), some (.int (nI y)), some (.int (nI (mkN (qP1 hs x y) k))), some (.int (nI k))], M) _
          refine sW_if_eq 60 d_Mo_pairCell_50 (by decide) (fun c_50 => ?_) (fun c_50 => ?_)
          · skip
            replace c_50 := tf_z.mp c_50
            refine sW_go b_Mo_pairCell_60 (st' := ([.int (nI 0), .int (nI (mkN (qP1 hs x y) k))], [some (.ref a), some (.int (nI x)), some (.int (nI y)), some (.int (nI (mkN (qP1 hs x y) k))), some (.int (nI k))], M)) (φ := True) rfl trivial ?_
            refine sW_go b_Mo_pairCell_61 (st' := ([], [some (.ref a), some (.int (nI x)), some (.int (nI y)), some (.int (nI (mkN (qP1 hs x y) k) ||| nI 0)), some (.int (nI k + nI 1))], M)) (φ := True) rfl trivial ?_
            refine sW_eq (st' := ([], [some (.ref a), some (.int (nI x)), some (.int (nI y)), some (.int (nI (mkN (qP1 hs x y) k ||| 0))), some (.int (nI (k + 1)))], M)) (by simp (disch := omega) only [nI_add, nx_or]) ?_
            refine sW_goto 5 d_Mo_pairCell_66 (by decide) ?_
            first | (rw [mkN_1 (P := qP1 hs x y) (by unfold qP1; omega)]; exact ih (k + 1) (by omega) (by omega)) | (rw [mkN_0 (P := qP1 hs x y) (by unfold qP1; omega)]; exact ih (k + 1) (by omega) (by omega))
          · skip
            replace c_50 := tf_nz.mp c_50
            refine sW_go b_Mo_pairCell_53 (st' := ([.int (nI 1 <<< (nI k &&& 31)), .int (nI (mkN (qP1 hs x y) k))], [some (.ref a), some (.int (nI x)), some (.int (nI y)), some (.int (nI (mkN (qP1 hs x y) k))), some (.int (nI k))], M)) (φ := True) rfl trivial ?_
            refine sW_eq (st' := ([.int (nI (1 * 2 ^ k)), .int (nI (mkN (qP1 hs x y) k))], [some (.ref a), some (.int (nI x)), some (.int (nI y)), some (.int (nI (mkN (qP1 hs x y) k))), some (.int (nI k))], M)) (by simp (disch := omega) only [q1]) ?_
            refine sW_goto 61 d_Mo_pairCell_57 (by decide) ?_
            refine sW_go b_Mo_pairCell_61 (st' := ([], [some (.ref a), some (.int (nI x)), some (.int (nI y)), some (.int (nI (mkN (qP1 hs x y) k) ||| nI (1 * 2 ^ k))), some (.int (nI k + nI 1))], M)) (φ := True) rfl trivial ?_
            refine sW_eq (st' := ([], [some (.ref a), some (.int (nI x)), some (.int (nI y)), some (.int (nI (mkN (qP1 hs x y) k ||| (1 * 2 ^ k)))), some (.int (nI (k + 1)))], M)) (by simp (disch := omega) only [nI_add, nx_or]) ?_
            refine sW_goto 5 d_Mo_pairCell_66 (by decide) ?_
            first | (rw [mkN_1 (P := qP1 hs x y) (by unfold qP1; omega)]; exact ih (k + 1) (by omega) (by omega)) | (rw [mkN_0 (P := qP1 hs x y) (by unfold qP1; omega)]; exact ih (k + 1) (by omega) (by omega))
  · have hke : k = hs.1 := by omega
    subst hke
    refine sW_go b_Mo_pairCell_5 (st' := ([.int (M a (nI 0).toNatClampNeg), .int (nI hs.1)], [some (.ref a), some (.int (nI x)), some (.int (nI y)), some (.int (nI (mkN (qP1 hs x y) hs.1))), some (.int (nI hs.1))], M)) (φ := vp_in (nI 0) (mx_len LAY false a) ∧ True) rfl ⟨(by simp (disch := omega) only [hl]; exact vp_in_nI (by omega) (by decide)), trivial⟩ ?_
    refine sW_eq (st' := ([.int (nI hs.1), .int (nI hs.1)], [some (.ref a), some (.int (nI x)), some (.int (nI y)), some (.int (nI (mkN (qP1 hs x y) hs.1))), some (.int (nI hs.1))], M)) (by simp (disch := omega) only [e0, nI_clamp]) ?_
    refine sW_ic_ge 69 d_Mo_pairCell_10 (by decide) (fun c_10 => ?_) (fun c_10 => ?_)
    · skip
      simp (disch := omega) only [nI_leI] at c_10
      refine sW_go b_Mo_pairCell_69 (st' := ([.int (nI (mkN (qP1 hs x y) hs.1)), .ref a], [some (.ref a), some (.int (nI x)), some (.int (nI y)), some (.int (nI (mkN (qP1 hs x y) hs.1))), some (.int (nI hs.1))], M)) (φ := True) rfl trivial ?_
      refine sW_callS [.ref a, .int (nI (mkN (qP1 hs x y) hs.1))] [] d_Mo_pairCell_71 c_Mo_pairCell_71 ⟨rfl, rfl, Nat.le_of_ble_eq_true rfl, rfl, rfl⟩ (k_mcellOf G hl h hw hlt) ?_
      rintro _ M₁ ⟨rfl, h₁⟩
      rw [h₁]
      show sW G m_Mo_pairCell 74 ([.int (nI (cellOf hs (mkN (qP1 hs x y) hs.1)))], [some (.ref a), some (.int (nI x)), some (.int (nI y)), some (.int (nI (mkN (qP1 hs x y) hs.1))), some (.int (nI hs.1))], M) _
      refine sW_retI d_Mo_pairCell_74 rfl (vp_nar_int _) ?_
      exact ⟨by rw [qP1_e]; rfl, rfl⟩
    · skip
      simp (disch := omega) only [nI_leI] at c_10
      omega
theorem k_mfun (G : mx_G) {M : mx_M} {a v : Nat} {hs : Hs} (hl : mx_len LAY false a = 26) (h : RowAt M a 0 hs) (hw : WHs hs) (hv : v < 256) : sOk G m_Mo_functionCell [.ref a, .int (nI v)] M (fun r M' => r = some (.int (nI (funC hs v))) ∧ M' = M) := by
  have e0 := h.n
  have w1 := hw.1.1
  refine sOk_of ⟨by decide +kernel, by decide +kernel, Nat.le_of_ble_eq_true rfl⟩ ?_
  show sW G m_Mo_functionCell 0 ([], [some (.ref a), some (.int (nI v)), none, none], M) _
  refine sW_go b_Mo_functionCell_0 (st' := ([], [some (.ref a), some (.int (nI v)), some (.int (nI 0)), some (.int (nI 0))], M)) (φ := True) rfl trivial ?_
  refine mx_ind (α := Nat) (fun k => hs.1 - k) (fun k => k ≤ hs.1 → sW G m_Mo_functionCell 4 ([], [some (.ref a), some (.int (nI v)), some (.int (nI (mkN (qP2 hs v) k))), some (.int (nI k))], M) _) ?_ 0 (Nat.zero_le _)
  intro k ih hk
  have hlt := mkN_lt (qP2 hs v) (n := k) (by omega)
  by_cases hkn : k < hs.1
  · obtain ⟨y1, y2, y3⟩ := hw.le k
    have k8 : k < 8 := by omega
    have q1 : nI 1 <<< (nI k &&& 31) = nI (1 * 2 ^ k) := sh_1 k8
    refine sW_go b_Mo_functionCell_4 (st' := ([.int (M a (nI 0).toNatClampNeg), .int (nI k)], [some (.ref a), some (.int (nI v)), some (.int (nI (mkN (qP2 hs v) k))), some (.int (nI k))], M)) (φ := vp_in (nI 0) (mx_len LAY false a) ∧ True) rfl ⟨(by simp (disch := omega) only [hl]; exact vp_in_nI (by omega) (by decide)), trivial⟩ ?_
    refine sW_eq (st' := ([.int (nI hs.1), .int (nI k)], [some (.ref a), some (.int (nI v)), some (.int (nI (mkN (qP2 hs v) k))), some (.int (nI k))], M)) (by simp (disch := omega) only [e0, nI_clamp]) ?_
    refine sW_ic_ge 45 d_Mo_functionCell_8 (by decide) (fun c_8 => ?_) (fun c_8 => ?_)
    · skip
      simp (disch := omega) only [nI_leI] at c_8
      omega
    · skip
      simp (disch := omega) only [nI_leI] at c_8
      refine sW_go b_Mo_functionCell_11 (st' := ([.int (nI 0), .int (nI k), .ref a, .int (nI (mkN (qP2 hs v) k))], [some (.ref a), some (.int (nI v)), some (.int (nI (mkN (qP2 hs v) k))), some (.int (nI k))], M)) (φ := True) rfl trivial ?_
      refine sW_callS [.ref a, .int (nI k), .int (nI 0)] [.int (nI (mkN (qP2 hs v) k))] d_Mo_functionCell_15 c_Mo_functionCell_15 ⟨rfl, rfl, Nat.le_of_ble_eq_true rfl, rfl, rfl⟩ (k_ofS G hl h k8) ?_
      rintro _ M₁ ⟨rfl, h₁⟩
      rw [h₁]
      show sW G m_Mo_functionCell 18 ([.int (nI (Sf hs k)), .int (nI (mkN (qP2 hs v) k))], [some (.ref a), some (.int (nI v)), some (.int (nI (mkN (qP2 hs v) k))), some (.int (nI k))], M) _
      refine sW_go b_Mo_functionCell_18 (st' := ([.int (nI 2), .int (nI (Sf hs k)), .int (nI (mkN (qP2 hs v) k))], [some (.ref a), some (.int (nI v)), some (.int (nI (mkN (qP2 hs v) k))), some (.int (nI k))], M)) (φ := True) rfl trivial ?_
      refine sW_ic_ne 36 d_Mo_functionCell_19 (by decide) (fun c_19 => ?_) (fun c_19 => ?_)
      · skip
        simp (disch := omega) only [nI_eq] at c_19
        refine sW_go b_Mo_functionCell_36 (st' := ([.int (nI 0), .int (nI (mkN (qP2 hs v) k))], [some (.ref a), some (.int (nI v)), some (.int (nI (mkN (qP2 hs v) k))), some (.int (nI k))], M)) (φ := True) rfl trivial ?_
        refine sW_go b_Mo_functionCell_37 (st' := ([], [some (.ref a), some (.int (nI v)), some (.int (nI (mkN (qP2 hs v) k) ||| nI 0)), some (.int (nI k + nI 1))], M)) (φ := True) rfl trivial ?_
        refine sW_eq (st' := ([], [some (.ref a), some (.int (nI v)), some (.int (nI (mkN (qP2 hs v) k ||| 0))), some (.int (nI (k + 1)))], M)) (by simp (disch := omega) only [nI_add, nx_or]) ?_
        refine sW_goto 4 d_Mo_functionCell_42 (by decide) ?_
        first | (rw [mkN_1 (P := qP2 hs v) (by unfold qP2; omega)]; exact ih (k + 1) (by omega) (by omega)) | (rw [mkN_0 (P := qP2 hs v) (by unfold qP2; omega)]; exact ih (k + 1) (by omega) (by omega))
      · skip
        simp (disch := omega) only [nI_eq] at c_19
        refine sW_go b_Mo_functionCell_22 (st' := ([.int (nI k), .int (nI v), .int (nI (mkN (qP2 hs v) k))], [some (.ref a), some (.int (nI v)), some (.int (nI (mkN (qP2 hs v) k))), some (.int (nI k))], M)) (φ := True) rfl trivial ?_
        refine sW_callS [.int (nI v), .int (nI k)] [.int (nI (mkN (qP2 hs v) k))] d_Mo_functionCell_24 c_Mo_functionCell_24 ⟨rfl, rfl, Nat.le_of_ble_eq_true rfl, rfl, rfl⟩ (k_has G (by omega) (by omega)) ?_
        rintro _ M₁ ⟨rfl, h₁⟩
        rw [h₁]
        show sW G m_Mo_functionCell 27 ([.int (tf (bt v k = 1)), .int (nI (mkN (qP2 hs v) k))], [some (.ref a), some (.int (nI v)), some (.int (nI (mkN (qP2 hs v) k))), some (.int (nI k))], M) _
        refine sW_if_ne 36 d_Mo_functionCell_27 (by decide) (fun c_27 => ?_) (fun c_27 => ?_)
        · skip
          replace c_27 := tf_nz.mp c_27
          refine sW_go b_Mo_functionCell_36 (st' := ([.int (nI 0), .int (nI (mkN (qP2 hs v) k))], [some (.ref a), some (.int (nI v)), some (.int (nI (mkN (qP2 hs v) k))), some (.int (nI k))], M)) (φ := True) rfl trivial ?_
          refine sW_go b_Mo_functionCell_37 (st' := ([], [some (.ref a), some (.int (nI v)), some (.int (nI (mkN (qP2 hs v) k) ||| nI 0)), some (.int (nI k + nI 1))], M)) (φ := True) rfl trivial ?_
          refine sW_eq (st' := ([], [some (.ref a), some (.int (nI v)), some (.int (nI (mkN (qP2 hs v) k ||| 0))), some (.int (nI (k + 1)))], M)) (by simp (disch := omega) only [nI_add, nx_or]) ?_
          refine sW_goto 4 d_Mo_functionCell_42 (by decide) ?_
          first | (rw [mkN_1 (P := qP2 hs v) (by unfold qP2; omega)]; exact ih (k + 1) (by omega) (by omega)) | (rw [mkN_0 (P := qP2 hs v) (by unfold qP2; omega)]; exact ih (k + 1) (by omega) (by omega))
        · skip
          replace c_27 := tf_z.mp c_27
          refine sW_go b_Mo_functionCell_30 (st' := ([.int (nI 1 <<< (nI k &&& 31)), .int (nI (mkN (qP2 hs v) k))], [some (.ref a), some (.int (nI v)), some (.int (nI (mkN (qP2 hs v) k))), some (.int (nI k))], M)) (φ := True) rfl trivial ?_
          refine sW_eq (st' := ([.int (nI (1 * 2 ^ k)), .int (nI (mkN (qP2 hs v) k))], [some (.ref a), some (.int (nI v)), some (.int (nI (mkN (qP2 hs v) k))), some (.int (nI k))], M)) (by simp (disch := omega) only [q1]) ?_
          refine sW_goto 37 d_Mo_functionCell_33 (by decide) ?_
          refine sW_go b_Mo_functionCell_37 (st' := ([], [some (.ref a), some (.int (nI v)), some (.int (nI (mkN (qP2 hs v) k) ||| nI (1 * 2 ^ k))), some (.int (nI k + nI 1))], M)) (φ := True) rfl trivial ?_
          refine sW_eq (st' := ([], [some (.ref a), some (.int (nI v)), some (.int (nI (mkN (qP2 hs v) k ||| (1 * 2 ^ k)))), some (.int (nI (k + 1)))], M)) (by simp (disch := omega) only [nI_add, nx_or]) ?_
          refine sW_goto 4 d_Mo_functionCell_42 (by decide) ?_
          first | (rw [mkN_1 (P := qP2 hs v) (by unfold qP2; omega)]; exact ih (k + 1) (by omega) (by omega)) | (rw [mkN_0 (P := qP2 hs v) (by unfold qP2; omega)]; exact ih (k + 1) (by omega) (by omega))
  · have hke : k = hs.1 := by omega
    subst hke
    refine sW_go b_Mo_functionCell_4 (st' := ([.int (M a (nI 0).toNatClampNeg), .int (nI hs.1)], [some (.ref a), some (.int (nI v)), some (.int (nI (mkN (qP2 hs v) hs.1))), some (.int (nI hs.1))], M)) (φ := vp_in (nI 0) (mx_len LAY false a) ∧ True) rfl ⟨(by simp (disch := omega) only [hl]; exact vp_in_nI (by omega) (by decide)), trivial⟩ ?_
    refine sW_eq (st' := ([.int (nI hs.1), .int (nI hs.1)], [some (.ref a), some (.int (nI v)), some (.int (nI (mkN (qP2 hs v) hs.1))), some (.int (nI hs.1))], M)) (by simp (disch := omega) only [e0, nI_clamp]) ?_
    refine sW_ic_ge 45 d_Mo_functionCell_8 (by decide) (fun c_8 => ?_) (fun c_8 => ?_)
    · skip
      simp (disch := omega) only [nI_leI] at c_8
      refine sW_go b_Mo_functionCell_45 (st' := ([.int (nI (mkN (qP2 hs v) hs.1)), .ref a], [some (.ref a), some (.int (nI v)), some (.int (nI (mkN (qP2 hs v) hs.1))), some (.int (nI hs.1))], M)) (φ := True) rfl trivial ?_
      refine sW_callS [.ref a, .int (nI (mkN (qP2 hs v) hs.1))] [] d_Mo_functionCell_47 c_Mo_functionCell_47 ⟨rfl, rfl, Nat.le_of_ble_eq_true rfl, rfl, rfl⟩ (k_mcellOf G hl h hw hlt) ?_
      rintro _ M₁ ⟨rfl, h₁⟩
      rw [h₁]
      show sW G m_Mo_functionCell 50 ([.int (nI (cellOf hs (mkN (qP2 hs v) hs.1)))], [some (.ref a), some (.int (nI v)), some (.int (nI (mkN (qP2 hs v) hs.1))), some (.int (nI hs.1))], M) _
      refine sW_retI d_Mo_functionCell_50 rfl (vp_nar_int _) ?_
      exact ⟨by rw [qP2_e]; rfl, rfl⟩
    · skip
      simp (disch := omega) only [nI_leI] at c_8
      omega
theorem k_breaks0 (G : mx_G) {M : mx_M} {a x : Nat} {hs : Hs} (hl : mx_len LAY false a = 26) (h : RowAt M a 0 hs) (hw : WHs hs) (hx : x < 256) : sOk G m_Mo_breaks [.ref a, .int (nI x), .int (-1)] M (fun r M' => r = some (.int (nI (L2 hs x))) ∧ M' = M) := by
  have e0 := h.n
  have w1 := hw.1.1
  refine sOk_of ⟨by decide +kernel, by decide +kernel, Nat.le_of_ble_eq_true rfl⟩ ?_
  show sW G m_Mo_breaks 0 ([], [some (.ref a), some (.int (nI x)), some (.int (-1)), none, none, none], M) _
  refine sW_go b_Mo_breaks_0 (st' := ([], [some (.ref a), some (.int (nI x)), some (.int (-1)), some (.int (nI 0)), some (.int (nI 0)), none], M)) (φ := True) rfl trivial ?_
  refine mx_ind (α := Nat) (fun k => hs.1 - k) (fun k => k ≤ hs.1 → sW G m_Mo_breaks 5 ([], [some (.ref a), some (.int (nI x)), some (.int (-1)), some (.int (nI (mkN (qP3 hs x) k))), some (.int (nI k)), none], M) _) ?_ 0 (Nat.zero_le _)
  intro k ih hk
  have hlt := mkN_lt (qP3 hs x) (n := k) (by omega)
  by_cases hkn : k < hs.1
  · obtain ⟨y1, y2, y3⟩ := hw.le k
    have k8 : k < 8 := by omega
    have q1 : nI 1 <<< (nI k &&& 31) = nI (1 * 2 ^ k) := sh_1 k8
    refine sW_go b_Mo_breaks_5 (st' := ([.int (M a (nI 0).toNatClampNeg), .int (nI k)], [some (.ref a), some (.int (nI x)), some (.int (-1)), some (.int (nI (mkN (qP3 hs x) k))), some (.int (nI k)), none], M)) (φ := vp_in (nI 0) (mx_len LAY false a) ∧ True) rfl ⟨(by simp (disch := omega) only [hl]; exact vp_in_nI (by omega) (by decide)), trivial⟩ ?_
    refine sW_eq (st' := ([.int (nI hs.1), .int (nI k)], [some (.ref a), some (.int (nI x)), some (.int (-1)), some (.int (nI (mkN (qP3 hs x) k))), some (.int (nI k)), none], M)) (by simp (disch := omega) only [e0, nI_clamp]) ?_
    refine sW_ic_ge 85 d_Mo_breaks_10 (by decide) (fun c_10 => ?_) (fun c_10 => ?_)
    · skip
      simp (disch := omega) only [nI_leI] at c_10
      omega
    · skip
      simp (disch := omega) only [nI_leI] at c_10
      refine sW_go b_Mo_breaks_13 (st' := ([.int (nI 0), .int (nI k), .ref a], [some (.ref a), some (.int (nI x)), some (.int (-1)), some (.int (nI (mkN (qP3 hs x) k))), some (.int (nI k)), none], M)) (φ := True) rfl trivial ?_
      refine sW_callS [.ref a, .int (nI k), .int (nI 0)] [] d_Mo_breaks_17 c_Mo_breaks_17 ⟨rfl, rfl, Nat.le_of_ble_eq_true rfl, rfl, rfl⟩ (k_ofS G hl h k8) ?_
      rintro _ M₁ ⟨rfl, h₁⟩
      rw [h₁]
      show sW G m_Mo_breaks 20 ([.int (nI (Sf hs k))], [some (.ref a), some (.int (nI x)), some (.int (-1)), some (.int (nI (mkN (qP3 hs x) k))), some (.int (nI k)), none], M) _
      refine sW_go b_Mo_breaks_20 (st' := ([.int (nI 2), .int (nI (Sf hs k))], [some (.ref a), some (.int (nI x)), some (.int (-1)), some (.int (nI (mkN (qP3 hs x) k))), some (.int (nI k)), none], M)) (φ := True) rfl trivial ?_
      refine sW_ic_ne 60 d_Mo_breaks_21 (by decide) (fun c_21 => ?_) (fun c_21 => ?_)
      · skip
        simp (disch := omega) only [nI_eq] at c_21
        refine sW_go b_Mo_breaks_60 (st' := ([.int (nI 0)], [some (.ref a), some (.int (nI x)), some (.int (-1)), some (.int (nI (mkN (qP3 hs x) k))), some (.int (nI k)), none], M)) (φ := True) rfl trivial ?_
        refine sW_go b_Mo_breaks_61 (st' := ([.int (nI 0), .int (nI (mkN (qP3 hs x) k))], [some (.ref a), some (.int (nI x)), some (.int (-1)), some (.int (nI (mkN (qP3 hs x) k))), some (.int (nI k)), some (.int (nI 0))], M)) (φ := True) rfl trivial ?_
        refine sW_if_eq 76 d_Mo_breaks_66 (by decide) (fun c_66 => ?_) (fun c_66 => ?_)
        · skip
          simp (disch := omega) only [nI_z] at c_66
          refine sW_go b_Mo_breaks_76 (st' := ([.int (nI 0), .int (nI (mkN (qP3 hs x) k))], [some (.ref a), some (.int (nI x)), some (.int (-1)), some (.int (nI (mkN (qP3 hs x) k))), some (.int (nI k)), some (.int (nI 0))], M)) (φ := True) rfl trivial ?_
          refine sW_go b_Mo_breaks_77 (st' := ([], [some (.ref a), some (.int (nI x)), some (.int (-1)), some (.int (nI (mkN (qP3 hs x) k) ||| nI 0)), some (.int (nI k + nI 1)), some (.int (nI 0))], M)) (φ := True) rfl trivial ?_
          refine sW_eq (st' := ([], [some (.ref a), some (.int (nI x)), some (.int (-1)), some (.int (nI (mkN (qP3 hs x) k ||| 0))), some (.int (nI (k + 1))), some (.int (nI 0))], M)) (by simp (disch := omega) only [nI_add, nx_or]) ?_
          refine sW_goto 5 d_Mo_breaks_82 (by decide) ?_
          refine sW_fg [false, false, false, false, false, true] ?_
          show sW G m_Mo_breaks 5 ([], [some (.ref a), some (.int (nI x)), some (.int (-1)), some (.int (nI (mkN (qP3 hs x) k ||| 0))), some (.int (nI (k + 1))), none], M) _
          first | (rw [mkN_1 (P := qP3 hs x) (by unfold qP3; omega)]; exact ih (k + 1) (by omega) (by omega)) | (rw [mkN_0 (P := qP3 hs x) (by unfold qP3; omega)]; exact ih (k + 1) (by omega) (by omega))
        · skip
          exact absurd (by decide +kernel) c_66
      · skip
        simp (disch := omega) only [nI_eq] at c_21
        refine sW_go b_Mo_breaks_24 (st' := ([.int (nI 1), .int (nI k), .ref a, .int (nI x)], [some (.ref a), some (.int (nI x)), some (.int (-1)), some (.int (nI (mkN (qP3 hs x) k))), some (.int (nI k)), none], M)) (φ := True) rfl trivial ?_
        refine sW_callS [.ref a, .int (nI k), .int (nI 1)] [.int (nI x)] d_Mo_breaks_29 c_Mo_breaks_29 ⟨rfl, rfl, Nat.le_of_ble_eq_true rfl, rfl, rfl⟩ (k_ofA G hl h k8) ?_
        rintro _ M₁ ⟨rfl, h₁⟩
        rw [h₁]
        show sW G m_Mo_breaks 32 ([.int (nI (Af hs k)), .int (nI x)], [some (.ref a), some (.int (nI x)), some (.int (-1)), some (.int (nI (mkN (qP3 hs x) k))), some (.int (nI k)), none], M) _
        refine sW_callS [.int (nI x), .int (nI (Af hs k))] [] d_Mo_breaks_32 c_Mo_breaks_32 ⟨rfl, rfl, Nat.le_of_ble_eq_true rfl, rfl, rfl⟩ (k_has G (by omega) (by omega)) ?_
        rintro _ M₁ ⟨rfl, h₁⟩
        rw [h₁]
        show sW G m_Mo_breaks 35 ([.int (tf (bt x (Af hs k) = 1))], [some (.ref a), some (.int (nI x)), some (.int (-1)), some (.int (nI (mkN (qP3 hs x) k))), some (.int (nI k)), none], M) _
        refine sW_if_eq 60 d_Mo_breaks_35 (by decide) (fun c_35 => ?_) (fun c_35 => ?_)
        · skip
          replace c_35 := tf_z.mp c_35
          refine sW_go b_Mo_breaks_60 (st' := ([.int (nI 0)], [some (.ref a), some (.int (nI x)), some (.int (-1)), some (.int (nI (mkN (qP3 hs x) k))), some (.int (nI k)), none], M)) (φ := True) rfl trivial ?_
          refine sW_go b_Mo_breaks_61 (st' := ([.int (nI 0), .int (nI (mkN (qP3 hs x) k))], [some (.ref a), some (.int (nI x)), some (.int (-1)), some (.int (nI (mkN (qP3 hs x) k))), some (.int (nI k)), some (.int (nI 0))], M)) (φ := True) rfl trivial ?_
          refine sW_if_eq 76 d_Mo_breaks_66 (by decide) (fun c_66 => ?_) (fun c_66 => ?_)
          · skip
            simp (disch := omega) only [nI_z] at c_66
            refine sW_go b_Mo_breaks_76 (st' := ([.int (nI 0), .int (nI (mkN (qP3 hs x) k))], [some (.ref a), some (.int (nI x)), some (.int (-1)), some (.int (nI (mkN (qP3 hs x) k))), some (.int (nI k)), some (.int (nI 0))], M)) (φ := True) rfl trivial ?_
            refine sW_go b_Mo_breaks_77 (st' := ([], [some (.ref a), some (.int (nI x)), some (.int (-1)), some (.int (nI (mkN (qP3 hs x) k) ||| nI 0)), some (.int (nI k + nI 1)), some (.int (nI 0))], M)) (φ := True) rfl trivial ?_
            refine sW_eq (st' := ([], [some (.ref a), some (.int (nI x)), some (.int (-1)), some (.int (nI (mkN (qP3 hs x) k ||| 0))), some (.int (nI (k + 1))), some (.int (nI 0))], M)) (by simp (disch := omega) only [nI_add, nx_or]) ?_
            refine sW_goto 5 d_Mo_breaks_82 (by decide) ?_
            refine sW_fg [false, false, false, false, false, true] ?_
            show sW G m_Mo_breaks 5 ([], [some (.ref a), some (.int (nI x)), some (.int (-1)), some (.int (nI (mkN (qP3 hs x) k ||| 0))), some (.int (nI (k + 1))), none], M) _
            first | (rw [mkN_1 (P := qP3 hs x) (by unfold qP3; omega)]; exact ih (k + 1) (by omega) (by omega)) | (rw [mkN_0 (P := qP3 hs x) (by unfold qP3; omega)]; exact ih (k + 1) (by omega) (by omega))
          · skip
            exact absurd (by decide +kernel) c_66
        · skip
          replace c_35 := tf_nz.mp c_35
          refine sW_go b_Mo_breaks_38 (st' := ([.int (-1)], [some (.ref a), some (.int (nI x)), some (.int (-1)), some (.int (nI (mkN (qP3 hs x) k))), some (.int (nI k)), none], M)) (φ := True) rfl trivial ?_
          refine sW_if_lt 56 d_Mo_breaks_39 (by decide) (fun c_39 => ?_) (fun c_39 => ?_)
          · skip
            refine sW_go b_Mo_breaks_56 (st' := ([.int (nI 1)], [some (.ref a), some (.int (nI x)), some (.int (-1)), some (.int (nI (mkN (qP3 hs x) k))), some (.int (nI k)), none], M)) (φ := True) rfl trivial ?_
            refine sW_goto 61 d_Mo_breaks_57 (by decide) ?_
            refine sW_go b_Mo_breaks_61 (st' := ([.int (nI 1), .int (nI (mkN (qP3 hs x) k))], [some (.ref a), some (.int (nI x)), some (.int (-1)), some (.int (nI (mkN (qP3 hs x) k))), some (.int (nI k)), some (.int (nI 1))], M)) (φ := True) rfl trivial ?_
            refine sW_if_eq 76 d_Mo_breaks_66 (by decide) (fun c_66 => ?_) (fun c_66 => ?_)
            · skip
              exact absurd c_66 (by decide +kernel)
            · skip
              simp (disch := omega) only [nI_z] at c_66
              refine sW_go b_Mo_breaks_69 (st' := ([.int (nI 1 <<< (nI k &&& 31)), .int (nI (mkN (qP3 hs x) k))], [some (.ref a), some (.int (nI x)), some (.int (-1)), some (.int (nI (mkN (qP3 hs x) k))), some (.int (nI k)), some (.int (nI 1))], M)) (φ := True) rfl trivial ?_
              refine sW_eq (st' := ([.int (nI (1 * 2 ^ k)), .int (nI (mkN (qP3 hs x) k))], [some (.ref a), some (.int (nI x)), some (.int (-1)), some (.int (nI (mkN (qP3 hs x) k))), some (.int (nI k)), some (.int (nI 1))], M)) (by simp (disch := omega) only [q1]) ?_
              refine sW_goto 77 d_Mo_breaks_73 (by decide) ?_
              refine sW_go b_Mo_breaks_77 (st' := ([], [some (.ref a), some (.int (nI x)), some (.int (-1)), some (.int (nI (mkN (qP3 hs x) k) ||| nI (1 * 2 ^ k))), some (.int (nI k + nI 1)), some (.int (nI 1))], M)) (φ := True) rfl trivial ?_
              refine sW_eq (st' := ([], [some (.ref a), some (.int (nI x)), some (.int (-1)), some (.int (nI (mkN (qP3 hs x) k ||| (1 * 2 ^ k)))), some (.int (nI (k + 1))), some (.int (nI 1))], M)) (by simp (disch := omega) only [nI_add, nx_or]) ?_
              refine sW_goto 5 d_Mo_breaks_82 (by decide) ?_
              refine sW_fg [false, false, false, false, false, true] ?_
              show sW G m_Mo_breaks 5 ([], [some (.ref a), some (.int (nI x)), some (.int (-1)), some (.int (nI (mkN (qP3 hs x) k ||| (1 * 2 ^ k)))), some (.int (nI (k + 1))), none], M) _
              first | (rw [mkN_1 (P := qP3 hs x) (by unfold qP3; omega)]; exact ih (k + 1) (by omega) (by omega)) | (rw [mkN_0 (P := qP3 hs x) (by unfold qP3; omega)]; exact ih (k + 1) (by omega) (by omega))
          · skip
            exact absurd (by decide +kernel) c_39
  · have hke : k = hs.1 := by omega
    subst hke
    refine sW_go b_Mo_breaks_5 (st' := ([.int (M a (nI 0).toNatClampNeg), .int (nI hs.1)], [some (.ref a), some (.int (nI x)), some (.int (-1)), some (.int (nI (mkN (qP3 hs x) hs.1))), some (.int (nI hs.1)), none], M)) (φ := vp_in (nI 0) (mx_len LAY false a) ∧ True) rfl ⟨(by simp (disch := omega) only [hl]; exact vp_in_nI (by omega) (by decide)), trivial⟩ ?_
    refine sW_eq (st' := ([.int (nI hs.1), .int (nI hs.1)], [some (.ref a), some (.int (nI x)), some (.int (-1)), some (.int (nI (mkN (qP3 hs x) hs.1))), some (.int (nI hs.1)), none], M)) (by simp (disch := omega) only [e0, nI_clamp]) ?_
    refine sW_ic_ge 85 d_Mo_breaks_10 (by decide) (fun c_10 => ?_) (fun c_10 => ?_)
    · skip
      simp (disch := omega) only [nI_leI] at c_10
      refine sW_go b_Mo_breaks_85 (st' := ([.int (nI (mkN (qP3 hs x) hs.1))], [some (.ref a), some (.int (nI x)), some (.int (-1)), some (.int (nI (mkN (qP3 hs x) hs.1))), some (.int (nI hs.1)), none], M)) (φ := True) rfl trivial ?_
      refine sW_retI d_Mo_breaks_86 rfl (vp_nar_int _) ?_
      exact ⟨by rw [qP3_e], rfl⟩
    · skip
      simp (disch := omega) only [nI_leI] at c_10
      omega
theorem k_breaks (G : mx_G) {M : mx_M} {a x y : Nat} {hs : Hs} (hl : mx_len LAY false a = 26) (h : RowAt M a 0 hs) (hw : WHs hs) (hx : x < 256) (hy : y < 256) : sOk G m_Mo_breaks [.ref a, .int (nI x), .int (nI y)] M (fun r M' => r = some (.int (nI (andn (L2 hs x) (R2 hs y)))) ∧ M' = M) := by
  have e0 := h.n
  have w1 := hw.1.1
  have hy0 : ¬ nI y < 0 := nI_nn (by omega)
  refine sOk_of ⟨by decide +kernel, by decide +kernel, Nat.le_of_ble_eq_true rfl⟩ ?_
  show sW G m_Mo_breaks 0 ([], [some (.ref a), some (.int (nI x)), some (.int (nI y)), none, none, none], M) _
  refine sW_go b_Mo_breaks_0 (st' := ([], [some (.ref a), some (.int (nI x)), some (.int (nI y)), some (.int (nI 0)), some (.int (nI 0)), none], M)) (φ := True) rfl trivial ?_
  refine mx_ind (α := Nat) (fun k => hs.1 - k) (fun k => k ≤ hs.1 → sW G m_Mo_breaks 5 ([], [some (.ref a), some (.int (nI x)), some (.int (nI y)), some (.int (nI (mkN (qP4 hs x y) k))), some (.int (nI k)), none], M) _) ?_ 0 (Nat.zero_le _)
  intro k ih hk
  have hlt := mkN_lt (qP4 hs x y) (n := k) (by omega)
  by_cases hkn : k < hs.1
  · obtain ⟨y1, y2, y3⟩ := hw.le k
    have k8 : k < 8 := by omega
    have q1 : nI 1 <<< (nI k &&& 31) = nI (1 * 2 ^ k) := sh_1 k8
    refine sW_go b_Mo_breaks_5 (st' := ([.int (M a (nI 0).toNatClampNeg), .int (nI k)], [some (.ref a), some (.int (nI x)), some (.int (nI y)), some (.int (nI (mkN (qP4 hs x y) k))), some (.int (nI k)), none], M)) (φ := vp_in (nI 0) (mx_len LAY false a) ∧ True) rfl ⟨(by simp (disch := omega) only [hl]; exact vp_in_nI (by omega) (by decide)), trivial⟩ ?_
    refine sW_eq (st' := ([.int (nI hs.1), .int (nI k)], [some (.ref a), some (.int (nI x)), some (.int (nI y)), some (.int (nI (mkN (qP4 hs x y) k))), some (.int (nI k)), none], M)) (by simp (disch := omega) only [e0, nI_clamp]) ?_
    refine sW_ic_ge 85 d_Mo_breaks_10 (by decide) (fun c_10 => ?_) (fun c_10 => ?_)
    · skip
      simp (disch := omega) only [nI_leI] at c_10
      omega
    · skip
      simp (disch := omega) only [nI_leI] at c_10
      refine sW_go b_Mo_breaks_13 (st' := ([.int (nI 0), .int (nI k), .ref a], [some (.ref a), some (.int (nI x)), some (.int (nI y)), some (.int (nI (mkN (qP4 hs x y) k))), some (.int (nI k)), none], M)) (φ := True) rfl trivial ?_
      refine sW_callS [.ref a, .int (nI k), .int (nI 0)] [] d_Mo_breaks_17 c_Mo_breaks_17 ⟨rfl, rfl, Nat.le_of_ble_eq_true rfl, rfl, rfl⟩ (k_ofS G hl h k8) ?_
      rintro _ M₁ ⟨rfl, h₁⟩
      rw [h₁]
      show sW G m_Mo_breaks 20 ([.int (nI (Sf hs k))], [some (.ref a), some (.int (nI x)), some (.int (nI y)), some (.int (nI (mkN (qP4 hs x y) k))), some (.int (nI k)), none], M) _
      refine sW_go b_Mo_breaks_20 (st' := ([.int (nI 2), .int (nI (Sf hs k))], [some (.ref a), some (.int (nI x)), some (.int (nI y)), some (.int (nI (mkN (qP4 hs x y) k))), some (.int (nI k)), none], M)) (φ := True) rfl trivial ?_
      refine sW_ic_ne 60 d_Mo_breaks_21 (by decide) (fun c_21 => ?_) (fun c_21 => ?_)
      · skip
        simp (disch := omega) only [nI_eq] at c_21
        refine sW_go b_Mo_breaks_60 (st' := ([.int (nI 0)], [some (.ref a), some (.int (nI x)), some (.int (nI y)), some (.int (nI (mkN (qP4 hs x y) k))), some (.int (nI k)), none], M)) (φ := True) rfl trivial ?_
        refine sW_go b_Mo_breaks_61 (st' := ([.int (nI 0), .int (nI (mkN (qP4 hs x y) k))], [some (.ref a), some (.int (nI x)), some (.int (nI y)), some (.int (nI (mkN (qP4 hs x y) k))), some (.int (nI k)), some (.int (nI 0))], M)) (φ := True) rfl trivial ?_
        refine sW_if_eq 76 d_Mo_breaks_66 (by decide) (fun c_66 => ?_) (fun c_66 => ?_)
        · skip
          simp (disch := omega) only [nI_z] at c_66
          refine sW_go b_Mo_breaks_76 (st' := ([.int (nI 0), .int (nI (mkN (qP4 hs x y) k))], [some (.ref a), some (.int (nI x)), some (.int (nI y)), some (.int (nI (mkN (qP4 hs x y) k))), some (.int (nI k)), some (.int (nI 0))], M)) (φ := True) rfl trivial ?_
          refine sW_go b_Mo_breaks_77 (st' := ([], [some (.ref a), some (.int (nI x)), some (.int (nI y)), some (.int (nI (mkN (qP4 hs x y) k) ||| nI 0)), some (.int (nI k + nI 1)), some (.int (nI 0))], M)) (φ := True) rfl trivial ?_
          refine sW_eq (st' := ([], [some (.ref a), some (.int (nI x)), some (.int (nI y)), some (.int (nI (mkN (qP4 hs x y) k ||| 0))), some (.int (nI (k + 1))), some (.int (nI 0))], M)) (by simp (disch := omega) only [nI_add, nx_or]) ?_
          refine sW_goto 5 d_Mo_breaks_82 (by decide) ?_
          refine sW_fg [false, false, false, false, false, true] ?_
          show sW G m_Mo_breaks 5 ([], [some (.ref a), some (.int (nI x)), some (.int (nI y)), some (.int (nI (mkN (qP4 hs x y) k ||| 0))), some (.int (nI (k + 1))), none], M) _
          first | (rw [mkN_1 (P := qP4 hs x y) (by unfold qP4; omega)]; exact ih (k + 1) (by omega) (by omega)) | (rw [mkN_0 (P := qP4 hs x y) (by unfold qP4; omega)]; exact ih (k + 1) (by omega) (by omega)) | exact absurd c_39 hy0
        · skip
          exact absurd (by decide +kernel) c_66
      · skip
        simp (disch := omega) only [nI_eq] at c_21
        refine sW_go b_Mo_breaks_24 (st' := ([.int (nI 1), .int (nI k), .ref a, .int (nI x)], [some (.ref a), some (.int (nI x)), some (.int (nI y)), some (.int (nI (mkN (qP4 hs x y) k))), some (.int (nI k)), none], M)) (φ := True) rfl trivial ?_
        refine sW_callS [.ref a, .int (nI k), .int (nI 1)] [.int (nI x)] d_Mo_breaks_29 c_Mo_breaks_29 ⟨rfl, rfl, Nat.le_of_ble_eq_true rfl, rfl, rfl⟩ (k_ofA G hl h k8) ?_
        rintro _ M₁ ⟨rfl, h₁⟩
        rw [h₁]
        show sW G m_Mo_breaks 32 ([.int (nI (Af hs k)), .int (nI x)], [some (.ref a), some (.int (nI x)), some (.int (nI y)), some (.int (nI (mkN (qP4 hs x y) k))), some (.int (nI k)), none], M) _
        refine sW_callS [.int (nI x), .int (nI (Af hs k))] [] d_Mo_breaks_32 c_Mo_breaks_32 ⟨rfl, rfl, Nat.le_of_ble_eq_true rfl, rfl, rfl⟩ (k_has G (by omega) (by omega)) ?_
        rintro _ M₁ ⟨rfl, h₁⟩
        rw [h₁]
        show sW G m_Mo_breaks 35 ([.int (tf (bt x (Af hs k) = 1))], [some (.ref a), some (.int (nI x)), some (.int (nI y)), some (.int (nI (mkN (qP4 hs x y) k))), some (.int (nI k)), none], M) _
        refine sW_if_eq 60 d_Mo_breaks_35 (by decide) (fun c_35 => ?_) (fun c_35 => ?_)
        · skip
          replace c_35 := tf_z.mp c_35
          refine sW_go b_Mo_breaks_60 (st' := ([.int (nI 0)], [some (.ref a), some (.int (nI x)), some (.int (nI y)), some (.int (nI (mkN (qP4 hs x y) k))), some (.int (nI k)), none], M)) (φ := True) rfl trivial ?_
          refine sW_go b_Mo_breaks_61 (st' := ([.int (nI 0), .int (nI (mkN (qP4 hs x y) k))], [some (.ref a), some (.int (nI x)), some (.int (nI y)), some (.int (nI (mkN (qP4 hs x y) k))), some (.int (nI k)), some (.int (nI 0))], M)) (φ := True) rfl trivial ?_
          refine sW_if_eq 76 d_Mo_breaks_66 (by decide) (fun c_66 => ?_) (fun c_66 => ?_)
          · skip
            simp (disch := omega) only [nI_z] at c_66
            refine sW_go b_Mo_breaks_76 (st' := ([.int (nI 0), .int (nI (mkN (qP4 hs x y) k))], [some (.ref a), some (.int (nI x)), some (.int (nI y)), some (.int (nI (mkN (qP4 hs x y) k))), some (.int (nI k)), some (.int (nI 0))], M)) (φ := True) rfl trivial ?_
            refine sW_go b_Mo_breaks_77 (st' := ([], [some (.ref a), some (.int (nI x)), some (.int (nI y)), some (.int (nI (mkN (qP4 hs x y) k) ||| nI 0)), some (.int (nI k + nI 1)), some (.int (nI 0))], M)) (φ := True) rfl trivial ?_
            refine sW_eq (st' := ([], [some (.ref a), some (.int (nI x)), some (.int (nI y)), some (.int (nI (mkN (qP4 hs x y) k ||| 0))), some (.int (nI (k + 1))), some (.int (nI 0))], M)) (by simp (disch := omega) only [nI_add, nx_or]) ?_
            refine sW_goto 5 d_Mo_breaks_82 (by decide) ?_
            refine sW_fg [false, false, false, false, false, true] ?_
            show sW G m_Mo_breaks 5 ([], [some (.ref a), some (.int (nI x)), some (.int (nI y)), some (.int (nI (mkN (qP4 hs x y) k ||| 0))), some (.int (nI (k + 1))), none], M) _
            first | (rw [mkN_1 (P := qP4 hs x y) (by unfold qP4; omega)]; exact ih (k + 1) (by omega) (by omega)) | (rw [mkN_0 (P := qP4 hs x y) (by unfold qP4; omega)]; exact ih (k + 1) (by omega) (by omega)) | exact absurd c_39 hy0
          · skip
            exact absurd (by decide +kernel) c_66
        · skip
          replace c_35 := tf_nz.mp c_35
          refine sW_go b_Mo_breaks_38 (st' := ([.int (nI y)], [some (.ref a), some (.int (nI x)), some (.int (nI y)), some (.int (nI (mkN (qP4 hs x y) k))), some (.int (nI k)), none], M)) (φ := True) rfl trivial ?_
          refine sW_if_lt 56 d_Mo_breaks_39 (by decide) (fun c_39 => ?_) (fun c_39 => ?_)
          · skip
            refine sW_go b_Mo_breaks_56 (st' := ([.int (nI 1)], [some (.ref a), some (.int (nI x)), some (.int (nI y)), some (.int (nI (mkN (qP4 hs x y) k))), some (.int (nI k)), none], M)) (φ := True) rfl trivial ?_
            refine sW_goto 61 d_Mo_breaks_57 (by decide) ?_
            refine sW_go b_Mo_breaks_61 (st' := ([.int (nI 1), .int (nI (mkN (qP4 hs x y) k))], [some (.ref a), some (.int (nI x)), some (.int (nI y)), some (.int (nI (mkN (qP4 hs x y) k))), some (.int (nI k)), some (.int (nI 1))], M)) (φ := True) rfl trivial ?_
            refine sW_if_eq 76 d_Mo_breaks_66 (by decide) (fun c_66 => ?_) (fun c_66 => ?_)
            · skip
              exact absurd c_66 (by decide +kernel)
            · skip
              simp (disch := omega) only [nI_z] at c_66
              refine sW_go b_Mo_breaks_69 (st' := ([.int (nI 1 <<< (nI k &&& 31)), .int (nI (mkN (qP4 hs x y) k))], [some (.ref a), some (.int (nI x)), some (.int (nI y)), some (.int (nI (mkN (qP4 hs x y) k))), some (.int (nI k)), some (.int (nI 1))], M)) (φ := True) rfl trivial ?_
              refine sW_eq (st' := ([.int (nI (1 * 2 ^ k)), .int (nI (mkN (qP4 hs x y) k))], [some (.ref a), some (.int (nI x)), some (.int (nI y)), some (.int (nI (mkN (qP4 hs x y) k))), some (.int (nI k)), some (.int (nI 1))], M)) (by simp (disch := omega) only [q1]) ?_
              refine sW_goto 77 d_Mo_breaks_73 (by decide) ?_
              refine sW_go b_Mo_breaks_77 (st' := ([], [some (.ref a), some (.int (nI x)), some (.int (nI y)), some (.int (nI (mkN (qP4 hs x y) k) ||| nI (1 * 2 ^ k))), some (.int (nI k + nI 1)), some (.int (nI 1))], M)) (φ := True) rfl trivial ?_
              refine sW_eq (st' := ([], [some (.ref a), some (.int (nI x)), some (.int (nI y)), some (.int (nI (mkN (qP4 hs x y) k ||| (1 * 2 ^ k)))), some (.int (nI (k + 1))), some (.int (nI 1))], M)) (by simp (disch := omega) only [nI_add, nx_or]) ?_
              refine sW_goto 5 d_Mo_breaks_82 (by decide) ?_
              refine sW_fg [false, false, false, false, false, true] ?_
              show sW G m_Mo_breaks 5 ([], [some (.ref a), some (.int (nI x)), some (.int (nI y)), some (.int (nI (mkN (qP4 hs x y) k ||| (1 * 2 ^ k)))), some (.int (nI (k + 1))), none], M) _
              first | (rw [mkN_1 (P := qP4 hs x y) (by unfold qP4; omega)]; exact ih (k + 1) (by omega) (by omega)) | (rw [mkN_0 (P := qP4 hs x y) (by unfold qP4; omega)]; exact ih (k + 1) (by omega) (by omega)) | exact absurd c_39 hy0
          · skip
            refine sW_go b_Mo_breaks_42 (st' := ([.int (nI 2), .int (nI k), .ref a, .int (nI y)], [some (.ref a), some (.int (nI x)), some (.int (nI y)), some (.int (nI (mkN (qP4 hs x y) k))), some (.int (nI k)), none], M)) (φ := True) rfl trivial ?_
            refine sW_callS [.ref a, .int (nI k), .int (nI 2)] [.int (nI y)] d_Mo_breaks_47 c_Mo_breaks_47 ⟨rfl, rfl, Nat.le_of_ble_eq_true rfl, rfl, rfl⟩ (k_ofB G hl h k8) ?_
            rintro _ M₁ ⟨rfl, h₁⟩
            rw [h₁]
            show sW G m_Mo_breaks 50 ([.int (nI (Bf hs k)), .int (nI y)], [some (.ref a), some (.int (nI x)), some (.int (nI y)), some (.int (nI (mkN (qP4 hs x y) k))), some (.int (nI k)), none], M) _
            refine sW_callS [.int (nI y), .int (nI (Bf hs k))] [] d_Mo_breaks_50 c_Mo_breaks_50 ⟨rfl, rfl, Nat.le_of_ble_eq_true rfl, rfl, rfl⟩ (k_has G (by omega) (by omega)) ?_
            rintro _ M₁ ⟨rfl, h₁⟩
            rw [h₁]
            show sW G m_Mo_breaks 53 ([.int (tf (bt y (Bf hs k) = 1))], [some (.ref a), some (.int (nI x)), some (.int (nI y)), some (.int (nI (mkN (qP4 hs x y) k))), some (.int (nI k)), none], M) _
            refine sW_if_ne 60 d_Mo_breaks_53 (by decide) (fun c_53 => ?_) (fun c_53 => ?_)
            · skip
              replace c_53 := tf_nz.mp c_53
              refine sW_go b_Mo_breaks_60 (st' := ([.int (nI 0)], [some (.ref a), some (.int (nI x)), some (.int (nI y)), some (.int (nI (mkN (qP4 hs x y) k))), some (.int (nI k)), none], M)) (φ := True) rfl trivial ?_
              refine sW_go b_Mo_breaks_61 (st' := ([.int (nI 0), .int (nI (mkN (qP4 hs x y) k))], [some (.ref a), some (.int (nI x)), some (.int (nI y)), some (.int (nI (mkN (qP4 hs x y) k))), some (.int (nI k)), some (.int (nI 0))], M)) (φ := True) rfl trivial ?_
              refine sW_if_eq 76 d_Mo_breaks_66 (by decide) (fun c_66 => ?_) (fun c_66 => ?_)
              · skip
                simp (disch := omega) only [nI_z] at c_66
                refine sW_go b_Mo_breaks_76 (st' := ([.int (nI 0), .int (nI (mkN (qP4 hs x y) k))], [some (.ref a), some (.int (nI x)), some (.int (nI y)), some (.int (nI (mkN (qP4 hs x y) k))), some (.int (nI k)), some (.int (nI 0))], M)) (φ := True) rfl trivial ?_
                refine sW_go b_Mo_breaks_77 (st' := ([], [some (.ref a), some (.int (nI x)), some (.int (nI y)), some (.int (nI (mkN (qP4 hs x y) k) ||| nI 0)), some (.int (nI k + nI 1)), some (.int (nI 0))], M)) (φ := True) rfl trivial ?_
                refine sW_eq (st' := ([], [some (.ref a), some (.int (nI x)), some (.int (nI y)), some (.int (nI (mkN (qP4 hs x y) k ||| 0))), some (.int (nI (k + 1))), some (.int (nI 0))], M)) (by simp (disch := omega) only [nI_add, nx_or]) ?_
                refine sW_goto 5 d_Mo_breaks_82 (by decide) ?_
                refine sW_fg [false, false, false, false, false, true] ?_
                show sW G m_Mo_breaks 5 ([], [some (.ref a), some (.int (nI x)), some (.int (nI y)), some (.int (nI (mkN (qP4 hs x y) k ||| 0))), some (.int (nI (k + 1))), none], M) _
                first | (rw [mkN_1 (P := qP4 hs x y) (by unfold qP4; omega)]; exact ih (k + 1) (by omega) (by omega)) | (rw [mkN_0 (P := qP4 hs x y) (by unfold qP4; omega)]; exact ih (k + 1) (by omega) (by omega)) | exact absurd c_39 hy0
              · skip
                exact absurd (by decide +kernel) c_66
            · skip
              replace c_53 := tf_z.mp c_53
              refine sW_go b_Mo_breaks_56 (st' := ([.int (nI 1)], [some (.ref a), some (.int (nI x)), some (.int (nI y)), some (.int (nI (mkN (qP4 hs x y) k))), some (.int (nI k)), none], M)) (φ := True) rfl trivial ?_
              refine sW_goto 61 d_Mo_breaks_57 (by decide) ?_
              refine sW_go b_Mo_breaks_61 (st' := ([.int (nI 1), .int (nI (mkN (qP4 hs x y) k))], [some (.ref a), some (.int (nI x)), some (.int (nI y)), some (.int (nI (mkN (qP4 hs x y) k))), some (.int (nI k)), some (.int (nI 1))], M)) (φ := True) rfl trivial ?_
              refine sW_if_eq 76 d_Mo_breaks_66 (by decide) (fun c_66 => ?_) (fun c_66 => ?_)
              · skip
                exact absurd c_66 (by decide +kernel)
              · skip
                simp (disch := omega) only [nI_z] at c_66
                refine sW_go b_Mo_breaks_69 (st' := ([.int (nI 1 <<< (nI k &&& 31)), .int (nI (mkN (qP4 hs x y) k))], [some (.ref a), some (.int (nI x)), some (.int (nI y)), some (.int (nI (mkN (qP4 hs x y) k))), some (.int (nI k)), some (.int (nI 1))], M)) (φ := True) rfl trivial ?_
                refine sW_eq (st' := ([.int (nI (1 * 2 ^ k)), .int (nI (mkN (qP4 hs x y) k))], [some (.ref a), some (.int (nI x)), some (.int (nI y)), some (.int (nI (mkN (qP4 hs x y) k))), some (.int (nI k)), some (.int (nI 1))], M)) (by simp (disch := omega) only [q1]) ?_
                refine sW_goto 77 d_Mo_breaks_73 (by decide) ?_
                refine sW_go b_Mo_breaks_77 (st' := ([], [some (.ref a), some (.int (nI x)), some (.int (nI y)), some (.int (nI (mkN (qP4 hs x y) k) ||| nI (1 * 2 ^ k))), some (.int (nI k + nI 1)), some (.int (nI 1))], M)) (φ := True) rfl trivial ?_
                refine sW_eq (st' := ([], [some (.ref a), some (.int (nI x)), some (.int (nI y)), some (.int (nI (mkN (qP4 hs x y) k ||| (1 * 2 ^ k)))), some (.int (nI (k + 1))), some (.int (nI 1))], M)) (by simp (disch := omega) only [nI_add, nx_or]) ?_
                refine sW_goto 5 d_Mo_breaks_82 (by decide) ?_
                refine sW_fg [false, false, false, false, false, true] ?_
                show sW G m_Mo_breaks 5 ([], [some (.ref a), some (.int (nI x)), some (.int (nI y)), some (.int (nI (mkN (qP4 hs x y) k ||| (1 * 2 ^ k)))), some (.int (nI (k + 1))), none], M) _
                first | (rw [mkN_1 (P := qP4 hs x y) (by unfold qP4; omega)]; exact ih (k + 1) (by omega) (by omega)) | (rw [mkN_0 (P := qP4 hs x y) (by unfold qP4; omega)]; exact ih (k + 1) (by omega) (by omega)) | exact absurd c_39 hy0
  · have hke : k = hs.1 := by omega
    subst hke
    refine sW_go b_Mo_breaks_5 (st' := ([.int (M a (nI 0).toNatClampNeg), .int (nI hs.1)], [some (.ref a), some (.int (nI x)), some (.int (nI y)), some (.int (nI (mkN (qP4 hs x y) hs.1))), some (.int (nI hs.1)), none], M)) (φ := vp_in (nI 0) (mx_len LAY false a) ∧ True) rfl ⟨(by simp (disch := omega) only [hl]; exact vp_in_nI (by omega) (by decide)), trivial⟩ ?_
    refine sW_eq (st' := ([.int (nI hs.1), .int (nI hs.1)], [some (.ref a), some (.int (nI x)), some (.int (nI y)), some (.int (nI (mkN (qP4 hs x y) hs.1))), some (.int (nI hs.1)), none], M)) (by simp (disch := omega) only [e0, nI_clamp]) ?_
    refine sW_ic_ge 85 d_Mo_breaks_10 (by decide) (fun c_10 => ?_) (fun c_10 => ?_)
    · skip
      simp (disch := omega) only [nI_leI] at c_10
      refine sW_go b_Mo_breaks_85 (st' := ([.int (nI (mkN (qP4 hs x y) hs.1))], [some (.ref a), some (.int (nI x)), some (.int (nI y)), some (.int (nI (mkN (qP4 hs x y) hs.1))), some (.int (nI hs.1)), none], M)) (φ := True) rfl trivial ?_
      refine sW_retI d_Mo_breaks_86 rfl (vp_nar_int _) ?_
      exact ⟨by rw [qP4_e], rfl⟩
    · skip
      simp (disch := omega) only [nI_leI] at c_10
      omega
def popN (a : Nat) : Nat → Nat
  | 0 => 0
  | k + 1 => popN a k + bt a k
theorem popN_le (a : Nat) : ∀ k, popN a k ≤ k
  | 0 => Nat.le_refl 0
  | k + 1 => by
    have h1 := popN_le a k
    have h2 := bt_le a k
    show popN a k + bt a k ≤ k + 1
    omega
theorem k_bitsM (G : mx_G) {M : mx_M} {a : Nat} (ha : a < 256) : sOk G m_Mo_bits [.int (nI a)] M (fun r M' => r = some (.int (nI (pop a))) ∧ M' = M) := by
  refine sOk_of ⟨by decide +kernel, by decide +kernel, Nat.le_of_ble_eq_true rfl⟩ ?_
  show sW G m_Mo_bits 0 ([], [some (.int (nI a)), none, none], M) _
  refine sW_go b_Mo_bits_0 (st' := ([], [some (.int (nI a)), some (.int (nI 0)), some (.int (nI 0))], M)) (φ := True) rfl trivial ?_
  refine mx_ind (α := Nat) (fun k => 8 - k) (fun k => k ≤ 8 → sW G m_Mo_bits 4 ([], [some (.int (nI a)), some (.int (nI (popN a k))), some (.int (nI k))], M) _) ?_ 0 (Nat.zero_le _)
  intro k ih hk
  have hle := popN_le a k
  by_cases hkn : k < 8
  · have e1 : (nI a >>> (nI k &&& 31)) &&& nI 1 = nI (bt a k) := sh_b (by omega) (by omega)
    refine sW_go b_Mo_bits_4 (st' := ([.int (nI 8), .int (nI k)], [some (.int (nI a)), some (.int (nI (popN a k))), some (.int (nI k))], M)) (φ := True) rfl trivial ?_
    refine sW_ic_ge 24 d_Mo_bits_7 (by decide) (fun c_7 => ?_) (fun c_7 => ?_)
    · skip
      simp (disch := omega) only [nI_leI] at c_7
      omega
    · skip
      simp (disch := omega) only [nI_leI] at c_7
      refine sW_go b_Mo_bits_10 (st' := ([], [some (.int (nI a)), some (.int (nI (popN a k) + ((nI a >>> (nI k &&& 31)) &&& nI 1))), some (.int (nI k + nI 1))], M)) (φ := True) rfl trivial ?_
      refine sW_eq (st' := ([], [some (.int (nI a)), some (.int (nI (popN a k + bt a k))), some (.int (nI (k + 1)))], M)) (by simp (disch := omega) only [e1, nI_add]) ?_
      refine sW_goto 4 d_Mo_bits_21 (by decide) ?_
      exact ih (k + 1) (by omega) (by omega)
  · have hke : k = 8 := by omega
    subst hke
    refine sW_go b_Mo_bits_4 (st' := ([.int (nI 8), .int (nI 8)], [some (.int (nI a)), some (.int (nI (popN a 8))), some (.int (nI 8))], M)) (φ := True) rfl trivial ?_
    refine sW_ic_ge 24 d_Mo_bits_7 (by decide) (fun c_7 => ?_) (fun c_7 => ?_)
    · skip
      simp (disch := omega) only [nI_leI] at c_7
      refine sW_go b_Mo_bits_24 (st' := ([.int (nI (popN a 8))], [some (.int (nI a)), some (.int (nI (popN a 8))), some (.int (nI 8))], M)) (φ := True) rfl trivial ?_
      refine sW_retI d_Mo_bits_25 rfl (vp_nar_int _) ?_
      refine ⟨?_, rfl⟩
      have e : popN a 8 = pop a := by simp [popN, pop]
      rw [e]
    · skip
      exact absurd (by decide +kernel) c_7

