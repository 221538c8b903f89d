/-! ===== the model: types are read ===== -/
/-- numbers as they are read: spans, and joints of lesser types -/
def HsRd (hs : Hs) : Prop := WHs hs ∧ 0 < hs.2.1 ∧ ∀ k, k < hs.1 → (Sf hs k = 0 → Af hs k ≤ Bf hs k ∧ Bf hs k ≤ 3) ∧ (3 ≤ Sf hs k → Af hs k < k ∧ Bf hs k < k)
theorem numF_0 {B : Nat → Nat} {n p lo : Nat} {z : Int} (h : numF B n p lo z = 0) : lo ≤ nmA B n p ∧ (nmA B n p : Int) ≤ z := by
  unfold numF at h
  split at h
  · split at h
    · rename_i w; exact w
    · exact absurd h (by decide)
  · exact absurd h (by decide)
theorem pEq_inv {B : Nat → Nat} {n p k s a b q : Nat} (h : pEq B n p k s = .ok (a, b, q)) : numF B n p 0 (mostZ s k) = 0 ∧ tkA B n (nxA B n p) = 44 ∧ numF B n (nx2 B n p) (if s = 0 then nmA B n p else 0) (mostZ s k) = 0 ∧ tkA B n (nx3 B n p) = 59 ∧ a = nmA B n p ∧ b = nmA B n (nx2 B n p) ∧ q = nxA B n (nx3 B n p) := by
  unfold pEq at h
  by_cases h1 : numF B n p 0 (mostZ s k) ≠ 0
  · rw [if_pos h1] at h; cases h
  rw [if_neg h1] at h
  by_cases h2 : tkA B n (nxA B n p) ≠ 44
  · rw [if_pos h2] at h; cases h
  rw [if_neg h2] at h
  by_cases h3 : numF B n (nx2 B n p) (if s = 0 then nmA B n p else 0) (mostZ s k) ≠ 0
  · rw [if_pos h3] at h; cases h
  rw [if_neg h3] at h
  by_cases h4 : tkA B n (nx3 B n p) ≠ 59
  · rw [if_pos h4] at h; cases h
  rw [if_neg h4] at h
  cases h
  exact ⟨Classical.not_not.mp h1, Classical.not_not.mp h2, Classical.not_not.mp h3, Classical.not_not.mp h4, rfl, rfl, rfl⟩
theorem HsRd.add {hs : Hs} {B : Nat → Nat} {n p s a b q : Nat} (h : HsRd hs) (hk : hs.1 < 8) (hs6 : s < 6) (hq : pEq B n p hs.1 s = .ok (a, b, q)) (hp : p ≤ n) : HsRd (hsAdd hs s a b) := by
  obtain ⟨w, hc, hr⟩ := h
  obtain ⟨k1, k2, k3⟩ := pEq_ok hq hk hp
  obtain ⟨i1, i2, i3, i4, i5, i6, i7⟩ := pEq_inv hq
  have n1 := numF_0 i1
  have n2 := numF_0 i3
  rw [← i5] at n1 n2
  rw [← i6] at n2
  refine ⟨w.add hk hs6 k1 k2 hc, hc, fun k hk' => ?_⟩
  have hk' : k < hs.1 + 1 := hk'
  show (updN hs.2.2.1 hs.1 s k = 0 → updN hs.2.2.2.1 hs.1 a k ≤ updN hs.2.2.2.2 hs.1 b k ∧ updN hs.2.2.2.2 hs.1 b k ≤ 3) ∧ (3 ≤ updN hs.2.2.1 hs.1 s k → updN hs.2.2.2.1 hs.1 a k < k ∧ updN hs.2.2.2.2 hs.1 b k < k)
  by_cases hx : k = hs.1
  · rw [hx, updN_s, updN_s, updN_s]
    unfold mostZ at n1 n2
    refine ⟨fun z => ?_, fun z => ?_⟩
    · rw [if_pos z] at n2
      rw [if_pos z] at n2
      omega
    · rw [if_neg (by omega), if_neg (by omega)] at n1
      rw [if_neg (by omega), if_neg (by omega), if_neg (by omega)] at n2
      omega
  · rw [updN_n _ _ hx, updN_n _ _ hx, updN_n _ _ hx]
    exact hr k (by omega)
theorem HsRd.named {hs : Hs} (h : HsRd hs) : namesOK hs ↔ ∀ k, k < hs.1 → (Sf hs k = 1 ∨ Sf hs k = 2) → Af hs k < hs.1 ∧ Bf hs k < hs.1 := by
  unfold namesOK mayZ
  refine ⟨fun q k hk hs12 => ?_, fun q k hk => ?_⟩
  · obtain ⟨x1, x2, x3, x4, x5, x6, x7⟩ := q k hk
    have := x6 (by omega)
    omega
  · have hr := h.2.2 k hk
    have hl := h.1.le k
    refine ⟨by omega, by omega, by omega, by omega, fun z => ?_, fun z => ?_, fun z => ?_⟩
    · have := hr.1 (by omega); omega
    · have := q k hk (by omega); omega
    · have := hr.2 (by omega); omega
theorem RowAt.add {M : mx_M} {a s x y : Nat} {hs : Hs} (h : RowAt M a 0 hs) (hk : hs.1 < 8) : RowAt (mx_wr (mx_wr (mx_wr (mx_wr M a (2 + 3 * hs.1) (nI s)) a (2 + 3 * hs.1 + 1) (nI x)) a (2 + 3 * hs.1 + 2) (nI y)) a 0 (nI (hs.1 + 1))) a 0 (hsAdd hs s x y) := by
  have h' := h.tell (j := hs.1) (s := s) (x := x) (y := y)
  refine RowAt.of rd_s ?_ (fun k hk => ?_)
  · rw [rd_n (by decide)]; exact h'.c
  · exact ⟨(rd_n (by omega)).trans (h'.S hk), (rd_n (by omega)).trans (h'.A hk), (rd_n (by omega)).trans (h'.B hk)⟩
theorem k_readTypeF (G : mx_G) {M M2 : mx_M} {e : Nat × Nat} (hF : RdF M2 e) {k s : Nat} (hk : k ≤ 8) (hs : s < 6) {Q : Option Value → mx_M → Prop} (hQ : Q none M2) {l4 l5 l6 : Option Value} : sW G m_Mo_readType 26 ([], [some (.ref 119), some (.int (nI s)), some (.int (nI k)), none, none, none, none], M2) Q := by
  have ne := hF.ne
  refine sW_go b_Mo_readType_26 (st' := ([.int (nI 1), .ref 119], [some (.ref 119), some (.int (nI s)), some (.int (nI k)), none, none, none, none], M2)) (φ := True) rfl trivial ?_
  refine sW_callV 10 [.int (nI 1)] [] d_Mo_readType_28 c_Mo_readType_28 ⟨rfl, rfl, rfl, Nat.le_of_ble_eq_true rfl, rfl, rfl⟩ oc_119 (k_mustF G hF (nI 1)) ?_
  rintro _ M₁ ⟨rfl, h₁⟩
  rw [h₁]
  show sW G m_Mo_readType 31 ([], [some (.ref 119), some (.int (nI s)), some (.int (nI k)), none, none, none, none], M2) _
  refine sW_go b_Mo_readType_31 (st' := ([.int (nI s)], [some (.ref 119), some (.int (nI s)), some (.int (nI k)), none, none, none, none], M2)) (φ := True) rfl trivial ?_
  refine sW_if_ne 39 d_Mo_readType_32 (by decide) (fun c_32 => ?_) (fun c_32 => ?_)
  · skip
    simp (disch := omega) only [nI_z] at c_32
    refine sW_go b_Mo_readType_39 (st' := ([.int (nI 3), .int (nI s)], [some (.ref 119), some (.int (nI s)), some (.int (nI k)), none, none, none, none], M2)) (φ := True) rfl trivial ?_
    refine sW_ic_ge 49 d_Mo_readType_41 (by decide) (fun c_41 => ?_) (fun c_41 => ?_)
    · skip
      simp (disch := omega) only [nI_leI] at c_41
      refine sW_go b_Mo_readType_49 (st' := ([.int (nI k - nI 1)], [some (.ref 119), some (.int (nI s)), some (.int (nI k)), none, none, none, none], M2)) (φ := True) rfl trivial ?_
      refine sW_go b_Mo_readType_52 (st' := ([.int (nI k - nI 1), .int (nI 0), .ref 119], [some (.ref 119), some (.int (nI s)), some (.int (nI k)), some (.int (nI k - nI 1)), none, none, none], M2)) (φ := True) rfl trivial ?_
      refine sW_callV 10 [.int (nI 0), .int (nI k - nI 1)] [] d_Mo_readType_56 c_Mo_readType_56 ⟨rfl, rfl, rfl, Nat.le_of_ble_eq_true rfl, rfl, rfl⟩ oc_119 (k_numF G hF (nI 0) (nI k - nI 1)) ?_
      rintro _ M₁ ⟨rfl, h₁⟩
      rw [h₁]
      show sW G m_Mo_readType 59 ([.int (nI 0)], [some (.ref 119), some (.int (nI s)), some (.int (nI k)), some (.int (nI k - nI 1)), none, none, none], M2) _
      refine sW_go b_Mo_readType_59 (st' := ([.int (nI 44), .ref 119], [some (.ref 119), some (.int (nI s)), some (.int (nI k)), some (.int (nI k - nI 1)), some (.int (nI 0)), none, none], M2)) (φ := True) rfl trivial ?_
      refine sW_callV 10 [.int (nI 44)] [] d_Mo_readType_64 c_Mo_readType_64 ⟨rfl, rfl, rfl, Nat.le_of_ble_eq_true rfl, rfl, rfl⟩ oc_119 (k_mustSignF G hF (nI 44)) ?_
      rintro _ M₁ ⟨rfl, h₁⟩
      rw [h₁]
      show sW G m_Mo_readType 67 ([], [some (.ref 119), some (.int (nI s)), some (.int (nI k)), some (.int (nI k - nI 1)), some (.int (nI 0)), none, none], M2) _
      refine sW_go b_Mo_readType_67 (st' := ([.int (nI s), .ref 119], [some (.ref 119), some (.int (nI s)), some (.int (nI k)), some (.int (nI k - nI 1)), some (.int (nI 0)), none, none], M2)) (φ := True) rfl trivial ?_
      refine sW_if_ne 77 d_Mo_readType_69 (by decide) (fun c_69 => ?_) (fun c_69 => ?_)
      · skip
        simp (disch := omega) only [nI_z] at c_69
        refine sW_go b_Mo_readType_77 (st' := ([.int (nI 0), .ref 119], [some (.ref 119), some (.int (nI s)), some (.int (nI k)), some (.int (nI k - nI 1)), some (.int (nI 0)), none, none], M2)) (φ := True) rfl trivial ?_
        refine sW_go b_Mo_readType_78 (st' := ([.int (nI k - nI 1), .int (nI 0), .ref 119], [some (.ref 119), some (.int (nI s)), some (.int (nI k)), some (.int (nI k - nI 1)), some (.int (nI 0)), none, none], M2)) (φ := True) rfl trivial ?_
        refine sW_callV 10 [.int (nI 0), .int (nI k - nI 1)] [] d_Mo_readType_79 c_Mo_readType_79 ⟨rfl, rfl, rfl, Nat.le_of_ble_eq_true rfl, rfl, rfl⟩ oc_119 (k_numF G hF (nI 0) (nI k - nI 1)) ?_
        rintro _ M₁ ⟨rfl, h₁⟩
        rw [h₁]
        show sW G m_Mo_readType 82 ([.int (nI 0)], [some (.ref 119), some (.int (nI s)), some (.int (nI k)), some (.int (nI k - nI 1)), some (.int (nI 0)), none, none], M2) _
        refine sW_go b_Mo_readType_82 (st' := ([.int (nI 59), .ref 119], [some (.ref 119), some (.int (nI s)), some (.int (nI k)), some (.int (nI k - nI 1)), some (.int (nI 0)), some (.int (nI 0)), none], M2)) (φ := True) rfl trivial ?_
        refine sW_callV 10 [.int (nI 59)] [] d_Mo_readType_87 c_Mo_readType_87 ⟨rfl, rfl, rfl, Nat.le_of_ble_eq_true rfl, rfl, rfl⟩ oc_119 (k_mustSignF G hF (nI 59)) ?_
        rintro _ M₁ ⟨rfl, h₁⟩
        rw [h₁]
        show sW G m_Mo_readType 90 ([], [some (.ref 119), some (.int (nI s)), some (.int (nI k)), some (.int (nI k - nI 1)), some (.int (nI 0)), some (.int (nI 0)), none], M2) _
        refine sW_go b_Mo_readType_90 (st' := ([.int (M2 119 16)], [some (.ref 119), some (.int (nI s)), some (.int (nI k)), some (.int (nI k - nI 1)), some (.int (nI 0)), some (.int (nI 0)), none], M2)) (φ := mx_ocl LAY 119 = 10 ∧ True) rfl ⟨oc_119, trivial⟩ ?_
        refine sW_if_ne 144 d_Mo_readType_94 (by decide) (fun c_94 => ?_) (fun c_94 => ?_)
        · skip
          refine sW_retV d_Mo_readType_144 rfl ?_
          first | exact hQ | exact absurd c_94 ne
        · skip
          first | exact hQ | exact absurd c_94 ne
      · skip
        simp (disch := omega) only [nI_z] at c_69
        refine sW_go b_Mo_readType_72 (st' := ([.int (nI 0), .ref 119], [some (.ref 119), some (.int (nI s)), some (.int (nI k)), some (.int (nI k - nI 1)), some (.int (nI 0)), none, none], M2)) (φ := True) rfl trivial ?_
        refine sW_goto 78 d_Mo_readType_74 (by decide) ?_
        refine sW_go b_Mo_readType_78 (st' := ([.int (nI k - nI 1), .int (nI 0), .ref 119], [some (.ref 119), some (.int (nI s)), some (.int (nI k)), some (.int (nI k - nI 1)), some (.int (nI 0)), none, none], M2)) (φ := True) rfl trivial ?_
        refine sW_callV 10 [.int (nI 0), .int (nI k - nI 1)] [] d_Mo_readType_79 c_Mo_readType_79 ⟨rfl, rfl, rfl, Nat.le_of_ble_eq_true rfl, rfl, rfl⟩ oc_119 (k_numF G hF (nI 0) (nI k - nI 1)) ?_
        rintro _ M₁ ⟨rfl, h₁⟩
        rw [h₁]
        show sW G m_Mo_readType 82 ([.int (nI 0)], [some (.ref 119), some (.int (nI s)), some (.int (nI k)), some (.int (nI k - nI 1)), some (.int (nI 0)), none, none], M2) _
        refine sW_go b_Mo_readType_82 (st' := ([.int (nI 59), .ref 119], [some (.ref 119), some (.int (nI s)), some (.int (nI k)), some (.int (nI k - nI 1)), some (.int (nI 0)), some (.int (nI 0)), none], M2)) (φ := True) rfl trivial ?_
        refine sW_callV 10 [.int (nI 59)] [] d_Mo_readType_87 c_Mo_readType_87 ⟨rfl, rfl, rfl, Nat.le_of_ble_eq_true rfl, rfl, rfl⟩ oc_119 (k_mustSignF G hF (nI 59)) ?_
        rintro _ M₁ ⟨rfl, h₁⟩
        rw [h₁]
        show sW G m_Mo_readType 90 ([], [some (.ref 119), some (.int (nI s)), some (.int (nI k)), some (.int (nI k - nI 1)), some (.int (nI 0)), some (.int (nI 0)), none], M2) _
        refine sW_go b_Mo_readType_90 (st' := ([.int (M2 119 16)], [some (.ref 119), some (.int (nI s)), some (.int (nI k)), some (.int (nI k - nI 1)), some (.int (nI 0)), some (.int (nI 0)), none], M2)) (φ := mx_ocl LAY 119 = 10 ∧ True) rfl ⟨oc_119, trivial⟩ ?_
        refine sW_if_ne 144 d_Mo_readType_94 (by decide) (fun c_94 => ?_) (fun c_94 => ?_)
        · skip
          refine sW_retV d_Mo_readType_144 rfl ?_
          first | exact hQ | exact absurd c_94 ne
        · skip
          first | exact hQ | exact absurd c_94 ne
    · skip
      simp (disch := omega) only [nI_leI] at c_41
      refine sW_go b_Mo_readType_44 (st' := ([.int (nI 7)], [some (.ref 119), some (.int (nI s)), some (.int (nI k)), none, none, none, none], M2)) (φ := True) rfl trivial ?_
      refine sW_goto 52 d_Mo_readType_46 (by decide) ?_
      refine sW_go b_Mo_readType_52 (st' := ([.int (nI 7), .int (nI 0), .ref 119], [some (.ref 119), some (.int (nI s)), some (.int (nI k)), some (.int (nI 7)), none, none, none], M2)) (φ := True) rfl trivial ?_
      refine sW_callV 10 [.int (nI 0), .int (nI 7)] [] d_Mo_readType_56 c_Mo_readType_56 ⟨rfl, rfl, rfl, Nat.le_of_ble_eq_true rfl, rfl, rfl⟩ oc_119 (k_numF G hF (nI 0) (nI 7)) ?_
      rintro _ M₁ ⟨rfl, h₁⟩
      rw [h₁]
      show sW G m_Mo_readType 59 ([.int (nI 0)], [some (.ref 119), some (.int (nI s)), some (.int (nI k)), some (.int (nI 7)), none, none, none], M2) _
      refine sW_go b_Mo_readType_59 (st' := ([.int (nI 44), .ref 119], [some (.ref 119), some (.int (nI s)), some (.int (nI k)), some (.int (nI 7)), some (.int (nI 0)), none, none], M2)) (φ := True) rfl trivial ?_
      refine sW_callV 10 [.int (nI 44)] [] d_Mo_readType_64 c_Mo_readType_64 ⟨rfl, rfl, rfl, Nat.le_of_ble_eq_true rfl, rfl, rfl⟩ oc_119 (k_mustSignF G hF (nI 44)) ?_
      rintro _ M₁ ⟨rfl, h₁⟩
      rw [h₁]
      show sW G m_Mo_readType 67 ([], [some (.ref 119), some (.int (nI s)), some (.int (nI k)), some (.int (nI 7)), some (.int (nI 0)), none, none], M2) _
      refine sW_go b_Mo_readType_67 (st' := ([.int (nI s), .ref 119], [some (.ref 119), some (.int (nI s)), some (.int (nI k)), some (.int (nI 7)), some (.int (nI 0)), none, none], M2)) (φ := True) rfl trivial ?_
      refine sW_if_ne 77 d_Mo_readType_69 (by decide) (fun c_69 => ?_) (fun c_69 => ?_)
      · skip
        simp (disch := omega) only [nI_z] at c_69
        refine sW_go b_Mo_readType_77 (st' := ([.int (nI 0), .ref 119], [some (.ref 119), some (.int (nI s)), some (.int (nI k)), some (.int (nI 7)), some (.int (nI 0)), none, none], M2)) (φ := True) rfl trivial ?_
        refine sW_go b_Mo_readType_78 (st' := ([.int (nI 7), .int (nI 0), .ref 119], [some (.ref 119), some (.int (nI s)), some (.int (nI k)), some (.int (nI 7)), some (.int (nI 0)), none, none], M2)) (φ := True) rfl trivial ?_
        refine sW_callV 10 [.int (nI 0), .int (nI 7)] [] d_Mo_readType_79 c_Mo_readType_79 ⟨rfl, rfl, rfl, Nat.le_of_ble_eq_true rfl, rfl, rfl⟩ oc_119 (k_numF G hF (nI 0) (nI 7)) ?_
        rintro _ M₁ ⟨rfl, h₁⟩
        rw [h₁]
        show sW G m_Mo_readType 82 ([.int (nI 0)], [some (.ref 119), some (.int (nI s)), some (.int (nI k)), some (.int (nI 7)), some (.int (nI 0)), none, none], M2) _
        refine sW_go b_Mo_readType_82 (st' := ([.int (nI 59), .ref 119], [some (.ref 119), some (.int (nI s)), some (.int (nI k)), some (.int (nI 7)), some (.int (nI 0)), some (.int (nI 0)), none], M2)) (φ := True) rfl trivial ?_
        refine sW_callV 10 [.int (nI 59)] [] d_Mo_readType_87 c_Mo_readType_87 ⟨rfl, rfl, rfl, Nat.le_of_ble_eq_true rfl, rfl, rfl⟩ oc_119 (k_mustSignF G hF (nI 59)) ?_
        rintro _ M₁ ⟨rfl, h₁⟩
        rw [h₁]
        show sW G m_Mo_readType 90 ([], [some (.ref 119), some (.int (nI s)), some (.int (nI k)), some (.int (nI 7)), some (.int (nI 0)), some (.int (nI 0)), none], M2) _
        refine sW_go b_Mo_readType_90 (st' := ([.int (M2 119 16)], [some (.ref 119), some (.int (nI s)), some (.int (nI k)), some (.int (nI 7)), some (.int (nI 0)), some (.int (nI 0)), none], M2)) (φ := mx_ocl LAY 119 = 10 ∧ True) rfl ⟨oc_119, trivial⟩ ?_
        refine sW_if_ne 144 d_Mo_readType_94 (by decide) (fun c_94 => ?_) (fun c_94 => ?_)
        · skip
          refine sW_retV d_Mo_readType_144 rfl ?_
          first | exact hQ | exact absurd c_94 ne
        · skip
          first | exact hQ | exact absurd c_94 ne
      · skip
        simp (disch := omega) only [nI_z] at c_69
        refine sW_go b_Mo_readType_72 (st' := ([.int (nI 0), .ref 119], [some (.ref 119), some (.int (nI s)), some (.int (nI k)), some (.int (nI 7)), some (.int (nI 0)), none, none], M2)) (φ := True) rfl trivial ?_
        refine sW_goto 78 d_Mo_readType_74 (by decide) ?_
        refine sW_go b_Mo_readType_78 (st' := ([.int (nI 7), .int (nI 0), .ref 119], [some (.ref 119), some (.int (nI s)), some (.int (nI k)), some (.int (nI 7)), some (.int (nI 0)), none, none], M2)) (φ := True) rfl trivial ?_
        refine sW_callV 10 [.int (nI 0), .int (nI 7)] [] d_Mo_readType_79 c_Mo_readType_79 ⟨rfl, rfl, rfl, Nat.le_of_ble_eq_true rfl, rfl, rfl⟩ oc_119 (k_numF G hF (nI 0) (nI 7)) ?_
        rintro _ M₁ ⟨rfl, h₁⟩
        rw [h₁]
        show sW G m_Mo_readType 82 ([.int (nI 0)], [some (.ref 119), some (.int (nI s)), some (.int (nI k)), some (.int (nI 7)), some (.int (nI 0)), none, none], M2) _
        refine sW_go b_Mo_readType_82 (st' := ([.int (nI 59), .ref 119], [some (.ref 119), some (.int (nI s)), some (.int (nI k)), some (.int (nI 7)), some (.int (nI 0)), some (.int (nI 0)), none], M2)) (φ := True) rfl trivial ?_
        refine sW_callV 10 [.int (nI 59)] [] d_Mo_readType_87 c_Mo_readType_87 ⟨rfl, rfl, rfl, Nat.le_of_ble_eq_true rfl, rfl, rfl⟩ oc_119 (k_mustSignF G hF (nI 59)) ?_
        rintro _ M₁ ⟨rfl, h₁⟩
        rw [h₁]
        show sW G m_Mo_readType 90 ([], [some (.ref 119), some (.int (nI s)), some (.int (nI k)), some (.int (nI 7)), some (.int (nI 0)), some (.int (nI 0)), none], M2) _
        refine sW_go b_Mo_readType_90 (st' := ([.int (M2 119 16)], [some (.ref 119), some (.int (nI s)), some (.int (nI k)), some (.int (nI 7)), some (.int (nI 0)), some (.int (nI 0)), none], M2)) (φ := mx_ocl LAY 119 = 10 ∧ True) rfl ⟨oc_119, trivial⟩ ?_
        refine sW_if_ne 144 d_Mo_readType_94 (by decide) (fun c_94 => ?_) (fun c_94 => ?_)
        · skip
          refine sW_retV d_Mo_readType_144 rfl ?_
          first | exact hQ | exact absurd c_94 ne
        · skip
          first | exact hQ | exact absurd c_94 ne
  · skip
    simp (disch := omega) only [nI_z] at c_32
    refine sW_go b_Mo_readType_35 (st' := ([.int (nI 3)], [some (.ref 119), some (.int (nI s)), some (.int (nI k)), none, none, none, none], M2)) (φ := True) rfl trivial ?_
    refine sW_goto 52 d_Mo_readType_36 (by decide) ?_
    refine sW_go b_Mo_readType_52 (st' := ([.int (nI 3), .int (nI 0), .ref 119], [some (.ref 119), some (.int (nI s)), some (.int (nI k)), some (.int (nI 3)), none, none, none], M2)) (φ := True) rfl trivial ?_
    refine sW_callV 10 [.int (nI 0), .int (nI 3)] [] d_Mo_readType_56 c_Mo_readType_56 ⟨rfl, rfl, rfl, Nat.le_of_ble_eq_true rfl, rfl, rfl⟩ oc_119 (k_numF G hF (nI 0) (nI 3)) ?_
    rintro _ M₁ ⟨rfl, h₁⟩
    rw [h₁]
    show sW G m_Mo_readType 59 ([.int (nI 0)], [some (.ref 119), some (.int (nI s)), some (.int (nI k)), some (.int (nI 3)), none, none, none], M2) _
    refine sW_go b_Mo_readType_59 (st' := ([.int (nI 44), .ref 119], [some (.ref 119), some (.int (nI s)), some (.int (nI k)), some (.int (nI 3)), some (.int (nI 0)), none, none], M2)) (φ := True) rfl trivial ?_
    refine sW_callV 10 [.int (nI 44)] [] d_Mo_readType_64 c_Mo_readType_64 ⟨rfl, rfl, rfl, Nat.le_of_ble_eq_true rfl, rfl, rfl⟩ oc_119 (k_mustSignF G hF (nI 44)) ?_
    rintro _ M₁ ⟨rfl, h₁⟩
    rw [h₁]
    show sW G m_Mo_readType 67 ([], [some (.ref 119), some (.int (nI s)), some (.int (nI k)), some (.int (nI 3)), some (.int (nI 0)), none, none], M2) _
    refine sW_go b_Mo_readType_67 (st' := ([.int (nI s), .ref 119], [some (.ref 119), some (.int (nI s)), some (.int (nI k)), some (.int (nI 3)), some (.int (nI 0)), none, none], M2)) (φ := True) rfl trivial ?_
    refine sW_if_ne 77 d_Mo_readType_69 (by decide) (fun c_69 => ?_) (fun c_69 => ?_)
    · skip
      simp (disch := omega) only [nI_z] at c_69
      refine sW_go b_Mo_readType_77 (st' := ([.int (nI 0), .ref 119], [some (.ref 119), some (.int (nI s)), some (.int (nI k)), some (.int (nI 3)), some (.int (nI 0)), none, none], M2)) (φ := True) rfl trivial ?_
      refine sW_go b_Mo_readType_78 (st' := ([.int (nI 3), .int (nI 0), .ref 119], [some (.ref 119), some (.int (nI s)), some (.int (nI k)), some (.int (nI 3)), some (.int (nI 0)), none, none], M2)) (φ := True) rfl trivial ?_
      refine sW_callV 10 [.int (nI 0), .int (nI 3)] [] d_Mo_readType_79 c_Mo_readType_79 ⟨rfl, rfl, rfl, Nat.le_of_ble_eq_true rfl, rfl, rfl⟩ oc_119 (k_numF G hF (nI 0) (nI 3)) ?_
      rintro _ M₁ ⟨rfl, h₁⟩
      rw [h₁]
      show sW G m_Mo_readType 82 ([.int (nI 0)], [some (.ref 119), some (.int (nI s)), some (.int (nI k)), some (.int (nI 3)), some (.int (nI 0)), none, none], M2) _
      refine sW_go b_Mo_readType_82 (st' := ([.int (nI 59), .ref 119], [some (.ref 119), some (.int (nI s)), some (.int (nI k)), some (.int (nI 3)), some (.int (nI 0)), some (.int (nI 0)), none], M2)) (φ := True) rfl trivial ?_
      refine sW_callV 10 [.int (nI 59)] [] d_Mo_readType_87 c_Mo_readType_87 ⟨rfl, rfl, rfl, Nat.le_of_ble_eq_true rfl, rfl, rfl⟩ oc_119 (k_mustSignF G hF (nI 59)) ?_
      rintro _ M₁ ⟨rfl, h₁⟩
      rw [h₁]
      show sW G m_Mo_readType 90 ([], [some (.ref 119), some (.int (nI s)), some (.int (nI k)), some (.int (nI 3)), some (.int (nI 0)), some (.int (nI 0)), none], M2) _
      refine sW_go b_Mo_readType_90 (st' := ([.int (M2 119 16)], [some (.ref 119), some (.int (nI s)), some (.int (nI k)), some (.int (nI 3)), some (.int (nI 0)), some (.int (nI 0)), none], M2)) (φ := mx_ocl LAY 119 = 10 ∧ True) rfl ⟨oc_119, trivial⟩ ?_
      refine sW_if_ne 144 d_Mo_readType_94 (by decide) (fun c_94 => ?_) (fun c_94 => ?_)
      · skip
        refine sW_retV d_Mo_readType_144 rfl ?_
        first | exact hQ | exact absurd c_94 ne
      · skip
        first | exact hQ | exact absurd c_94 ne
    · skip
      simp (disch := omega) only [nI_z] at c_69
      refine sW_go b_Mo_readType_72 (st' := ([.int (nI 0), .ref 119], [some (.ref 119), some (.int (nI s)), some (.int (nI k)), some (.int (nI 3)), some (.int (nI 0)), none, none], M2)) (φ := True) rfl trivial ?_
      refine sW_goto 78 d_Mo_readType_74 (by decide) ?_
      refine sW_go b_Mo_readType_78 (st' := ([.int (nI 3), .int (nI 0), .ref 119], [some (.ref 119), some (.int (nI s)), some (.int (nI k)), some (.int (nI 3)), some (.int (nI 0)), none, none], M2)) (φ := True) rfl trivial ?_
      refine sW_callV 10 [.int (nI 0), .int (nI 3)] [] d_Mo_readType_79 c_Mo_readType_79 ⟨rfl, rfl, rfl, Nat.le_of_ble_eq_true rfl, rfl, rfl⟩ oc_119 (k_numF G hF (nI 0) (nI 3)) ?_
      rintro _ M₁ ⟨rfl, h₁⟩
      rw [h₁]
      show sW G m_Mo_readType 82 ([.int (nI 0)], [some (.ref 119), some (.int (nI s)), some (.int (nI k)), some (.int (nI 3)), some (.int (nI 0)), none, none], M2) _
      refine sW_go b_Mo_readType_82 (st' := ([.int (nI 59), .ref 119], [some (.ref 119), some (.int (nI s)), some (.int (nI k)), some (.int (nI 3)), some (.int (nI 0)), some (.int (nI 0)), none], M2)) (φ := True) rfl trivial ?_
      refine sW_callV 10 [.int (nI 59)] [] d_Mo_readType_87 c_Mo_readType_87 ⟨rfl, rfl, rfl, Nat.le_of_ble_eq_true rfl, rfl, rfl⟩ oc_119 (k_mustSignF G hF (nI 59)) ?_
      rintro _ M₁ ⟨rfl, h₁⟩
      rw [h₁]
      show sW G m_Mo_readType 90 ([], [some (.ref 119), some (.int (nI s)), some (.int (nI k)), some (.int (nI 3)), some (.int (nI 0)), some (.int (nI 0)), none], M2) _
      refine sW_go b_Mo_readType_90 (st' := ([.int (M2 119 16)], [some (.ref 119), some (.int (nI s)), some (.int (nI k)), some (.int (nI 3)), some (.int (nI 0)), some (.int (nI 0)), none], M2)) (φ := mx_ocl LAY 119 = 10 ∧ True) rfl ⟨oc_119, trivial⟩ ?_
      refine sW_if_ne 144 d_Mo_readType_94 (by decide) (fun c_94 => ?_) (fun c_94 => ?_)
      · skip
        refine sW_retV d_Mo_readType_144 rfl ?_
        first | exact hQ | exact absurd c_94 ne
      · skip
        first | exact hQ | exact absurd c_94 ne

