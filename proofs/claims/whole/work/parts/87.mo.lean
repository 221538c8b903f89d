/-! ===== the model: asks ===== -/
theorem MTrc.push {M : mx_M} {T : List Nat} (h : MTrc M T) (n : Nat) : MTrc (mx_wr (mx_wr M 138 T.length (nI n)) 119 31 (nI (T.length + 1))) (T ++ [n]) := by
  obtain ⟨h1, h2⟩ := h
  refine ⟨by rw [mx_wr_s, pk_us, List.length_append]; rfl, fun i hi => ?_⟩
  rw [List.length_append] at hi
  have hi : i < T.length + 1 := hi
  rw [mx_wr_n _ _ _ (by decide), mx_wr_s]
  by_cases hx : i = T.length
  · rw [hx, pk_us, List.getD_eq_getElem?_getD, List.getElem?_append_right (Nat.le_refl _), Nat.sub_self]
    rfl
  · rw [pk_un hx, getD_app (by omega)]
    exact h2 i (by omega)
theorem k_began (G : mx_G) {M : mx_M} {T : List Nat} (h : MTrc M T) (hT : T.length < 16) (n : Nat) : sOk G m_Mo_began [.ref 119, .int (nI n)] M (fun r M' => r = none ∧ MFr M M' [138] [31] ∧ MTrc M' (T ++ [n])) := by
  have e1 := h.1
  have e2 : mx_wr M 138 T.length (nI n) 119 31 = nI T.length := by rw [mx_wr_n _ _ _ (by decide)]; exact e1
  refine sOk_of ⟨by decide +kernel, by decide +kernel, Nat.le_of_ble_eq_true rfl⟩ ?_
  show sW G m_Mo_began 0 ([], [some (.ref 119), some (.int (nI n))], M) _
  refine sW_go b_Mo_began_0 (st' := ([.int (nI 16), .int (M 119 31)], [some (.ref 119), some (.int (nI n))], M)) (φ := mx_ocl LAY 119 = 10 ∧ True) rfl ⟨oc_119, trivial⟩ ?_
  refine sW_eq (st' := ([.int (nI 16), .int (nI T.length)], [some (.ref 119), some (.int (nI n))], M)) (by simp (disch := omega) only [e1]) ?_
  refine sW_ic_ge 29 d_Mo_began_6 (by decide) (fun c_6 => ?_) (fun c_6 => ?_)
  · skip
    simp (disch := omega) only [nI_leI] at c_6
    refine sW_retV d_Mo_began_29 rfl ?_
    omega
  · skip
    simp (disch := omega) only [nI_leI] at c_6
    refine sW_go b_Mo_began_9 (st' := ([], [some (.ref 119), some (.int (nI n))], mx_wr (mx_wr M 138 (M 119 31).toNatClampNeg (nI n)) 119 31 ((mx_wr M 138 (M 119 31).toNatClampNeg (nI n)) 119 31 + nI 1))) (φ := mx_ocl LAY 119 = 10 ∧ mx_ocl LAY 119 = 10 ∧ vp_in (M 119 31) (mx_len LAY false 138) ∧ mx_ocl LAY 119 = 10 ∧ mx_ocl LAY 119 = 10 ∧ True) rfl ⟨oc_119, oc_119, (by simp (disch := omega) only [e1, ln_138]; exact vp_in_nI (by omega) (by decide)), oc_119, oc_119, trivial⟩ ?_
    refine sW_eq (st' := ([], [some (.ref 119), some (.int (nI n))], mx_wr (mx_wr M 138 T.length (nI n)) 119 31 (nI (T.length + 1)))) (by simp (disch := omega) only [e1, e2, nI_add, nI_clamp]) ?_
    refine sW_retV d_Mo_began_29 rfl ?_
    exact ⟨rfl, (MFr.rf.wr (by decide) (by decide)).wo (by decide), h.push n⟩
theorem k_mkind (G : mx_G) {M : mx_M} {hs : Hs} {k : Nat} (h : RowAt M 123 0 hs) (hw : WHs hs) (hk : k < 8) : sOk G m_Mo_kindOf [.ref 119, .int (nI k)] M (fun r M' => r = some (.int (nI (kindN (Sf hs k)))) ∧ M' = M) := by
  have hs5 := (hw.le k).1
  have ko := k_ofS G ln_123 h hk
  generalize Sf hs k = s at ko hs5 ⊢
  refine sOk_of ⟨by decide +kernel, by decide +kernel, Nat.le_of_ble_eq_true rfl⟩ ?_
  show sW G m_Mo_kindOf 0 ([], [some (.ref 119), some (.int (nI k)), none], M) _
  refine sW_go b_Mo_kindOf_0 (st' := ([.int (nI 0), .int (nI k), .ref 123], [some (.ref 119), some (.int (nI k)), none], M)) (φ := mx_ocl LAY 119 = 10 ∧ True) rfl ⟨oc_119, trivial⟩ ?_
  refine sW_callS [.ref 123, .int (nI k), .int (nI 0)] [] d_Mo_kindOf_6 c_Mo_kindOf_6 ⟨rfl, rfl, Nat.le_of_ble_eq_true rfl, rfl, rfl⟩ (ko) ?_
  rintro _ M₁ ⟨rfl, h₁⟩
  rw [h₁]
  show sW G m_Mo_kindOf 9 ([.int (nI s)], [some (.ref 119), some (.int (nI k)), none], M) _
  refine sW_go b_Mo_kindOf_9 (st' := ([.int (nI s)], [some (.ref 119), some (.int (nI k)), some (.int (nI s))], M)) (φ := True) rfl trivial ?_
  refine sW_if_ne 18 d_Mo_kindOf_11 (by decide) (fun c_11 => ?_) (fun c_11 => ?_)
  · skip
    simp (disch := omega) only [nI_z] at c_11
    refine sW_go b_Mo_kindOf_18 (st' := ([.int (nI 1), .int (nI s)], [some (.ref 119), some (.int (nI k)), some (.int (nI s))], M)) (φ := True) rfl trivial ?_
    refine sW_ic_ne 27 d_Mo_kindOf_20 (by decide) (fun c_20 => ?_) (fun c_20 => ?_)
    · skip
      simp (disch := omega) only [nI_eq] at c_20
      refine sW_go b_Mo_kindOf_27 (st' := ([.int (nI 2), .int (nI s)], [some (.ref 119), some (.int (nI k)), some (.int (nI s))], M)) (φ := True) rfl trivial ?_
      refine sW_ic_ne 36 d_Mo_kindOf_29 (by decide) (fun c_29 => ?_) (fun c_29 => ?_)
      · skip
        simp (disch := omega) only [nI_eq] at c_29
        refine sW_go b_Mo_kindOf_36 (st' := ([.int (nI s - nI 2)], [some (.ref 119), some (.int (nI k)), some (.int (nI s))], M)) (φ := True) rfl trivial ?_
        refine sW_retI d_Mo_kindOf_39 rfl (vp_nar_int _) ?_
        refine ⟨?_, rfl⟩
        rw [nI_sub (by omega)]
        have e : kindN s = s - 2 := by
          rcases (by omega : s = 3 ∨ s = 4 ∨ s = 5) with rfl | rfl | rfl <;> rfl
        rw [e]
      · skip
        simp (disch := omega) only [nI_eq] at c_29
        refine sW_go b_Mo_kindOf_32 (st' := ([.int (nI 5)], [some (.ref 119), some (.int (nI k)), some (.int (nI s))], M)) (φ := True) rfl trivial ?_
        refine sW_goto 39 d_Mo_kindOf_33 (by decide) ?_
        refine sW_retI d_Mo_kindOf_39 rfl (vp_nar_int _) ?_
        subst c_29; exact ⟨rfl, rfl⟩
    · skip
      simp (disch := omega) only [nI_eq] at c_20
      refine sW_go b_Mo_kindOf_23 (st' := ([.int (nI 4)], [some (.ref 119), some (.int (nI k)), some (.int (nI s))], M)) (φ := True) rfl trivial ?_
      refine sW_goto 39 d_Mo_kindOf_24 (by decide) ?_
      refine sW_retI d_Mo_kindOf_39 rfl (vp_nar_int _) ?_
      subst c_20; exact ⟨rfl, rfl⟩
  · skip
    simp (disch := omega) only [nI_z] at c_11
    refine sW_go b_Mo_kindOf_14 (st' := ([.int (nI 0)], [some (.ref 119), some (.int (nI k)), some (.int (nI s))], M)) (φ := True) rfl trivial ?_
    refine sW_goto 39 d_Mo_kindOf_15 (by decide) ?_
    refine sW_retI d_Mo_kindOf_39 rfl (vp_nar_int _) ?_
    subst c_11; exact ⟨rfl, rfl⟩
theorem k_isOf (G : mx_G) {M : mx_M} {i w : Nat} (hi : i ≤ 5) (hw : w ≤ 5) : sOk G m_Mo_isOf [.int (nI i), .int (nI w)] M (fun r M' => r = some (.int (tf (isO i w))) ∧ M' = M) := by
  refine sOk_of ⟨by decide +kernel, by decide +kernel, Nat.le_of_ble_eq_true rfl⟩ ?_
  show sW G m_Mo_isOf 0 ([], [some (.int (nI i)), some (.int (nI w))], M) _
  refine sW_go b_Mo_isOf_0 (st' := ([.int (nI w)], [some (.int (nI i)), some (.int (nI w))], M)) (φ := True) rfl trivial ?_
  refine sW_if_eq 34 d_Mo_isOf_1 (by decide) (fun c_1 => ?_) (fun c_1 => ?_)
  · skip
    simp (disch := omega) only [nI_z] at c_1
    refine sW_go b_Mo_isOf_34 (st' := ([.int (nI 1)], [some (.int (nI i)), some (.int (nI w))], M)) (φ := True) rfl trivial ?_
    refine sW_goto 39 d_Mo_isOf_35 (by decide) ?_
    refine sW_retI d_Mo_isOf_39 rfl nb_1 ?_
    first | (exfalso; omega) | exact ⟨by rw [tf_t (by unfold isO; omega)], rfl⟩ | exact ⟨by rw [tf_f (by unfold isO; omega)], rfl⟩
  · skip
    simp (disch := omega) only [nI_z] at c_1
    refine sW_go b_Mo_isOf_4 (st' := ([.int (nI w), .int (nI i)], [some (.int (nI i)), some (.int (nI w))], M)) (φ := True) rfl trivial ?_
    refine sW_ic_eq 34 d_Mo_isOf_6 (by decide) (fun c_6 => ?_) (fun c_6 => ?_)
    · skip
      simp (disch := omega) only [nI_eq] at c_6
      refine sW_go b_Mo_isOf_34 (st' := ([.int (nI 1)], [some (.int (nI i)), some (.int (nI w))], M)) (φ := True) rfl trivial ?_
      refine sW_goto 39 d_Mo_isOf_35 (by decide) ?_
      refine sW_retI d_Mo_isOf_39 rfl nb_1 ?_
      first | (exfalso; omega) | exact ⟨by rw [tf_t (by unfold isO; omega)], rfl⟩ | exact ⟨by rw [tf_f (by unfold isO; omega)], rfl⟩
    · skip
      simp (disch := omega) only [nI_eq] at c_6
      refine sW_go b_Mo_isOf_9 (st' := ([.int (nI 1), .int (nI w)], [some (.int (nI i)), some (.int (nI w))], M)) (φ := True) rfl trivial ?_
      refine sW_ic_ne 24 d_Mo_isOf_11 (by decide) (fun c_11 => ?_) (fun c_11 => ?_)
      · skip
        simp (disch := omega) only [nI_eq] at c_11
        refine sW_go b_Mo_isOf_24 (st' := ([.int (nI 4), .int (nI w)], [some (.int (nI i)), some (.int (nI w))], M)) (φ := True) rfl trivial ?_
        refine sW_ic_ne 38 d_Mo_isOf_26 (by decide) (fun c_26 => ?_) (fun c_26 => ?_)
        · skip
          simp (disch := omega) only [nI_eq] at c_26
          refine sW_go b_Mo_isOf_38 (st' := ([.int (nI 0)], [some (.int (nI i)), some (.int (nI w))], M)) (φ := True) rfl trivial ?_
          refine sW_retI d_Mo_isOf_39 rfl nb_0 ?_
          first | (exfalso; omega) | exact ⟨by rw [tf_t (by unfold isO; omega)], rfl⟩ | exact ⟨by rw [tf_f (by unfold isO; omega)], rfl⟩
        · skip
          simp (disch := omega) only [nI_eq] at c_26
          refine sW_go b_Mo_isOf_29 (st' := ([.int (nI 5), .int (nI i)], [some (.int (nI i)), some (.int (nI w))], M)) (φ := True) rfl trivial ?_
          refine sW_ic_ne 38 d_Mo_isOf_31 (by decide) (fun c_31 => ?_) (fun c_31 => ?_)
          · skip
            simp (disch := omega) only [nI_eq] at c_31
            refine sW_go b_Mo_isOf_38 (st' := ([.int (nI 0)], [some (.int (nI i)), some (.int (nI w))], M)) (φ := True) rfl trivial ?_
            refine sW_retI d_Mo_isOf_39 rfl nb_0 ?_
            first | (exfalso; omega) | exact ⟨by rw [tf_t (by unfold isO; omega)], rfl⟩ | exact ⟨by rw [tf_f (by unfold isO; omega)], rfl⟩
          · skip
            simp (disch := omega) only [nI_eq] at c_31
            refine sW_go b_Mo_isOf_34 (st' := ([.int (nI 1)], [some (.int (nI i)), some (.int (nI w))], M)) (φ := True) rfl trivial ?_
            refine sW_goto 39 d_Mo_isOf_35 (by decide) ?_
            refine sW_retI d_Mo_isOf_39 rfl nb_1 ?_
            first | (exfalso; omega) | exact ⟨by rw [tf_t (by unfold isO; omega)], rfl⟩ | exact ⟨by rw [tf_f (by unfold isO; omega)], rfl⟩
      · skip
        simp (disch := omega) only [nI_eq] at c_11
        refine sW_go b_Mo_isOf_14 (st' := ([.int (nI 2), .int (nI i)], [some (.int (nI i)), some (.int (nI w))], M)) (φ := True) rfl trivial ?_
        refine sW_ic_eq 34 d_Mo_isOf_16 (by decide) (fun c_16 => ?_) (fun c_16 => ?_)
        · skip
          simp (disch := omega) only [nI_eq] at c_16
          refine sW_go b_Mo_isOf_34 (st' := ([.int (nI 1)], [some (.int (nI i)), some (.int (nI w))], M)) (φ := True) rfl trivial ?_
          refine sW_goto 39 d_Mo_isOf_35 (by decide) ?_
          refine sW_retI d_Mo_isOf_39 rfl nb_1 ?_
          first | (exfalso; omega) | exact ⟨by rw [tf_t (by unfold isO; omega)], rfl⟩ | exact ⟨by rw [tf_f (by unfold isO; omega)], rfl⟩
        · skip
          simp (disch := omega) only [nI_eq] at c_16
          refine sW_go b_Mo_isOf_19 (st' := ([.int (nI 3), .int (nI i)], [some (.int (nI i)), some (.int (nI w))], M)) (φ := True) rfl trivial ?_
          refine sW_ic_eq 34 d_Mo_isOf_21 (by decide) (fun c_21 => ?_) (fun c_21 => ?_)
          · skip
            simp (disch := omega) only [nI_eq] at c_21
            refine sW_go b_Mo_isOf_34 (st' := ([.int (nI 1)], [some (.int (nI i)), some (.int (nI w))], M)) (φ := True) rfl trivial ?_
            refine sW_goto 39 d_Mo_isOf_35 (by decide) ?_
            refine sW_retI d_Mo_isOf_39 rfl nb_1 ?_
            first | (exfalso; omega) | exact ⟨by rw [tf_t (by unfold isO; omega)], rfl⟩ | exact ⟨by rw [tf_f (by unfold isO; omega)], rfl⟩
          · skip
            simp (disch := omega) only [nI_eq] at c_21
            refine sW_go b_Mo_isOf_24 (st' := ([.int (nI 4), .int (nI w)], [some (.int (nI i)), some (.int (nI w))], M)) (φ := True) rfl trivial ?_
            refine sW_ic_ne 38 d_Mo_isOf_26 (by decide) (fun c_26 => ?_) (fun c_26 => ?_)
            · skip
              simp (disch := omega) only [nI_eq] at c_26
              refine sW_go b_Mo_isOf_38 (st' := ([.int (nI 0)], [some (.int (nI i)), some (.int (nI w))], M)) (φ := True) rfl trivial ?_
              refine sW_retI d_Mo_isOf_39 rfl nb_0 ?_
              first | (exfalso; omega) | exact ⟨by rw [tf_t (by unfold isO; omega)], rfl⟩ | exact ⟨by rw [tf_f (by unfold isO; omega)], rfl⟩
            · skip
              simp (disch := omega) only [nI_eq] at c_26
              refine sW_go b_Mo_isOf_29 (st' := ([.int (nI 5), .int (nI i)], [some (.int (nI i)), some (.int (nI w))], M)) (φ := True) rfl trivial ?_
              refine sW_ic_ne 38 d_Mo_isOf_31 (by decide) (fun c_31 => ?_) (fun c_31 => ?_)
              · skip
                simp (disch := omega) only [nI_eq] at c_31
                refine sW_go b_Mo_isOf_38 (st' := ([.int (nI 0)], [some (.int (nI i)), some (.int (nI w))], M)) (φ := True) rfl trivial ?_
                refine sW_retI d_Mo_isOf_39 rfl nb_0 ?_
                first | (exfalso; omega) | exact ⟨by rw [tf_t (by unfold isO; omega)], rfl⟩ | exact ⟨by rw [tf_f (by unfold isO; omega)], rfl⟩
              · skip
                simp (disch := omega) only [nI_eq] at c_31
                refine sW_go b_Mo_isOf_34 (st' := ([.int (nI 1)], [some (.int (nI i)), some (.int (nI w))], M)) (φ := True) rfl trivial ?_
                refine sW_goto 39 d_Mo_isOf_35 (by decide) ?_
                refine sW_retI d_Mo_isOf_39 rfl nb_1 ?_
                first | (exfalso; omega) | exact ⟨by rw [tf_t (by unfold isO; omega)], rfl⟩ | exact ⟨by rw [tf_f (by unfold isO; omega)], rfl⟩
theorem k_plainSize (G : mx_G) {M : mx_M} {hs : Hs} {k : Nat} {T : List Nat} (h : RowAt M 123 0 hs) (hk : k < 8) (hT : MTrc M T) (hl : T.length < 16) : sOk G m_Mo_plainSize [.ref 119, .int (nI k)] M (fun r M' => r = some (.int (nI (Af hs k))) ∧ MFr M M' [138] [31] ∧ MTrc M' (T ++ [10])) := by
  refine sOk_of ⟨by decide +kernel, by decide +kernel, Nat.le_of_ble_eq_true rfl⟩ ?_
  show sW G m_Mo_plainSize 0 ([], [some (.ref 119), some (.int (nI k))], M) _
  refine sW_go b_Mo_plainSize_0 (st' := ([.int (nI 10), .ref 119], [some (.ref 119), some (.int (nI k))], M)) (φ := True) rfl trivial ?_
  refine sW_callV 10 [.int (nI 10)] [] d_Mo_plainSize_3 c_Mo_plainSize_3 ⟨rfl, rfl, rfl, Nat.le_of_ble_eq_true rfl, rfl, rfl⟩ oc_119 (k_began G hT hl 10) ?_
  rintro _ M2 ⟨rfl, f2, t2⟩
  have r2 : RowAt M2 123 0 hs := h.eq (f2.1 _ (by decide) (by decide))
  show sW G m_Mo_plainSize 6 ([], [some (.ref 119), some (.int (nI k))], M2) _
  refine sW_go b_Mo_plainSize_6 (st' := ([.int (nI 1), .int (nI k), .ref 123], [some (.ref 119), some (.int (nI k))], M2)) (φ := mx_ocl LAY 119 = 10 ∧ True) rfl ⟨oc_119, trivial⟩ ?_
  refine sW_callS [.ref 123, .int (nI k), .int (nI 1)] [] d_Mo_plainSize_12 c_Mo_plainSize_12 ⟨rfl, rfl, Nat.le_of_ble_eq_true rfl, rfl, rfl⟩ (k_ofA G ln_123 r2 hk) ?_
  rintro _ M₁ ⟨rfl, h₁⟩
  rw [h₁]
  show sW G m_Mo_plainSize 15 ([.int (nI (Af hs k))], [some (.ref 119), some (.int (nI k))], M2) _
  refine sW_retI d_Mo_plainSize_15 rfl (vp_nar_int _) ?_
  exact ⟨rfl, f2, t2⟩
theorem app3 {T a b c : List Nat} (h : c = a ++ b) : T ++ a ++ b = T ++ c := by rw [h, List.append_assoc]

theorem k_pairSize (G : mx_G) {M : mx_M} {hs : Hs} {k kd : Nat} {T : List Nat} (h : RowAt M 123 0 hs) (hw : WHs hs) (hk : k < 8) (hT : MTrc M T) (hl : T.length + 3 ≤ 16) (hkd : kindN (Sf hs k) = kd) (h4 : kd = 4 ∨ kd = 5) : sOk G m_Mo_pairSize [.ref 119, .int (nI k)] M (fun r M' => r = some (.int (prV kd (nI (Af hs k)))) ∧ MFr M M' [138] [31] ∧ MTrc M' (T ++ prT kd)) := by
  have km := k_mkind G h hw hk
  rw [hkd] at km
  rcases h4 with rfl | rfl
  · skip
    refine sOk_of ⟨by decide +kernel, by decide +kernel, Nat.le_of_ble_eq_true rfl⟩ ?_
    show sW G m_Mo_pairSize 0 ([], [some (.ref 119), some (.int (nI k)), none, none], M) _
    refine sW_go b_Mo_pairSize_0 (st' := ([.int (nI k), .ref 119], [some (.ref 119), some (.int (nI k)), none, none], M)) (φ := True) rfl trivial ?_
    refine sW_callV 10 [.int (nI k)] [] d_Mo_pairSize_2 c_Mo_pairSize_2 ⟨rfl, rfl, rfl, Nat.le_of_ble_eq_true rfl, rfl, rfl⟩ oc_119 (km) ?_
    rintro _ M₁ ⟨rfl, h₁⟩
    rw [h₁]
    show sW G m_Mo_pairSize 5 ([.int (nI 4)], [some (.ref 119), some (.int (nI k)), none, none], M) _
    refine sW_go b_Mo_pairSize_5 (st' := ([.int (nI 5), .int (nI 4)], [some (.ref 119), some (.int (nI k)), none, none], M)) (φ := True) rfl trivial ?_
    refine sW_ic_ne 13 d_Mo_pairSize_6 (by decide) (fun c_6 => ?_) (fun c_6 => ?_)
    · skip
      simp (disch := omega) only [nI_eq] at c_6
      refine sW_go b_Mo_pairSize_13 (st' := ([.int (nI 0)], [some (.ref 119), some (.int (nI k)), none, none], M)) (φ := True) rfl trivial ?_
      refine sW_go b_Mo_pairSize_14 (st' := ([.int (nI 0)], [some (.ref 119), some (.int (nI k)), some (.int (nI 0)), none], M)) (φ := True) rfl trivial ?_
      refine sW_if_eq 25 d_Mo_pairSize_16 (by decide) (fun c_16 => ?_) (fun c_16 => ?_)
      · skip
        simp (disch := omega) only [nI_z] at c_16
        refine sW_go b_Mo_pairSize_25 (st' := ([.int (nI 13), .ref 119], [some (.ref 119), some (.int (nI k)), some (.int (nI 0)), none], M)) (φ := True) rfl trivial ?_
        refine sW_callV 10 [.int (nI 13)] [] d_Mo_pairSize_28 c_Mo_pairSize_28 ⟨rfl, rfl, rfl, Nat.le_of_ble_eq_true rfl, rfl, rfl⟩ oc_119 (k_began G hT (by omega) 13) ?_
        rintro _ M2 ⟨rfl, f2, t2⟩
        have r2 : RowAt M2 123 0 hs := h.eq (f2.1 _ (by decide) (by decide))
        show sW G m_Mo_pairSize 31 ([], [some (.ref 119), some (.int (nI k)), some (.int (nI 0)), none], M2) _
        refine sW_go b_Mo_pairSize_31 (st' := ([.int (nI k), .ref 119], [some (.ref 119), some (.int (nI k)), some (.int (nI 0)), none], M2)) (φ := True) rfl trivial ?_
        refine sW_callV 10 [.int (nI k)] [] d_Mo_pairSize_33 c_Mo_pairSize_33 ⟨rfl, rfl, rfl, Nat.le_of_ble_eq_true rfl, rfl, rfl⟩ oc_119 (k_plainSize G r2 hk t2 (by first | omega | (simp; omega))) ?_
        rintro _ M3 ⟨rfl, f3, t3⟩
        show sW G m_Mo_pairSize 36 ([.int (nI (Af hs k))], [some (.ref 119), some (.int (nI k)), some (.int (nI 0)), none], M3) _
        refine sW_go b_Mo_pairSize_36 (st' := ([.int (nI 0)], [some (.ref 119), some (.int (nI k)), some (.int (nI 0)), some (.int (nI (Af hs k) - nI 100))], M3)) (φ := True) rfl trivial ?_
        refine sW_if_eq 50 d_Mo_pairSize_41 (by decide) (fun c_41 => ?_) (fun c_41 => ?_)
        · skip
          simp (disch := omega) only [nI_z] at c_41
          refine sW_go b_Mo_pairSize_50 (st' := ([.int (nI (Af hs k) - nI 100)], [some (.ref 119), some (.int (nI k)), some (.int (nI 0)), some (.int (nI (Af hs k) - nI 100))], M3)) (φ := True) rfl trivial ?_
          refine sW_retI d_Mo_pairSize_51 rfl (vp_nar_int _) ?_
          refine ⟨rfl, f2.tr f3, ?_⟩
          rw [List.append_assoc] at t3
          exact t3
        · skip
          exact absurd (by decide +kernel) c_41
      · skip
        exact absurd (by decide +kernel) c_16
    · skip
      exact absurd c_6 (by decide +kernel)
  · skip
    refine sOk_of ⟨by decide +kernel, by decide +kernel, Nat.le_of_ble_eq_true rfl⟩ ?_
    show sW G m_Mo_pairSize 0 ([], [some (.ref 119), some (.int (nI k)), none, none], M) _
    refine sW_go b_Mo_pairSize_0 (st' := ([.int (nI k), .ref 119], [some (.ref 119), some (.int (nI k)), none, none], M)) (φ := True) rfl trivial ?_
    refine sW_callV 10 [.int (nI k)] [] d_Mo_pairSize_2 c_Mo_pairSize_2 ⟨rfl, rfl, rfl, Nat.le_of_ble_eq_true rfl, rfl, rfl⟩ oc_119 (km) ?_
    rintro _ M₁ ⟨rfl, h₁⟩
    rw [h₁]
    show sW G m_Mo_pairSize 5 ([.int (nI 5)], [some (.ref 119), some (.int (nI k)), none, none], M) _
    refine sW_go b_Mo_pairSize_5 (st' := ([.int (nI 5), .int (nI 5)], [some (.ref 119), some (.int (nI k)), none, none], M)) (φ := True) rfl trivial ?_
    refine sW_ic_ne 13 d_Mo_pairSize_6 (by decide) (fun c_6 => ?_) (fun c_6 => ?_)
    · skip
      exact absurd (by decide +kernel) c_6
    · skip
      simp (disch := omega) only [nI_eq] at c_6
      refine sW_go b_Mo_pairSize_9 (st' := ([.int (nI 1)], [some (.ref 119), some (.int (nI k)), none, none], M)) (φ := True) rfl trivial ?_
      refine sW_goto 14 d_Mo_pairSize_10 (by decide) ?_
      refine sW_go b_Mo_pairSize_14 (st' := ([.int (nI 1)], [some (.ref 119), some (.int (nI k)), some (.int (nI 1)), none], M)) (φ := True) rfl trivial ?_
      refine sW_if_eq 25 d_Mo_pairSize_16 (by decide) (fun c_16 => ?_) (fun c_16 => ?_)
      · skip
        exact absurd c_16 (by decide +kernel)
      · skip
        simp (disch := omega) only [nI_z] at c_16
        refine sW_go b_Mo_pairSize_19 (st' := ([.int (nI 14), .ref 119], [some (.ref 119), some (.int (nI k)), some (.int (nI 1)), none], M)) (φ := True) rfl trivial ?_
        refine sW_callV 10 [.int (nI 14)] [] d_Mo_pairSize_22 c_Mo_pairSize_22 ⟨rfl, rfl, rfl, Nat.le_of_ble_eq_true rfl, rfl, rfl⟩ oc_119 (k_began G hT (by omega) 14) ?_
        rintro _ M1 ⟨rfl, f1, t1⟩
        have r1 : RowAt M1 123 0 hs := h.eq (f1.1 _ (by decide) (by decide))
        show sW G m_Mo_pairSize 25 ([], [some (.ref 119), some (.int (nI k)), some (.int (nI 1)), none], M1) _
        refine sW_go b_Mo_pairSize_25 (st' := ([.int (nI 13), .ref 119], [some (.ref 119), some (.int (nI k)), some (.int (nI 1)), none], M1)) (φ := True) rfl trivial ?_
        refine sW_callV 10 [.int (nI 13)] [] d_Mo_pairSize_28 c_Mo_pairSize_28 ⟨rfl, rfl, rfl, Nat.le_of_ble_eq_true rfl, rfl, rfl⟩ oc_119 (k_began G t1 (by first | omega | (simp; omega)) 13) ?_
        rintro _ M2 ⟨rfl, f2, t2⟩
        have r2 : RowAt M2 123 0 hs := r1.eq (f2.1 _ (by decide) (by decide))
        show sW G m_Mo_pairSize 31 ([], [some (.ref 119), some (.int (nI k)), some (.int (nI 1)), none], M2) _
        refine sW_go b_Mo_pairSize_31 (st' := ([.int (nI k), .ref 119], [some (.ref 119), some (.int (nI k)), some (.int (nI 1)), none], M2)) (φ := True) rfl trivial ?_
        refine sW_callV 10 [.int (nI k)] [] d_Mo_pairSize_33 c_Mo_pairSize_33 ⟨rfl, rfl, rfl, Nat.le_of_ble_eq_true rfl, rfl, rfl⟩ oc_119 (k_plainSize G r2 hk t2 (by first | omega | (simp; omega))) ?_
        rintro _ M3 ⟨rfl, f3, t3⟩
        show sW G m_Mo_pairSize 36 ([.int (nI (Af hs k))], [some (.ref 119), some (.int (nI k)), some (.int (nI 1)), none], M3) _
        refine sW_go b_Mo_pairSize_36 (st' := ([.int (nI 1)], [some (.ref 119), some (.int (nI k)), some (.int (nI 1)), some (.int (nI (Af hs k) - nI 100))], M3)) (φ := True) rfl trivial ?_
        refine sW_if_eq 50 d_Mo_pairSize_41 (by decide) (fun c_41 => ?_) (fun c_41 => ?_)
        · skip
          exact absurd c_41 (by decide +kernel)
        · skip
          simp (disch := omega) only [nI_z] at c_41
          refine sW_go b_Mo_pairSize_44 (st' := ([.int (nI 2 * (nI (Af hs k) - nI 100))], [some (.ref 119), some (.int (nI k)), some (.int (nI 1)), some (.int (nI (Af hs k) - nI 100))], M3)) (φ := True) rfl trivial ?_
          refine sW_goto 51 d_Mo_pairSize_47 (by decide) ?_
          refine sW_retI d_Mo_pairSize_51 rfl (vp_nar_int _) ?_
          refine ⟨by rw [Int32.mul_comm]; rfl, (f1.tr f2).tr f3, ?_⟩
          rw [List.append_assoc, List.append_assoc] at t3
          exact t3

theorem k_markOf (G : mx_G) {M : mx_M} {hs : Hs} {k kd : Nat} {T : List Nat} (h : RowAt M 123 0 hs) (hw : WHs hs) (hk : k < 8) (hT : MTrc M T) (hl : T.length + 5 ≤ 16) (hkd : kindN (Sf hs k) = kd) : sOk G m_Mo_markOf [.ref 119, .int (nI k)] M (fun r M' => r = some (.int (mkV kd (nI k) (nI (Af hs k)) (nI (Bf hs k)))) ∧ MFr M M' [138] [31] ∧ MTrc M' (T ++ mkT kd)) := by
  have km := k_mkind G h hw hk
  rw [hkd] at km
  have h5 : kd ≤ 5 := hkd ▸ kindN_le _
  rcases (by omega : kd = 0 ∨ kd = 1 ∨ kd = 2 ∨ kd = 3 ∨ kd = 4 ∨ kd = 5) with rfl | rfl | rfl | rfl | rfl | rfl
  · skip
    refine sOk_of ⟨by decide +kernel, by decide +kernel, Nat.le_of_ble_eq_true rfl⟩ ?_
    show sW G m_Mo_markOf 0 ([], [some (.ref 119), some (.int (nI k)), none, none], M) _
    refine sW_go b_Mo_markOf_0 (st' := ([.int (nI k), .ref 119], [some (.ref 119), some (.int (nI k)), none, none], M)) (φ := True) rfl trivial ?_
    refine sW_callV 10 [.int (nI k)] [] d_Mo_markOf_2 c_Mo_markOf_2 ⟨rfl, rfl, rfl, Nat.le_of_ble_eq_true rfl, rfl, rfl⟩ oc_119 (km) ?_
    rintro _ M₁ ⟨rfl, h₁⟩
    rw [h₁]
    show sW G m_Mo_markOf 5 ([.int (nI 0)], [some (.ref 119), some (.int (nI k)), none, none], M) _
    refine sW_go b_Mo_markOf_5 (st' := ([.int (nI 0)], [some (.ref 119), some (.int (nI k)), some (.int (nI 0)), none], M)) (φ := True) rfl trivial ?_
    refine sW_if_ne 18 d_Mo_markOf_7 (by decide) (fun c_7 => ?_) (fun c_7 => ?_)
    · skip
      exact absurd (by decide +kernel) c_7
    · skip
      simp (disch := omega) only [nI_z] at c_7
      refine sW_go b_Mo_markOf_10 (st' := ([.int (nI 20), .ref 119], [some (.ref 119), some (.int (nI k)), some (.int (nI 0)), none], M)) (φ := True) rfl trivial ?_
      refine sW_callV 10 [.int (nI 20)] [] d_Mo_markOf_13 c_Mo_markOf_13 ⟨rfl, rfl, rfl, Nat.le_of_ble_eq_true rfl, rfl, rfl⟩ oc_119 (k_began G hT (by omega) 20) ?_
      rintro _ M1 ⟨rfl, f1, t1⟩
      show sW G m_Mo_markOf 16 ([], [some (.ref 119), some (.int (nI k)), some (.int (nI 0)), none], M1) _
      refine sW_go b_Mo_markOf_16 (st' := ([.int (nI k)], [some (.ref 119), some (.int (nI k)), some (.int (nI 0)), none], M1)) (φ := True) rfl trivial ?_
      refine sW_retI d_Mo_markOf_17 rfl (vp_nar_int _) ?_
      exact ⟨rfl, f1, t1⟩
  · skip
    refine sOk_of ⟨by decide +kernel, by decide +kernel, Nat.le_of_ble_eq_true rfl⟩ ?_
    show sW G m_Mo_markOf 0 ([], [some (.ref 119), some (.int (nI k)), none, none], M) _
    refine sW_go b_Mo_markOf_0 (st' := ([.int (nI k), .ref 119], [some (.ref 119), some (.int (nI k)), none, none], M)) (φ := True) rfl trivial ?_
    refine sW_callV 10 [.int (nI k)] [] d_Mo_markOf_2 c_Mo_markOf_2 ⟨rfl, rfl, rfl, Nat.le_of_ble_eq_true rfl, rfl, rfl⟩ oc_119 (km) ?_
    rintro _ M₁ ⟨rfl, h₁⟩
    rw [h₁]
    show sW G m_Mo_markOf 5 ([.int (nI 1)], [some (.ref 119), some (.int (nI k)), none, none], M) _
    refine sW_go b_Mo_markOf_5 (st' := ([.int (nI 1)], [some (.ref 119), some (.int (nI k)), some (.int (nI 1)), none], M)) (φ := True) rfl trivial ?_
    refine sW_if_ne 18 d_Mo_markOf_7 (by decide) (fun c_7 => ?_) (fun c_7 => ?_)
    · skip
      simp (disch := omega) only [nI_z] at c_7
      refine sW_go b_Mo_markOf_18 (st' := ([.int (nI 4), .int (nI 1)], [some (.ref 119), some (.int (nI k)), some (.int (nI 1)), none], M)) (φ := True) rfl trivial ?_
      refine sW_ic_lt 43 d_Mo_markOf_20 (by decide) (fun c_20 => ?_) (fun c_20 => ?_)
      · skip
        simp (disch := omega) only [nI_ltI] at c_20
        refine sW_go b_Mo_markOf_43 (st' := ([.int (nI 1), .int (nI 1)], [some (.ref 119), some (.int (nI k)), some (.int (nI 1)), none], M)) (φ := True) rfl trivial ?_
        refine sW_ic_eq 64 d_Mo_markOf_45 (by decide) (fun c_45 => ?_) (fun c_45 => ?_)
        · skip
          simp (disch := omega) only [nI_eq] at c_45
          refine sW_go b_Mo_markOf_64 (st' := ([.int (nI 21), .ref 119], [some (.ref 119), some (.int (nI k)), some (.int (nI 1)), none], M)) (φ := True) rfl trivial ?_
          refine sW_callV 10 [.int (nI 21)] [] d_Mo_markOf_67 c_Mo_markOf_67 ⟨rfl, rfl, rfl, Nat.le_of_ble_eq_true rfl, rfl, rfl⟩ oc_119 (k_began G hT (by first | omega | (simp; omega)) 21) ?_
          rintro _ M2 ⟨rfl, f2, t2⟩
          have r2 : RowAt M2 123 0 hs := h.eq (f2.1 _ (by decide) (by decide))
          show sW G m_Mo_markOf 70 ([], [some (.ref 119), some (.int (nI k)), some (.int (nI 1)), none], M2) _
          refine sW_go b_Mo_markOf_70 (st' := ([.int (nI 20), .ref 119], [some (.ref 119), some (.int (nI k)), some (.int (nI 1)), none], M2)) (φ := True) rfl trivial ?_
          refine sW_callV 10 [.int (nI 20)] [] d_Mo_markOf_73 c_Mo_markOf_73 ⟨rfl, rfl, rfl, Nat.le_of_ble_eq_true rfl, rfl, rfl⟩ oc_119 (k_began G t2 (by first | omega | (simp; omega)) 20) ?_
          rintro _ M3 ⟨rfl, f3, t3⟩
          have r3 : RowAt M3 123 0 hs := r2.eq (f3.1 _ (by decide) (by decide))
          show sW G m_Mo_markOf 76 ([], [some (.ref 119), some (.int (nI k)), some (.int (nI 1)), none], M3) _
          refine sW_go b_Mo_markOf_76 (st' := ([.int (nI 2), .int (nI k), .ref 123, .int (nI k)], [some (.ref 119), some (.int (nI k)), some (.int (nI 1)), none], M3)) (φ := mx_ocl LAY 119 = 10 ∧ True) rfl ⟨oc_119, trivial⟩ ?_
          refine sW_callS [.ref 123, .int (nI k), .int (nI 2)] [.int (nI k)] d_Mo_markOf_83 c_Mo_markOf_83 ⟨rfl, rfl, Nat.le_of_ble_eq_true rfl, rfl, rfl⟩ (k_ofB G ln_123 r3 hk) ?_
          rintro _ M₁ ⟨rfl, h₁⟩
          rw [h₁]
          show sW G m_Mo_markOf 86 ([.int (nI (Bf hs k)), .int (nI k)], [some (.ref 119), some (.int (nI k)), some (.int (nI 1)), none], M3) _
          refine sW_go b_Mo_markOf_86 (st' := ([.int (nI 1), .int (nI 1)], [some (.ref 119), some (.int (nI k)), some (.int (nI 1)), some (.int (nI k + nI (Bf hs k)))], M3)) (φ := True) rfl trivial ?_
          refine sW_eq (st' := ([.int (nI 1), .int (nI 1)], [some (.ref 119), some (.int (nI k)), some (.int (nI 1)), some (.int (nI (k + Bf hs k)))], M3)) (by simp (disch := omega) only [nI_add]) ?_
          refine sW_ic_ne 97 d_Mo_markOf_90 (by decide) (fun c_90 => ?_) (fun c_90 => ?_)
          · skip
            exact absurd (by decide +kernel) c_90
          · skip
            simp (disch := omega) only [nI_eq] at c_90
            refine sW_go b_Mo_markOf_93 (st' := ([.int (nI (k + Bf hs k))], [some (.ref 119), some (.int (nI k)), some (.int (nI 1)), some (.int (nI (k + Bf hs k)))], M3)) (φ := True) rfl trivial ?_
            refine sW_goto 113 d_Mo_markOf_94 (by decide) ?_
            refine sW_retI d_Mo_markOf_113 rfl (vp_nar_int _) ?_
            refine ⟨by rw [← nI_add]; rfl, f2.tr f3, ?_⟩
            rw [List.append_assoc] at t3
            exact t3
        · skip
          exact absurd (by decide +kernel) c_45
      · skip
        exact absurd (by decide +kernel) c_20
    · skip
      exact absurd c_7 (by decide +kernel)
  · skip
    refine sOk_of ⟨by decide +kernel, by decide +kernel, Nat.le_of_ble_eq_true rfl⟩ ?_
    show sW G m_Mo_markOf 0 ([], [some (.ref 119), some (.int (nI k)), none, none], M) _
    refine sW_go b_Mo_markOf_0 (st' := ([.int (nI k), .ref 119], [some (.ref 119), some (.int (nI k)), none, none], M)) (φ := True) rfl trivial ?_
    refine sW_callV 10 [.int (nI k)] [] d_Mo_markOf_2 c_Mo_markOf_2 ⟨rfl, rfl, rfl, Nat.le_of_ble_eq_true rfl, rfl, rfl⟩ oc_119 (km) ?_
    rintro _ M₁ ⟨rfl, h₁⟩
    rw [h₁]
    show sW G m_Mo_markOf 5 ([.int (nI 2)], [some (.ref 119), some (.int (nI k)), none, none], M) _
    refine sW_go b_Mo_markOf_5 (st' := ([.int (nI 2)], [some (.ref 119), some (.int (nI k)), some (.int (nI 2)), none], M)) (φ := True) rfl trivial ?_
    refine sW_if_ne 18 d_Mo_markOf_7 (by decide) (fun c_7 => ?_) (fun c_7 => ?_)
    · skip
      simp (disch := omega) only [nI_z] at c_7
      refine sW_go b_Mo_markOf_18 (st' := ([.int (nI 4), .int (nI 2)], [some (.ref 119), some (.int (nI k)), some (.int (nI 2)), none], M)) (φ := True) rfl trivial ?_
      refine sW_ic_lt 43 d_Mo_markOf_20 (by decide) (fun c_20 => ?_) (fun c_20 => ?_)
      · skip
        simp (disch := omega) only [nI_ltI] at c_20
        refine sW_go b_Mo_markOf_43 (st' := ([.int (nI 1), .int (nI 2)], [some (.ref 119), some (.int (nI k)), some (.int (nI 2)), none], M)) (φ := True) rfl trivial ?_
        refine sW_ic_eq 64 d_Mo_markOf_45 (by decide) (fun c_45 => ?_) (fun c_45 => ?_)
        · skip
          exact absurd c_45 (by decide +kernel)
        · skip
          simp (disch := omega) only [nI_eq] at c_45
          refine sW_go b_Mo_markOf_48 (st' := ([.int (nI 3), .int (nI 2), .ref 119], [some (.ref 119), some (.int (nI k)), some (.int (nI 2)), none], M)) (φ := True) rfl trivial ?_
          refine sW_ic_ne 59 d_Mo_markOf_51 (by decide) (fun c_51 => ?_) (fun c_51 => ?_)
          · skip
            simp (disch := omega) only [nI_eq] at c_51
            refine sW_go b_Mo_markOf_59 (st' := ([.int (nI 24), .ref 119], [some (.ref 119), some (.int (nI k)), some (.int (nI 2)), none], M)) (φ := True) rfl trivial ?_
            refine sW_callV 10 [.int (nI 24)] [] d_Mo_markOf_61 c_Mo_markOf_61 ⟨rfl, rfl, rfl, Nat.le_of_ble_eq_true rfl, rfl, rfl⟩ oc_119 (k_began G hT (by omega) 24) ?_
            rintro _ M1 ⟨rfl, f1, t1⟩
            have r1 : RowAt M1 123 0 hs := h.eq (f1.1 _ (by decide) (by decide))
            show sW G m_Mo_markOf 64 ([], [some (.ref 119), some (.int (nI k)), some (.int (nI 2)), none], M1) _
            refine sW_go b_Mo_markOf_64 (st' := ([.int (nI 21), .ref 119], [some (.ref 119), some (.int (nI k)), some (.int (nI 2)), none], M1)) (φ := True) rfl trivial ?_
            refine sW_callV 10 [.int (nI 21)] [] d_Mo_markOf_67 c_Mo_markOf_67 ⟨rfl, rfl, rfl, Nat.le_of_ble_eq_true rfl, rfl, rfl⟩ oc_119 (k_began G t1 (by first | omega | (simp; omega)) 21) ?_
            rintro _ M2 ⟨rfl, f2, t2⟩
            have r2 : RowAt M2 123 0 hs := r1.eq (f2.1 _ (by decide) (by decide))
            show sW G m_Mo_markOf 70 ([], [some (.ref 119), some (.int (nI k)), some (.int (nI 2)), none], M2) _
            refine sW_go b_Mo_markOf_70 (st' := ([.int (nI 20), .ref 119], [some (.ref 119), some (.int (nI k)), some (.int (nI 2)), none], M2)) (φ := True) rfl trivial ?_
            refine sW_callV 10 [.int (nI 20)] [] d_Mo_markOf_73 c_Mo_markOf_73 ⟨rfl, rfl, rfl, Nat.le_of_ble_eq_true rfl, rfl, rfl⟩ oc_119 (k_began G t2 (by first | omega | (simp; omega)) 20) ?_
            rintro _ M3 ⟨rfl, f3, t3⟩
            have r3 : RowAt M3 123 0 hs := r2.eq (f3.1 _ (by decide) (by decide))
            show sW G m_Mo_markOf 76 ([], [some (.ref 119), some (.int (nI k)), some (.int (nI 2)), none], M3) _
            refine sW_go b_Mo_markOf_76 (st' := ([.int (nI 2), .int (nI k), .ref 123, .int (nI k)], [some (.ref 119), some (.int (nI k)), some (.int (nI 2)), none], M3)) (φ := mx_ocl LAY 119 = 10 ∧ True) rfl ⟨oc_119, trivial⟩ ?_
            refine sW_callS [.ref 123, .int (nI k), .int (nI 2)] [.int (nI k)] d_Mo_markOf_83 c_Mo_markOf_83 ⟨rfl, rfl, Nat.le_of_ble_eq_true rfl, rfl, rfl⟩ (k_ofB G ln_123 r3 hk) ?_
            rintro _ M₁ ⟨rfl, h₁⟩
            rw [h₁]
            show sW G m_Mo_markOf 86 ([.int (nI (Bf hs k)), .int (nI k)], [some (.ref 119), some (.int (nI k)), some (.int (nI 2)), none], M3) _
            refine sW_go b_Mo_markOf_86 (st' := ([.int (nI 1), .int (nI 2)], [some (.ref 119), some (.int (nI k)), some (.int (nI 2)), some (.int (nI k + nI (Bf hs k)))], M3)) (φ := True) rfl trivial ?_
            refine sW_eq (st' := ([.int (nI 1), .int (nI 2)], [some (.ref 119), some (.int (nI k)), some (.int (nI 2)), some (.int (nI (k + Bf hs k)))], M3)) (by simp (disch := omega) only [nI_add]) ?_
            refine sW_ic_ne 97 d_Mo_markOf_90 (by decide) (fun c_90 => ?_) (fun c_90 => ?_)
            · skip
              simp (disch := omega) only [nI_eq] at c_90
              refine sW_go b_Mo_markOf_97 (st' := ([.int (nI 3), .int (nI 2)], [some (.ref 119), some (.int (nI k)), some (.int (nI 2)), some (.int (nI (k + Bf hs k)))], M3)) (φ := True) rfl trivial ?_
              refine sW_ic_ne 110 d_Mo_markOf_99 (by decide) (fun c_99 => ?_) (fun c_99 => ?_)
              · skip
                simp (disch := omega) only [nI_eq] at c_99
                refine sW_go b_Mo_markOf_110 (st' := ([.int (nI 2 * nI (k + Bf hs k))], [some (.ref 119), some (.int (nI k)), some (.int (nI 2)), some (.int (nI (k + Bf hs k)))], M3)) (φ := True) rfl trivial ?_
                refine sW_eq (st' := ([.int (nI (2 * (k + Bf hs k)))], [some (.ref 119), some (.int (nI k)), some (.int (nI 2)), some (.int (nI (k + Bf hs k)))], M3)) (by simp (disch := omega) only [pk_mul]) ?_
                refine sW_retI d_Mo_markOf_113 rfl (vp_nar_int _) ?_
                refine ⟨by rw [show nI (2 * (k + Bf hs k)) = (nI k + nI (Bf hs k)) * nI 2 by rw [nI_add, pk_mul, Nat.mul_comm]]; rfl, (f1.tr f2).tr f3, ?_⟩
                rw [List.append_assoc, List.append_assoc] at t3
                exact t3
              · skip
                exact absurd c_99 (by decide +kernel)
            · skip
              exact absurd c_90 (by decide +kernel)
          · skip
            exact absurd c_51 (by decide +kernel)
      · skip
        exact absurd (by decide +kernel) c_20
    · skip
      exact absurd c_7 (by decide +kernel)
  · skip
    refine sOk_of ⟨by decide +kernel, by decide +kernel, Nat.le_of_ble_eq_true rfl⟩ ?_
    show sW G m_Mo_markOf 0 ([], [some (.ref 119), some (.int (nI k)), none, none], M) _
    refine sW_go b_Mo_markOf_0 (st' := ([.int (nI k), .ref 119], [some (.ref 119), some (.int (nI k)), none, none], M)) (φ := True) rfl trivial ?_
    refine sW_callV 10 [.int (nI k)] [] d_Mo_markOf_2 c_Mo_markOf_2 ⟨rfl, rfl, rfl, Nat.le_of_ble_eq_true rfl, rfl, rfl⟩ oc_119 (km) ?_
    rintro _ M₁ ⟨rfl, h₁⟩
    rw [h₁]
    show sW G m_Mo_markOf 5 ([.int (nI 3)], [some (.ref 119), some (.int (nI k)), none, none], M) _
    refine sW_go b_Mo_markOf_5 (st' := ([.int (nI 3)], [some (.ref 119), some (.int (nI k)), some (.int (nI 3)), none], M)) (φ := True) rfl trivial ?_
    refine sW_if_ne 18 d_Mo_markOf_7 (by decide) (fun c_7 => ?_) (fun c_7 => ?_)
    · skip
      simp (disch := omega) only [nI_z] at c_7
      refine sW_go b_Mo_markOf_18 (st' := ([.int (nI 4), .int (nI 3)], [some (.ref 119), some (.int (nI k)), some (.int (nI 3)), none], M)) (φ := True) rfl trivial ?_
      refine sW_ic_lt 43 d_Mo_markOf_20 (by decide) (fun c_20 => ?_) (fun c_20 => ?_)
      · skip
        simp (disch := omega) only [nI_ltI] at c_20
        refine sW_go b_Mo_markOf_43 (st' := ([.int (nI 1), .int (nI 3)], [some (.ref 119), some (.int (nI k)), some (.int (nI 3)), none], M)) (φ := True) rfl trivial ?_
        refine sW_ic_eq 64 d_Mo_markOf_45 (by decide) (fun c_45 => ?_) (fun c_45 => ?_)
        · skip
          exact absurd c_45 (by decide +kernel)
        · skip
          simp (disch := omega) only [nI_eq] at c_45
          refine sW_go b_Mo_markOf_48 (st' := ([.int (nI 3), .int (nI 3), .ref 119], [some (.ref 119), some (.int (nI k)), some (.int (nI 3)), none], M)) (φ := True) rfl trivial ?_
          refine sW_ic_ne 59 d_Mo_markOf_51 (by decide) (fun c_51 => ?_) (fun c_51 => ?_)
          · skip
            exact absurd (by decide +kernel) c_51
          · skip
            simp (disch := omega) only [nI_eq] at c_51
            refine sW_go b_Mo_markOf_54 (st' := ([.int (nI 22), .ref 119], [some (.ref 119), some (.int (nI k)), some (.int (nI 3)), none], M)) (φ := True) rfl trivial ?_
            refine sW_goto 61 d_Mo_markOf_56 (by decide) ?_
            refine sW_callV 10 [.int (nI 22)] [] d_Mo_markOf_61 c_Mo_markOf_61 ⟨rfl, rfl, rfl, Nat.le_of_ble_eq_true rfl, rfl, rfl⟩ oc_119 (k_began G hT (by omega) 22) ?_
            rintro _ M1 ⟨rfl, f1, t1⟩
            have r1 : RowAt M1 123 0 hs := h.eq (f1.1 _ (by decide) (by decide))
            show sW G m_Mo_markOf 64 ([], [some (.ref 119), some (.int (nI k)), some (.int (nI 3)), none], M1) _
            refine sW_go b_Mo_markOf_64 (st' := ([.int (nI 21), .ref 119], [some (.ref 119), some (.int (nI k)), some (.int (nI 3)), none], M1)) (φ := True) rfl trivial ?_
            refine sW_callV 10 [.int (nI 21)] [] d_Mo_markOf_67 c_Mo_markOf_67 ⟨rfl, rfl, rfl, Nat.le_of_ble_eq_true rfl, rfl, rfl⟩ oc_119 (k_began G t1 (by first | omega | (simp; omega)) 21) ?_
            rintro _ M2 ⟨rfl, f2, t2⟩
            have r2 : RowAt M2 123 0 hs := r1.eq (f2.1 _ (by decide) (by decide))
            show sW G m_Mo_markOf 70 ([], [some (.ref 119), some (.int (nI k)), some (.int (nI 3)), none], M2) _
            refine sW_go b_Mo_markOf_70 (st' := ([.int (nI 20), .ref 119], [some (.ref 119), some (.int (nI k)), some (.int (nI 3)), none], M2)) (φ := True) rfl trivial ?_
            refine sW_callV 10 [.int (nI 20)] [] d_Mo_markOf_73 c_Mo_markOf_73 ⟨rfl, rfl, rfl, Nat.le_of_ble_eq_true rfl, rfl, rfl⟩ oc_119 (k_began G t2 (by first | omega | (simp; omega)) 20) ?_
            rintro _ M3 ⟨rfl, f3, t3⟩
            have r3 : RowAt M3 123 0 hs := r2.eq (f3.1 _ (by decide) (by decide))
            show sW G m_Mo_markOf 76 ([], [some (.ref 119), some (.int (nI k)), some (.int (nI 3)), none], M3) _
            refine sW_go b_Mo_markOf_76 (st' := ([.int (nI 2), .int (nI k), .ref 123, .int (nI k)], [some (.ref 119), some (.int (nI k)), some (.int (nI 3)), none], M3)) (φ := mx_ocl LAY 119 = 10 ∧ True) rfl ⟨oc_119, trivial⟩ ?_
            refine sW_callS [.ref 123, .int (nI k), .int (nI 2)] [.int (nI k)] d_Mo_markOf_83 c_Mo_markOf_83 ⟨rfl, rfl, Nat.le_of_ble_eq_true rfl, rfl, rfl⟩ (k_ofB G ln_123 r3 hk) ?_
            rintro _ M₁ ⟨rfl, h₁⟩
            rw [h₁]
            show sW G m_Mo_markOf 86 ([.int (nI (Bf hs k)), .int (nI k)], [some (.ref 119), some (.int (nI k)), some (.int (nI 3)), none], M3) _
            refine sW_go b_Mo_markOf_86 (st' := ([.int (nI 1), .int (nI 3)], [some (.ref 119), some (.int (nI k)), some (.int (nI 3)), some (.int (nI k + nI (Bf hs k)))], M3)) (φ := True) rfl trivial ?_
            refine sW_eq (st' := ([.int (nI 1), .int (nI 3)], [some (.ref 119), some (.int (nI k)), some (.int (nI 3)), some (.int (nI (k + Bf hs k)))], M3)) (by simp (disch := omega) only [nI_add]) ?_
            refine sW_ic_ne 97 d_Mo_markOf_90 (by decide) (fun c_90 => ?_) (fun c_90 => ?_)
            · skip
              simp (disch := omega) only [nI_eq] at c_90
              refine sW_go b_Mo_markOf_97 (st' := ([.int (nI 3), .int (nI 3)], [some (.ref 119), some (.int (nI k)), some (.int (nI 3)), some (.int (nI (k + Bf hs k)))], M3)) (φ := True) rfl trivial ?_
              refine sW_ic_ne 110 d_Mo_markOf_99 (by decide) (fun c_99 => ?_) (fun c_99 => ?_)
              · skip
                exact absurd (by decide +kernel) c_99
              · skip
                simp (disch := omega) only [nI_eq] at c_99
                refine sW_go b_Mo_markOf_102 (st' := ([.int (nI (k + Bf hs k) - nI 1000)], [some (.ref 119), some (.int (nI k)), some (.int (nI 3)), some (.int (nI (k + Bf hs k)))], M3)) (φ := True) rfl trivial ?_
                refine sW_goto 113 d_Mo_markOf_107 (by decide) ?_
                refine sW_retI d_Mo_markOf_113 rfl (vp_nar_int _) ?_
                refine ⟨by rw [← nI_add]; rfl, (f1.tr f2).tr f3, ?_⟩
                rw [List.append_assoc, List.append_assoc] at t3
                exact t3
            · skip
              exact absurd c_90 (by decide +kernel)
      · skip
        exact absurd (by decide +kernel) c_20
    · skip
      exact absurd c_7 (by decide +kernel)
  · skip
    refine sOk_of ⟨by decide +kernel, by decide +kernel, Nat.le_of_ble_eq_true rfl⟩ ?_
    show sW G m_Mo_markOf 0 ([], [some (.ref 119), some (.int (nI k)), none, none], M) _
    refine sW_go b_Mo_markOf_0 (st' := ([.int (nI k), .ref 119], [some (.ref 119), some (.int (nI k)), none, none], M)) (φ := True) rfl trivial ?_
    refine sW_callV 10 [.int (nI k)] [] d_Mo_markOf_2 c_Mo_markOf_2 ⟨rfl, rfl, rfl, Nat.le_of_ble_eq_true rfl, rfl, rfl⟩ oc_119 (km) ?_
    rintro _ M₁ ⟨rfl, h₁⟩
    rw [h₁]
    show sW G m_Mo_markOf 5 ([.int (nI 4)], [some (.ref 119), some (.int (nI k)), none, none], M) _
    refine sW_go b_Mo_markOf_5 (st' := ([.int (nI 4)], [some (.ref 119), some (.int (nI k)), some (.int (nI 4)), none], M)) (φ := True) rfl trivial ?_
    refine sW_if_ne 18 d_Mo_markOf_7 (by decide) (fun c_7 => ?_) (fun c_7 => ?_)
    · skip
      simp (disch := omega) only [nI_z] at c_7
      refine sW_go b_Mo_markOf_18 (st' := ([.int (nI 4), .int (nI 4)], [some (.ref 119), some (.int (nI k)), some (.int (nI 4)), none], M)) (φ := True) rfl trivial ?_
      refine sW_ic_lt 43 d_Mo_markOf_20 (by decide) (fun c_20 => ?_) (fun c_20 => ?_)
      · skip
        exact absurd c_20 (by decide +kernel)
      · skip
        simp (disch := omega) only [nI_ltI] at c_20
        refine sW_go b_Mo_markOf_23 (st' := ([.int (nI 23), .ref 119], [some (.ref 119), some (.int (nI k)), some (.int (nI 4)), none], M)) (φ := True) rfl trivial ?_
        refine sW_callV 10 [.int (nI 23)] [] d_Mo_markOf_26 c_Mo_markOf_26 ⟨rfl, rfl, rfl, Nat.le_of_ble_eq_true rfl, rfl, rfl⟩ oc_119 (k_began G hT (by omega) 23) ?_
        rintro _ M1 ⟨rfl, f1, t1⟩
        have r1 : RowAt M1 123 0 hs := h.eq (f1.1 _ (by decide) (by decide))
        show sW G m_Mo_markOf 29 ([], [some (.ref 119), some (.int (nI k)), some (.int (nI 4)), none], M1) _
        refine sW_go b_Mo_markOf_29 (st' := ([.int (nI 20), .ref 119], [some (.ref 119), some (.int (nI k)), some (.int (nI 4)), none], M1)) (φ := True) rfl trivial ?_
        refine sW_callV 10 [.int (nI 20)] [] d_Mo_markOf_32 c_Mo_markOf_32 ⟨rfl, rfl, rfl, Nat.le_of_ble_eq_true rfl, rfl, rfl⟩ oc_119 (k_began G t1 (by first | omega | (simp; omega)) 20) ?_
        rintro _ M2 ⟨rfl, f2, t2⟩
        have r2 : RowAt M2 123 0 hs := r1.eq (f2.1 _ (by decide) (by decide))
        show sW G m_Mo_markOf 35 ([], [some (.ref 119), some (.int (nI k)), some (.int (nI 4)), none], M2) _
        refine sW_go b_Mo_markOf_35 (st' := ([.int (nI k), .ref 119, .int (nI k)], [some (.ref 119), some (.int (nI k)), some (.int (nI 4)), none], M2)) (φ := True) rfl trivial ?_
        refine sW_callV 10 [.int (nI k)] [.int (nI k)] d_Mo_markOf_38 c_Mo_markOf_38 ⟨rfl, rfl, rfl, Nat.le_of_ble_eq_true rfl, rfl, rfl⟩ oc_119 (k_pairSize G r2 hw hk t2 (by first | omega | (simp; omega)) hkd (by decide)) ?_
        rintro _ M3 ⟨rfl, f3, t3⟩
        show sW G m_Mo_markOf 41 ([.int (prV 4 (nI (Af hs k))), .int (nI k)], [some (.ref 119), some (.int (nI k)), some (.int (nI 4)), none], M3) _
        refine sW_go b_Mo_markOf_41 (st' := ([.int (nI k - prV 4 (nI (Af hs k)))], [some (.ref 119), some (.int (nI k)), some (.int (nI 4)), none], M3)) (φ := True) rfl trivial ?_
        refine sW_retI d_Mo_markOf_42 rfl (vp_nar_int _) ?_
        refine ⟨rfl, (f1.tr f2).tr f3, ?_⟩
        rw [List.append_assoc, List.append_assoc] at t3
        exact t3
    · skip
      exact absurd c_7 (by decide +kernel)
  · skip
    refine sOk_of ⟨by decide +kernel, by decide +kernel, Nat.le_of_ble_eq_true rfl⟩ ?_
    show sW G m_Mo_markOf 0 ([], [some (.ref 119), some (.int (nI k)), none, none], M) _
    refine sW_go b_Mo_markOf_0 (st' := ([.int (nI k), .ref 119], [some (.ref 119), some (.int (nI k)), none, none], M)) (φ := True) rfl trivial ?_
    refine sW_callV 10 [.int (nI k)] [] d_Mo_markOf_2 c_Mo_markOf_2 ⟨rfl, rfl, rfl, Nat.le_of_ble_eq_true rfl, rfl, rfl⟩ oc_119 (km) ?_
    rintro _ M₁ ⟨rfl, h₁⟩
    rw [h₁]
    show sW G m_Mo_markOf 5 ([.int (nI 5)], [some (.ref 119), some (.int (nI k)), none, none], M) _
    refine sW_go b_Mo_markOf_5 (st' := ([.int (nI 5)], [some (.ref 119), some (.int (nI k)), some (.int (nI 5)), none], M)) (φ := True) rfl trivial ?_
    refine sW_if_ne 18 d_Mo_markOf_7 (by decide) (fun c_7 => ?_) (fun c_7 => ?_)
    · skip
      simp (disch := omega) only [nI_z] at c_7
      refine sW_go b_Mo_markOf_18 (st' := ([.int (nI 4), .int (nI 5)], [some (.ref 119), some (.int (nI k)), some (.int (nI 5)), none], M)) (φ := True) rfl trivial ?_
      refine sW_ic_lt 43 d_Mo_markOf_20 (by decide) (fun c_20 => ?_) (fun c_20 => ?_)
      · skip
        exact absurd c_20 (by decide +kernel)
      · skip
        simp (disch := omega) only [nI_ltI] at c_20
        refine sW_go b_Mo_markOf_23 (st' := ([.int (nI 23), .ref 119], [some (.ref 119), some (.int (nI k)), some (.int (nI 5)), none], M)) (φ := True) rfl trivial ?_
        refine sW_callV 10 [.int (nI 23)] [] d_Mo_markOf_26 c_Mo_markOf_26 ⟨rfl, rfl, rfl, Nat.le_of_ble_eq_true rfl, rfl, rfl⟩ oc_119 (k_began G hT (by omega) 23) ?_
        rintro _ M1 ⟨rfl, f1, t1⟩
        have r1 : RowAt M1 123 0 hs := h.eq (f1.1 _ (by decide) (by decide))
        show sW G m_Mo_markOf 29 ([], [some (.ref 119), some (.int (nI k)), some (.int (nI 5)), none], M1) _
        refine sW_go b_Mo_markOf_29 (st' := ([.int (nI 20), .ref 119], [some (.ref 119), some (.int (nI k)), some (.int (nI 5)), none], M1)) (φ := True) rfl trivial ?_
        refine sW_callV 10 [.int (nI 20)] [] d_Mo_markOf_32 c_Mo_markOf_32 ⟨rfl, rfl, rfl, Nat.le_of_ble_eq_true rfl, rfl, rfl⟩ oc_119 (k_began G t1 (by first | omega | (simp; omega)) 20) ?_
        rintro _ M2 ⟨rfl, f2, t2⟩
        have r2 : RowAt M2 123 0 hs := r1.eq (f2.1 _ (by decide) (by decide))
        show sW G m_Mo_markOf 35 ([], [some (.ref 119), some (.int (nI k)), some (.int (nI 5)), none], M2) _
        refine sW_go b_Mo_markOf_35 (st' := ([.int (nI k), .ref 119, .int (nI k)], [some (.ref 119), some (.int (nI k)), some (.int (nI 5)), none], M2)) (φ := True) rfl trivial ?_
        refine sW_callV 10 [.int (nI k)] [.int (nI k)] d_Mo_markOf_38 c_Mo_markOf_38 ⟨rfl, rfl, rfl, Nat.le_of_ble_eq_true rfl, rfl, rfl⟩ oc_119 (k_pairSize G r2 hw hk t2 (by first | omega | (simp; omega)) hkd (by decide)) ?_
        rintro _ M3 ⟨rfl, f3, t3⟩
        show sW G m_Mo_markOf 41 ([.int (prV 5 (nI (Af hs k))), .int (nI k)], [some (.ref 119), some (.int (nI k)), some (.int (nI 5)), none], M3) _
        refine sW_go b_Mo_markOf_41 (st' := ([.int (nI k - prV 5 (nI (Af hs k)))], [some (.ref 119), some (.int (nI k)), some (.int (nI 5)), none], M3)) (φ := True) rfl trivial ?_
        refine sW_retI d_Mo_markOf_42 rfl (vp_nar_int _) ?_
        refine ⟨rfl, (f1.tr f2).tr f3, ?_⟩
        rw [List.append_assoc, List.append_assoc] at t3
        exact t3
    · skip
      exact absurd c_7 (by decide +kernel)
theorem k_sizeOf (G : mx_G) {M : mx_M} {hs : Hs} {k kd : Nat} {T : List Nat} (h : RowAt M 123 0 hs) (hw : WHs hs) (hk : k < 8) (hT : MTrc M T) (hl : T.length + 8 ≤ 16) (hkd : kindN (Sf hs k) = kd) : sOk G m_Mo_sizeOf [.ref 119, .int (nI k)] M (fun r M' => r = some (.int (szV kd (nI k) (nI (Af hs k)) (nI (Bf hs k)))) ∧ MFr M M' [138] [31] ∧ MTrc M' (T ++ szT kd)) := by
  have km := k_mkind G h hw hk
  rw [hkd] at km
  have h5 : kd ≤ 5 := hkd ▸ kindN_le _
  rcases (by omega : kd = 0 ∨ kd = 1 ∨ kd = 2 ∨ kd = 3 ∨ kd = 4 ∨ kd = 5) with rfl | rfl | rfl | rfl | rfl | rfl
  · skip
    refine sOk_of ⟨by decide +kernel, by decide +kernel, Nat.le_of_ble_eq_true rfl⟩ ?_
    show sW G m_Mo_sizeOf 0 ([], [some (.ref 119), some (.int (nI k)), none, none], M) _
    refine sW_go b_Mo_sizeOf_0 (st' := ([.int (nI k), .ref 119], [some (.ref 119), some (.int (nI k)), none, none], M)) (φ := True) rfl trivial ?_
    refine sW_callV 10 [.int (nI k)] [] d_Mo_sizeOf_2 c_Mo_sizeOf_2 ⟨rfl, rfl, rfl, Nat.le_of_ble_eq_true rfl, rfl, rfl⟩ oc_119 (km) ?_
    rintro _ M₁ ⟨rfl, h₁⟩
    rw [h₁]
    show sW G m_Mo_sizeOf 5 ([.int (nI 0)], [some (.ref 119), some (.int (nI k)), none, none], M) _
    refine sW_go b_Mo_sizeOf_5 (st' := ([.int (nI 0)], [some (.ref 119), some (.int (nI k)), some (.int (nI 0)), none], M)) (φ := True) rfl trivial ?_
    refine sW_if_ne 16 d_Mo_sizeOf_7 (by decide) (fun c_7 => ?_) (fun c_7 => ?_)
    · skip
      exact absurd (by decide +kernel) c_7
    · skip
      simp (disch := omega) only [nI_z] at c_7
      refine sW_go b_Mo_sizeOf_10 (st' := ([.int (nI k), .ref 119], [some (.ref 119), some (.int (nI k)), some (.int (nI 0)), none], M)) (φ := True) rfl trivial ?_
      refine sW_callV 10 [.int (nI k)] [] d_Mo_sizeOf_12 c_Mo_sizeOf_12 ⟨rfl, rfl, rfl, Nat.le_of_ble_eq_true rfl, rfl, rfl⟩ oc_119 (k_plainSize G h hk hT (by omega)) ?_
      rintro _ M1 ⟨rfl, f1, t1⟩
      show sW G m_Mo_sizeOf 15 ([.int (nI (Af hs k))], [some (.ref 119), some (.int (nI k)), some (.int (nI 0)), none], M1) _
      refine sW_retI d_Mo_sizeOf_15 rfl (vp_nar_int _) ?_
      exact ⟨rfl, f1, t1⟩
  · skip
    refine sOk_of ⟨by decide +kernel, by decide +kernel, Nat.le_of_ble_eq_true rfl⟩ ?_
    show sW G m_Mo_sizeOf 0 ([], [some (.ref 119), some (.int (nI k)), none, none], M) _
    refine sW_go b_Mo_sizeOf_0 (st' := ([.int (nI k), .ref 119], [some (.ref 119), some (.int (nI k)), none, none], M)) (φ := True) rfl trivial ?_
    refine sW_callV 10 [.int (nI k)] [] d_Mo_sizeOf_2 c_Mo_sizeOf_2 ⟨rfl, rfl, rfl, Nat.le_of_ble_eq_true rfl, rfl, rfl⟩ oc_119 (km) ?_
    rintro _ M₁ ⟨rfl, h₁⟩
    rw [h₁]
    show sW G m_Mo_sizeOf 5 ([.int (nI 1)], [some (.ref 119), some (.int (nI k)), none, none], M) _
    refine sW_go b_Mo_sizeOf_5 (st' := ([.int (nI 1)], [some (.ref 119), some (.int (nI k)), some (.int (nI 1)), none], M)) (φ := True) rfl trivial ?_
    refine sW_if_ne 16 d_Mo_sizeOf_7 (by decide) (fun c_7 => ?_) (fun c_7 => ?_)
    · skip
      simp (disch := omega) only [nI_z] at c_7
      refine sW_go b_Mo_sizeOf_16 (st' := ([.int (nI 4), .int (nI 1)], [some (.ref 119), some (.int (nI k)), some (.int (nI 1)), none], M)) (φ := True) rfl trivial ?_
      refine sW_ic_lt 27 d_Mo_sizeOf_18 (by decide) (fun c_18 => ?_) (fun c_18 => ?_)
      · skip
        simp (disch := omega) only [nI_ltI] at c_18
        refine sW_go b_Mo_sizeOf_27 (st' := ([.int (nI 2), .int (nI 1)], [some (.ref 119), some (.int (nI k)), some (.int (nI 1)), none], M)) (φ := True) rfl trivial ?_
        refine sW_ic_ne 38 d_Mo_sizeOf_29 (by decide) (fun c_29 => ?_) (fun c_29 => ?_)
        · skip
          simp (disch := omega) only [nI_eq] at c_29
          refine sW_go b_Mo_sizeOf_38 (st' := ([.int (nI 11), .ref 119], [some (.ref 119), some (.int (nI k)), some (.int (nI 1)), none], M)) (φ := True) rfl trivial ?_
          refine sW_callV 10 [.int (nI 11)] [] d_Mo_sizeOf_41 c_Mo_sizeOf_41 ⟨rfl, rfl, rfl, Nat.le_of_ble_eq_true rfl, rfl, rfl⟩ oc_119 (k_began G hT (by first | omega | (simp; omega)) 11) ?_
          rintro _ M2 ⟨rfl, f2, t2⟩
          have r2 : RowAt M2 123 0 hs := h.eq (f2.1 _ (by decide) (by decide))
          show sW G m_Mo_sizeOf 44 ([], [some (.ref 119), some (.int (nI k)), some (.int (nI 1)), none], M2) _
          refine sW_go b_Mo_sizeOf_44 (st' := ([.int (nI k), .ref 119], [some (.ref 119), some (.int (nI k)), some (.int (nI 1)), none], M2)) (φ := True) rfl trivial ?_
          refine sW_callV 10 [.int (nI k)] [] d_Mo_sizeOf_46 c_Mo_sizeOf_46 ⟨rfl, rfl, rfl, Nat.le_of_ble_eq_true rfl, rfl, rfl⟩ oc_119 (k_plainSize G r2 hk t2 (by first | omega | (simp; omega))) ?_
          rintro _ M3 ⟨rfl, f3, t3⟩
          have r3 : RowAt M3 123 0 hs := r2.eq (f3.1 _ (by decide) (by decide))
          show sW G m_Mo_sizeOf 49 ([.int (nI (Af hs k))], [some (.ref 119), some (.int (nI k)), some (.int (nI 1)), none], M3) _
          refine sW_go b_Mo_sizeOf_49 (st' := ([.int (nI k), .ref 119, .int (nI (Af hs k))], [some (.ref 119), some (.int (nI k)), some (.int (nI 1)), some (.int (nI (Af hs k)))], M3)) (φ := True) rfl trivial ?_
          refine sW_callV 10 [.int (nI k)] [.int (nI (Af hs k))] d_Mo_sizeOf_53 c_Mo_sizeOf_53 ⟨rfl, rfl, rfl, Nat.le_of_ble_eq_true rfl, rfl, rfl⟩ oc_119 (k_markOf G r3 hw hk t3 (by first | omega | (simp; omega)) hkd) ?_
          rintro _ M4 ⟨rfl, f4, t4⟩
          show sW G m_Mo_sizeOf 56 ([.int (mkV 1 (nI k) (nI (Af hs k)) (nI (Bf hs k))), .int (nI (Af hs k))], [some (.ref 119), some (.int (nI k)), some (.int (nI 1)), some (.int (nI (Af hs k)))], M4) _
          refine sW_go b_Mo_sizeOf_56 (st' := ([.int (nI 2), .int (nI 1)], [some (.ref 119), some (.int (nI k)), some (.int (nI 1)), some (.int (nI (Af hs k) + mkV 1 (nI k) (nI (Af hs k)) (nI (Bf hs k))))], M4)) (φ := True) rfl trivial ?_
          refine sW_ic_ne 68 d_Mo_sizeOf_60 (by decide) (fun c_60 => ?_) (fun c_60 => ?_)
          · skip
            simp (disch := omega) only [nI_eq] at c_60
            refine sW_go b_Mo_sizeOf_68 (st' := ([.int (nI (Af hs k) + mkV 1 (nI k) (nI (Af hs k)) (nI (Bf hs k)))], [some (.ref 119), some (.int (nI k)), some (.int (nI 1)), some (.int (nI (Af hs k) + mkV 1 (nI k) (nI (Af hs k)) (nI (Bf hs k))))], M4)) (φ := True) rfl trivial ?_
            refine sW_retI d_Mo_sizeOf_69 rfl (vp_nar_int _) ?_
            refine ⟨rfl, (f2.tr f3).tr f4, ?_⟩
            rw [List.append_assoc, List.append_assoc] at t4
            exact t4
          · skip
            exact absurd c_60 (by decide +kernel)
        · skip
          exact absurd c_29 (by decide +kernel)
      · skip
        exact absurd (by decide +kernel) c_18
    · skip
      exact absurd c_7 (by decide +kernel)
  · skip
    refine sOk_of ⟨by decide +kernel, by decide +kernel, Nat.le_of_ble_eq_true rfl⟩ ?_
    show sW G m_Mo_sizeOf 0 ([], [some (.ref 119), some (.int (nI k)), none, none], M) _
    refine sW_go b_Mo_sizeOf_0 (st' := ([.int (nI k), .ref 119], [some (.ref 119), some (.int (nI k)), none, none], M)) (φ := True) rfl trivial ?_
    refine sW_callV 10 [.int (nI k)] [] d_Mo_sizeOf_2 c_Mo_sizeOf_2 ⟨rfl, rfl, rfl, Nat.le_of_ble_eq_true rfl, rfl, rfl⟩ oc_119 (km) ?_
    rintro _ M₁ ⟨rfl, h₁⟩
    rw [h₁]
    show sW G m_Mo_sizeOf 5 ([.int (nI 2)], [some (.ref 119), some (.int (nI k)), none, none], M) _
    refine sW_go b_Mo_sizeOf_5 (st' := ([.int (nI 2)], [some (.ref 119), some (.int (nI k)), some (.int (nI 2)), none], M)) (φ := True) rfl trivial ?_
    refine sW_if_ne 16 d_Mo_sizeOf_7 (by decide) (fun c_7 => ?_) (fun c_7 => ?_)
    · skip
      simp (disch := omega) only [nI_z] at c_7
      refine sW_go b_Mo_sizeOf_16 (st' := ([.int (nI 4), .int (nI 2)], [some (.ref 119), some (.int (nI k)), some (.int (nI 2)), none], M)) (φ := True) rfl trivial ?_
      refine sW_ic_lt 27 d_Mo_sizeOf_18 (by decide) (fun c_18 => ?_) (fun c_18 => ?_)
      · skip
        simp (disch := omega) only [nI_ltI] at c_18
        refine sW_go b_Mo_sizeOf_27 (st' := ([.int (nI 2), .int (nI 2)], [some (.ref 119), some (.int (nI k)), some (.int (nI 2)), none], M)) (φ := True) rfl trivial ?_
        refine sW_ic_ne 38 d_Mo_sizeOf_29 (by decide) (fun c_29 => ?_) (fun c_29 => ?_)
        · skip
          exact absurd (by decide +kernel) c_29
        · skip
          simp (disch := omega) only [nI_eq] at c_29
          refine sW_go b_Mo_sizeOf_32 (st' := ([.int (nI 12), .ref 119], [some (.ref 119), some (.int (nI k)), some (.int (nI 2)), none], M)) (φ := True) rfl trivial ?_
          refine sW_callV 10 [.int (nI 12)] [] d_Mo_sizeOf_35 c_Mo_sizeOf_35 ⟨rfl, rfl, rfl, Nat.le_of_ble_eq_true rfl, rfl, rfl⟩ oc_119 (k_began G hT (by omega) 12) ?_
          rintro _ M1 ⟨rfl, f1, t1⟩
          have r1 : RowAt M1 123 0 hs := h.eq (f1.1 _ (by decide) (by decide))
          show sW G m_Mo_sizeOf 38 ([], [some (.ref 119), some (.int (nI k)), some (.int (nI 2)), none], M1) _
          refine sW_go b_Mo_sizeOf_38 (st' := ([.int (nI 11), .ref 119], [some (.ref 119), some (.int (nI k)), some (.int (nI 2)), none], M1)) (φ := True) rfl trivial ?_
          refine sW_callV 10 [.int (nI 11)] [] d_Mo_sizeOf_41 c_Mo_sizeOf_41 ⟨rfl, rfl, rfl, Nat.le_of_ble_eq_true rfl, rfl, rfl⟩ oc_119 (k_began G t1 (by first | omega | (simp; omega)) 11) ?_
          rintro _ M2 ⟨rfl, f2, t2⟩
          have r2 : RowAt M2 123 0 hs := r1.eq (f2.1 _ (by decide) (by decide))
          show sW G m_Mo_sizeOf 44 ([], [some (.ref 119), some (.int (nI k)), some (.int (nI 2)), none], M2) _
          refine sW_go b_Mo_sizeOf_44 (st' := ([.int (nI k), .ref 119], [some (.ref 119), some (.int (nI k)), some (.int (nI 2)), none], M2)) (φ := True) rfl trivial ?_
          refine sW_callV 10 [.int (nI k)] [] d_Mo_sizeOf_46 c_Mo_sizeOf_46 ⟨rfl, rfl, rfl, Nat.le_of_ble_eq_true rfl, rfl, rfl⟩ oc_119 (k_plainSize G r2 hk t2 (by first | omega | (simp; omega))) ?_
          rintro _ M3 ⟨rfl, f3, t3⟩
          have r3 : RowAt M3 123 0 hs := r2.eq (f3.1 _ (by decide) (by decide))
          show sW G m_Mo_sizeOf 49 ([.int (nI (Af hs k))], [some (.ref 119), some (.int (nI k)), some (.int (nI 2)), none], M3) _
          refine sW_go b_Mo_sizeOf_49 (st' := ([.int (nI k), .ref 119, .int (nI (Af hs k))], [some (.ref 119), some (.int (nI k)), some (.int (nI 2)), some (.int (nI (Af hs k)))], M3)) (φ := True) rfl trivial ?_
          refine sW_callV 10 [.int (nI k)] [.int (nI (Af hs k))] d_Mo_sizeOf_53 c_Mo_sizeOf_53 ⟨rfl, rfl, rfl, Nat.le_of_ble_eq_true rfl, rfl, rfl⟩ oc_119 (k_markOf G r3 hw hk t3 (by first | omega | (simp; omega)) hkd) ?_
          rintro _ M4 ⟨rfl, f4, t4⟩
          show sW G m_Mo_sizeOf 56 ([.int (mkV 2 (nI k) (nI (Af hs k)) (nI (Bf hs k))), .int (nI (Af hs k))], [some (.ref 119), some (.int (nI k)), some (.int (nI 2)), some (.int (nI (Af hs k)))], M4) _
          refine sW_go b_Mo_sizeOf_56 (st' := ([.int (nI 2), .int (nI 2)], [some (.ref 119), some (.int (nI k)), some (.int (nI 2)), some (.int (nI (Af hs k) + mkV 2 (nI k) (nI (Af hs k)) (nI (Bf hs k))))], M4)) (φ := True) rfl trivial ?_
          refine sW_ic_ne 68 d_Mo_sizeOf_60 (by decide) (fun c_60 => ?_) (fun c_60 => ?_)
          · skip
            exact absurd (by decide +kernel) c_60
          · skip
            simp (disch := omega) only [nI_eq] at c_60
            refine sW_go b_Mo_sizeOf_63 (st' := ([.int (-(nI (Af hs k) + mkV 2 (nI k) (nI (Af hs k)) (nI (Bf hs k))))], [some (.ref 119), some (.int (nI k)), some (.int (nI 2)), some (.int (nI (Af hs k) + mkV 2 (nI k) (nI (Af hs k)) (nI (Bf hs k))))], M4)) (φ := True) rfl trivial ?_
            refine sW_goto 69 d_Mo_sizeOf_65 (by decide) ?_
            refine sW_retI d_Mo_sizeOf_69 rfl (vp_nar_int _) ?_
            refine ⟨rfl, ((f1.tr f2).tr f3).tr f4, ?_⟩
            rw [List.append_assoc, List.append_assoc, List.append_assoc] at t4
            exact t4
      · skip
        exact absurd (by decide +kernel) c_18
    · skip
      exact absurd c_7 (by decide +kernel)
  · skip
    refine sOk_of ⟨by decide +kernel, by decide +kernel, Nat.le_of_ble_eq_true rfl⟩ ?_
    show sW G m_Mo_sizeOf 0 ([], [some (.ref 119), some (.int (nI k)), none, none], M) _
    refine sW_go b_Mo_sizeOf_0 (st' := ([.int (nI k), .ref 119], [some (.ref 119), some (.int (nI k)), none, none], M)) (φ := True) rfl trivial ?_
    refine sW_callV 10 [.int (nI k)] [] d_Mo_sizeOf_2 c_Mo_sizeOf_2 ⟨rfl, rfl, rfl, Nat.le_of_ble_eq_true rfl, rfl, rfl⟩ oc_119 (km) ?_
    rintro _ M₁ ⟨rfl, h₁⟩
    rw [h₁]
    show sW G m_Mo_sizeOf 5 ([.int (nI 3)], [some (.ref 119), some (.int (nI k)), none, none], M) _
    refine sW_go b_Mo_sizeOf_5 (st' := ([.int (nI 3)], [some (.ref 119), some (.int (nI k)), some (.int (nI 3)), none], M)) (φ := True) rfl trivial ?_
    refine sW_if_ne 16 d_Mo_sizeOf_7 (by decide) (fun c_7 => ?_) (fun c_7 => ?_)
    · skip
      simp (disch := omega) only [nI_z] at c_7
      refine sW_go b_Mo_sizeOf_16 (st' := ([.int (nI 4), .int (nI 3)], [some (.ref 119), some (.int (nI k)), some (.int (nI 3)), none], M)) (φ := True) rfl trivial ?_
      refine sW_ic_lt 27 d_Mo_sizeOf_18 (by decide) (fun c_18 => ?_) (fun c_18 => ?_)
      · skip
        simp (disch := omega) only [nI_ltI] at c_18
        refine sW_go b_Mo_sizeOf_27 (st' := ([.int (nI 2), .int (nI 3)], [some (.ref 119), some (.int (nI k)), some (.int (nI 3)), none], M)) (φ := True) rfl trivial ?_
        refine sW_ic_ne 38 d_Mo_sizeOf_29 (by decide) (fun c_29 => ?_) (fun c_29 => ?_)
        · skip
          simp (disch := omega) only [nI_eq] at c_29
          refine sW_go b_Mo_sizeOf_38 (st' := ([.int (nI 11), .ref 119], [some (.ref 119), some (.int (nI k)), some (.int (nI 3)), none], M)) (φ := True) rfl trivial ?_
          refine sW_callV 10 [.int (nI 11)] [] d_Mo_sizeOf_41 c_Mo_sizeOf_41 ⟨rfl, rfl, rfl, Nat.le_of_ble_eq_true rfl, rfl, rfl⟩ oc_119 (k_began G hT (by first | omega | (simp; omega)) 11) ?_
          rintro _ M2 ⟨rfl, f2, t2⟩
          have r2 : RowAt M2 123 0 hs := h.eq (f2.1 _ (by decide) (by decide))
          show sW G m_Mo_sizeOf 44 ([], [some (.ref 119), some (.int (nI k)), some (.int (nI 3)), none], M2) _
          refine sW_go b_Mo_sizeOf_44 (st' := ([.int (nI k), .ref 119], [some (.ref 119), some (.int (nI k)), some (.int (nI 3)), none], M2)) (φ := True) rfl trivial ?_
          refine sW_callV 10 [.int (nI k)] [] d_Mo_sizeOf_46 c_Mo_sizeOf_46 ⟨rfl, rfl, rfl, Nat.le_of_ble_eq_true rfl, rfl, rfl⟩ oc_119 (k_plainSize G r2 hk t2 (by first | omega | (simp; omega))) ?_
          rintro _ M3 ⟨rfl, f3, t3⟩
          have r3 : RowAt M3 123 0 hs := r2.eq (f3.1 _ (by decide) (by decide))
          show sW G m_Mo_sizeOf 49 ([.int (nI (Af hs k))], [some (.ref 119), some (.int (nI k)), some (.int (nI 3)), none], M3) _
          refine sW_go b_Mo_sizeOf_49 (st' := ([.int (nI k), .ref 119, .int (nI (Af hs k))], [some (.ref 119), some (.int (nI k)), some (.int (nI 3)), some (.int (nI (Af hs k)))], M3)) (φ := True) rfl trivial ?_
          refine sW_callV 10 [.int (nI k)] [.int (nI (Af hs k))] d_Mo_sizeOf_53 c_Mo_sizeOf_53 ⟨rfl, rfl, rfl, Nat.le_of_ble_eq_true rfl, rfl, rfl⟩ oc_119 (k_markOf G r3 hw hk t3 (by first | omega | (simp; omega)) hkd) ?_
          rintro _ M4 ⟨rfl, f4, t4⟩
          show sW G m_Mo_sizeOf 56 ([.int (mkV 3 (nI k) (nI (Af hs k)) (nI (Bf hs k))), .int (nI (Af hs k))], [some (.ref 119), some (.int (nI k)), some (.int (nI 3)), some (.int (nI (Af hs k)))], M4) _
          refine sW_go b_Mo_sizeOf_56 (st' := ([.int (nI 2), .int (nI 3)], [some (.ref 119), some (.int (nI k)), some (.int (nI 3)), some (.int (nI (Af hs k) + mkV 3 (nI k) (nI (Af hs k)) (nI (Bf hs k))))], M4)) (φ := True) rfl trivial ?_
          refine sW_ic_ne 68 d_Mo_sizeOf_60 (by decide) (fun c_60 => ?_) (fun c_60 => ?_)
          · skip
            simp (disch := omega) only [nI_eq] at c_60
            refine sW_go b_Mo_sizeOf_68 (st' := ([.int (nI (Af hs k) + mkV 3 (nI k) (nI (Af hs k)) (nI (Bf hs k)))], [some (.ref 119), some (.int (nI k)), some (.int (nI 3)), some (.int (nI (Af hs k) + mkV 3 (nI k) (nI (Af hs k)) (nI (Bf hs k))))], M4)) (φ := True) rfl trivial ?_
            refine sW_retI d_Mo_sizeOf_69 rfl (vp_nar_int _) ?_
            refine ⟨rfl, (f2.tr f3).tr f4, ?_⟩
            rw [List.append_assoc, List.append_assoc] at t4
            exact t4
          · skip
            exact absurd c_60 (by decide +kernel)
        · skip
          exact absurd c_29 (by decide +kernel)
      · skip
        exact absurd (by decide +kernel) c_18
    · skip
      exact absurd c_7 (by decide +kernel)
  · skip
    refine sOk_of ⟨by decide +kernel, by decide +kernel, Nat.le_of_ble_eq_true rfl⟩ ?_
    show sW G m_Mo_sizeOf 0 ([], [some (.ref 119), some (.int (nI k)), none, none], M) _
    refine sW_go b_Mo_sizeOf_0 (st' := ([.int (nI k), .ref 119], [some (.ref 119), some (.int (nI k)), none, none], M)) (φ := True) rfl trivial ?_
    refine sW_callV 10 [.int (nI k)] [] d_Mo_sizeOf_2 c_Mo_sizeOf_2 ⟨rfl, rfl, rfl, Nat.le_of_ble_eq_true rfl, rfl, rfl⟩ oc_119 (km) ?_
    rintro _ M₁ ⟨rfl, h₁⟩
    rw [h₁]
    show sW G m_Mo_sizeOf 5 ([.int (nI 4)], [some (.ref 119), some (.int (nI k)), none, none], M) _
    refine sW_go b_Mo_sizeOf_5 (st' := ([.int (nI 4)], [some (.ref 119), some (.int (nI k)), some (.int (nI 4)), none], M)) (φ := True) rfl trivial ?_
    refine sW_if_ne 16 d_Mo_sizeOf_7 (by decide) (fun c_7 => ?_) (fun c_7 => ?_)
    · skip
      simp (disch := omega) only [nI_z] at c_7
      refine sW_go b_Mo_sizeOf_16 (st' := ([.int (nI 4), .int (nI 4)], [some (.ref 119), some (.int (nI k)), some (.int (nI 4)), none], M)) (φ := True) rfl trivial ?_
      refine sW_ic_lt 27 d_Mo_sizeOf_18 (by decide) (fun c_18 => ?_) (fun c_18 => ?_)
      · skip
        exact absurd c_18 (by decide +kernel)
      · skip
        simp (disch := omega) only [nI_ltI] at c_18
        refine sW_go b_Mo_sizeOf_21 (st' := ([.int (nI k), .ref 119], [some (.ref 119), some (.int (nI k)), some (.int (nI 4)), none], M)) (φ := True) rfl trivial ?_
        refine sW_callV 10 [.int (nI k)] [] d_Mo_sizeOf_23 c_Mo_sizeOf_23 ⟨rfl, rfl, rfl, Nat.le_of_ble_eq_true rfl, rfl, rfl⟩ oc_119 (k_pairSize G h hw hk hT (by omega) hkd (by decide)) ?_
        rintro _ M1 ⟨rfl, f1, t1⟩
        show sW G m_Mo_sizeOf 26 ([.int (prV 4 (nI (Af hs k)))], [some (.ref 119), some (.int (nI k)), some (.int (nI 4)), none], M1) _
        refine sW_retI d_Mo_sizeOf_26 rfl (vp_nar_int _) ?_
        exact ⟨rfl, f1, t1⟩
    · skip
      exact absurd c_7 (by decide +kernel)
  · skip
    refine sOk_of ⟨by decide +kernel, by decide +kernel, Nat.le_of_ble_eq_true rfl⟩ ?_
    show sW G m_Mo_sizeOf 0 ([], [some (.ref 119), some (.int (nI k)), none, none], M) _
    refine sW_go b_Mo_sizeOf_0 (st' := ([.int (nI k), .ref 119], [some (.ref 119), some (.int (nI k)), none, none], M)) (φ := True) rfl trivial ?_
    refine sW_callV 10 [.int (nI k)] [] d_Mo_sizeOf_2 c_Mo_sizeOf_2 ⟨rfl, rfl, rfl, Nat.le_of_ble_eq_true rfl, rfl, rfl⟩ oc_119 (km) ?_
    rintro _ M₁ ⟨rfl, h₁⟩
    rw [h₁]
    show sW G m_Mo_sizeOf 5 ([.int (nI 5)], [some (.ref 119), some (.int (nI k)), none, none], M) _
    refine sW_go b_Mo_sizeOf_5 (st' := ([.int (nI 5)], [some (.ref 119), some (.int (nI k)), some (.int (nI 5)), none], M)) (φ := True) rfl trivial ?_
    refine sW_if_ne 16 d_Mo_sizeOf_7 (by decide) (fun c_7 => ?_) (fun c_7 => ?_)
    · skip
      simp (disch := omega) only [nI_z] at c_7
      refine sW_go b_Mo_sizeOf_16 (st' := ([.int (nI 4), .int (nI 5)], [some (.ref 119), some (.int (nI k)), some (.int (nI 5)), none], M)) (φ := True) rfl trivial ?_
      refine sW_ic_lt 27 d_Mo_sizeOf_18 (by decide) (fun c_18 => ?_) (fun c_18 => ?_)
      · skip
        exact absurd c_18 (by decide +kernel)
      · skip
        simp (disch := omega) only [nI_ltI] at c_18
        refine sW_go b_Mo_sizeOf_21 (st' := ([.int (nI k), .ref 119], [some (.ref 119), some (.int (nI k)), some (.int (nI 5)), none], M)) (φ := True) rfl trivial ?_
        refine sW_callV 10 [.int (nI k)] [] d_Mo_sizeOf_23 c_Mo_sizeOf_23 ⟨rfl, rfl, rfl, Nat.le_of_ble_eq_true rfl, rfl, rfl⟩ oc_119 (k_pairSize G h hw hk hT (by omega) hkd (by decide)) ?_
        rintro _ M1 ⟨rfl, f1, t1⟩
        show sW G m_Mo_sizeOf 26 ([.int (prV 5 (nI (Af hs k)))], [some (.ref 119), some (.int (nI k)), some (.int (nI 5)), none], M1) _
        refine sW_retI d_Mo_sizeOf_26 rfl (vp_nar_int _) ?_
        exact ⟨rfl, f1, t1⟩
    · skip
      exact absurd c_7 (by decide +kernel)

