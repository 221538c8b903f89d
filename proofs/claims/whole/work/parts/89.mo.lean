/-! ===== the model: houses that are kept ===== -/
/-- q numbers have been copied -/
def CpI (M M2 : mx_M) (src so dst d q : Nat) : Prop := (∀ a, a ≠ dst → M2 a = M a) ∧ (∀ i, i < q → M2 dst (d + i) = M src (so + i)) ∧ ∀ j, (j < d ∨ d + 26 ≤ j) → M2 dst j = M dst j
theorem CpI.z {M : mx_M} {src so dst d : Nat} : CpI M M src so dst d 0 := ⟨fun _ _ => rfl, fun i hi => absurd hi (Nat.not_lt_zero i), fun _ _ => rfl⟩
theorem CpI.s {M M2 : mx_M} {src so dst d q : Nat} (h : CpI M M2 src so dst d q) (hq : q < 26) : CpI M (mx_wr M2 dst (d + q) (M src (so + q))) src so dst d (q + 1) := by
  obtain ⟨h1, h2, h3⟩ := h
  refine ⟨fun a ha => by rw [mx_wr_n _ _ _ ha]; exact h1 a ha, fun i hi => ?_, fun j hj => ?_⟩
  · rw [mx_wr_s]
    by_cases hx : i = q
    · rw [hx, pk_us]
    · rw [pk_un (by omega)]; exact h2 i (by omega)
  · rw [mx_wr_s, pk_un (by omega)]; exact h3 j hj
theorem CpI.row {M M2 : mx_M} {src so dst d : Nat} {hs : Hs} (h : CpI M M2 src so dst d 26) (hR : RowAt M src so hs) : RowAt M2 dst d hs := fun i hi => (h.2.1 i hi).trans (hR i hi)
theorem RowAt.out {M M2 : mx_M} {src so dst d q o : Nat} {hs : Hs} (h : CpI M M2 src so dst d q) (hR : RowAt M dst o hs) (ho : o + 26 ≤ d ∨ d + 26 ≤ o) : RowAt M2 dst o hs := fun i hi => (h.2.2 _ (by omega)).trans (hR i hi)
theorem CpI.fr {M M2 : mx_M} {src so dst d q : Nat} {cs ss : List Nat} (h : CpI M M2 src so dst d q) (hc : dst ∈ cs) (hn : dst ≠ 119) : MFr M M2 cs ss := MFr.one h.1 hc hn
theorem tf_eq {P Q : Prop} (h : P ↔ Q) : tf P = tf Q := tf_iff h
theorem mo_image (G : mx_G) {M : mx_M} {σ : Sg} (h : MInv M σ) (hg : GOk σ) (k : Int32) : sOk G m_Mo_image [.ref 119, .int k] M (MOk M (sp_image σ k)) := by
  obtain ⟨M0, e0, h0, f0, g0⟩ := h.th
  have hR : RowAt M0 123 0 (gH σ) := h0.2.2.1.1
  have h8 := hg.1.1.1
  by_cases hk : vp_in k 2
  · obtain ⟨x, hx, rfl⟩ := vp_in_of hk (by decide)
    refine sOk_of ⟨by decide +kernel, by decide +kernel, Nat.le_of_ble_eq_true rfl⟩ ?_
    show sW G m_Mo_image 0 ([], [some (.ref 119), some (.int (nI x)), none], M) _
    refine sW_go b_Mo_image_0 (st' := ([.long (lN 1), .long (lN 0), .long (nI x).toInt64], [some (.ref 119), some (.int (nI x)), none], mx_wr M 119 0 (nI 0))) (φ := mx_ocl LAY 119 = 10 ∧ True) rfl ⟨oc_119, trivial⟩ ?_
    refine sW_eq (st' := ([.long (lN 1), .long (lN 0), .long (nI x).toInt64], [some (.ref 119), some (.int (nI x)), none], M0)) (by simp (disch := omega) only [e0]) ?_
    refine sW_callS [.long (nI x).toInt64, .long (lN 0), .long (lN 1)] [] d_Mo_image_9 c_Mo_image_9 ⟨rfl, rfl, Nat.le_of_ble_eq_true rfl, rfl, rfl⟩ (k_in0 G (nI x) 1 (by decide)) ?_
    rintro _ M₁ ⟨rfl, h₁⟩
    rw [h₁]
    show sW G m_Mo_image 12 ([.int (tf (vp_in (nI x) 2))], [some (.ref 119), some (.int (nI x)), none], M0) _
    refine sW_if_ne 18 d_Mo_image_12 (by decide) (fun c_12 => ?_) (fun c_12 => ?_)
    · skip
      replace c_12 := tf_nz.mp c_12
      refine sW_go b_Mo_image_18 (st' := ([.ref 119], [some (.ref 119), some (.int (nI x)), none], M0)) (φ := True) rfl trivial ?_
      refine sW_callV 10 [] [] d_Mo_image_19 c_Mo_image_19 ⟨rfl, rfl, rfl, Nat.le_of_ble_eq_true rfl, rfl, rfl⟩ oc_119 (k_isThere G hR h8) ?_
      rintro _ M₁ ⟨rfl, h₁⟩
      rw [h₁]
      show sW G m_Mo_image 22 ([.int (tf ((gH σ).1 ≠ 0))], [some (.ref 119), some (.int (nI x)), none], M0) _
      refine sW_if_ne 28 d_Mo_image_22 (by decide) (fun c_22 => ?_) (fun c_22 => ?_)
      · skip
        replace c_22 := tf_nz.mp c_22
        refine sW_go b_Mo_image_28 (st' := ([], [some (.ref 119), some (.int (nI x)), some (.int (nI 0))], M0)) (φ := True) rfl trivial ?_
        have hne : (gH σ).1 ≠ 0 := c_22
        have e : sp_image σ (nI x) = (nI 1, wI σ (cif (nI x = nI 0) (gH σ, gJ σ) (gI σ, gH σ))) := by unfold sp_image; rw [cif_t hk, if_neg hne]
        rw [e]
        refine mx_ind (α := Nat × mx_M) (fun q => 26 - q.1) (fun q => q.1 ≤ 26 → CpI M0 q.2 123 0 137 (26 * x) q.1 → sW G m_Mo_image 30 ([], [some (.ref 119), some (.int (nI x)), some (.int (nI q.1))], q.2) _) ?_ (0, M0) (Nat.zero_le _) CpI.z
        rintro ⟨q, M2⟩ ih hq i1
        dsimp only at ih hq i1 ⊢
        by_cases hqn : q < 26
        · have er : M2 123 q = M0 123 (0 + q) := by rw [i1.1 123 (by decide), Nat.zero_add]
          refine sW_go b_Mo_image_30 (st' := ([.int (nI 26), .int (nI q)], [some (.ref 119), some (.int (nI x)), some (.int (nI q))], M2)) (φ := True) rfl trivial ?_
          refine sW_ic_ge 59 d_Mo_image_33 (by decide) (fun c_33 => ?_) (fun c_33 => ?_)
          · skip
            simp (disch := omega) only [nI_leI] at c_33
            omega
          · skip
            simp (disch := omega) only [nI_leI] at c_33
            refine sW_go b_Mo_image_36 (st' := ([], [some (.ref 119), some (.int (nI x)), some (.int (nI q + nI 1))], mx_wr M2 137 ((nI 26 * nI x) + nI q).toNatClampNeg (M2 123 (nI q).toNatClampNeg))) (φ := mx_ocl LAY 119 = 10 ∧ mx_ocl LAY 119 = 10 ∧ vp_in (nI q) (mx_len LAY false 123) ∧ vp_in ((nI 26 * nI x) + nI q) (mx_len LAY false 137) ∧ True) rfl ⟨oc_119, oc_119, (by simp (disch := omega) only [ln_123]; exact vp_in_nI (by omega) (by decide)), (by simp (disch := omega) only [nI_add, pk_mul, ln_137]; exact vp_in_nI (by omega) (by decide)), trivial⟩ ?_
            refine sW_eq (st' := ([], [some (.ref 119), some (.int (nI x)), some (.int (nI (q + 1)))], mx_wr M2 137 (26 * x + q) (M0 123 (0 + q)))) (by simp (disch := omega) only [er, nI_add, nI_clamp, pk_mul]) ?_
            refine sW_goto 30 d_Mo_image_56 (by decide) ?_
            exact ih (q + 1, (mx_wr M2 137 (26 * x + q) (M0 123 (0 + q)))) (by dsimp only; omega) (by dsimp only; omega) (i1.s hqn)
        · obtain rfl : q = 26 := by omega
          refine sW_go b_Mo_image_30 (st' := ([.int (nI 26), .int (nI 26)], [some (.ref 119), some (.int (nI x)), some (.int (nI 26))], M2)) (φ := True) rfl trivial ?_
          refine sW_ic_ge 59 d_Mo_image_33 (by decide) (fun c_33 => ?_) (fun c_33 => ?_)
          · skip
            simp (disch := omega) only [nI_leI] at c_33
            refine sW_go b_Mo_image_59 (st' := ([.int (nI 1)], [some (.ref 119), some (.int (nI x)), some (.int (nI 26))], mx_wr M2 136 (nI x).toNatClampNeg (nI 1))) (φ := mx_ocl LAY 119 = 10 ∧ (vp_in (nI x) (mx_len LAY true 136) ∧ ((nI 1) = 0 ∨ (nI 1) = 1)) ∧ True) rfl ⟨oc_119, ⟨(by simp (disch := omega) only [ln_136]; exact vp_in_nI (by omega) (by decide)), (by first | exact tf_01 _ | decide)⟩, trivial⟩ ?_
            refine sW_eq (st' := ([.int (nI 1)], [some (.ref 119), some (.int (nI x)), some (.int (nI 26))], mx_wr M2 136 x (nI 1))) (by simp (disch := omega) only [nI_clamp]) ?_
            refine sW_retI d_Mo_image_67 rfl (vp_nar_int _) ?_
            have fa : MFr M0 (mx_wr M2 136 x (nI 1)) [136, 137] [0] := (i1.fr (by decide) (by decide)).wr (by decide) (by decide)
            obtain ⟨j1, j2, j3, j4⟩ := h0.2.2.2.1
            have e137 : (mx_wr M2 136 x (nI 1)) 137 = M2 137 := mx_wr_n _ _ _ (by decide)
            have e136 : M2 136 = M0 136 := i1.1 136 (by decide)
            refine ⟨rfl, f0.tr (fa.fr (by decide)), h0.img fa ?_⟩
            rcases (by omega : x = 0 ∨ x = 1) with rfl | rfl
            · rw [cif_t rfl]
              refine ⟨?_, ?_, fun _ => (i1.row hR).eq e137, fun w => (RowAt.out i1 (j4 w) (by omega)).eq e137⟩
              · rw [mx_wr_s, pk_us, tf_t hne]
              · rw [mx_wr_s, pk_un (by decide), e136]; exact j2
            · rw [cif_f (by decide)]
              refine ⟨?_, ?_, fun w => (RowAt.out i1 (j3 w) (by omega)).eq e137, fun _ => (i1.row hR).eq e137⟩
              · rw [mx_wr_s, pk_un (by decide), e136]; exact j1
              · rw [mx_wr_s, pk_us, tf_t hne]
          · skip
            exact absurd (by decide +kernel) c_33
      · skip
        replace c_22 := tf_z.mp c_22
        refine sW_go b_Mo_image_25 (st' := ([.int (-1000002)], [some (.ref 119), some (.int (nI x)), none], M0)) (φ := True) rfl trivial ?_
        refine sW_retI d_Mo_image_27 rfl (vp_nar_int _) ?_
        have e : sp_image σ (nI x) = ((-1000002), σ) := by unfold sp_image; rw [cif_t hk, if_pos (Classical.not_not.mp c_22)]
        rw [e]
        exact ⟨rfl, f0, h0⟩
    · skip
      replace c_12 := tf_z.mp c_12
      refine sW_go b_Mo_image_15 (st' := ([.int (-1000001)], [some (.ref 119), some (.int (nI x)), none], M0)) (φ := True) rfl trivial ?_
      refine sW_retI d_Mo_image_17 rfl (vp_nar_int _) ?_
      exact absurd hk c_12
  · have e : sp_image σ k = ((-1000001), σ) := by unfold sp_image; rw [cif_f hk]
    rw [e]
    refine sOk_of ⟨by decide +kernel, by decide +kernel, Nat.le_of_ble_eq_true rfl⟩ ?_
    show sW G m_Mo_image 0 ([], [some (.ref 119), some (.int k), none], M) _
    refine sW_go b_Mo_image_0 (st' := ([.long (lN 1), .long (lN 0), .long k.toInt64], [some (.ref 119), some (.int k), none], mx_wr M 119 0 (nI 0))) (φ := mx_ocl LAY 119 = 10 ∧ True) rfl ⟨oc_119, trivial⟩ ?_
    refine sW_eq (st' := ([.long (lN 1), .long (lN 0), .long k.toInt64], [some (.ref 119), some (.int k), none], M0)) (by simp (disch := omega) only [e0]) ?_
    refine sW_callS [.long k.toInt64, .long (lN 0), .long (lN 1)] [] d_Mo_image_9 c_Mo_image_9 ⟨rfl, rfl, Nat.le_of_ble_eq_true rfl, rfl, rfl⟩ (k_in0 G k 1 (by decide)) ?_
    rintro _ M₁ ⟨rfl, h₁⟩
    rw [h₁]
    show sW G m_Mo_image 12 ([.int (tf (vp_in k 2))], [some (.ref 119), some (.int k), none], M0) _
    refine sW_if_ne 18 d_Mo_image_12 (by decide) (fun c_12 => ?_) (fun c_12 => ?_)
    · skip
      replace c_12 := tf_nz.mp c_12
      exact absurd c_12 hk
    · skip
      replace c_12 := tf_z.mp c_12
      refine sW_go b_Mo_image_15 (st' := ([.int (-1000001)], [some (.ref 119), some (.int k), none], M0)) (φ := True) rfl trivial ?_
      refine sW_retI d_Mo_image_17 rfl (vp_nar_int _) ?_
      exact ⟨rfl, f0, h0⟩
theorem mo_restore (G : mx_G) {M : mx_M} {σ : Sg} (h : MInv M σ) (k : Int32) : sOk G m_Mo_restore [.ref 119, .int k] M (MOk M (sp_restore σ k)) := by
  obtain ⟨M0, e0, h0, f0, g0⟩ := h.th
  by_cases hk : vp_in k 2
  · obtain ⟨x, hx, rfl⟩ := vp_in_of hk (by decide)
    obtain ⟨X, eX⟩ : ∃ X, cif (nI x = nI 0) (gI σ) (gJ σ) = X := ⟨_, rfl⟩
    obtain ⟨j1, j2, j3, j4⟩ := h0.2.2.2.1
    have hk1 : M0 136 x = tf (X.1 ≠ 0) ∧ (X.1 ≠ 0 → RowAt M0 137 (26 * x) X) := by
      rcases (by omega : x = 0 ∨ x = 1) with rfl | rfl
      · rw [cif_t rfl] at eX
        subst eX
        exact ⟨j1, j3⟩
      · rw [cif_f (by decide)] at eX
        subst eX
        exact ⟨j2, j4⟩
    obtain ⟨k1, k2⟩ := hk1
    refine sOk_of ⟨by decide +kernel, by decide +kernel, Nat.le_of_ble_eq_true rfl⟩ ?_
    show sW G m_Mo_restore 0 ([], [some (.ref 119), some (.int (nI x)), none], M) _
    refine sW_go b_Mo_restore_0 (st' := ([.long (lN 1), .long (lN 0), .long (nI x).toInt64], [some (.ref 119), some (.int (nI x)), none], mx_wr M 119 0 (nI 0))) (φ := mx_ocl LAY 119 = 10 ∧ True) rfl ⟨oc_119, trivial⟩ ?_
    refine sW_eq (st' := ([.long (lN 1), .long (lN 0), .long (nI x).toInt64], [some (.ref 119), some (.int (nI x)), none], M0)) (by simp (disch := omega) only [e0]) ?_
    refine sW_callS [.long (nI x).toInt64, .long (lN 0), .long (lN 1)] [] d_Mo_restore_9 c_Mo_restore_9 ⟨rfl, rfl, Nat.le_of_ble_eq_true rfl, rfl, rfl⟩ (k_in0 G (nI x) 1 (by decide)) ?_
    rintro _ M₁ ⟨rfl, h₁⟩
    rw [h₁]
    show sW G m_Mo_restore 12 ([.int (tf (vp_in (nI x) 2))], [some (.ref 119), some (.int (nI x)), none], M0) _
    refine sW_if_ne 18 d_Mo_restore_12 (by decide) (fun c_12 => ?_) (fun c_12 => ?_)
    · skip
      replace c_12 := tf_nz.mp c_12
      refine sW_go b_Mo_restore_18 (st' := ([.int (M0 136 (nI x).toNatClampNeg)], [some (.ref 119), some (.int (nI x)), none], M0)) (φ := mx_ocl LAY 119 = 10 ∧ vp_in (nI x) (mx_len LAY true 136) ∧ True) rfl ⟨oc_119, (by simp (disch := omega) only [ln_136]; exact vp_in_nI (by omega) (by decide)), trivial⟩ ?_
      refine sW_eq (st' := ([.int (tf (X.1 ≠ 0))], [some (.ref 119), some (.int (nI x)), none], M0)) (by simp (disch := omega) only [k1, nI_clamp]) ?_
      refine sW_if_ne 30 d_Mo_restore_24 (by decide) (fun c_24 => ?_) (fun c_24 => ?_)
      · skip
        replace c_24 := tf_nz.mp c_24
        refine sW_go b_Mo_restore_30 (st' := ([], [some (.ref 119), some (.int (nI x)), some (.int (nI 0))], M0)) (φ := True) rfl trivial ?_
        have e : sp_restore σ (nI x) = (nI 1, wH σ (X, [])) := by unfold sp_restore; rw [cif_t hk, eX, if_neg c_24]
        rw [e]
        refine mx_ind (α := Nat × mx_M) (fun q => 26 - q.1) (fun q => q.1 ≤ 26 → CpI M0 q.2 137 (26 * x) 123 0 q.1 → sW G m_Mo_restore 32 ([], [some (.ref 119), some (.int (nI x)), some (.int (nI q.1))], q.2) _) ?_ (0, M0) (Nat.zero_le _) CpI.z
        rintro ⟨q, M2⟩ ih hq i1
        dsimp only at ih hq i1 ⊢
        by_cases hqn : q < 26
        · have er : M2 137 (26 * x + q) = M0 137 (26 * x + q) := by rw [i1.1 137 (by decide)]
          have i2 := i1.s hqn
          rw [Nat.zero_add] at i2
          refine sW_go b_Mo_restore_32 (st' := ([.int (nI 26), .int (nI q)], [some (.ref 119), some (.int (nI x)), some (.int (nI q))], M2)) (φ := True) rfl trivial ?_
          refine sW_ic_ge 61 d_Mo_restore_35 (by decide) (fun c_35 => ?_) (fun c_35 => ?_)
          · skip
            simp (disch := omega) only [nI_leI] at c_35
            omega
          · skip
            simp (disch := omega) only [nI_leI] at c_35
            refine sW_go b_Mo_restore_38 (st' := ([], [some (.ref 119), some (.int (nI x)), some (.int (nI q + nI 1))], mx_wr M2 123 (nI q).toNatClampNeg (M2 137 ((nI 26 * nI x) + nI q).toNatClampNeg))) (φ := mx_ocl LAY 119 = 10 ∧ mx_ocl LAY 119 = 10 ∧ vp_in ((nI 26 * nI x) + nI q) (mx_len LAY false 137) ∧ vp_in (nI q) (mx_len LAY false 123) ∧ True) rfl ⟨oc_119, oc_119, (by simp (disch := omega) only [nI_add, pk_mul, ln_137]; exact vp_in_nI (by omega) (by decide)), (by simp (disch := omega) only [ln_123]; exact vp_in_nI (by omega) (by decide)), trivial⟩ ?_
            refine sW_eq (st' := ([], [some (.ref 119), some (.int (nI x)), some (.int (nI (q + 1)))], mx_wr M2 123 q (M0 137 (26 * x + q)))) (by simp (disch := omega) only [er, nI_add, nI_clamp, pk_mul]) ?_
            refine sW_goto 32 d_Mo_restore_58 (by decide) ?_
            exact ih (q + 1, (mx_wr M2 123 q (M0 137 (26 * x + q)))) (by dsimp only; omega) (by dsimp only; omega) i2
        · obtain rfl : q = 26 := by omega
          refine sW_go b_Mo_restore_32 (st' := ([.int (nI 26), .int (nI 26)], [some (.ref 119), some (.int (nI x)), some (.int (nI 26))], M2)) (φ := True) rfl trivial ?_
          refine sW_ic_ge 61 d_Mo_restore_35 (by decide) (fun c_35 => ?_) (fun c_35 => ?_)
          · skip
            simp (disch := omega) only [nI_leI] at c_35
            refine sW_go b_Mo_restore_61 (st' := ([.int (nI 1)], [some (.ref 119), some (.int (nI x)), some (.int (nI 26))], mx_wr M2 119 9 (nI 0))) (φ := mx_ocl LAY 119 = 10 ∧ True) rfl ⟨oc_119, trivial⟩ ?_
            refine sW_retI d_Mo_restore_67 rfl (vp_nar_int _) ?_
            have fa : MFr M0 (mx_wr M2 119 9 (nI 0)) [123, 126] [0, 9] := (i1.fr (by decide) (by decide)).wo (by decide)
            refine ⟨rfl, f0.tr (fa.fr (by decide)), h0.house fa ⟨(i1.row (k2 c_24)).eq (mx_wr_n _ _ _ (by decide)), ?_, Nat.zero_le _, fun i hi => absurd hi (Nat.not_lt_zero i)⟩⟩
            rw [mx_wr_s, pk_us]
            rfl
          · skip
            exact absurd (by decide +kernel) c_35
      · skip
        replace c_24 := tf_z.mp c_24
        refine sW_go b_Mo_restore_27 (st' := ([.int (-1000002)], [some (.ref 119), some (.int (nI x)), none], M0)) (φ := True) rfl trivial ?_
        refine sW_retI d_Mo_restore_29 rfl (vp_nar_int _) ?_
        have e : sp_restore σ (nI x) = ((-1000002), σ) := by unfold sp_restore; rw [cif_t hk, eX, if_pos (Classical.not_not.mp c_24)]
        rw [e]
        exact ⟨rfl, f0, h0⟩
    · skip
      replace c_12 := tf_z.mp c_12
      refine sW_go b_Mo_restore_15 (st' := ([.int (-1000001)], [some (.ref 119), some (.int (nI x)), none], M0)) (φ := True) rfl trivial ?_
      refine sW_retI d_Mo_restore_17 rfl (vp_nar_int _) ?_
      exact absurd hk c_12
  · have e : sp_restore σ k = ((-1000001), σ) := by unfold sp_restore; rw [cif_f hk]
    rw [e]
    refine sOk_of ⟨by decide +kernel, by decide +kernel, Nat.le_of_ble_eq_true rfl⟩ ?_
    show sW G m_Mo_restore 0 ([], [some (.ref 119), some (.int k), none], M) _
    refine sW_go b_Mo_restore_0 (st' := ([.long (lN 1), .long (lN 0), .long k.toInt64], [some (.ref 119), some (.int k), none], mx_wr M 119 0 (nI 0))) (φ := mx_ocl LAY 119 = 10 ∧ True) rfl ⟨oc_119, trivial⟩ ?_
    refine sW_eq (st' := ([.long (lN 1), .long (lN 0), .long k.toInt64], [some (.ref 119), some (.int k), none], M0)) (by simp (disch := omega) only [e0]) ?_
    refine sW_callS [.long k.toInt64, .long (lN 0), .long (lN 1)] [] d_Mo_restore_9 c_Mo_restore_9 ⟨rfl, rfl, Nat.le_of_ble_eq_true rfl, rfl, rfl⟩ (k_in0 G k 1 (by decide)) ?_
    rintro _ M₁ ⟨rfl, h₁⟩
    rw [h₁]
    show sW G m_Mo_restore 12 ([.int (tf (vp_in k 2))], [some (.ref 119), some (.int k), none], M0) _
    refine sW_if_ne 18 d_Mo_restore_12 (by decide) (fun c_12 => ?_) (fun c_12 => ?_)
    · skip
      replace c_12 := tf_nz.mp c_12
      exact absurd c_12 hk
    · skip
      replace c_12 := tf_z.mp c_12
      refine sW_go b_Mo_restore_15 (st' := ([.int (-1000001)], [some (.ref 119), some (.int k), none], M0)) (φ := True) rfl trivial ?_
      refine sW_retI d_Mo_restore_17 rfl (vp_nar_int _) ?_
      exact ⟨rfl, f0, h0⟩
theorem hsD_l {A B : List Hs} {i : Nat} (hi : i < A.length) (d d' : Hs) : (A ++ B).getD i d = A.getD i d' := by
  rw [List.getD_eq_getElem?_getD, List.getD_eq_getElem?_getD, List.getElem?_append_left hi, List.getElem?_eq_getElem hi]
  rfl
theorem hsD_r {A : List Hs} (H d : Hs) : (A ++ [H]).getD A.length d = H := by
  rw [List.getD_eq_getElem?_getD, List.getElem?_append_right (Nat.le_refl _), Nat.sub_self]
  rfl
theorem mo_undo (G : mx_G) {M : mx_M} {σ : Sg} (h : MInv M σ) : sOk G m_Mo_undo [.ref 119] M (MOk M (sp_undo σ)) := by
  obtain ⟨M0, e0, h0, f0, g0⟩ := h.th
  obtain ⟨a1, a2, a3, a4⟩ := h0.2.2.1
  have a2 : M0 119 9 = nI (gA σ).length := a2
  have a3 : (gA σ).length ≤ 24 := a3
  have z : mx_wr M 119 0 (nI 0) 119 9 = nI (gA σ).length := by rw [e0]; exact a2
  by_cases hl : (gA σ).length = 0
  · have e : sp_undo σ = ((-1000002), σ) := by unfold sp_undo; rw [if_pos hl]
    rw [e]
    refine sOk_of ⟨by decide +kernel, by decide +kernel, Nat.le_of_ble_eq_true rfl⟩ ?_
    show sW G m_Mo_undo 0 ([], [some (.ref 119), none], M) _
    refine sW_go b_Mo_undo_0 (st' := ([.int ((mx_wr M 119 0 (nI 0)) 119 9)], [some (.ref 119), none], mx_wr M 119 0 (nI 0))) (φ := mx_ocl LAY 119 = 10 ∧ mx_ocl LAY 119 = 10 ∧ True) rfl ⟨oc_119, oc_119, trivial⟩ ?_
    refine sW_eq (st' := ([.int (nI (gA σ).length)], [some (.ref 119), none], M0)) (by simp (disch := omega) only [e0, z, a2]) ?_
    refine sW_if_ne 15 d_Mo_undo_9 (by decide) (fun c_9 => ?_) (fun c_9 => ?_)
    · skip
      simp (disch := omega) only [nI_z] at c_9
      exact absurd hl c_9
    · skip
      simp (disch := omega) only [nI_z] at c_9
      refine sW_go b_Mo_undo_12 (st' := ([.int (-1000002)], [some (.ref 119), none], M0)) (φ := True) rfl trivial ?_
      refine sW_retI d_Mo_undo_14 rfl (vp_nar_int _) ?_
      exact ⟨rfl, f0, h0⟩
  · have hA := cons_last (A := gA σ) (fun q => hl (by rw [q]; rfl)) (gH σ)
    have e : sp_undo σ = (nI ((gA σ).length - 1), wH σ ((gA σ).getLastD (gH σ), (gA σ).dropLast)) := by unfold sp_undo; rw [if_neg hl]
    rw [e]
    generalize (gA σ).getLastD (gH σ) = L at hA ⊢
    generalize (gA σ).dropLast = D at hA ⊢
    have hn : (gA σ).length = D.length + 1 := by rw [hA, List.length_append]; rfl
    have a4 : ∀ i, i < (gA σ).length → RowAt M0 126 (26 * i) ((gA σ).getD i (gH σ)) := a4
    have hRL : RowAt M0 126 (26 * D.length) L := by
      have := a4 D.length (by omega)
      rw [hA, hsD_r] at this
      exact this
    have hRD : ∀ i, i < D.length → RowAt M0 126 (26 * i) (D.getD i L) := fun i hi => by
      have := a4 i (by omega)
      rw [hA, hsD_l hi _ L] at this
      exact this
    rw [hn] at z a2 a3
    rw [hn, show D.length + 1 - 1 = D.length by omega]
    obtain ⟨M1, e1⟩ : ∃ M1, mx_wr M0 119 9 (nI D.length) = M1 := ⟨_, rfl⟩
    have s1 := sub_1 D.length
    have f1 : MFr M0 M1 [123, 126] [0, 9] := by rw [← e1]; exact MFr.rf.wo (by decide)
    have b1 : M1 119 9 = nI D.length := by rw [← e1, mx_wr_s, pk_us]
    refine sOk_of ⟨by decide +kernel, by decide +kernel, Nat.le_of_ble_eq_true rfl⟩ ?_
    show sW G m_Mo_undo 0 ([], [some (.ref 119), none], M) _
    refine sW_go b_Mo_undo_0 (st' := ([.int ((mx_wr M 119 0 (nI 0)) 119 9)], [some (.ref 119), none], mx_wr M 119 0 (nI 0))) (φ := mx_ocl LAY 119 = 10 ∧ mx_ocl LAY 119 = 10 ∧ True) rfl ⟨oc_119, oc_119, trivial⟩ ?_
    refine sW_eq (st' := ([.int (nI (D.length + 1))], [some (.ref 119), none], M0)) (by simp (disch := omega) only [e0, z, a2]) ?_
    refine sW_if_ne 15 d_Mo_undo_9 (by decide) (fun c_9 => ?_) (fun c_9 => ?_)
    · skip
      simp (disch := omega) only [nI_z] at c_9
      refine sW_go b_Mo_undo_15 (st' := ([], [some (.ref 119), some (.int (nI 0))], mx_wr M0 119 9 (M0 119 9 - nI 1))) (φ := mx_ocl LAY 119 = 10 ∧ mx_ocl LAY 119 = 10 ∧ True) rfl ⟨oc_119, oc_119, trivial⟩ ?_
      refine sW_eq (st' := ([], [some (.ref 119), some (.int (nI 0))], M1)) (by simp (disch := omega) only [a2, e1, s1]) ?_
      refine mx_ind (α := Nat × mx_M) (fun q => 26 - q.1) (fun q => q.1 ≤ 26 → CpI M1 q.2 126 (26 * D.length) 123 0 q.1 → sW G m_Mo_undo 27 ([], [some (.ref 119), some (.int (nI q.1))], q.2) _) ?_ (0, M1) (Nat.zero_le _) CpI.z
      rintro ⟨q, M2⟩ ih hq i1
      dsimp only at ih hq i1 ⊢
      have b2 : M2 119 9 = nI D.length := by rw [i1.1 119 (by decide)]; exact b1
      by_cases hqn : q < 26
      · have er : M2 126 (26 * D.length + q) = M1 126 (26 * D.length + q) := by rw [i1.1 126 (by decide)]
        have i2 := i1.s hqn
        rw [Nat.zero_add] at i2
        refine sW_go b_Mo_undo_27 (st' := ([.int (nI 26), .int (nI q)], [some (.ref 119), some (.int (nI q))], M2)) (φ := True) rfl trivial ?_
        refine sW_ic_ge 59 d_Mo_undo_30 (by decide) (fun c_30 => ?_) (fun c_30 => ?_)
        · skip
          simp (disch := omega) only [nI_leI] at c_30
          omega
        · skip
          simp (disch := omega) only [nI_leI] at c_30
          refine sW_go b_Mo_undo_33 (st' := ([], [some (.ref 119), some (.int (nI q + nI 1))], mx_wr M2 123 (nI q).toNatClampNeg (M2 126 ((nI 26 * M2 119 9) + nI q).toNatClampNeg))) (φ := mx_ocl LAY 119 = 10 ∧ mx_ocl LAY 119 = 10 ∧ mx_ocl LAY 119 = 10 ∧ vp_in ((nI 26 * M2 119 9) + nI q) (mx_len LAY false 126) ∧ vp_in (nI q) (mx_len LAY false 123) ∧ True) rfl ⟨oc_119, oc_119, oc_119, (by simp (disch := omega) only [b2, nI_add, pk_mul, ln_126]; exact vp_in_nI (by omega) (by decide)), (by simp (disch := omega) only [ln_123]; exact vp_in_nI (by omega) (by decide)), trivial⟩ ?_
          refine sW_eq (st' := ([], [some (.ref 119), some (.int (nI (q + 1)))], mx_wr M2 123 q (M1 126 (26 * D.length + q)))) (by simp (disch := omega) only [b2, er, nI_add, nI_clamp, pk_mul]) ?_
          refine sW_goto 27 d_Mo_undo_56 (by decide) ?_
          exact ih (q + 1, (mx_wr M2 123 q (M1 126 (26 * D.length + q)))) (by dsimp only; omega) (by dsimp only; omega) i2
      · obtain rfl : q = 26 := by omega
        refine sW_go b_Mo_undo_27 (st' := ([.int (nI 26), .int (nI 26)], [some (.ref 119), some (.int (nI 26))], M2)) (φ := True) rfl trivial ?_
        refine sW_ic_ge 59 d_Mo_undo_30 (by decide) (fun c_30 => ?_) (fun c_30 => ?_)
        · skip
          simp (disch := omega) only [nI_leI] at c_30
          refine sW_go b_Mo_undo_59 (st' := ([.int (M2 119 9)], [some (.ref 119), some (.int (nI 26))], M2)) (φ := mx_ocl LAY 119 = 10 ∧ True) rfl ⟨oc_119, trivial⟩ ?_
          refine sW_eq (st' := ([.int (nI D.length)], [some (.ref 119), some (.int (nI 26))], M2)) (by simp (disch := omega) only [b2]) ?_
          refine sW_retI d_Mo_undo_63 rfl (vp_nar_int _) ?_
          have fa : MFr M0 M2 [123, 126] [0, 9] := f1.tr (i1.fr (by decide) (by decide))
          have hR1 : RowAt M1 126 (26 * D.length) L := hRL.eq (by rw [← e1]; exact mx_wr_n _ _ _ (by decide))
          have e126 : M2 126 = M0 126 := by rw [i1.1 126 (by decide), ← e1]; exact mx_wr_n _ _ _ (by decide)
          exact ⟨rfl, f0.tr (fa.fr (by decide)), h0.house fa ⟨i1.row hR1, b2, by show D.length ≤ 24; omega, fun i hi => (hRD i hi).eq e126⟩⟩
        · skip
          exact absurd (by decide +kernel) c_30
    · skip
      simp (disch := omega) only [nI_z] at c_9
      refine sW_go b_Mo_undo_12 (st' := ([.int (-1000002)], [some (.ref 119), none], M0)) (φ := True) rfl trivial ?_
      refine sW_retI d_Mo_undo_14 rfl (vp_nar_int _) ?_
      exact absurd c_9 (by omega)

