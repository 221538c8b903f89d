/-! ===== the model: a house is read ===== -/
theorem k_areNamed (G : mx_G) {M : mx_M} {hs : Hs} (h : RowAt M 124 0 hs) (hw : WHs hs) : sOk G m_Mo_areNamed [.ref 119] M (fun r M' => r = some (.int (tf (∀ k, k < hs.1 → (Sf hs k = 1 ∨ Sf hs k = 2) → Af hs k < hs.1 ∧ Bf hs k < hs.1))) ∧ M' = M) := by
  have e0 := h.n
  have w1 := hw.1.1
  refine sOk_of ⟨by decide +kernel, by decide +kernel, Nat.le_of_ble_eq_true rfl⟩ ?_
  show sW G m_Mo_areNamed 0 ([], [some (.ref 119), none, none, none], M) _
  refine sW_go b_Mo_areNamed_0 (st' := ([], [some (.ref 119), some (.int (nI 0)), none, none], M)) (φ := True) rfl trivial ?_
  refine mx_ind (α := Nat) (fun k => hs.1 - k) (fun k => k ≤ hs.1 → (∀ j, j < k → (Sf hs j = 1 ∨ Sf hs j = 2) → Af hs j < hs.1 ∧ Bf hs j < hs.1) → sW G m_Mo_areNamed 2 ([], [some (.ref 119), some (.int (nI k)), none, none], M) _) ?_ 0 (Nat.zero_le _) (fun j hj => absurd hj (Nat.not_lt_zero j))
  intro k ih hk hj
  by_cases hkn : k < hs.1
  · obtain ⟨y1, y2, y3⟩ := hw.le k
    have k8 : k < 8 := by omega
    have q1 := h.S k8
    have q2 := h.A k8
    have q3 := h.B k8
    have nx : ((Sf hs k = 1 ∨ Sf hs k = 2) → Af hs k < hs.1 ∧ Bf hs k < hs.1) → ∀ j, j < k + 1 → (Sf hs j = 1 ∨ Sf hs j = 2) → Af hs j < hs.1 ∧ Bf hs j < hs.1 := fun q j hj' => by
      by_cases hx : j = k
      · rw [hx]; exact q
      · exact hj j (by omega)
    refine sW_go b_Mo_areNamed_2 (st' := ([.int (M 124 (nI 0).toNatClampNeg), .int (nI k)], [some (.ref 119), some (.int (nI k)), none, none], M)) (φ := mx_ocl LAY 119 = 10 ∧ vp_in (nI 0) (mx_len LAY false 124) ∧ True) rfl ⟨oc_119, (by simp (disch := omega) only [ln_124]; exact vp_in_nI (by omega) (by decide)), trivial⟩ ?_
    refine sW_eq (st' := ([.int (nI hs.1), .int (nI k)], [some (.ref 119), some (.int (nI k)), none, none], M)) (by simp (disch := omega) only [e0, nI_clamp]) ?_
    refine sW_ic_ge 90 d_Mo_areNamed_9 (by decide) (fun c_9 => ?_) (fun c_9 => ?_)
    · skip
      simp (disch := omega) only [nI_leI] at c_9
      omega
    · skip
      simp (disch := omega) only [nI_leI] at c_9
      refine sW_go b_Mo_areNamed_12 (st' := ([.int (nI 1), .int (M 124 (nI 2 + (nI 3 * nI k)).toNatClampNeg)], [some (.ref 119), some (.int (nI k)), some (.int (nI 2 + (nI 3 * nI k))), none], M)) (φ := mx_ocl LAY 119 = 10 ∧ vp_in (nI 2 + (nI 3 * nI k)) (mx_len LAY false 124) ∧ True) rfl ⟨oc_119, (by simp (disch := omega) only [nI_add, pk_mul, ln_124]; exact vp_in_nI (by omega) (by decide)), trivial⟩ ?_
      refine sW_eq (st' := ([.int (nI 1), .int (nI (Sf hs k))], [some (.ref 119), some (.int (nI k)), some (.int (nI (2 + 3 * k))), none], M)) (by simp (disch := omega) only [nI_add, nI_clamp, pk_mul, q1]) ?_
      refine sW_ic_eq 38 d_Mo_areNamed_25 (by decide) (fun c_25 => ?_) (fun c_25 => ?_)
      · skip
        simp (disch := omega) only [nI_eq] at c_25
        refine sW_go b_Mo_areNamed_38 (st' := ([.int (nI 1)], [some (.ref 119), some (.int (nI k)), some (.int (nI (2 + 3 * k))), none], M)) (φ := True) rfl trivial ?_
        refine sW_goto 43 d_Mo_areNamed_39 (by decide) ?_
        refine sW_go b_Mo_areNamed_43 (st' := ([.int (nI 1)], [some (.ref 119), some (.int (nI k)), some (.int (nI (2 + 3 * k))), some (.int (nI 1))], M)) (φ := True) rfl trivial ?_
        refine sW_if_eq 84 d_Mo_areNamed_45 (by decide) (fun c_45 => ?_) (fun c_45 => ?_)
        · skip
          exact absurd c_45 (by decide +kernel)
        · skip
          simp (disch := omega) only [nI_z] at c_45
          refine sW_go b_Mo_areNamed_48 (st' := ([.int (M 124 (nI 0).toNatClampNeg), .int (M 124 (nI (2 + 3 * k) + nI 1).toNatClampNeg)], [some (.ref 119), some (.int (nI k)), some (.int (nI (2 + 3 * k))), some (.int (nI 1))], M)) (φ := mx_ocl LAY 119 = 10 ∧ vp_in (nI (2 + 3 * k) + nI 1) (mx_len LAY false 124) ∧ mx_ocl LAY 119 = 10 ∧ vp_in (nI 0) (mx_len LAY false 124) ∧ True) rfl ⟨oc_119, (by simp (disch := omega) only [nI_add, ln_124]; exact vp_in_nI (by omega) (by decide)), oc_119, (by simp (disch := omega) only [ln_124]; exact vp_in_nI (by omega) (by decide)), trivial⟩ ?_
          refine sW_eq (st' := ([.int (nI hs.1), .int (nI (Af hs k))], [some (.ref 119), some (.int (nI k)), some (.int (nI (2 + 3 * k))), some (.int (nI 1))], M)) (by simp (disch := omega) only [e0, nI_add, nI_clamp, q2]) ?_
          refine sW_ic_ge 82 d_Mo_areNamed_62 (by decide) (fun c_62 => ?_) (fun c_62 => ?_)
          · skip
            simp (disch := omega) only [nI_leI] at c_62
            refine sW_go b_Mo_areNamed_82 (st' := ([.int (nI 0)], [some (.ref 119), some (.int (nI k)), some (.int (nI (2 + 3 * k))), some (.int (nI 1))], M)) (φ := True) rfl trivial ?_
            refine sW_retI d_Mo_areNamed_83 rfl nb_0 ?_
            first | exact ⟨by rw [tf_f (fun q => by have := q k hkn (by omega); omega)], rfl⟩ | (refine sW_fg [false, false, true, true] ?_; exact ih (k + 1) (by omega) (by omega) (nx (by omega)))
          · skip
            simp (disch := omega) only [nI_leI] at c_62
            refine sW_go b_Mo_areNamed_65 (st' := ([.int (M 124 (nI 0).toNatClampNeg), .int (M 124 (nI (2 + 3 * k) + nI 2).toNatClampNeg)], [some (.ref 119), some (.int (nI k)), some (.int (nI (2 + 3 * k))), some (.int (nI 1))], M)) (φ := mx_ocl LAY 119 = 10 ∧ vp_in (nI (2 + 3 * k) + nI 2) (mx_len LAY false 124) ∧ mx_ocl LAY 119 = 10 ∧ vp_in (nI 0) (mx_len LAY false 124) ∧ True) rfl ⟨oc_119, (by simp (disch := omega) only [nI_add, ln_124]; exact vp_in_nI (by omega) (by decide)), oc_119, (by simp (disch := omega) only [ln_124]; exact vp_in_nI (by omega) (by decide)), trivial⟩ ?_
            refine sW_eq (st' := ([.int (nI hs.1), .int (nI (Bf hs k))], [some (.ref 119), some (.int (nI k)), some (.int (nI (2 + 3 * k))), some (.int (nI 1))], M)) (by simp (disch := omega) only [e0, nI_add, nI_clamp, q3]) ?_
            refine sW_ic_lt 84 d_Mo_areNamed_79 (by decide) (fun c_79 => ?_) (fun c_79 => ?_)
            · skip
              simp (disch := omega) only [nI_ltI] at c_79
              refine sW_go b_Mo_areNamed_84 (st' := ([], [some (.ref 119), some (.int (nI k + nI 1)), some (.int (nI (2 + 3 * k))), some (.int (nI 1))], M)) (φ := True) rfl trivial ?_
              refine sW_eq (st' := ([], [some (.ref 119), some (.int (nI (k + 1))), some (.int (nI (2 + 3 * k))), some (.int (nI 1))], M)) (by simp (disch := omega) only [nI_add]) ?_
              refine sW_goto 2 d_Mo_areNamed_87 (by decide) ?_
              first | exact ⟨by rw [tf_f (fun q => by have := q k hkn (by omega); omega)], rfl⟩ | (refine sW_fg [false, false, true, true] ?_; exact ih (k + 1) (by omega) (by omega) (nx (by omega)))
            · skip
              simp (disch := omega) only [nI_ltI] at c_79
              refine sW_go b_Mo_areNamed_82 (st' := ([.int (nI 0)], [some (.ref 119), some (.int (nI k)), some (.int (nI (2 + 3 * k))), some (.int (nI 1))], M)) (φ := True) rfl trivial ?_
              refine sW_retI d_Mo_areNamed_83 rfl nb_0 ?_
              first | exact ⟨by rw [tf_f (fun q => by have := q k hkn (by omega); omega)], rfl⟩ | (refine sW_fg [false, false, true, true] ?_; exact ih (k + 1) (by omega) (by omega) (nx (by omega)))
      · skip
        simp (disch := omega) only [nI_eq] at c_25
        refine sW_go b_Mo_areNamed_28 (st' := ([.int (nI 2), .int (M 124 (nI (2 + 3 * k)).toNatClampNeg)], [some (.ref 119), some (.int (nI k)), some (.int (nI (2 + 3 * k))), none], M)) (φ := mx_ocl LAY 119 = 10 ∧ vp_in (nI (2 + 3 * k)) (mx_len LAY false 124) ∧ True) rfl ⟨oc_119, (by simp (disch := omega) only [ln_124]; exact vp_in_nI (by omega) (by decide)), trivial⟩ ?_
        refine sW_eq (st' := ([.int (nI 2), .int (nI (Sf hs k))], [some (.ref 119), some (.int (nI k)), some (.int (nI (2 + 3 * k))), none], M)) (by simp (disch := omega) only [nI_clamp, q1]) ?_
        refine sW_ic_ne 42 d_Mo_areNamed_35 (by decide) (fun c_35 => ?_) (fun c_35 => ?_)
        · skip
          simp (disch := omega) only [nI_eq] at c_35
          refine sW_go b_Mo_areNamed_42 (st' := ([.int (nI 0)], [some (.ref 119), some (.int (nI k)), some (.int (nI (2 + 3 * k))), none], M)) (φ := True) rfl trivial ?_
          refine sW_go b_Mo_areNamed_43 (st' := ([.int (nI 0)], [some (.ref 119), some (.int (nI k)), some (.int (nI (2 + 3 * k))), some (.int (nI 0))], M)) (φ := True) rfl trivial ?_
          refine sW_if_eq 84 d_Mo_areNamed_45 (by decide) (fun c_45 => ?_) (fun c_45 => ?_)
          · skip
            simp (disch := omega) only [nI_z] at c_45
            refine sW_go b_Mo_areNamed_84 (st' := ([], [some (.ref 119), some (.int (nI k + nI 1)), some (.int (nI (2 + 3 * k))), some (.int (nI 0))], M)) (φ := True) rfl trivial ?_
            refine sW_eq (st' := ([], [some (.ref 119), some (.int (nI (k + 1))), some (.int (nI (2 + 3 * k))), some (.int (nI 0))], M)) (by simp (disch := omega) only [nI_add]) ?_
            refine sW_goto 2 d_Mo_areNamed_87 (by decide) ?_
            first | exact ⟨by rw [tf_f (fun q => by have := q k hkn (by omega); omega)], rfl⟩ | (refine sW_fg [false, false, true, true] ?_; exact ih (k + 1) (by omega) (by omega) (nx (by omega)))
          · skip
            exact absurd (by decide +kernel) c_45
        · skip
          simp (disch := omega) only [nI_eq] at c_35
          refine sW_go b_Mo_areNamed_38 (st' := ([.int (nI 1)], [some (.ref 119), some (.int (nI k)), some (.int (nI (2 + 3 * k))), none], M)) (φ := True) rfl trivial ?_
          refine sW_goto 43 d_Mo_areNamed_39 (by decide) ?_
          refine sW_go b_Mo_areNamed_43 (st' := ([.int (nI 1)], [some (.ref 119), some (.int (nI k)), some (.int (nI (2 + 3 * k))), some (.int (nI 1))], M)) (φ := True) rfl trivial ?_
          refine sW_if_eq 84 d_Mo_areNamed_45 (by decide) (fun c_45 => ?_) (fun c_45 => ?_)
          · skip
            exact absurd c_45 (by decide +kernel)
          · skip
            simp (disch := omega) only [nI_z] at c_45
            refine sW_go b_Mo_areNamed_48 (st' := ([.int (M 124 (nI 0).toNatClampNeg), .int (M 124 (nI (2 + 3 * k) + nI 1).toNatClampNeg)], [some (.ref 119), some (.int (nI k)), some (.int (nI (2 + 3 * k))), some (.int (nI 1))], M)) (φ := mx_ocl LAY 119 = 10 ∧ vp_in (nI (2 + 3 * k) + nI 1) (mx_len LAY false 124) ∧ mx_ocl LAY 119 = 10 ∧ vp_in (nI 0) (mx_len LAY false 124) ∧ True) rfl ⟨oc_119, (by simp (disch := omega) only [nI_add, ln_124]; exact vp_in_nI (by omega) (by decide)), oc_119, (by simp (disch := omega) only [ln_124]; exact vp_in_nI (by omega) (by decide)), trivial⟩ ?_
            refine sW_eq (st' := ([.int (nI hs.1), .int (nI (Af hs k))], [some (.ref 119), some (.int (nI k)), some (.int (nI (2 + 3 * k))), some (.int (nI 1))], M)) (by simp (disch := omega) only [e0, nI_add, nI_clamp, q2]) ?_
            refine sW_ic_ge 82 d_Mo_areNamed_62 (by decide) (fun c_62 => ?_) (fun c_62 => ?_)
            · skip
              simp (disch := omega) only [nI_leI] at c_62
              refine sW_go b_Mo_areNamed_82 (st' := ([.int (nI 0)], [some (.ref 119), some (.int (nI k)), some (.int (nI (2 + 3 * k))), some (.int (nI 1))], M)) (φ := True) rfl trivial ?_
              refine sW_retI d_Mo_areNamed_83 rfl nb_0 ?_
              first | exact ⟨by rw [tf_f (fun q => by have := q k hkn (by omega); omega)], rfl⟩ | (refine sW_fg [false, false, true, true] ?_; exact ih (k + 1) (by omega) (by omega) (nx (by omega)))
            · skip
              simp (disch := omega) only [nI_leI] at c_62
              refine sW_go b_Mo_areNamed_65 (st' := ([.int (M 124 (nI 0).toNatClampNeg), .int (M 124 (nI (2 + 3 * k) + nI 2).toNatClampNeg)], [some (.ref 119), some (.int (nI k)), some (.int (nI (2 + 3 * k))), some (.int (nI 1))], M)) (φ := mx_ocl LAY 119 = 10 ∧ vp_in (nI (2 + 3 * k) + nI 2) (mx_len LAY false 124) ∧ mx_ocl LAY 119 = 10 ∧ vp_in (nI 0) (mx_len LAY false 124) ∧ True) rfl ⟨oc_119, (by simp (disch := omega) only [nI_add, ln_124]; exact vp_in_nI (by omega) (by decide)), oc_119, (by simp (disch := omega) only [ln_124]; exact vp_in_nI (by omega) (by decide)), trivial⟩ ?_
              refine sW_eq (st' := ([.int (nI hs.1), .int (nI (Bf hs k))], [some (.ref 119), some (.int (nI k)), some (.int (nI (2 + 3 * k))), some (.int (nI 1))], M)) (by simp (disch := omega) only [e0, nI_add, nI_clamp, q3]) ?_
              refine sW_ic_lt 84 d_Mo_areNamed_79 (by decide) (fun c_79 => ?_) (fun c_79 => ?_)
              · skip
                simp (disch := omega) only [nI_ltI] at c_79
                refine sW_go b_Mo_areNamed_84 (st' := ([], [some (.ref 119), some (.int (nI k + nI 1)), some (.int (nI (2 + 3 * k))), some (.int (nI 1))], M)) (φ := True) rfl trivial ?_
                refine sW_eq (st' := ([], [some (.ref 119), some (.int (nI (k + 1))), some (.int (nI (2 + 3 * k))), some (.int (nI 1))], M)) (by simp (disch := omega) only [nI_add]) ?_
                refine sW_goto 2 d_Mo_areNamed_87 (by decide) ?_
                first | exact ⟨by rw [tf_f (fun q => by have := q k hkn (by omega); omega)], rfl⟩ | (refine sW_fg [false, false, true, true] ?_; exact ih (k + 1) (by omega) (by omega) (nx (by omega)))
              · skip
                simp (disch := omega) only [nI_ltI] at c_79
                refine sW_go b_Mo_areNamed_82 (st' := ([.int (nI 0)], [some (.ref 119), some (.int (nI k)), some (.int (nI (2 + 3 * k))), some (.int (nI 1))], M)) (φ := True) rfl trivial ?_
                refine sW_retI d_Mo_areNamed_83 rfl nb_0 ?_
                first | exact ⟨by rw [tf_f (fun q => by have := q k hkn (by omega); omega)], rfl⟩ | (refine sW_fg [false, false, true, true] ?_; exact ih (k + 1) (by omega) (by omega) (nx (by omega)))
  · skip
    refine sW_go b_Mo_areNamed_2 (st' := ([.int (M 124 (nI 0).toNatClampNeg), .int (nI k)], [some (.ref 119), some (.int (nI k)), none, none], M)) (φ := mx_ocl LAY 119 = 10 ∧ vp_in (nI 0) (mx_len LAY false 124) ∧ True) rfl ⟨oc_119, (by simp (disch := omega) only [ln_124]; exact vp_in_nI (by omega) (by decide)), trivial⟩ ?_
    refine sW_eq (st' := ([.int (nI hs.1), .int (nI k)], [some (.ref 119), some (.int (nI k)), none, none], M)) (by simp (disch := omega) only [e0, nI_clamp]) ?_
    refine sW_ic_ge 90 d_Mo_areNamed_9 (by decide) (fun c_9 => ?_) (fun c_9 => ?_)
    · skip
      simp (disch := omega) only [nI_leI] at c_9
      refine sW_go b_Mo_areNamed_90 (st' := ([.int (nI 1)], [some (.ref 119), some (.int (nI k)), none, none], M)) (φ := True) rfl trivial ?_
      refine sW_retI d_Mo_areNamed_91 rfl nb_1 ?_
      exact ⟨by rw [tf_t (fun j hj' => hj j (by omega))], rfl⟩
    · skip
      simp (disch := omega) only [nI_leI] at c_9
      omega
theorem k_mbegin (G : mx_G) {M : mx_M} {B : Nat → Nat} {n f : Nat} (h : MTape M (B, n, f)) : sOk G m_Mo_begin [.ref 119] M (fun r M' => r = none ∧ MFr M M' [] rS ∧ RdS M' B n 0) := by
  obtain ⟨h1, h2, h3, h4⟩ := h
  obtain ⟨M1, e1⟩ : ∃ M1, mx_wr (mx_wr M 119 12 (nI 0)) 119 16 (nI 0) = M1 := ⟨_, rfl⟩
  have f1 : MFr M M1 [] rS := by rw [← e1]; exact (MFr.rf.wo (by decide)).wo (by decide)
  have r1 : MRd M1 B n 0 := ⟨by rw [← e1, rd_n (by decide), rd_n (by decide)]; exact h1, h2, by rw [f1.1 127 (by decide) (by decide)]; exact h3, by rw [← e1, rd_n (by decide), rd_s], Nat.zero_le _⟩
  have z16 : M1 119 16 = nI 0 := by rw [← e1, rd_s]
  refine sOk_of ⟨by decide +kernel, by decide +kernel, Nat.le_of_ble_eq_true rfl⟩ ?_
  show sW G m_Mo_begin 0 ([], [some (.ref 119)], M) _
  refine sW_go b_Mo_begin_0 (st' := ([.ref 119], [some (.ref 119)], mx_wr (mx_wr M 119 12 (nI 0)) 119 16 (nI 0))) (φ := mx_ocl LAY 119 = 10 ∧ mx_ocl LAY 119 = 10 ∧ True) rfl ⟨oc_119, oc_119, trivial⟩ ?_
  refine sW_eq (st' := ([.ref 119], [some (.ref 119)], M1)) (by simp (disch := omega) only [e1]) ?_
  refine sW_callV 10 [] [] d_Mo_begin_11 c_Mo_begin_11 ⟨rfl, rfl, rfl, Nat.le_of_ble_eq_true rfl, rfl, rfl⟩ oc_119 (k_nextToken G r1) ?_
  rintro _ M2 ⟨rfl, f2, r2, t2⟩
  show sW G m_Mo_begin 14 ([], [some (.ref 119)], M2) _
  refine sW_retV d_Mo_begin_14 rfl ?_
  exact ⟨rfl, f1.tr (f2.mono (by decide) (by decide)), r2, t2, (f2.2 16 (by decide)).trans z16, Nat.zero_le _⟩
abbrev rT : List Nat := [11, 12, 13, 14, 15, 16, 17, 18]
theorem pos_nI {k : Nat} (h : 1 ≤ k) (h2 : k < 2 ^ 31) : ¬ nI k ≤ 0 := fun q => by
  rw [Int32.le_iff_toInt_le, nI_toInt h2, Int32.toInt_zero] at q
  omega
theorem k_failedF (G : mx_G) {M : mx_M} {e : Nat × Nat} (h : RdF M e) : sOk G m_Mo_failed [.ref 119] M (fun r M' => r = some (.int (nI 1)) ∧ MFr M M' [] rT ∧ M' 119 11 = nI 0 ∧ M' 119 18 = nI e.1 ∧ M' 119 17 = nI e.2) := by
  have ne := h.ne
  obtain ⟨h1, h2, h3, h4⟩ := id h
  have hp := pos_nI h3 (by omega)
  obtain ⟨M1, e1⟩ : ∃ M1, mx_wr M 119 11 (nI 0) = M1 := ⟨_, rfl⟩
  have a16 : M1 119 16 = nI e.1 := by rw [← e1, rd_n (by decide)]; exact h1
  have a17 : M1 119 17 = nI e.2 := by rw [← e1, rd_n (by decide)]; exact h2
  have w1 : mx_wr M 119 11 (nI 0) 119 16 = nI e.1 := by rw [e1]; exact a16
  have w2 : mx_wr M1 119 18 (nI e.1) 119 16 = nI e.1 := by rw [rd_n (by decide)]; exact a16
  refine sOk_of ⟨by decide +kernel, by decide +kernel, Nat.le_of_ble_eq_true rfl⟩ ?_
  show sW G m_Mo_failed 0 ([], [some (.ref 119)], M) _
  refine sW_go b_Mo_failed_0 (st' := ([.int (M 119 16)], [some (.ref 119)], M)) (φ := mx_ocl LAY 119 = 10 ∧ True) rfl ⟨oc_119, trivial⟩ ?_
  refine sW_if_ne 20 d_Mo_failed_4 (by decide) (fun c_4 => ?_) (fun c_4 => ?_)
  · skip
    refine sW_go b_Mo_failed_20 (st' := ([.int ((mx_wr M 119 11 (nI 0)) 119 16), .ref 119], [some (.ref 119)], mx_wr M 119 11 (nI 0))) (φ := mx_ocl LAY 119 = 10 ∧ mx_ocl LAY 119 = 10 ∧ True) rfl ⟨oc_119, oc_119, trivial⟩ ?_
    refine sW_eq (st' := ([.int (nI e.1), .ref 119], [some (.ref 119)], M1)) (by simp (disch := omega) only [e1, w1, a16]) ?_
    refine sW_if_le 40 d_Mo_failed_30 (by decide) (fun c_30 => ?_) (fun c_30 => ?_)
    · skip
      exact absurd c_30 hp
    · skip
      refine sW_go b_Mo_failed_33 (st' := ([.int (M1 119 16), .ref 119], [some (.ref 119)], M1)) (φ := mx_ocl LAY 119 = 10 ∧ True) rfl ⟨oc_119, trivial⟩ ?_
      refine sW_eq (st' := ([.int (nI e.1), .ref 119], [some (.ref 119)], M1)) (by simp (disch := omega) only [a16]) ?_
      refine sW_goto 44 d_Mo_failed_37 (by decide) ?_
      refine sW_go b_Mo_failed_44 (st' := ([.int ((mx_wr M1 119 18 (nI e.1)) 119 16)], [some (.ref 119)], mx_wr M1 119 18 (nI e.1))) (φ := mx_ocl LAY 119 = 10 ∧ mx_ocl LAY 119 = 10 ∧ True) rfl ⟨oc_119, oc_119, trivial⟩ ?_
      refine sW_eq (st' := ([.int (nI e.1)], [some (.ref 119)], mx_wr M1 119 18 (nI e.1))) (by simp (disch := omega) only [w2]) ?_
      refine sW_if_le 58 d_Mo_failed_51 (by decide) (fun c_51 => ?_) (fun c_51 => ?_)
      · skip
        exact absurd c_51 hp
      · skip
        refine sW_go b_Mo_failed_54 (st' := ([.int (nI 1)], [some (.ref 119)], mx_wr M1 119 18 (nI e.1))) (φ := True) rfl trivial ?_
        refine sW_goto 59 d_Mo_failed_55 (by decide) ?_
        refine sW_retI d_Mo_failed_59 rfl nb_1 ?_
        exact ⟨rfl, by rw [← e1]; exact (MFr.rf.wo (by decide)).wo (by decide), by rw [rd_n (by decide), ← e1, rd_s], rd_s, by rw [rd_n (by decide)]; exact a17⟩
  · skip
    exact absurd c_4 ne
theorem k_failedN (G : mx_G) {M : mx_M} {B : Nat → Nat} {n p : Nat} (h : RdS M B n p) (ht : ¬ tkA B n p = 1002) : sOk G m_Mo_failed [.ref 119] M (fun r M' => r = some (.int (nI 1)) ∧ MFr M M' [] rT ∧ M' 119 11 = nI 0 ∧ M' 119 18 = nI 1 ∧ M' 119 17 = nI p) := by
  have e0 := h.2.2.1
  have k14 := h.2.1.2.1
  have hm4 := mtk_le (tkA B n p)
  have hiv := (mtk_inv B n p).2.1
  refine sOk_of ⟨by decide +kernel, by decide +kernel, Nat.le_of_ble_eq_true rfl⟩ ?_
  show sW G m_Mo_failed 0 ([], [some (.ref 119)], M) _
  refine sW_go b_Mo_failed_0 (st' := ([.int (M 119 16)], [some (.ref 119)], M)) (φ := mx_ocl LAY 119 = 10 ∧ True) rfl ⟨oc_119, trivial⟩ ?_
  refine sW_eq (st' := ([.int (nI 0)], [some (.ref 119)], M)) (by simp (disch := omega) only [e0]) ?_
  refine sW_if_ne 20 d_Mo_failed_4 (by decide) (fun c_4 => ?_) (fun c_4 => ?_)
  · skip
    exact absurd (by decide +kernel) c_4
  · skip
    simp (disch := omega) only [nI_z] at c_4
    refine sW_go b_Mo_failed_7 (st' := ([.int (nI 1), .int (M 119 14)], [some (.ref 119)], M)) (φ := mx_ocl LAY 119 = 10 ∧ True) rfl ⟨oc_119, trivial⟩ ?_
    refine sW_eq (st' := ([.int (nI 1), .int (nI (mtk (tkA B n p)))], [some (.ref 119)], M)) (by simp (disch := omega) only [k14]) ?_
    refine sW_ic_eq 20 d_Mo_failed_12 (by decide) (fun c_12 => ?_) (fun c_12 => ?_)
    · skip
      simp (disch := omega) only [nI_eq] at c_12
      exact absurd (hiv c_12) ht
    · skip
      simp (disch := omega) only [nI_eq] at c_12
      refine sW_go b_Mo_failed_15 (st' := ([.int (nI 1), .ref 119], [some (.ref 119)], M)) (φ := True) rfl trivial ?_
      refine sW_callV 10 [.int (nI 1)] [] d_Mo_failed_17 c_Mo_failed_17 ⟨rfl, rfl, rfl, Nat.le_of_ble_eq_true rfl, rfl, rfl⟩ oc_119 (k_bad0 G h (by decide) (by decide)) ?_
      rintro _ M2 ⟨rfl, f2, t2⟩
      show sW G m_Mo_failed 20 ([], [some (.ref 119)], M2) _
      obtain ⟨h1, h2, h3, h4⟩ := id t2
      have hp : ¬ nI 1 ≤ 0 := pos_nI (by decide) (by decide)
      obtain ⟨M1, e1⟩ : ∃ M1, mx_wr M2 119 11 (nI 0) = M1 := ⟨_, rfl⟩
      have a16 : M1 119 16 = nI 1 := by rw [← e1, rd_n (by decide)]; exact h1
      have a17 : M1 119 17 = nI p := by rw [← e1, rd_n (by decide)]; exact h2
      have w1 : mx_wr M2 119 11 (nI 0) 119 16 = nI 1 := by rw [e1]; exact a16
      have w2 : mx_wr M1 119 18 (nI 1) 119 16 = nI 1 := by rw [rd_n (by decide)]; exact a16
      refine sW_go b_Mo_failed_20 (st' := ([.int ((mx_wr M2 119 11 (nI 0)) 119 16), .ref 119], [some (.ref 119)], mx_wr M2 119 11 (nI 0))) (φ := mx_ocl LAY 119 = 10 ∧ mx_ocl LAY 119 = 10 ∧ True) rfl ⟨oc_119, oc_119, trivial⟩ ?_
      refine sW_eq (st' := ([.int (nI 1), .ref 119], [some (.ref 119)], M1)) (by simp (disch := omega) only [e1, w1, a16]) ?_
      refine sW_if_le 40 d_Mo_failed_30 (by decide) (fun c_30 => ?_) (fun c_30 => ?_)
      · skip
        exact absurd c_30 (by decide +kernel)
      · skip
        refine sW_go b_Mo_failed_33 (st' := ([.int (M1 119 16), .ref 119], [some (.ref 119)], M1)) (φ := mx_ocl LAY 119 = 10 ∧ True) rfl ⟨oc_119, trivial⟩ ?_
        refine sW_eq (st' := ([.int (nI 1), .ref 119], [some (.ref 119)], M1)) (by simp (disch := omega) only [a16]) ?_
        refine sW_goto 44 d_Mo_failed_37 (by decide) ?_
        refine sW_go b_Mo_failed_44 (st' := ([.int ((mx_wr M1 119 18 (nI 1)) 119 16)], [some (.ref 119)], mx_wr M1 119 18 (nI 1))) (φ := mx_ocl LAY 119 = 10 ∧ mx_ocl LAY 119 = 10 ∧ True) rfl ⟨oc_119, oc_119, trivial⟩ ?_
        refine sW_eq (st' := ([.int (nI 1)], [some (.ref 119)], mx_wr M1 119 18 (nI 1))) (by simp (disch := omega) only [w2]) ?_
        refine sW_if_le 58 d_Mo_failed_51 (by decide) (fun c_51 => ?_) (fun c_51 => ?_)
        · skip
          exact absurd c_51 (by decide +kernel)
        · skip
          refine sW_go b_Mo_failed_54 (st' := ([.int (nI 1)], [some (.ref 119)], mx_wr M1 119 18 (nI 1))) (φ := True) rfl trivial ?_
          refine sW_goto 59 d_Mo_failed_55 (by decide) ?_
          refine sW_retI d_Mo_failed_59 rfl nb_1 ?_
          exact ⟨rfl, (f2.mono (by decide) (by decide)).tr (by rw [← e1]; exact (MFr.rf.wo (by decide)).wo (by decide)), by rw [rd_n (by decide), ← e1, rd_s], rd_s, by rw [rd_n (by decide)]; exact a17⟩
theorem k_failedE (G : mx_G) {M : mx_M} {B : Nat → Nat} {n p : Nat} {v : Int32} (h : RdS M B n p) (ht : tkA B n p = 1002) (hv : M 119 18 = v) : sOk G m_Mo_failed [.ref 119] M (fun r M' => r = some (.int (nI 0)) ∧ MFr M M' [] rT ∧ M' 119 11 = nI 0 ∧ M' 119 18 = v) := by
  have e0 := h.2.2.1
  have k14 := h.2.1.2.1
  rw [ht] at k14
  have k14 : M 119 14 = nI 1 := k14
  obtain ⟨M1, e1⟩ : ∃ M1, mx_wr M 119 11 (nI 0) = M1 := ⟨_, rfl⟩
  have a16 : M1 119 16 = nI 0 := by rw [← e1, rd_n (by decide)]; exact e0
  have a18 : M1 119 18 = v := by rw [← e1, rd_n (by decide)]; exact hv
  have w1 : mx_wr M 119 11 (nI 0) 119 16 = nI 0 := by rw [e1]; exact a16
  have w2 : mx_wr M1 119 18 v 119 16 = nI 0 := by rw [rd_n (by decide)]; exact a16
  refine sOk_of ⟨by decide +kernel, by decide +kernel, Nat.le_of_ble_eq_true rfl⟩ ?_
  show sW G m_Mo_failed 0 ([], [some (.ref 119)], M) _
  refine sW_go b_Mo_failed_0 (st' := ([.int (M 119 16)], [some (.ref 119)], M)) (φ := mx_ocl LAY 119 = 10 ∧ True) rfl ⟨oc_119, trivial⟩ ?_
  refine sW_eq (st' := ([.int (nI 0)], [some (.ref 119)], M)) (by simp (disch := omega) only [e0]) ?_
  refine sW_if_ne 20 d_Mo_failed_4 (by decide) (fun c_4 => ?_) (fun c_4 => ?_)
  · skip
    exact absurd (by decide +kernel) c_4
  · skip
    simp (disch := omega) only [nI_z] at c_4
    refine sW_go b_Mo_failed_7 (st' := ([.int (nI 1), .int (M 119 14)], [some (.ref 119)], M)) (φ := mx_ocl LAY 119 = 10 ∧ True) rfl ⟨oc_119, trivial⟩ ?_
    refine sW_eq (st' := ([.int (nI 1), .int (nI 1)], [some (.ref 119)], M)) (by simp (disch := omega) only [k14]) ?_
    refine sW_ic_eq 20 d_Mo_failed_12 (by decide) (fun c_12 => ?_) (fun c_12 => ?_)
    · skip
      simp (disch := omega) only [nI_eq] at c_12
      refine sW_go b_Mo_failed_20 (st' := ([.int ((mx_wr M 119 11 (nI 0)) 119 16), .ref 119], [some (.ref 119)], mx_wr M 119 11 (nI 0))) (φ := mx_ocl LAY 119 = 10 ∧ mx_ocl LAY 119 = 10 ∧ True) rfl ⟨oc_119, oc_119, trivial⟩ ?_
      refine sW_eq (st' := ([.int (nI 0), .ref 119], [some (.ref 119)], M1)) (by simp (disch := omega) only [e1, w1, a16]) ?_
      refine sW_if_le 40 d_Mo_failed_30 (by decide) (fun c_30 => ?_) (fun c_30 => ?_)
      · skip
        refine sW_go b_Mo_failed_40 (st' := ([.int (M1 119 18), .ref 119], [some (.ref 119)], M1)) (φ := mx_ocl LAY 119 = 10 ∧ True) rfl ⟨oc_119, trivial⟩ ?_
        refine sW_eq (st' := ([.int v, .ref 119], [some (.ref 119)], M1)) (by simp (disch := omega) only [a18]) ?_
        refine sW_go b_Mo_failed_44 (st' := ([.int ((mx_wr M1 119 18 v) 119 16)], [some (.ref 119)], mx_wr M1 119 18 v)) (φ := mx_ocl LAY 119 = 10 ∧ mx_ocl LAY 119 = 10 ∧ True) rfl ⟨oc_119, oc_119, trivial⟩ ?_
        refine sW_eq (st' := ([.int (nI 0)], [some (.ref 119)], mx_wr M1 119 18 v)) (by simp (disch := omega) only [w2]) ?_
        refine sW_if_le 58 d_Mo_failed_51 (by decide) (fun c_51 => ?_) (fun c_51 => ?_)
        · skip
          refine sW_go b_Mo_failed_58 (st' := ([.int (nI 0)], [some (.ref 119)], mx_wr M1 119 18 v)) (φ := True) rfl trivial ?_
          refine sW_retI d_Mo_failed_59 rfl nb_0 ?_
          exact ⟨rfl, by rw [← e1]; exact (MFr.rf.wo (by decide)).wo (by decide), by rw [rd_n (by decide), ← e1, rd_s], rd_s⟩
        · skip
          exact absurd (by decide +kernel) c_51
      · skip
        exact absurd (by decide +kernel) c_30
    · skip
      exact absurd (by decide +kernel) c_12
noncomputable def hsR (σ : Sg) (x : Except (Nat × Nat) Hs) : Int32 × Sg := match x with
  | .error e => ((-1000100) - nI e.2, wTp σ (gB σ, 0, e.1))
  | .ok hs => (nI hs.1, wH (wTp σ (gB σ, 0, gf σ)) (hs, []))
theorem k_h118 (G : mx_G) {M M0 M3 : mx_M} {σ : Sg} {e : Nat × Nat} (h0 : MInv M0 σ) (f0 : Fr M M0 119 139) (f3 : MFr M0 M3 [124] rT) (a11 : M3 119 11 = nI 0) (a18 : M3 119 18 = nI e.1) (a17 : M3 119 17 = nI e.2) : sW G m_Mo_house 118 ([], [some (.ref 119), some (.int (nI 26))], M3) (MOk M (hsR σ (.error e))) := by
  refine sW_go b_Mo_house_118 (st' := ([.int ((-1000100) - M3 119 17)], [some (.ref 119), some (.int (nI 26))], M3)) (φ := mx_ocl LAY 119 = 10 ∧ True) rfl ⟨oc_119, trivial⟩ ?_
  refine sW_eq (st' := ([.int ((-1000100) - nI e.2)], [some (.ref 119), some (.int (nI 26))], M3)) (by simp (disch := omega) only [a17]) ?_
  refine sW_retI d_Mo_house_125 rfl (vp_nar_int _) ?_
  exact ⟨rfl, f0.tr (f3.fr (by decide)), h0.tape (f3.mono (by decide) (by decide)) ⟨a11, Nat.zero_le _, fun i hi => absurd hi (Nat.not_lt_zero i), a18⟩⟩
theorem k_h111F (G : mx_G) {M M0 M2 : mx_M} {σ : Sg} {e : Nat × Nat} (h0 : MInv M0 σ) (f0 : Fr M M0 119 139) (f2 : MFr M0 M2 [124] rS) (h : RdF M2 e) : sW G m_Mo_house 111 ([], [some (.ref 119), some (.int (nI 26))], M2) (MOk M (hsR σ (.error e))) := by
  refine sW_go b_Mo_house_111 (st' := ([.ref 119], [some (.ref 119), some (.int (nI 26))], M2)) (φ := True) rfl trivial ?_
  refine sW_callV 10 [] [] d_Mo_house_112 c_Mo_house_112 ⟨rfl, rfl, rfl, Nat.le_of_ble_eq_true rfl, rfl, rfl⟩ oc_119 (k_failedF G h) ?_
  rintro _ M3 ⟨rfl, f3, a1, a2, a3⟩
  show sW G m_Mo_house 115 ([.int (nI 1)], [some (.ref 119), some (.int (nI 26))], M3) _
  refine sW_if_eq 126 d_Mo_house_115 (by decide) (fun c_115 => ?_) (fun c_115 => ?_)
  · skip
    exact absurd c_115 (by decide +kernel)
  · skip
    simp (disch := omega) only [nI_z] at c_115
    exact k_h118 G h0 f0 ((f2.mono (by decide) (by decide)).tr (f3.mono (by decide) (by decide))) a1 a2 a3
theorem k_h111N (G : mx_G) {M M0 M2 : mx_M} {σ : Sg} {B : Nat → Nat} {n p : Nat} (h0 : MInv M0 σ) (f0 : Fr M M0 119 139) (f2 : MFr M0 M2 [124] rS) (h : RdS M2 B n p) (ht : ¬ tkA B n p = 1002) : sW G m_Mo_house 111 ([], [some (.ref 119), some (.int (nI 26))], M2) (MOk M (hsR σ (.error (1, p)))) := by
  refine sW_go b_Mo_house_111 (st' := ([.ref 119], [some (.ref 119), some (.int (nI 26))], M2)) (φ := True) rfl trivial ?_
  refine sW_callV 10 [] [] d_Mo_house_112 c_Mo_house_112 ⟨rfl, rfl, rfl, Nat.le_of_ble_eq_true rfl, rfl, rfl⟩ oc_119 (k_failedN G h ht) ?_
  rintro _ M3 ⟨rfl, f3, a1, a2, a3⟩
  show sW G m_Mo_house 115 ([.int (nI 1)], [some (.ref 119), some (.int (nI 26))], M3) _
  refine sW_if_eq 126 d_Mo_house_115 (by decide) (fun c_115 => ?_) (fun c_115 => ?_)
  · skip
    exact absurd c_115 (by decide +kernel)
  · skip
    simp (disch := omega) only [nI_z] at c_115
    exact k_h118 G h0 f0 ((f2.mono (by decide) (by decide)).tr (f3.mono (by decide) (by decide))) a1 a2 a3
theorem k_h111E (G : mx_G) {M M0 M2 : mx_M} {σ : Sg} {B : Nat → Nat} {n p : Nat} {hs : Hs} (h0 : MInv M0 σ) (f0 : Fr M M0 119 139) (f2 : MFr M0 M2 [124] rS) (h : RdS M2 B n p) (ht : tkA B n p = 1002) (hR : RowAt M2 124 0 hs) : sW G m_Mo_house 111 ([], [some (.ref 119), some (.int (nI 26))], M2) (MOk M (hsR σ (.ok hs))) := by
  have h18 : M2 119 18 = nI (gf σ) := (f2.2 18 (by decide)).trans h0.2.1.2.2.2
  refine sW_go b_Mo_house_111 (st' := ([.ref 119], [some (.ref 119), some (.int (nI 26))], M2)) (φ := True) rfl trivial ?_
  refine sW_callV 10 [] [] d_Mo_house_112 c_Mo_house_112 ⟨rfl, rfl, rfl, Nat.le_of_ble_eq_true rfl, rfl, rfl⟩ oc_119 (k_failedE G h ht h18) ?_
  rintro _ M3 ⟨rfl, f3, a1, a2⟩
  show sW G m_Mo_house 115 ([.int (nI 0)], [some (.ref 119), some (.int (nI 26))], M3) _
  refine sW_if_eq 126 d_Mo_house_115 (by decide) (fun c_115 => ?_) (fun c_115 => ?_)
  · skip
    simp (disch := omega) only [nI_z] at c_115
    refine sW_go b_Mo_house_126 (st' := ([], [some (.ref 119), some (.int (nI 0))], mx_wr M3 119 9 (nI 0))) (φ := mx_ocl LAY 119 = 10 ∧ True) rfl ⟨oc_119, trivial⟩ ?_
    have f03 : MFr M0 M3 [127, 124] [0, 11, 12, 13, 14, 15, 16, 17, 18] := (f2.mono (by decide) (by decide)).tr (f3.mono (by decide) (by decide))
    have h3 : MInv M3 (wTp σ (gB σ, 0, gf σ)) := h0.tape f03 ⟨a1, Nat.zero_le _, fun i hi => absurd hi (Nat.not_lt_zero i), a2⟩
    have hR3 : RowAt M3 124 0 hs := hR.eq (f3.1 _ (by decide) (by decide))
    obtain ⟨M4, e4⟩ : ∃ M4, M4 = (mx_wr M3 119 9 (nI 0)) := ⟨_, rfl⟩
    rw [← e4]
    have f4 : MFr M3 M4 [123, 126] [0, 9] := by rw [e4]; exact MFr.rf.wo (by decide)
    have h9 : M4 119 9 = nI 0 := by rw [e4, rd_s]
    have hR4 : RowAt M4 124 0 hs := hR3.eq (f4.1 _ (by decide) (by decide))
    refine mx_ind (α := Nat × mx_M) (fun q => 26 - q.1) (fun q => q.1 ≤ 26 → CpI M4 q.2 124 0 123 0 q.1 → sW G m_Mo_house 133 ([], [some (.ref 119), some (.int (nI q.1))], q.2) _) ?_ (0, M4) (Nat.zero_le _) CpI.z
    rintro ⟨q, M5⟩ ih hq i1
    dsimp only at ih hq i1 ⊢
    by_cases hqn : q < 26
    · have er : M5 124 q = M4 124 q := by rw [i1.1 124 (by decide)]
      have i2 := i1.s hqn
      rw [Nat.zero_add] at i2
      refine sW_go b_Mo_house_133 (st' := ([.int (nI 26), .int (nI q)], [some (.ref 119), some (.int (nI q))], M5)) (φ := True) rfl trivial ?_
      refine sW_ic_ge 157 d_Mo_house_136 (by decide) (fun c_136 => ?_) (fun c_136 => ?_)
      · skip
        simp (disch := omega) only [nI_leI] at c_136
        omega
      · skip
        simp (disch := omega) only [nI_leI] at c_136
        refine sW_go b_Mo_house_139 (st' := ([], [some (.ref 119), some (.int (nI q + nI 1))], mx_wr M5 123 (nI q).toNatClampNeg (M5 124 (nI q).toNatClampNeg))) (φ := mx_ocl LAY 119 = 10 ∧ mx_ocl LAY 119 = 10 ∧ vp_in (nI q) (mx_len LAY false 124) ∧ vp_in (nI q) (mx_len LAY false 123) ∧ True) rfl ⟨oc_119, oc_119, (by simp (disch := omega) only [ln_124]; exact vp_in_nI (by omega) (by decide)), (by simp (disch := omega) only [ln_123]; exact vp_in_nI (by omega) (by decide)), trivial⟩ ?_
        refine sW_eq (st' := ([], [some (.ref 119), some (.int (nI (q + 1)))], mx_wr M5 123 q (M4 124 q))) (by simp (disch := omega) only [er, nI_add, nI_clamp]) ?_
        refine sW_goto 133 d_Mo_house_154 (by decide) ?_
        exact ih (q + 1, (mx_wr M5 123 q (M4 124 q))) (by dsimp only; omega) (by dsimp only; omega) i2
    · obtain rfl : q = 26 := by omega
      have hR5 : RowAt M5 123 0 hs := i1.row hR4
      have e5 := hR5.n
      refine sW_go b_Mo_house_133 (st' := ([.int (nI 26), .int (nI 26)], [some (.ref 119), some (.int (nI 26))], M5)) (φ := True) rfl trivial ?_
      refine sW_ic_ge 157 d_Mo_house_136 (by decide) (fun c_136 => ?_) (fun c_136 => ?_)
      · skip
        simp (disch := omega) only [nI_leI] at c_136
        refine sW_go b_Mo_house_157 (st' := ([.int (M5 123 (nI 0).toNatClampNeg)], [some (.ref 119), some (.int (nI 26))], M5)) (φ := mx_ocl LAY 119 = 10 ∧ vp_in (nI 0) (mx_len LAY false 123) ∧ True) rfl ⟨oc_119, (by simp (disch := omega) only [ln_123]; exact vp_in_nI (by omega) (by decide)), trivial⟩ ?_
        refine sW_eq (st' := ([.int (nI hs.1)], [some (.ref 119), some (.int (nI 26))], M5)) (by simp (disch := omega) only [e5, nI_clamp]) ?_
        refine sW_retI d_Mo_house_163 rfl (vp_nar_int _) ?_
        have f5 : MFr M3 M5 [123, 126] [0, 9] := f4.tr (i1.fr (by decide) (by decide))
        refine ⟨rfl, f0.tr ((f03.fr (by decide)).tr (f5.fr (by decide))), h3.house f5 ⟨hR5, ?_, Nat.zero_le _, fun i hi => absurd hi (Nat.not_lt_zero i)⟩⟩
        rw [i1.1 119 (by decide)]
        exact h9
      · skip
        exact absurd (by decide +kernel) c_136
  · skip
    exact absurd (by decide +kernel) c_115
theorem k_h70F (G : mx_G) {M M0 M2 : mx_M} {σ : Sg} {e : Nat × Nat} (h0 : MInv M0 σ) (f0 : Fr M M0 119 139) (f2 : MFr M0 M2 [124] rS) (h : RdF M2 e) : sW G m_Mo_house 70 ([], [some (.ref 119), some (.int (nI 26))], M2) (MOk M (hsR σ (.error e))) := by
  have ne := h.ne
  refine sW_go b_Mo_house_70 (st' := ([.ref 119], [some (.ref 119), some (.int (nI 26))], M2)) (φ := True) rfl trivial ?_
  refine sW_callV 10 [] [] d_Mo_house_71 c_Mo_house_71 ⟨rfl, rfl, rfl, Nat.le_of_ble_eq_true rfl, rfl, rfl⟩ oc_119 (k_isSortF G h) ?_
  rintro _ M₁ ⟨rfl, h₁⟩
  rw [h₁]
  show sW G m_Mo_house 74 ([.int (nI 0)], [some (.ref 119), some (.int (nI 26))], M2) _
  refine sW_if_eq 84 d_Mo_house_74 (by decide) (fun c_74 => ?_) (fun c_74 => ?_)
  · skip
    simp (disch := omega) only [nI_z] at c_74
    refine sW_go b_Mo_house_84 (st' := ([.int (M2 119 16)], [some (.ref 119), some (.int (nI 26))], M2)) (φ := mx_ocl LAY 119 = 10 ∧ True) rfl ⟨oc_119, trivial⟩ ?_
    refine sW_if_ne 111 d_Mo_house_88 (by decide) (fun c_88 => ?_) (fun c_88 => ?_)
    · skip
      exact k_h111F G h0 f0 f2 h
    · skip
      exact absurd c_88 ne
  · skip
    exact absurd (by decide +kernel) c_74

