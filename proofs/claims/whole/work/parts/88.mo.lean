/-! ===== the model: what is asked ===== -/
theorem mo_feed (G : mx_G) {M : mx_M} {σ : Sg} (h : MInv M σ) (b : Int32) : sOk G m_Mo_feed [.ref 119, .int b] M (MOk M (sp_feed σ b)) := by
  obtain ⟨M0, e0, h0, f0, g0⟩ := h.th
  obtain ⟨t1, t2, t3, t4⟩ := h0.2.1
  have t1 : M0 119 11 = nI (gn σ) := t1
  have t2 : gn σ ≤ 80 := t2
  by_cases hb : vp_in b 256
  · obtain ⟨x, hx, rfl⟩ := vp_in_of hb (by decide)
    have q1 : mx_wr M0 127 (gn σ) (nI x) 119 11 = nI (gn σ) := by rw [mx_wr_n _ _ _ (by decide)]; exact t1
    have q2 : mx_wr (mx_wr M0 127 (gn σ) (nI x)) 119 11 (nI (gn σ + 1)) 119 11 = nI (gn σ + 1) := by rw [mx_wr_s, pk_us]
    refine sOk_of ⟨by decide +kernel, by decide +kernel, Nat.le_of_ble_eq_true rfl⟩ ?_
    show sW G m_Mo_feed 0 ([], [some (.ref 119), some (.int (nI x))], M) _
    refine sW_go b_Mo_feed_0 (st' := ([.long (lN 255), .long (lN 0), .long (nI x).toInt64], [some (.ref 119), some (.int (nI x))], mx_wr M 119 0 (nI 0))) (φ := mx_ocl LAY 119 = 10 ∧ True) rfl ⟨oc_119, trivial⟩ ?_
    refine sW_eq (st' := ([.long (lN 255), .long (lN 0), .long (nI x).toInt64], [some (.ref 119), some (.int (nI x))], M0)) (by simp (disch := omega) only [e0]) ?_
    refine sW_callS [.long (nI x).toInt64, .long (lN 0), .long (lN 255)] [] d_Mo_feed_11 c_Mo_feed_11 ⟨rfl, rfl, Nat.le_of_ble_eq_true rfl, rfl, rfl⟩ (k_in0 G (nI x) 255 (by decide)) ?_
    rintro _ M₁ ⟨rfl, h₁⟩
    rw [h₁]
    show sW G m_Mo_feed 14 ([.int (tf (vp_in (nI x) 256))], [some (.ref 119), some (.int (nI x))], M0) _
    refine sW_if_ne 20 d_Mo_feed_14 (by decide) (fun c_14 => ?_) (fun c_14 => ?_)
    · skip
      replace c_14 := tf_nz.mp c_14
      refine sW_go b_Mo_feed_20 (st' := ([.int (nI 80), .int (M0 119 11)], [some (.ref 119), some (.int (nI x))], M0)) (φ := mx_ocl LAY 119 = 10 ∧ True) rfl ⟨oc_119, trivial⟩ ?_
      refine sW_eq (st' := ([.int (nI 80), .int (nI (gn σ))], [some (.ref 119), some (.int (nI x))], M0)) (by simp (disch := omega) only [t1]) ?_
      refine sW_ic_ne 32 d_Mo_feed_26 (by decide) (fun c_26 => ?_) (fun c_26 => ?_)
      · skip
        simp (disch := omega) only [nI_eq] at c_26
        have hn : gn σ < 80 := by omega
        have e : sp_feed σ (nI x) = (nI (gn σ + 1), wTp σ (updN (gB σ) (gn σ) x, gn σ + 1, gf σ)) := by unfold sp_feed; rw [cif_t hb, if_pos hn, show tn (nI x) = x from nI_clamp (by omega)]
        rw [e]
        refine sW_go b_Mo_feed_32 (st' := ([.int ((mx_wr (mx_wr M0 127 (M0 119 11).toNatClampNeg (nI x)) 119 11 ((mx_wr M0 127 (M0 119 11).toNatClampNeg (nI x)) 119 11 + nI 1)) 119 11)], [some (.ref 119), some (.int (nI x))], mx_wr (mx_wr M0 127 (M0 119 11).toNatClampNeg (nI x)) 119 11 ((mx_wr M0 127 (M0 119 11).toNatClampNeg (nI x)) 119 11 + nI 1))) (φ := mx_ocl LAY 119 = 10 ∧ mx_ocl LAY 119 = 10 ∧ vp_in (M0 119 11) (mx_len LAY false 127) ∧ mx_ocl LAY 119 = 10 ∧ mx_ocl LAY 119 = 10 ∧ mx_ocl LAY 119 = 10 ∧ True) rfl ⟨oc_119, oc_119, (by simp (disch := omega) only [t1, ln_127]; exact vp_in_nI (by omega) (by decide)), oc_119, oc_119, oc_119, trivial⟩ ?_
        refine sW_eq (st' := ([.int (nI (gn σ + 1))], [some (.ref 119), some (.int (nI x))], mx_wr (mx_wr M0 127 (gn σ) (nI x)) 119 11 (nI (gn σ + 1)))) (by simp (disch := omega) only [nI_add, nI_clamp, q1, q2, t1]) ?_
        refine sW_retI d_Mo_feed_56 rfl (vp_nar_int _) ?_
        have fa : MFr M0 (mx_wr (mx_wr M0 127 (gn σ) (nI x)) 119 11 (nI (gn σ + 1))) [127, 124] [0, 11, 12, 13, 14, 15, 16, 17, 18] := (MFr.rf.wr (by decide) (by decide)).wo (by decide)
        refine ⟨rfl, f0.tr (fa.fr (by decide)), h0.tape fa ⟨q2, by show gn σ + 1 ≤ 80; omega, fun i hi => ?_, by rw [mx_wr_s, pk_un (by decide), mx_wr_n _ _ _ (by decide)]; exact t4⟩⟩
        have hi : i < gn σ + 1 := hi
        show _ = nI (updN (gB σ) (gn σ) x i) ∧ updN (gB σ) (gn σ) x i < 256
        rw [mx_wr_n _ _ _ (by decide), mx_wr_s]
        by_cases hq : i = gn σ
        · rw [hq, pk_us, updN_s]; exact ⟨rfl, hx⟩
        · rw [pk_un hq, updN_n _ _ hq]; exact t3 i (by show i < gn σ; omega)
      · skip
        simp (disch := omega) only [nI_eq] at c_26
        refine sW_go b_Mo_feed_29 (st' := ([.int (-1000003)], [some (.ref 119), some (.int (nI x))], M0)) (φ := True) rfl trivial ?_
        refine sW_retI d_Mo_feed_31 rfl (vp_nar_int _) ?_
        have e : sp_feed σ (nI x) = ((-1000003), σ) := by unfold sp_feed; rw [cif_t hb, if_neg (by omega)]
        rw [e]
        exact ⟨rfl, f0, h0⟩
    · skip
      replace c_14 := tf_z.mp c_14
      refine sW_go b_Mo_feed_17 (st' := ([.int (-1000001)], [some (.ref 119), some (.int (nI x))], M0)) (φ := True) rfl trivial ?_
      refine sW_retI d_Mo_feed_19 rfl (vp_nar_int _) ?_
      exact absurd hb c_14
  · have e : sp_feed σ b = ((-1000001), σ) := by unfold sp_feed; rw [cif_f hb]
    rw [e]
    refine sOk_of ⟨by decide +kernel, by decide +kernel, Nat.le_of_ble_eq_true rfl⟩ ?_
    show sW G m_Mo_feed 0 ([], [some (.ref 119), some (.int b)], M) _
    refine sW_go b_Mo_feed_0 (st' := ([.long (lN 255), .long (lN 0), .long b.toInt64], [some (.ref 119), some (.int b)], mx_wr M 119 0 (nI 0))) (φ := mx_ocl LAY 119 = 10 ∧ True) rfl ⟨oc_119, trivial⟩ ?_
    refine sW_eq (st' := ([.long (lN 255), .long (lN 0), .long b.toInt64], [some (.ref 119), some (.int b)], M0)) (by simp (disch := omega) only [e0]) ?_
    refine sW_callS [.long b.toInt64, .long (lN 0), .long (lN 255)] [] d_Mo_feed_11 c_Mo_feed_11 ⟨rfl, rfl, Nat.le_of_ble_eq_true rfl, rfl, rfl⟩ (k_in0 G b 255 (by decide)) ?_
    rintro _ M₁ ⟨rfl, h₁⟩
    rw [h₁]
    show sW G m_Mo_feed 14 ([.int (tf (vp_in b 256))], [some (.ref 119), some (.int b)], M0) _
    refine sW_if_ne 20 d_Mo_feed_14 (by decide) (fun c_14 => ?_) (fun c_14 => ?_)
    · skip
      replace c_14 := tf_nz.mp c_14
      exact absurd c_14 hb
    · skip
      replace c_14 := tf_z.mp c_14
      refine sW_go b_Mo_feed_17 (st' := ([.int (-1000001)], [some (.ref 119), some (.int b)], M0)) (φ := True) rfl trivial ?_
      refine sW_retI d_Mo_feed_19 rfl (vp_nar_int _) ?_
      exact ⟨rfl, f0, h0⟩
theorem mo_fault (G : mx_G) {M : mx_M} {σ : Sg} (h : MInv M σ) : sOk G m_Mo_fault [.ref 119] M (MOk M (sp_fault σ)) := by
  obtain ⟨M0, e0, h0, f0, g0⟩ := h.th
  have t4 : M0 119 18 = nI (gf σ) := h0.2.1.2.2.2
  have z : mx_wr M 119 0 (nI 0) 119 18 = nI (gf σ) := by rw [e0]; exact t4
  refine sOk_of ⟨by decide +kernel, by decide +kernel, Nat.le_of_ble_eq_true rfl⟩ ?_
  show sW G m_Mo_fault 0 ([], [some (.ref 119)], M) _
  refine sW_go b_Mo_fault_0 (st' := ([.int ((mx_wr M 119 0 (nI 0)) 119 18)], [some (.ref 119)], mx_wr M 119 0 (nI 0))) (φ := mx_ocl LAY 119 = 10 ∧ mx_ocl LAY 119 = 10 ∧ True) rfl ⟨oc_119, oc_119, trivial⟩ ?_
  refine sW_eq (st' := ([.int (nI (gf σ))], [some (.ref 119)], M0)) (by simp (disch := omega) only [e0, z, t4]) ?_
  refine sW_retI d_Mo_fault_9 rfl (vp_nar_int _) ?_
  exact ⟨rfl, f0, h0⟩
theorem mo_status (G : mx_G) {M : mx_M} {σ : Sg} (h : MInv M σ) : sOk G m_Mo_status [.ref 119] M (MOk M (sp_status σ)) := by
  obtain ⟨M0, e0, h0, f0, g0⟩ := h.th
  have t4 : M0 119 1 = nI (gs σ) := h0.2.2.2.2.2.1
  have z : mx_wr M 119 0 (nI 0) 119 1 = nI (gs σ) := by rw [e0]; exact t4
  refine sOk_of ⟨by decide +kernel, by decide +kernel, Nat.le_of_ble_eq_true rfl⟩ ?_
  show sW G m_Mo_status 0 ([], [some (.ref 119)], M) _
  refine sW_go b_Mo_status_0 (st' := ([.int ((mx_wr M 119 0 (nI 0)) 119 1)], [some (.ref 119)], mx_wr M 119 0 (nI 0))) (φ := mx_ocl LAY 119 = 10 ∧ mx_ocl LAY 119 = 10 ∧ True) rfl ⟨oc_119, oc_119, trivial⟩ ?_
  refine sW_eq (st' := ([.int (nI (gs σ))], [some (.ref 119)], M0)) (by simp (disch := omega) only [e0, z, t4]) ?_
  refine sW_retI d_Mo_status_9 rfl (vp_nar_int _) ?_
  exact ⟨rfl, f0, h0⟩
theorem mo_trace (G : mx_G) {M : mx_M} {σ : Sg} (h : MInv M σ) (hg : GOk σ) (i : Int32) : sOk G m_Mo_trace [.ref 119, .int i] M (MOk M (sp_trace σ i)) := by
  obtain ⟨M0, e0, h0, f0, g0⟩ := h.th
  obtain ⟨t1, t2⟩ := h0.2.2.2.2.1
  have hl : (gT σ).length ≤ 16 := hg.2.2.2.2.2.2
  have z : mx_wr M 119 0 (nI 0) 119 31 = nI (gT σ).length := by rw [e0]; exact t1
  by_cases hi : vp_in i (gT σ).length
  · obtain ⟨k, hk, rfl⟩ := vp_in_of hi (by omega)
    have e : sp_trace σ (nI k) = (nI ((gT σ).getD k 0), σ) := by unfold sp_trace; rw [cif_t hi, show tn (nI k) = k from nI_clamp (by omega)]
    rw [e]
    have t3 := t2 k hk
    refine sOk_of ⟨by decide +kernel, by decide +kernel, Nat.le_of_ble_eq_true rfl⟩ ?_
    show sW G m_Mo_trace 0 ([], [some (.ref 119), some (.int (nI k))], M) _
    refine sW_go b_Mo_trace_0 (st' := ([.long ((mx_wr M 119 0 (nI 0)) 119 31 - nI 1).toInt64, .long (lN 0), .long (nI k).toInt64], [some (.ref 119), some (.int (nI k))], mx_wr M 119 0 (nI 0))) (φ := mx_ocl LAY 119 = 10 ∧ mx_ocl LAY 119 = 10 ∧ True) rfl ⟨oc_119, oc_119, trivial⟩ ?_
    refine sW_eq (st' := ([.long (nI (gT σ).length - nI 1).toInt64, .long (lN 0), .long (nI k).toInt64], [some (.ref 119), some (.int (nI k))], M0)) (by simp (disch := omega) only [e0, z, t1]) ?_
    refine sW_callS [.long (nI k).toInt64, .long (lN 0), .long (nI (gT σ).length - nI 1).toInt64] [] d_Mo_trace_15 c_Mo_trace_15 ⟨rfl, rfl, Nat.le_of_ble_eq_true rfl, rfl, rfl⟩ (k_inB G (nI k) (gT σ).length (by omega)) ?_
    rintro _ M₁ ⟨rfl, h₁⟩
    rw [h₁]
    show sW G m_Mo_trace 18 ([.int (tf (vp_in (nI k) (gT σ).length))], [some (.ref 119), some (.int (nI k))], M0) _
    refine sW_if_eq 30 d_Mo_trace_18 (by decide) (fun c_18 => ?_) (fun c_18 => ?_)
    · skip
      replace c_18 := tf_z.mp c_18
      refine sW_go b_Mo_trace_30 (st' := ([.int (-1000000)], [some (.ref 119), some (.int (nI k))], M0)) (φ := True) rfl trivial ?_
      refine sW_retI d_Mo_trace_32 rfl (vp_nar_int _) ?_
      exact absurd hi c_18
    · skip
      replace c_18 := tf_nz.mp c_18
      refine sW_go b_Mo_trace_21 (st' := ([.int (M0 138 (nI k).toNatClampNeg)], [some (.ref 119), some (.int (nI k))], M0)) (φ := mx_ocl LAY 119 = 10 ∧ vp_in (nI k) (mx_len LAY false 138) ∧ True) rfl ⟨oc_119, (by simp (disch := omega) only [ln_138]; exact vp_in_nI (by omega) (by decide)), trivial⟩ ?_
      refine sW_eq (st' := ([.int (nI ((gT σ).getD k 0))], [some (.ref 119), some (.int (nI k))], M0)) (by simp (disch := omega) only [nI_clamp, t3]) ?_
      refine sW_goto 32 d_Mo_trace_27 (by decide) ?_
      refine sW_retI d_Mo_trace_32 rfl (vp_nar_int _) ?_
      exact ⟨rfl, f0, h0⟩
  · have e : sp_trace σ i = ((-1000000), σ) := by unfold sp_trace; rw [cif_f hi]
    rw [e]
    refine sOk_of ⟨by decide +kernel, by decide +kernel, Nat.le_of_ble_eq_true rfl⟩ ?_
    show sW G m_Mo_trace 0 ([], [some (.ref 119), some (.int i)], M) _
    refine sW_go b_Mo_trace_0 (st' := ([.long ((mx_wr M 119 0 (nI 0)) 119 31 - nI 1).toInt64, .long (lN 0), .long i.toInt64], [some (.ref 119), some (.int i)], mx_wr M 119 0 (nI 0))) (φ := mx_ocl LAY 119 = 10 ∧ mx_ocl LAY 119 = 10 ∧ True) rfl ⟨oc_119, oc_119, trivial⟩ ?_
    refine sW_eq (st' := ([.long (nI (gT σ).length - nI 1).toInt64, .long (lN 0), .long i.toInt64], [some (.ref 119), some (.int i)], M0)) (by simp (disch := omega) only [e0, z, t1]) ?_
    refine sW_callS [.long i.toInt64, .long (lN 0), .long (nI (gT σ).length - nI 1).toInt64] [] d_Mo_trace_15 c_Mo_trace_15 ⟨rfl, rfl, Nat.le_of_ble_eq_true rfl, rfl, rfl⟩ (k_inB G i (gT σ).length (by omega)) ?_
    rintro _ M₁ ⟨rfl, h₁⟩
    rw [h₁]
    show sW G m_Mo_trace 18 ([.int (tf (vp_in i (gT σ).length))], [some (.ref 119), some (.int i)], M0) _
    refine sW_if_eq 30 d_Mo_trace_18 (by decide) (fun c_18 => ?_) (fun c_18 => ?_)
    · skip
      replace c_18 := tf_z.mp c_18
      refine sW_go b_Mo_trace_30 (st' := ([.int (-1000000)], [some (.ref 119), some (.int i)], M0)) (φ := True) rfl trivial ?_
      refine sW_retI d_Mo_trace_32 rfl (vp_nar_int _) ?_
      exact ⟨rfl, f0, h0⟩
    · skip
      replace c_18 := tf_nz.mp c_18
      exact absurd c_18 hi
theorem in3 {k : Int32} (h : vp_in k 3) : k = nI 0 ∨ k = nI 1 ∨ k = nI 2 := by
  obtain ⟨j, hj, rfl⟩ := vp_in_of h (by decide)
  rcases (by omega : j = 0 ∨ j = 1 ∨ j = 2) with rfl | rfl | rfl
  · exact Or.inl rfl
  · exact Or.inr (Or.inl rfl)
  · exact Or.inr (Or.inr rfl)
theorem mo_type (G : mx_G) {M : mx_M} {σ : Sg} (h : MInv M σ) (hg : GOk σ) (t w : Int32) : sOk G m_Mo_type [.ref 119, .int t, .int w] M (MOk M (sp_type σ t w)) := by
  obtain ⟨M0, e0, h0, f0, g0⟩ := h.th
  have hR : RowAt M0 123 0 (gH σ) := h0.2.2.1.1
  have h8 := hg.1.1.1
  by_cases hc : vp_in t (gH σ).1 ∧ vp_in w 3
  · obtain ⟨ht, hw⟩ := id hc
    obtain ⟨k, hk, rfl⟩ := vp_in_of ht (by omega)
    have k8 : k < 8 := by omega
    have ct : tn (nI k) = k := nI_clamp (by omega)
    have key : ∃ v : Int32, sp_type σ (nI k) w = (v, σ) ∧ sOk G m_Mo_of [.ref 123, .int (nI k), .int w] M0 (fun r M' => r = some (.int v) ∧ M' = M0) := by
      unfold sp_type
      rw [cif_t ht, ct]
      rcases in3 hw with rfl | rfl | rfl
      · exact ⟨_, by rw [cif_t rfl], k_ofS G ln_123 hR k8⟩
      · exact ⟨_, by rw [cif_f (by decide), cif_t rfl], k_ofA G ln_123 hR k8⟩
      · exact ⟨_, by rw [cif_f (by decide), cif_f (by decide), cif_t rfl], k_ofB G ln_123 hR k8⟩
    obtain ⟨v, e, ko⟩ := key
    rw [e]
    refine sOk_of ⟨by decide +kernel, by decide +kernel, Nat.le_of_ble_eq_true rfl⟩ ?_
    show sW G m_Mo_type 0 ([], [some (.ref 119), some (.int (nI k)), some (.int w)], M) _
    refine sW_go b_Mo_type_0 (st' := ([.int (nI k), .ref 119], [some (.ref 119), some (.int (nI k)), some (.int w)], mx_wr M 119 0 (nI 0))) (φ := mx_ocl LAY 119 = 10 ∧ True) rfl ⟨oc_119, trivial⟩ ?_
    refine sW_eq (st' := ([.int (nI k), .ref 119], [some (.ref 119), some (.int (nI k)), some (.int w)], M0)) (by simp (disch := omega) only [e0]) ?_
    refine sW_callV 10 [.int (nI k)] [] d_Mo_type_7 c_Mo_type_7 ⟨rfl, rfl, rfl, Nat.le_of_ble_eq_true rfl, rfl, rfl⟩ oc_119 (k_isType G hR h8 (nI k)) ?_
    rintro _ M₁ ⟨rfl, h₁⟩
    rw [h₁]
    show sW G m_Mo_type 10 ([.int (tf (vp_in (nI k) (gH σ).1))], [some (.ref 119), some (.int (nI k)), some (.int w)], M0) _
    refine sW_if_eq 37 d_Mo_type_10 (by decide) (fun c_10 => ?_) (fun c_10 => ?_)
    · skip
      replace c_10 := tf_z.mp c_10
      refine sW_go b_Mo_type_37 (st' := ([.int (-1000001)], [some (.ref 119), some (.int (nI k)), some (.int w)], M0)) (φ := True) rfl trivial ?_
      refine sW_retI d_Mo_type_39 rfl (vp_nar_int _) ?_
      exact absurd ht c_10
    · skip
      replace c_10 := tf_nz.mp c_10
      refine sW_go b_Mo_type_13 (st' := ([.long (lN 2), .long (lN 0), .long w.toInt64], [some (.ref 119), some (.int (nI k)), some (.int w)], M0)) (φ := True) rfl trivial ?_
      refine sW_callS [.long w.toInt64, .long (lN 0), .long (lN 2)] [] d_Mo_type_19 c_Mo_type_19 ⟨rfl, rfl, Nat.le_of_ble_eq_true rfl, rfl, rfl⟩ (k_in0 G w 2 (by decide)) ?_
      rintro _ M₁ ⟨rfl, h₁⟩
      rw [h₁]
      show sW G m_Mo_type 22 ([.int (tf (vp_in w 3))], [some (.ref 119), some (.int (nI k)), some (.int w)], M0) _
      refine sW_if_eq 37 d_Mo_type_22 (by decide) (fun c_22 => ?_) (fun c_22 => ?_)
      · skip
        replace c_22 := tf_z.mp c_22
        refine sW_go b_Mo_type_37 (st' := ([.int (-1000001)], [some (.ref 119), some (.int (nI k)), some (.int w)], M0)) (φ := True) rfl trivial ?_
        refine sW_retI d_Mo_type_39 rfl (vp_nar_int _) ?_
        exact absurd hw c_22
      · skip
        replace c_22 := tf_nz.mp c_22
        refine sW_go b_Mo_type_25 (st' := ([.int w, .int (nI k), .ref 123], [some (.ref 119), some (.int (nI k)), some (.int w)], M0)) (φ := mx_ocl LAY 119 = 10 ∧ True) rfl ⟨oc_119, trivial⟩ ?_
        refine sW_callS [.ref 123, .int (nI k), .int w] [] d_Mo_type_31 c_Mo_type_31 ⟨rfl, rfl, Nat.le_of_ble_eq_true rfl, rfl, rfl⟩ (ko) ?_
        rintro _ M₁ ⟨rfl, h₁⟩
        rw [h₁]
        show sW G m_Mo_type 34 ([.int v], [some (.ref 119), some (.int (nI k)), some (.int w)], M0) _
        refine sW_goto 39 d_Mo_type_34 (by decide) ?_
        refine sW_retI d_Mo_type_39 rfl (vp_nar_int _) ?_
        exact ⟨rfl, f0, h0⟩
  · have e : sp_type σ t w = ((-1000001), σ) := by
      unfold sp_type
      by_cases ht : vp_in t (gH σ).1
      · have hw : ¬ vp_in w 3 := fun q => hc ⟨ht, q⟩
        rw [cif_t ht, cif_f (fun q => hw (by rw [q]; exact vp_in_nI (by decide) (by decide))), cif_f (fun q => hw (by rw [q]; exact vp_in_nI (by decide) (by decide))), cif_f (fun q => hw (by rw [q]; exact vp_in_nI (by decide) (by decide)))]
      · rw [cif_f ht]
    rw [e]
    refine sOk_of ⟨by decide +kernel, by decide +kernel, Nat.le_of_ble_eq_true rfl⟩ ?_
    show sW G m_Mo_type 0 ([], [some (.ref 119), some (.int t), some (.int w)], M) _
    refine sW_go b_Mo_type_0 (st' := ([.int t, .ref 119], [some (.ref 119), some (.int t), some (.int w)], mx_wr M 119 0 (nI 0))) (φ := mx_ocl LAY 119 = 10 ∧ True) rfl ⟨oc_119, trivial⟩ ?_
    refine sW_eq (st' := ([.int t, .ref 119], [some (.ref 119), some (.int t), some (.int w)], M0)) (by simp (disch := omega) only [e0]) ?_
    refine sW_callV 10 [.int t] [] d_Mo_type_7 c_Mo_type_7 ⟨rfl, rfl, rfl, Nat.le_of_ble_eq_true rfl, rfl, rfl⟩ oc_119 (k_isType G hR h8 t) ?_
    rintro _ M₁ ⟨rfl, h₁⟩
    rw [h₁]
    show sW G m_Mo_type 10 ([.int (tf (vp_in t (gH σ).1))], [some (.ref 119), some (.int t), some (.int w)], M0) _
    refine sW_if_eq 37 d_Mo_type_10 (by decide) (fun c_10 => ?_) (fun c_10 => ?_)
    · skip
      replace c_10 := tf_z.mp c_10
      refine sW_go b_Mo_type_37 (st' := ([.int (-1000001)], [some (.ref 119), some (.int t), some (.int w)], M0)) (φ := True) rfl trivial ?_
      refine sW_retI d_Mo_type_39 rfl (vp_nar_int _) ?_
      exact ⟨rfl, f0, h0⟩
    · skip
      replace c_10 := tf_nz.mp c_10
      refine sW_go b_Mo_type_13 (st' := ([.long (lN 2), .long (lN 0), .long w.toInt64], [some (.ref 119), some (.int t), some (.int w)], M0)) (φ := True) rfl trivial ?_
      refine sW_callS [.long w.toInt64, .long (lN 0), .long (lN 2)] [] d_Mo_type_19 c_Mo_type_19 ⟨rfl, rfl, Nat.le_of_ble_eq_true rfl, rfl, rfl⟩ (k_in0 G w 2 (by decide)) ?_
      rintro _ M₁ ⟨rfl, h₁⟩
      rw [h₁]
      show sW G m_Mo_type 22 ([.int (tf (vp_in w 3))], [some (.ref 119), some (.int t), some (.int w)], M0) _
      refine sW_if_eq 37 d_Mo_type_22 (by decide) (fun c_22 => ?_) (fun c_22 => ?_)
      · skip
        replace c_22 := tf_z.mp c_22
        refine sW_go b_Mo_type_37 (st' := ([.int (-1000001)], [some (.ref 119), some (.int t), some (.int w)], M0)) (φ := True) rfl trivial ?_
        refine sW_retI d_Mo_type_39 rfl (vp_nar_int _) ?_
        exact ⟨rfl, f0, h0⟩
      · skip
        replace c_22 := tf_nz.mp c_22
        exact absurd ⟨c_10, c_22⟩ hc
theorem mo_kind (G : mx_G) {M : mx_M} {σ : Sg} (h : MInv M σ) (hg : GOk σ) (t : Int32) : sOk G m_Mo_kind [.ref 119, .int t] M (MOk M (sp_kind σ t)) := by
  obtain ⟨M0, e0, h0, f0, g0⟩ := h.th
  have hR : RowAt M0 123 0 (gH σ) := h0.2.2.1.1
  have h8 := hg.1.1.1
  by_cases ht : vp_in t (gH σ).1
  · obtain ⟨k, hk, rfl⟩ := vp_in_of ht (by omega)
    have e : sp_kind σ (nI k) = (nI (kindN (Sf (gH σ) k)), σ) := by unfold sp_kind; rw [cif_t ht, show tn (nI k) = k from nI_clamp (by omega)]
    rw [e]
    refine sOk_of ⟨by decide +kernel, by decide +kernel, Nat.le_of_ble_eq_true rfl⟩ ?_
    show sW G m_Mo_kind 0 ([], [some (.ref 119), some (.int (nI k))], M) _
    refine sW_go b_Mo_kind_0 (st' := ([.int (nI k), .ref 119], [some (.ref 119), some (.int (nI k))], mx_wr M 119 0 (nI 0))) (φ := mx_ocl LAY 119 = 10 ∧ True) rfl ⟨oc_119, trivial⟩ ?_
    refine sW_eq (st' := ([.int (nI k), .ref 119], [some (.ref 119), some (.int (nI k))], M0)) (by simp (disch := omega) only [e0]) ?_
    refine sW_callV 10 [.int (nI k)] [] d_Mo_kind_7 c_Mo_kind_7 ⟨rfl, rfl, rfl, Nat.le_of_ble_eq_true rfl, rfl, rfl⟩ oc_119 (k_isType G hR h8 (nI k)) ?_
    rintro _ M₁ ⟨rfl, h₁⟩
    rw [h₁]
    show sW G m_Mo_kind 10 ([.int (tf (vp_in (nI k) (gH σ).1))], [some (.ref 119), some (.int (nI k))], M0) _
    refine sW_if_eq 21 d_Mo_kind_10 (by decide) (fun c_10 => ?_) (fun c_10 => ?_)
    · skip
      replace c_10 := tf_z.mp c_10
      refine sW_go b_Mo_kind_21 (st' := ([.int (-1000001)], [some (.ref 119), some (.int (nI k))], M0)) (φ := True) rfl trivial ?_
      refine sW_retI d_Mo_kind_23 rfl (vp_nar_int _) ?_
      exact absurd ht c_10
    · skip
      replace c_10 := tf_nz.mp c_10
      refine sW_go b_Mo_kind_13 (st' := ([.int (nI k), .ref 119], [some (.ref 119), some (.int (nI k))], M0)) (φ := True) rfl trivial ?_
      refine sW_callV 10 [.int (nI k)] [] d_Mo_kind_15 c_Mo_kind_15 ⟨rfl, rfl, rfl, Nat.le_of_ble_eq_true rfl, rfl, rfl⟩ oc_119 (k_mkind G hR hg.1 (by omega)) ?_
      rintro _ M₁ ⟨rfl, h₁⟩
      rw [h₁]
      show sW G m_Mo_kind 18 ([.int (nI (kindN (Sf (gH σ) k)))], [some (.ref 119), some (.int (nI k))], M0) _
      refine sW_goto 23 d_Mo_kind_18 (by decide) ?_
      refine sW_retI d_Mo_kind_23 rfl (vp_nar_int _) ?_
      exact ⟨rfl, f0, h0⟩
  · have e : sp_kind σ t = ((-1000001), σ) := by unfold sp_kind; rw [cif_f ht]
    rw [e]
    refine sOk_of ⟨by decide +kernel, by decide +kernel, Nat.le_of_ble_eq_true rfl⟩ ?_
    show sW G m_Mo_kind 0 ([], [some (.ref 119), some (.int t)], M) _
    refine sW_go b_Mo_kind_0 (st' := ([.int t, .ref 119], [some (.ref 119), some (.int t)], mx_wr M 119 0 (nI 0))) (φ := mx_ocl LAY 119 = 10 ∧ True) rfl ⟨oc_119, trivial⟩ ?_
    refine sW_eq (st' := ([.int t, .ref 119], [some (.ref 119), some (.int t)], M0)) (by simp (disch := omega) only [e0]) ?_
    refine sW_callV 10 [.int t] [] d_Mo_kind_7 c_Mo_kind_7 ⟨rfl, rfl, rfl, Nat.le_of_ble_eq_true rfl, rfl, rfl⟩ oc_119 (k_isType G hR h8 t) ?_
    rintro _ M₁ ⟨rfl, h₁⟩
    rw [h₁]
    show sW G m_Mo_kind 10 ([.int (tf (vp_in t (gH σ).1))], [some (.ref 119), some (.int t)], M0) _
    refine sW_if_eq 21 d_Mo_kind_10 (by decide) (fun c_10 => ?_) (fun c_10 => ?_)
    · skip
      replace c_10 := tf_z.mp c_10
      refine sW_go b_Mo_kind_21 (st' := ([.int (-1000001)], [some (.ref 119), some (.int t)], M0)) (φ := True) rfl trivial ?_
      refine sW_retI d_Mo_kind_23 rfl (vp_nar_int _) ?_
      exact ⟨rfl, f0, h0⟩
    · skip
      replace c_10 := tf_nz.mp c_10
      exact absurd c_10 ht
theorem mo_as (G : mx_G) {M : mx_M} {σ : Sg} (h : MInv M σ) (hg : GOk σ) (t w : Int32) : sOk G m_Mo_as [.ref 119, .int t, .int w] M (MOk M (sp_as σ t w)) := by
  obtain ⟨M0, e0, h0, f0, g0⟩ := h.th
  have hR : RowAt M0 123 0 (gH σ) := h0.2.2.1.1
  have h8 := hg.1.1.1
  by_cases hc : vp_in t (gH σ).1 ∧ vp_in w 6
  · obtain ⟨ht, hw⟩ := id hc
    obtain ⟨k, hk, rfl⟩ := vp_in_of ht (by omega)
    obtain ⟨v, hv, rfl⟩ := vp_in_of hw (by decide)
    have ct : tn (nI k) = k := nI_clamp (by omega)
    have cv : tn (nI v) = v := nI_clamp (by omega)
    obtain ⟨M1, e1, h1, f1, s1⟩ := h0.st0
    have hR1 : RowAt M1 123 0 (gH σ) := h1.2.2.1.1
    have h5 := kindN_le (Sf (gH σ) k)
    refine sOk_of ⟨by decide +kernel, by decide +kernel, Nat.le_of_ble_eq_true rfl⟩ ?_
    show sW G m_Mo_as 0 ([], [some (.ref 119), some (.int (nI k)), some (.int (nI v))], M) _
    refine sW_go b_Mo_as_0 (st' := ([.int (nI k), .ref 119], [some (.ref 119), some (.int (nI k)), some (.int (nI v))], mx_wr M 119 0 (nI 0))) (φ := mx_ocl LAY 119 = 10 ∧ True) rfl ⟨oc_119, trivial⟩ ?_
    refine sW_eq (st' := ([.int (nI k), .ref 119], [some (.ref 119), some (.int (nI k)), some (.int (nI v))], M0)) (by simp (disch := omega) only [e0]) ?_
    refine sW_callV 10 [.int (nI k)] [] d_Mo_as_7 c_Mo_as_7 ⟨rfl, rfl, rfl, Nat.le_of_ble_eq_true rfl, rfl, rfl⟩ oc_119 (k_isType G hR h8 (nI k)) ?_
    rintro _ M₁ ⟨rfl, h₁⟩
    rw [h₁]
    show sW G m_Mo_as 10 ([.int (tf (vp_in (nI k) (gH σ).1))], [some (.ref 119), some (.int (nI k)), some (.int (nI v))], M0) _
    refine sW_if_eq 25 d_Mo_as_10 (by decide) (fun c_10 => ?_) (fun c_10 => ?_)
    · skip
      replace c_10 := tf_z.mp c_10
      refine sW_go b_Mo_as_25 (st' := ([.int (-1000001)], [some (.ref 119), some (.int (nI k)), some (.int (nI v))], M0)) (φ := True) rfl trivial ?_
      refine sW_retI d_Mo_as_27 rfl (vp_nar_int _) ?_
      exact absurd ht c_10
    · skip
      replace c_10 := tf_nz.mp c_10
      refine sW_go b_Mo_as_13 (st' := ([.long (lN 5), .long (lN 0), .long (nI v).toInt64], [some (.ref 119), some (.int (nI k)), some (.int (nI v))], M0)) (φ := True) rfl trivial ?_
      refine sW_callS [.long (nI v).toInt64, .long (lN 0), .long (lN 5)] [] d_Mo_as_19 c_Mo_as_19 ⟨rfl, rfl, Nat.le_of_ble_eq_true rfl, rfl, rfl⟩ (k_in0 G (nI v) 5 (by decide)) ?_
      rintro _ M₁ ⟨rfl, h₁⟩
      rw [h₁]
      show sW G m_Mo_as 22 ([.int (tf (vp_in (nI v) 6))], [some (.ref 119), some (.int (nI k)), some (.int (nI v))], M0) _
      refine sW_if_ne 28 d_Mo_as_22 (by decide) (fun c_22 => ?_) (fun c_22 => ?_)
      · skip
        replace c_22 := tf_nz.mp c_22
        refine sW_go b_Mo_as_28 (st' := ([.int (nI k), .ref 119], [some (.ref 119), some (.int (nI k)), some (.int (nI v))], mx_wr M0 119 1 (nI 0))) (φ := mx_ocl LAY 119 = 10 ∧ True) rfl ⟨oc_119, trivial⟩ ?_
        refine sW_eq (st' := ([.int (nI k), .ref 119], [some (.ref 119), some (.int (nI k)), some (.int (nI v))], M1)) (by simp (disch := omega) only [e1]) ?_
        refine sW_callV 10 [.int (nI k)] [] d_Mo_as_35 c_Mo_as_35 ⟨rfl, rfl, rfl, Nat.le_of_ble_eq_true rfl, rfl, rfl⟩ oc_119 (k_mkind G hR1 hg.1 (by omega)) ?_
        rintro _ M₁ ⟨rfl, h₁⟩
        rw [h₁]
        show sW G m_Mo_as 38 ([.int (nI (kindN (Sf (gH σ) k)))], [some (.ref 119), some (.int (nI k)), some (.int (nI v))], M1) _
        refine sW_go b_Mo_as_38 (st' := ([.int (nI v), .int (nI (kindN (Sf (gH σ) k)))], [some (.ref 119), some (.int (nI k)), some (.int (nI v))], M1)) (φ := True) rfl trivial ?_
        refine sW_callS [.int (nI (kindN (Sf (gH σ) k))), .int (nI v)] [] d_Mo_as_39 c_Mo_as_39 ⟨rfl, rfl, Nat.le_of_ble_eq_true rfl, rfl, rfl⟩ (k_isOf G h5 (by omega)) ?_
        rintro _ M₁ ⟨rfl, h₁⟩
        rw [h₁]
        show sW G m_Mo_as 42 ([.int (tf (isO (kindN (Sf (gH σ) k)) v))], [some (.ref 119), some (.int (nI k)), some (.int (nI v))], M1) _
        refine sW_if_eq 49 d_Mo_as_42 (by decide) (fun c_42 => ?_) (fun c_42 => ?_)
        · skip
          replace c_42 := tf_z.mp c_42
          refine sW_go b_Mo_as_49 (st' := ([.int (nI 3), .ref 119], [some (.ref 119), some (.int (nI k)), some (.int (nI v))], M1)) (φ := True) rfl trivial ?_
          refine sW_callV 10 [.int (nI 3)] [] d_Mo_as_51 c_Mo_as_51 ⟨rfl, rfl, rfl, Nat.le_of_ble_eq_true rfl, rfl, rfl⟩ oc_119 (k_finding G 3) ?_
          rintro _ M2 ⟨rfl, g2⟩
          show sW G m_Mo_as 54 ([.int ((-1000010) - nI 3)], [some (.ref 119), some (.int (nI k)), some (.int (nI v))], M2) _
          refine sW_retI d_Mo_as_54 rfl (vp_nar_int _) ?_
          have e : sp_as σ (nI k) (nI v) = ((-1000010) - nI 3, ws σ 3) := by unfold sp_as; rw [cif_t hc, ct, cv, cif_f c_42]
          rw [e]
          exact MOk.find h0 f0 f1 g2
        · skip
          replace c_42 := tf_nz.mp c_42
          refine sW_go b_Mo_as_45 (st' := ([.int (nI k)], [some (.ref 119), some (.int (nI k)), some (.int (nI v))], M1)) (φ := True) rfl trivial ?_
          refine sW_goto 54 d_Mo_as_46 (by decide) ?_
          refine sW_retI d_Mo_as_54 rfl (vp_nar_int _) ?_
          have e : sp_as σ (nI k) (nI v) = (nI k, ws σ 0) := by unfold sp_as; rw [cif_t hc, ct, cv, cif_t c_42]
          rw [e]
          exact ⟨rfl, f0.tr (f1.fr (by decide)), h1⟩
      · skip
        replace c_22 := tf_z.mp c_22
        refine sW_go b_Mo_as_25 (st' := ([.int (-1000001)], [some (.ref 119), some (.int (nI k)), some (.int (nI v))], M0)) (φ := True) rfl trivial ?_
        refine sW_retI d_Mo_as_27 rfl (vp_nar_int _) ?_
        exact absurd hw c_22
  · have e : sp_as σ t w = ((-1000001), σ) := by unfold sp_as; rw [cif_f hc]
    rw [e]
    refine sOk_of ⟨by decide +kernel, by decide +kernel, Nat.le_of_ble_eq_true rfl⟩ ?_
    show sW G m_Mo_as 0 ([], [some (.ref 119), some (.int t), some (.int w)], M) _
    refine sW_go b_Mo_as_0 (st' := ([.int t, .ref 119], [some (.ref 119), some (.int t), some (.int w)], mx_wr M 119 0 (nI 0))) (φ := mx_ocl LAY 119 = 10 ∧ True) rfl ⟨oc_119, trivial⟩ ?_
    refine sW_eq (st' := ([.int t, .ref 119], [some (.ref 119), some (.int t), some (.int w)], M0)) (by simp (disch := omega) only [e0]) ?_
    refine sW_callV 10 [.int t] [] d_Mo_as_7 c_Mo_as_7 ⟨rfl, rfl, rfl, Nat.le_of_ble_eq_true rfl, rfl, rfl⟩ oc_119 (k_isType G hR h8 t) ?_
    rintro _ M₁ ⟨rfl, h₁⟩
    rw [h₁]
    show sW G m_Mo_as 10 ([.int (tf (vp_in t (gH σ).1))], [some (.ref 119), some (.int t), some (.int w)], M0) _
    refine sW_if_eq 25 d_Mo_as_10 (by decide) (fun c_10 => ?_) (fun c_10 => ?_)
    · skip
      replace c_10 := tf_z.mp c_10
      refine sW_go b_Mo_as_25 (st' := ([.int (-1000001)], [some (.ref 119), some (.int t), some (.int w)], M0)) (φ := True) rfl trivial ?_
      refine sW_retI d_Mo_as_27 rfl (vp_nar_int _) ?_
      exact ⟨rfl, f0, h0⟩
    · skip
      replace c_10 := tf_nz.mp c_10
      refine sW_go b_Mo_as_13 (st' := ([.long (lN 5), .long (lN 0), .long w.toInt64], [some (.ref 119), some (.int t), some (.int w)], M0)) (φ := True) rfl trivial ?_
      refine sW_callS [.long w.toInt64, .long (lN 0), .long (lN 5)] [] d_Mo_as_19 c_Mo_as_19 ⟨rfl, rfl, Nat.le_of_ble_eq_true rfl, rfl, rfl⟩ (k_in0 G w 5 (by decide)) ?_
      rintro _ M₁ ⟨rfl, h₁⟩
      rw [h₁]
      show sW G m_Mo_as 22 ([.int (tf (vp_in w 6))], [some (.ref 119), some (.int t), some (.int w)], M0) _
      refine sW_if_ne 28 d_Mo_as_22 (by decide) (fun c_22 => ?_) (fun c_22 => ?_)
      · skip
        replace c_22 := tf_nz.mp c_22
        exact absurd ⟨c_10, c_22⟩ hc
      · skip
        replace c_22 := tf_z.mp c_22
        refine sW_go b_Mo_as_25 (st' := ([.int (-1000001)], [some (.ref 119), some (.int t), some (.int w)], M0)) (φ := True) rfl trivial ?_
        refine sW_retI d_Mo_as_27 rfl (vp_nar_int _) ?_
        exact ⟨rfl, f0, h0⟩
theorem mo_ask (G : mx_G) {M : mx_M} {σ : Sg} (h : MInv M σ) (hg : GOk σ) (t w : Int32) : sOk G m_Mo_ask [.ref 119, .int t, .int w] M (MOk M (sp_ask σ t w)) := by
  obtain ⟨M0, e0, h0, f0, g0⟩ := h.th
  have hR : RowAt M0 123 0 (gH σ) := h0.2.2.1.1
  have h8 := hg.1.1.1
  by_cases hc : vp_in t (gH σ).1 ∧ vp_in w 2
  · obtain ⟨ht, hw⟩ := id hc
    obtain ⟨k, hk, rfl⟩ := vp_in_of ht (by omega)
    have k8 : k < 8 := by omega
    have ct : tn (nI k) = k := nI_clamp (by omega)
    obtain ⟨M1, e1⟩ : ∃ M1, mx_wr M0 119 31 (nI 0) = M1 := ⟨_, rfl⟩
    have fa : MFr M0 M1 [138] [0, 31] := by rw [← e1]; exact MFr.rf.wo (by decide)
    have hR1 : RowAt M1 123 0 (gH σ) := hR.eq (fa.1 _ (by decide) (by decide))
    have hT1 : MTrc M1 [] := ⟨by rw [← e1, mx_wr_s, pk_us]; rfl, fun i hi => absurd hi (Nat.not_lt_zero i)⟩
    have fin : ∀ (v : Int32) (T : List Nat) (M2 : mx_M), MFr M1 M2 [138] [31] → MTrc M2 ([] ++ T) → MOk M (v, wT σ T) (some (.int v)) M2 := fun v T M2 a b => by
      have fb : MFr M0 M2 [138] [0, 31] := fa.tr (a.mono (by decide) (by decide))
      exact ⟨rfl, f0.tr (fb.fr (by decide)), h0.trc fb b⟩
    refine sOk_of ⟨by decide +kernel, by decide +kernel, Nat.le_of_ble_eq_true rfl⟩ ?_
    show sW G m_Mo_ask 0 ([], [some (.ref 119), some (.int (nI k)), some (.int w)], M) _
    refine sW_go b_Mo_ask_0 (st' := ([.int (nI k), .ref 119], [some (.ref 119), some (.int (nI k)), some (.int w)], mx_wr M 119 0 (nI 0))) (φ := mx_ocl LAY 119 = 10 ∧ True) rfl ⟨oc_119, trivial⟩ ?_
    refine sW_eq (st' := ([.int (nI k), .ref 119], [some (.ref 119), some (.int (nI k)), some (.int w)], M0)) (by simp (disch := omega) only [e0]) ?_
    refine sW_callV 10 [.int (nI k)] [] d_Mo_ask_7 c_Mo_ask_7 ⟨rfl, rfl, rfl, Nat.le_of_ble_eq_true rfl, rfl, rfl⟩ oc_119 (k_isType G hR h8 (nI k)) ?_
    rintro _ M₁ ⟨rfl, h₁⟩
    rw [h₁]
    show sW G m_Mo_ask 10 ([.int (tf (vp_in (nI k) (gH σ).1))], [some (.ref 119), some (.int (nI k)), some (.int w)], M0) _
    refine sW_if_eq 23 d_Mo_ask_10 (by decide) (fun c_10 => ?_) (fun c_10 => ?_)
    · skip
      replace c_10 := tf_z.mp c_10
      refine sW_go b_Mo_ask_23 (st' := ([.int (-1000001)], [some (.ref 119), some (.int (nI k)), some (.int w)], M0)) (φ := True) rfl trivial ?_
      refine sW_retI d_Mo_ask_25 rfl (vp_nar_int _) ?_
      exact absurd ht c_10
    · skip
      replace c_10 := tf_nz.mp c_10
      refine sW_go b_Mo_ask_13 (st' := ([.long (lN 1), .long (lN 0), .long w.toInt64], [some (.ref 119), some (.int (nI k)), some (.int w)], M0)) (φ := True) rfl trivial ?_
      refine sW_callS [.long w.toInt64, .long (lN 0), .long (lN 1)] [] d_Mo_ask_17 c_Mo_ask_17 ⟨rfl, rfl, Nat.le_of_ble_eq_true rfl, rfl, rfl⟩ (k_in0 G w 1 (by decide)) ?_
      rintro _ M₁ ⟨rfl, h₁⟩
      rw [h₁]
      show sW G m_Mo_ask 20 ([.int (tf (vp_in w 2))], [some (.ref 119), some (.int (nI k)), some (.int w)], M0) _
      refine sW_if_ne 26 d_Mo_ask_20 (by decide) (fun c_20 => ?_) (fun c_20 => ?_)
      · skip
        replace c_20 := tf_nz.mp c_20
        refine sW_go b_Mo_ask_26 (st' := ([.int w], [some (.ref 119), some (.int (nI k)), some (.int w)], mx_wr M0 119 31 (nI 0))) (φ := mx_ocl LAY 119 = 10 ∧ True) rfl ⟨oc_119, trivial⟩ ?_
        refine sW_eq (st' := ([.int w], [some (.ref 119), some (.int (nI k)), some (.int w)], M1)) (by simp (disch := omega) only [e1]) ?_
        refine sW_if_ne 43 d_Mo_ask_32 (by decide) (fun c_32 => ?_) (fun c_32 => ?_)
        · skip
          refine sW_go b_Mo_ask_43 (st' := ([.int (nI k), .ref 119], [some (.ref 119), some (.int (nI k)), some (.int w)], M1)) (φ := True) rfl trivial ?_
          refine sW_callV 10 [.int (nI k)] [] d_Mo_ask_45 c_Mo_ask_45 ⟨rfl, rfl, rfl, Nat.le_of_ble_eq_true rfl, rfl, rfl⟩ oc_119 (k_markOf G hR1 hg.1 k8 hT1 (by decide) rfl) ?_
          rintro _ M2 ⟨rfl, f2, t2⟩
          show sW G m_Mo_ask 48 ([.int (mkV (kindN (Sf (gH σ) k)) (nI k) (nI (Af (gH σ) k)) (nI (Bf (gH σ) k)))], [some (.ref 119), some (.int (nI k)), some (.int w)], M2) _
          refine sW_retI d_Mo_ask_48 rfl (vp_nar_int _) ?_
          have e : sp_ask σ (nI k) w = (mkV (kindN (Sf (gH σ) k)) (nI k) (nI (Af (gH σ) k)) (nI (Bf (gH σ) k)), wT σ (mkT (kindN (Sf (gH σ) k)))) := by unfold sp_ask; rw [cif_t hc, ct, cif_f (show ¬ w = nI 0 from c_32)]
          rw [e]
          exact fin _ _ M2 f2 t2
        · skip
          refine sW_go b_Mo_ask_35 (st' := ([.int (nI k), .ref 119], [some (.ref 119), some (.int (nI k)), some (.int w)], M1)) (φ := True) rfl trivial ?_
          refine sW_callV 10 [.int (nI k)] [] d_Mo_ask_37 c_Mo_ask_37 ⟨rfl, rfl, rfl, Nat.le_of_ble_eq_true rfl, rfl, rfl⟩ oc_119 (k_sizeOf G hR1 hg.1 k8 hT1 (by decide) rfl) ?_
          rintro _ M2 ⟨rfl, f2, t2⟩
          show sW G m_Mo_ask 40 ([.int (szV (kindN (Sf (gH σ) k)) (nI k) (nI (Af (gH σ) k)) (nI (Bf (gH σ) k)))], [some (.ref 119), some (.int (nI k)), some (.int w)], M2) _
          refine sW_goto 48 d_Mo_ask_40 (by decide) ?_
          refine sW_retI d_Mo_ask_48 rfl (vp_nar_int _) ?_
          have e : sp_ask σ (nI k) w = (szV (kindN (Sf (gH σ) k)) (nI k) (nI (Af (gH σ) k)) (nI (Bf (gH σ) k)), wT σ (szT (kindN (Sf (gH σ) k)))) := by unfold sp_ask; rw [cif_t hc, ct, cif_t (show w = nI 0 from c_32)]
          rw [e]
          exact fin _ _ M2 f2 t2
      · skip
        replace c_20 := tf_z.mp c_20
        refine sW_go b_Mo_ask_23 (st' := ([.int (-1000001)], [some (.ref 119), some (.int (nI k)), some (.int w)], M0)) (φ := True) rfl trivial ?_
        refine sW_retI d_Mo_ask_25 rfl (vp_nar_int _) ?_
        exact absurd hw c_20
  · have e : sp_ask σ t w = ((-1000001), σ) := by unfold sp_ask; rw [cif_f hc]
    rw [e]
    refine sOk_of ⟨by decide +kernel, by decide +kernel, Nat.le_of_ble_eq_true rfl⟩ ?_
    show sW G m_Mo_ask 0 ([], [some (.ref 119), some (.int t), some (.int w)], M) _
    refine sW_go b_Mo_ask_0 (st' := ([.int t, .ref 119], [some (.ref 119), some (.int t), some (.int w)], mx_wr M 119 0 (nI 0))) (φ := mx_ocl LAY 119 = 10 ∧ True) rfl ⟨oc_119, trivial⟩ ?_
    refine sW_eq (st' := ([.int t, .ref 119], [some (.ref 119), some (.int t), some (.int w)], M0)) (by simp (disch := omega) only [e0]) ?_
    refine sW_callV 10 [.int t] [] d_Mo_ask_7 c_Mo_ask_7 ⟨rfl, rfl, rfl, Nat.le_of_ble_eq_true rfl, rfl, rfl⟩ oc_119 (k_isType G hR h8 t) ?_
    rintro _ M₁ ⟨rfl, h₁⟩
    rw [h₁]
    show sW G m_Mo_ask 10 ([.int (tf (vp_in t (gH σ).1))], [some (.ref 119), some (.int t), some (.int w)], M0) _
    refine sW_if_eq 23 d_Mo_ask_10 (by decide) (fun c_10 => ?_) (fun c_10 => ?_)
    · skip
      replace c_10 := tf_z.mp c_10
      refine sW_go b_Mo_ask_23 (st' := ([.int (-1000001)], [some (.ref 119), some (.int t), some (.int w)], M0)) (φ := True) rfl trivial ?_
      refine sW_retI d_Mo_ask_25 rfl (vp_nar_int _) ?_
      exact ⟨rfl, f0, h0⟩
    · skip
      replace c_10 := tf_nz.mp c_10
      refine sW_go b_Mo_ask_13 (st' := ([.long (lN 1), .long (lN 0), .long w.toInt64], [some (.ref 119), some (.int t), some (.int w)], M0)) (φ := True) rfl trivial ?_
      refine sW_callS [.long w.toInt64, .long (lN 0), .long (lN 1)] [] d_Mo_ask_17 c_Mo_ask_17 ⟨rfl, rfl, Nat.le_of_ble_eq_true rfl, rfl, rfl⟩ (k_in0 G w 1 (by decide)) ?_
      rintro _ M₁ ⟨rfl, h₁⟩
      rw [h₁]
      show sW G m_Mo_ask 20 ([.int (tf (vp_in w 2))], [some (.ref 119), some (.int t), some (.int w)], M0) _
      refine sW_if_ne 26 d_Mo_ask_20 (by decide) (fun c_20 => ?_) (fun c_20 => ?_)
      · skip
        replace c_20 := tf_nz.mp c_20
        exact absurd ⟨c_10, c_20⟩ hc
      · skip
        replace c_20 := tf_z.mp c_20
        refine sW_go b_Mo_ask_23 (st' := ([.int (-1000001)], [some (.ref 119), some (.int t), some (.int w)], M0)) (φ := True) rfl trivial ?_
        refine sW_retI d_Mo_ask_25 rfl (vp_nar_int _) ?_
        exact ⟨rfl, f0, h0⟩

