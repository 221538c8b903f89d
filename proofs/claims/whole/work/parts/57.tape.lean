def hsE (c : Nat) : Hs := (0, c, fun _ => 0, fun _ => 0, fun _ => 0)
/-- the whole tape -/
noncomputable def pHs (B : Nat → Nat) (n : Nat) : Except (Nat × Nat) Hs :=
  if tkA B n 0 ≠ 115 then .error (1, 0)
  else if numF B n (nxA B n 0) 1 4 ≠ 0 then .error (numF B n (nxA B n 0) 1 4, nxA B n 0)
  else if tkA B n (nx2 B n 0) ≠ 59 then .error (1, nx2 B n 0)
  else pTy B n 9 (nx3 B n 0) (hsE (nmA B n (nxA B n 0)))
theorem k_read (G : mx_G) {M : mx_M} {B : Nat → Nat} {n : Nat} (h : TapeAt M B n) :
  sOk G m_Tape_read [.ref 5, .ref 11] M (fun r M' => r = some (.int (tf (isOkE (pHs B n)))) ∧ RdR M M' B n (pHs B n)) := by
  have e : ∀ j, j ≠ 2 → (mx_wr M 5 2 (nI 0)) 5 j = M 5 j := fun j hj => by rw [mx_wr_s, pk_un hj]
  have hT1 : TpS (mx_wr (mx_wr M 5 2 (nI 0)) 11 3 (nI 0)) B n 0 := by
    refine ⟨(h.of (e 1 (by decide)) (mx_wr_n _ _ _ (by decide))).fr (Fr.rf.wr (lo := 11) (hi := 12) (by decide) (by decide)) (by decide), ?_, Nat.zero_le _⟩
    rw [mx_wr_n _ _ _ (by decide), mx_wr_s, pk_us]
  have f1 : Fr2 M (mx_wr (mx_wr M 5 2 (nI 0)) 11 3 (nI 0)) := (Fr2.of5 (Fr.rf.wr (by decide) (by decide))).tr (Fr2.of11 (Fr.rf.wr (by decide) (by decide)))
  have e6 : (mx_wr (mx_wr M 5 2 (nI 0)) 11 3 (nI 0)) 5 6 = M 5 6 := by rw [mx_wr_n _ _ _ (by decide)]; exact e 6 (by decide)
  have e11 : (mx_wr (mx_wr M 5 2 (nI 0)) 11 3 (nI 0)) 11 3 = nI 0 := by rw [mx_wr_s, pk_us]
  refine sOk_of ⟨by decide +kernel, by decide +kernel, Nat.le_of_ble_eq_true rfl⟩ ?_
  show sW G m_Tape_read 0 ([], [some (.ref 5), some (.ref 11)], M) _
  refine sW_go b_Tape_read_0 (st' := ([.int (nI 115), .ref 5], [some (.ref 5), some (.ref 11)], mx_wr (mx_wr M 5 2 (nI 0)) 11 3 (nI 0))) (φ := mx_ocl LAY 5 = 8 ∧ mx_ocl LAY 11 = 3 ∧ True) rfl ⟨oc_5, oc_11, trivial⟩ ?_
  refine sW_callV 8 [.int (nI 115)] [] d_Tape_read_13 c_Tape_read_13 ⟨rfl, rfl, rfl, Nat.le_of_ble_eq_true rfl, rfl, rfl⟩ oc_5 (k_takesSign G hT1 (by decide)) ?_
  rintro _ M2 ⟨rfl, r2⟩
  have hT2 : TpS M2 B n (nxA B n 0) := ⟨r2.2.1, r2.2.2.1, nxA_le (Nat.zero_le n)⟩
  show sW G m_Tape_read 16 ([.int (tf (tkA B n 0 = 115))], [some (.ref 5), some (.ref 11)], M2) _
  refine sW_if_eq 28 d_Tape_read_16 (by decide) (fun c_16 => ?_) (fun c_16 => ?_)
  · skip
    replace c_16 := tf_z.mp c_16
    refine sW_go b_Tape_read_28 (st' := ([.int (nI 0)], [some (.ref 5), some (.ref 11)], M2)) (φ := True) rfl trivial ?_
    refine sW_retI d_Tape_read_29 rfl nb_0 ?_
    have ep : pHs B n = .error (1, 0) := by unfold pHs; rw [if_pos c_16]
    rw [ep, tf_f (isOkE_er _)]
    refine ⟨rfl, RdR.er (f1.tr (Fr2.of5 r2.1)) r2.2.1 r2.2.2.2.1 ?_⟩
    rw [r2.2.2.2.2, if_neg c_16, if_neg (by decide)]
  · skip
    replace c_16 := tf_nz.mp c_16
    refine sW_go b_Tape_read_19 (st' := ([.int (nI 4), .int (nI 1), .ref 5], [some (.ref 5), some (.ref 11)], M2)) (φ := True) rfl trivial ?_
    refine sW_callV 8 [.int (nI 1), .int (nI 4)] [] d_Tape_read_22 c_Tape_read_22 ⟨rfl, rfl, rfl, Nat.le_of_ble_eq_true rfl, rfl, rfl⟩ oc_5 (k_takesNumber G hT2 (by decide) (z := 4) (by decide)) ?_
    rintro _ M3 ⟨rfl, r3, v3⟩
    show sW G m_Tape_read 25 ([.int (tf (numF B n (nxA B n 0) 1 4 = 0))], [some (.ref 5), some (.ref 11)], M3) _
    refine sW_if_ne 30 d_Tape_read_25 (by decide) (fun c_25 => ?_) (fun c_25 => ?_)
    · skip
      replace c_25 := tf_nz.mp c_25
      have z4 := v3 c_25
      have hT3 : TpS M3 B n (nx2 B n 0) := ⟨r3.2.1, r3.2.2.1, nxA_le (nxA_le (Nat.zero_le n))⟩
      have f3 := (f1.tr (Fr2.of5 r2.1)).tr (Fr2.of5 r3.1)
      have e36 : M3 5 6 = M 5 6 := by rw [r3.2.2.2.2, if_pos c_25, r2.2.2.2.2, if_pos c_16, if_pos rfl]; exact e6
      have e311 : M3 11 3 = nI 0 := by rw [r3.1 11 (by decide), r2.1 11 (by decide)]; exact e11
      have nb := nmA_lt (B := B) (nxA_le (B := B) (Nat.zero_le n))
      have hc4 : nmA B n (nxA B n 0) ≤ 4 := by
        have hq := c_25
        unfold numF at hq
        split at hq
        · split at hq
          · rename_i g; have := g.2; omega
          · exact absurd hq (by decide)
        · exact absurd hq (by decide)
      have hp : pHs B n = if tkA B n (nx2 B n 0) ≠ 59 then .error (1, nx2 B n 0) else pTy B n 9 (nx3 B n 0) (hsE (nmA B n (nxA B n 0))) := by unfold pHs; rw [if_neg (fun w => w c_16), if_neg (fun w => w c_25)]
      generalize hC : nmA B n (nxA B n 0) = cc at z4 nb hc4 hp
      have f4 : Fr M3 (mx_wr M3 11 4 (nI cc)) 11 15 := Fr.rf.wr (by decide) (by decide)
      have hT4 : TpS (mx_wr M3 11 4 (nI cc)) B n (nx2 B n 0) := ⟨hT3.1.fr f4 (by decide), by rw [f4 5 (by decide)]; exact hT3.2.1, hT3.2.2⟩
      have hH4 : HsAt (mx_wr M3 11 4 (nI cc)) 11 (hsE cc) := ⟨by rw [mx_wr_s, pk_un (by decide)]; exact e311, by rw [mx_wr_s, pk_us]; rfl, fun k hk => absurd hk (Nat.not_lt_zero k)⟩
      have hW : HsOk (hsE cc) := ⟨Nat.zero_le 8, hc4, fun k hk => absurd hk (Nat.not_lt_zero k)⟩
      refine sW_go b_Tape_read_30 (st' := ([.int (nI 59), .ref 5], [some (.ref 5), some (.ref 11)], mx_wr M3 11 4 (M3 5 4))) (φ := mx_ocl LAY 5 = 8 ∧ mx_ocl LAY 11 = 3 ∧ True) rfl ⟨oc_5, oc_11, trivial⟩ ?_
      refine sW_eq (st' := ([.int (nI 59), .ref 5], [some (.ref 5), some (.ref 11)], mx_wr M3 11 4 (nI cc))) (by simp (disch := omega) only [z4]) ?_
      refine sW_callV 8 [.int (nI 59)] [] d_Tape_read_41 c_Tape_read_41 ⟨rfl, rfl, rfl, Nat.le_of_ble_eq_true rfl, rfl, rfl⟩ oc_5 (k_takesSign G hT4 (by decide)) ?_
      rintro _ M5 ⟨rfl, r5⟩
      have hT5 : TpS M5 B n (nx3 B n 0) := ⟨r5.2.1, r5.2.2.1, nxA_le hT3.2.2⟩
      show sW G m_Tape_read 44 ([.int (tf (tkA B n (nx2 B n 0) = 59))], [some (.ref 5), some (.ref 11)], M5) _
      refine sW_if_eq 59 d_Tape_read_44 (by decide) (fun c_44 => ?_) (fun c_44 => ?_)
      · skip
        replace c_44 := tf_z.mp c_44
        refine sW_go b_Tape_read_59 (st' := ([.int (nI 0)], [some (.ref 5), some (.ref 11)], M5)) (φ := True) rfl trivial ?_
        refine sW_retI d_Tape_read_60 rfl nb_0 ?_
        rw [hp, if_pos c_44, tf_f (isOkE_er _)]
        refine ⟨rfl, RdR.er ((f3.tr (Fr2.of11 f4)).tr (Fr2.of5 r5.1)) r5.2.1 r5.2.2.2.1 ?_⟩
        rw [r5.2.2.2.2, if_neg c_44, if_neg (by decide)]
      · skip
        replace c_44 := tf_nz.mp c_44
        refine sW_go b_Tape_read_47 (st' := ([.ref 11, .ref 5], [some (.ref 5), some (.ref 11)], M5)) (φ := True) rfl trivial ?_
        refine sW_callV 8 [.ref 11] [] d_Tape_read_49 c_Tape_read_49 ⟨rfl, rfl, rfl, Nat.le_of_ble_eq_true rfl, rfl, rfl⟩ oc_5 (k_readTypes G hT5 (hH4.fr r5.1 (by decide)) rfl hW) ?_
        rintro _ M6 ⟨rfl, r6⟩
        show sW G m_Tape_read 52 ([.int (tf (isOkE (pTy B n 9 (nx3 B n 0) (hsE cc))))], [some (.ref 5), some (.ref 11)], M6) _
        refine sW_if_eq 59 d_Tape_read_52 (by decide) (fun c_52 => ?_) (fun c_52 => ?_)
        · skip
          replace c_52 := tf_z.mp c_52
          refine sW_go b_Tape_read_59 (st' := ([.int (nI 0)], [some (.ref 5), some (.ref 11)], M6)) (φ := True) rfl trivial ?_
          refine sW_retI d_Tape_read_60 rfl nb_0 ?_
          rw [hp, if_neg (fun w => w c_44), tf_f c_52]
          obtain ⟨s1, s2, s3, s4⟩ := r6
          exact ⟨rfl, ((f3.tr (Fr2.of11 f4)).tr (Fr2.of5 r5.1)).tr s1, s2, s3, fun hs' he => absurd ⟨_, he⟩ c_52⟩
        · skip
          replace c_52 := tf_nz.mp c_52
          refine sW_go b_Tape_read_55 (st' := ([.int (nI 1)], [some (.ref 5), some (.ref 11)], M6)) (φ := True) rfl trivial ?_
          refine sW_goto 60 d_Tape_read_56 (by decide) ?_
          refine sW_retI d_Tape_read_60 rfl nb_1 ?_
          rw [hp, if_neg (fun w => w c_44), tf_t c_52]
          obtain ⟨s1, s2, s3, s4⟩ := r6
          refine ⟨rfl, ((f3.tr (Fr2.of11 f4)).tr (Fr2.of5 r5.1)).tr s1, s2, s3, fun hs' he => ⟨?_, (s4 hs' he).2⟩⟩
          rw [(s4 hs' he).1, r5.2.2.2.2, if_pos c_44, if_pos rfl, f4 5 (by decide)]
          exact e36
    · skip
      replace c_25 := tf_z.mp c_25
      refine sW_go b_Tape_read_28 (st' := ([.int (nI 0)], [some (.ref 5), some (.ref 11)], M3)) (φ := True) rfl trivial ?_
      refine sW_retI d_Tape_read_29 rfl nb_0 ?_
      have ep : pHs B n = .error (numF B n (nxA B n 0) 1 4, nxA B n 0) := by unfold pHs; rw [if_neg (fun w => w c_16), if_pos c_25]
      rw [ep, tf_f (isOkE_er _)]
      refine ⟨rfl, RdR.er ((f1.tr (Fr2.of5 r2.1)).tr (Fr2.of5 r3.1)) r3.2.1 r3.2.2.2.1 ?_⟩
      rw [r3.2.2.2.2, if_neg c_25]
theorem TapeAt.push {M : mx_M} {B : Nat → Nat} {n b : Nat} (h : TapeAt M B n) (hn : n < 80) (hb : b < 256) : TapeAt (mx_wr (mx_wr M 6 n (nI b)) 5 1 (nI (n + 1))) (updN B n b) (n + 1) := by
  refine ⟨by rw [mx_wr_s, pk_us], by omega, fun i hi => ?_⟩
  rw [mx_wr_n _ _ _ (by decide), mx_wr_s]
  by_cases hx : i = n
  · rw [hx, pk_us, updN_s]; exact ⟨rfl, hb⟩
  · rw [pk_un hx, updN_n _ _ hx]
    exact h.2.2 i (by omega)
theorem k_tadd (G : mx_G) {M : mx_M} {B : Nat → Nat} {n b : Nat} (h : TapeAt M B n) (hb : b < 256) : sOk G m_Tape_add [.ref 5, .int (nI b)] M (fun r M' => r = some (.int (tf (n < 80))) ∧ M' = if n < 80 then mx_wr (mx_wr M 6 n (nI b)) 5 1 (nI (n + 1)) else M) := by
  have h1 := h.1
  have h2 := h.2.1
  have z : (mx_wr M 6 n (nI b)) 5 1 = nI n := by rw [mx_wr_n _ _ _ (by decide)]; exact h1
  refine sOk_of ⟨by decide +kernel, by decide +kernel, Nat.le_of_ble_eq_true rfl⟩ ?_
  show sW G m_Tape_add 0 ([], [some (.ref 5), some (.int (nI b))], M) _
  refine sW_go b_Tape_add_0 (st' := ([.int (nI 80), .int (M 5 1)], [some (.ref 5), some (.int (nI b))], M)) (φ := mx_ocl LAY 5 = 8 ∧ True) rfl ⟨oc_5, trivial⟩ ?_
  refine sW_eq (st' := ([.int (nI 80), .int (nI n)], [some (.ref 5), some (.int (nI b))], M)) (by simp (disch := omega) only [h1]) ?_
  refine sW_ic_lt 11 d_Tape_add_6 (by decide) (fun c_6 => ?_) (fun c_6 => ?_)
  · skip
    simp (disch := omega) only [nI_ltI] at c_6
    refine sW_go b_Tape_add_11 (st' := ([.int (nI 1)], [some (.ref 5), some (.int (nI b))], mx_wr (mx_wr M 6 (M 5 1).toNatClampNeg (nI b)) 5 1 ((mx_wr M 6 (M 5 1).toNatClampNeg (nI b)) 5 1 + nI 1))) (φ := mx_ocl LAY 5 = 8 ∧ mx_ocl LAY 5 = 8 ∧ vp_in (M 5 1) (mx_len LAY false 6) ∧ mx_ocl LAY 5 = 8 ∧ mx_ocl LAY 5 = 8 ∧ True) rfl ⟨oc_5, oc_5, (by simp (disch := omega) only [h1, ln_6]; exact vp_in_nI (by omega) (by decide)), oc_5, oc_5, trivial⟩ ?_
    refine sW_eq (st' := ([.int (nI 1)], [some (.ref 5), some (.int (nI b))], mx_wr (mx_wr M 6 n (nI b)) 5 1 (nI (n + 1)))) (by simp (disch := omega) only [h1, nI_add, nI_clamp, z]) ?_
    refine sW_retI d_Tape_add_32 rfl nb_1 ?_
    rw [tf_t c_6, if_pos c_6]; exact ⟨rfl, rfl⟩
  · skip
    simp (disch := omega) only [nI_ltI] at c_6
    refine sW_go b_Tape_add_9 (st' := ([.int (nI 0)], [some (.ref 5), some (.int (nI b))], M)) (φ := True) rfl trivial ?_
    refine sW_retI d_Tape_add_10 rfl nb_0 ?_
    rw [tf_f c_6, if_neg c_6]; exact ⟨rfl, rfl⟩

