/-! ===== the model: tokens ===== -/
theorem rd_s {M : mx_M} {a j : Nat} {v : Int32} : mx_wr M a j v a j = v := by rw [mx_wr_s, pk_us]
theorem rd_n {M : mx_M} {a i j : Nat} {v : Int32} (h : i ≠ j) : mx_wr M a j v a i = M a i := by rw [mx_wr_s, pk_un h]
def mtk (t : Nat) : Nat := if t = 1001 then 3 else if t = 1002 then 1 else if t = 1003 then 0 else if t < 97 then 4 else 2
/-- the tape, the cursor -/
def MRd (M : mx_M) (B : Nat → Nat) (n p : Nat) : Prop := M 119 11 = nI n ∧ n ≤ 80 ∧ (∀ i, i < n → M 127 i = nI (B i) ∧ B i < 256) ∧ M 119 12 = nI p ∧ p ≤ n
/-- the token at p has been read -/
def TkM (M : mx_M) (B : Nat → Nat) (n p : Nat) : Prop := M 119 13 = nI p ∧ M 119 14 = nI (mtk (tkA B n p)) ∧ (tkA B n p = 1001 → M 119 15 = nI (nmA B n p)) ∧ (tkA B n p < 256 → M 119 15 = nI (tkA B n p))
theorem MRd.of {M M' : mx_M} {B : Nat → Nat} {n p q : Nat} (h : MRd M B n p) (h1 : M' 119 11 = M 119 11) (h2 : M' 127 = M 127) (h3 : M' 119 12 = nI q) (hq : q ≤ n) : MRd M' B n q := ⟨h1.trans h.1, h.2.1, by rw [h2]; exact h.2.2.1, h3, hq⟩
theorem k_nt165 (G : mx_G) {M M5 : mx_M} {B : Nat → Nat} {n p : Nat} (h : MRd M B n p) (hp : p < n) (hd : dig B p) (f5 : MFr M M5 [] [12, 13, 14, 15]) (c5 : M5 119 12 = nI (p + 1)) (s5 : M5 119 13 = nI p) (v5 : M5 119 15 = nI (valN B p (p + 1))) :
  sW G m_Mo_nextToken 165 ([], [some (.ref 119)], M5) (fun r M' => r = none ∧ MFr M M' [] [12, 13, 14, 15] ∧ MRd M' B n (nxA B n p) ∧ TkM M' B n p) := by
  obtain ⟨h1, h2, h3, h4, h5⟩ := id h
  refine mx_ind (α := Nat × mx_M) (fun q => n - q.1) (fun q => p + 1 ≤ q.1 → q.1 ≤ n → (∀ i, p ≤ i → i < q.1 → i < n ∧ dig B i) → MFr M q.2 [] [12, 13, 14, 15] → q.2 119 12 = nI q.1 → q.2 119 13 = nI p → q.2 119 15 = nI (valN B p q.1) → sW G m_Mo_nextToken 165 ([], [some (.ref 119)], q.2) _) ?_ (p + 1, M5) (Nat.le_refl _) (by dsimp only; omega) (fun i a b => by
    have b : i < p + 1 := b
    obtain rfl : i = p := by omega
    exact ⟨hp, hd⟩) f5 c5 s5 v5
  rintro ⟨c, M6⟩ ih hc1 hc2 i1 i2 i3 i4 i5
  dsimp only at ih hc1 hc2 i1 i2 i3 i4 i5 ⊢
  have e11 : M6 119 11 = nI n := (i2.2 11 (by decide)).trans h1
  have e127 : M6 127 = M 127 := i2.1 127 (by decide) (by decide)
  have hdp : ∀ i, p ≤ i → i < c → 48 ≤ B i ∧ B i ≤ 57 := fun i a b => (i1 i a b).2
  have hvl : valN B p c < 1000 := by
    have g1 := hdp p (Nat.le_refl _) (by omega)
    unfold valN
    split
    · omega
    · split
      · omega
      · have g2 := hdp (p + 1) (by omega) (by omega)
        omega
  by_cases hgo : c < n ∧ dig B c
  · obtain ⟨hcn, hdc⟩ := id hgo
    have ec : M6 127 c = nI (B c) := by rw [e127]; exact (h3 c hcn).1
    have bc := (h3 c hcn).2
    have es : nI c - nI p = nI (c - p) := nI_sub (by omega)
    have ev : nI (10 * valN B p c + B c) - nI 48 = nI (10 * valN B p c + B c - 48) := nI_sub (by omega)
    have z1 : mx_wr M6 119 15 (nI (10 * valN B p c + B c - 48)) 119 12 = nI c := by rw [rd_n (by decide)]; exact i3
    have z2 : mx_wr M6 119 15 (nI (valN B p c)) 119 12 = nI c := by rw [rd_n (by decide)]; exact i3
    refine sW_go b_Mo_nextToken_165 (st' := ([.int (M6 119 11), .int (M6 119 12)], [some (.ref 119)], M6)) (φ := mx_ocl LAY 119 = 10 ∧ mx_ocl LAY 119 = 10 ∧ True) rfl ⟨oc_119, oc_119, trivial⟩ ?_
    refine sW_eq (st' := ([.int (nI n), .int (nI c)], [some (.ref 119)], M6)) (by simp (disch := omega) only [e11, i3]) ?_
    refine sW_ic_ge 255 d_Mo_nextToken_173 (by decide) (fun c_173 => ?_) (fun c_173 => ?_)
    · skip
      simp (disch := omega) only [nI_leI] at c_173
      omega
    · skip
      simp (disch := omega) only [nI_leI] at c_173
      refine sW_go b_Mo_nextToken_176 (st' := ([.long (lN 57), .long (lN 48), .long (M6 127 (M6 119 12).toNatClampNeg).toInt64], [some (.ref 119)], M6)) (φ := mx_ocl LAY 119 = 10 ∧ mx_ocl LAY 119 = 10 ∧ vp_in (M6 119 12) (mx_len LAY false 127) ∧ True) rfl ⟨oc_119, oc_119, (by simp (disch := omega) only [i3, ln_127]; exact vp_in_nI (by omega) (by decide)), trivial⟩ ?_
      refine sW_eq (st' := ([.long (lN 57), .long (lN 48), .long (nI (B c)).toInt64], [some (.ref 119)], M6)) (by simp (disch := omega) only [ec, i3, nI_clamp]) ?_
      refine sW_callS [.long (nI (B c)).toInt64, .long (lN 48), .long (lN 57)] [] d_Mo_nextToken_192 c_Mo_nextToken_192 ⟨rfl, rfl, Nat.le_of_ble_eq_true rfl, rfl, rfl⟩ (k_inN G 48 57 (by omega) (by decide) (by decide)) ?_
      rintro _ M₁ ⟨rfl, h₁⟩
      rw [h₁]
      show sW G m_Mo_nextToken 195 ([.int (tf (48 ≤ B c ∧ B c ≤ 57))], [some (.ref 119)], M6) _
      refine sW_if_eq 255 d_Mo_nextToken_195 (by decide) (fun c_195 => ?_) (fun c_195 => ?_)
      · skip
        replace c_195 := tf_z.mp c_195
        exact absurd hdc c_195
      · skip
        replace c_195 := tf_nz.mp c_195
        refine sW_go b_Mo_nextToken_198 (st' := ([.int (nI 2), .int (M6 119 12 - M6 119 13), .ref 119], [some (.ref 119)], M6)) (φ := mx_ocl LAY 119 = 10 ∧ mx_ocl LAY 119 = 10 ∧ True) rfl ⟨oc_119, oc_119, trivial⟩ ?_
        refine sW_eq (st' := ([.int (nI 2), .int (nI (c - p)), .ref 119], [some (.ref 119)], M6)) (by simp (disch := omega) only [es, i3, i4]) ?_
        refine sW_ic_ge 235 d_Mo_nextToken_209 (by decide) (fun c_209 => ?_) (fun c_209 => ?_)
        · skip
          simp (disch := omega) only [nI_leI] at c_209
          refine sW_go b_Mo_nextToken_235 (st' := ([.int (M6 119 15), .ref 119], [some (.ref 119)], M6)) (φ := mx_ocl LAY 119 = 10 ∧ True) rfl ⟨oc_119, trivial⟩ ?_
          refine sW_eq (st' := ([.int (nI (valN B p c)), .ref 119], [some (.ref 119)], M6)) (by simp (disch := omega) only [i5]) ?_
          refine sW_go b_Mo_nextToken_239 (st' := ([], [some (.ref 119)], mx_wr (mx_wr M6 119 15 (nI (valN B p c))) 119 12 ((mx_wr M6 119 15 (nI (valN B p c))) 119 12 + nI 1))) (φ := mx_ocl LAY 119 = 10 ∧ mx_ocl LAY 119 = 10 ∧ mx_ocl LAY 119 = 10 ∧ True) rfl ⟨oc_119, oc_119, oc_119, trivial⟩ ?_
          refine sW_eq (st' := ([], [some (.ref 119)], mx_wr (mx_wr M6 119 15 (nI (valN B p c))) 119 12 (nI (c + 1)))) (by simp (disch := omega) only [nI_add, z2]) ?_
          refine sW_goto 165 d_Mo_nextToken_252 (by decide) ?_
          refine ih (c + 1, (mx_wr (mx_wr M6 119 15 (nI (valN B p c))) 119 12 (nI (c + 1)))) (by dsimp only; omega) (by dsimp only; omega) (by dsimp only; omega) (fun i a b => ?_) ((i2.wo (by decide)).wo (by decide)) (by dsimp only; exact rd_s) (by dsimp only; rw [rd_n (by decide), rd_n (by decide)]; exact i4) ?_
          · dsimp only at b
            by_cases hx : i = c
            · rw [hx]; exact ⟨hcn, hdc⟩
            · exact i1 i a (by omega)
          · dsimp only
            rw [rd_n (by decide), rd_s]
            have : valN B p c = valN B p (c + 1) := by
              unfold valN
              rw [if_neg (by omega), if_neg (by omega), if_neg (by omega), if_neg (by omega)]
            rw [this]
        · skip
          simp (disch := omega) only [nI_leI] at c_209
          refine sW_go b_Mo_nextToken_212 (st' := ([.int (((nI 10 * M6 119 15) + M6 127 (M6 119 12).toNatClampNeg) - nI 48), .ref 119], [some (.ref 119)], M6)) (φ := mx_ocl LAY 119 = 10 ∧ mx_ocl LAY 119 = 10 ∧ mx_ocl LAY 119 = 10 ∧ vp_in (M6 119 12) (mx_len LAY false 127) ∧ True) rfl ⟨oc_119, oc_119, oc_119, (by simp (disch := omega) only [i3, ln_127]; exact vp_in_nI (by omega) (by decide)), trivial⟩ ?_
          refine sW_eq (st' := ([.int (nI (10 * valN B p c + B c - 48)), .ref 119], [some (.ref 119)], M6)) (by simp (disch := omega) only [ec, ev, i3, i5, nI_add, nI_clamp, pk_mul]) ?_
          refine sW_goto 239 d_Mo_nextToken_232 (by decide) ?_
          refine sW_go b_Mo_nextToken_239 (st' := ([], [some (.ref 119)], mx_wr (mx_wr M6 119 15 (nI (10 * valN B p c + B c - 48))) 119 12 ((mx_wr M6 119 15 (nI (10 * valN B p c + B c - 48))) 119 12 + nI 1))) (φ := mx_ocl LAY 119 = 10 ∧ mx_ocl LAY 119 = 10 ∧ mx_ocl LAY 119 = 10 ∧ True) rfl ⟨oc_119, oc_119, oc_119, trivial⟩ ?_
          refine sW_eq (st' := ([], [some (.ref 119)], mx_wr (mx_wr M6 119 15 (nI (10 * valN B p c + B c - 48))) 119 12 (nI (c + 1)))) (by simp (disch := omega) only [nI_add, z1]) ?_
          refine sW_goto 165 d_Mo_nextToken_252 (by decide) ?_
          refine ih (c + 1, (mx_wr (mx_wr M6 119 15 (nI (10 * valN B p c + B c - 48))) 119 12 (nI (c + 1)))) (by dsimp only; omega) (by dsimp only; omega) (by dsimp only; omega) (fun i a b => ?_) ((i2.wo (by decide)).wo (by decide)) (by dsimp only; exact rd_s) (by dsimp only; rw [rd_n (by decide), rd_n (by decide)]; exact i4) ?_
          · dsimp only at b
            by_cases hx : i = c
            · rw [hx]; exact ⟨hcn, hdc⟩
            · exact i1 i a (by omega)
          · dsimp only
            rw [rd_n (by decide), rd_s]
            have : 10 * valN B p c + B c - 48 = valN B p (c + 1) := by
              unfold valN
              obtain rfl : c = p + 1 := by omega
              rw [if_neg (by omega), if_pos rfl, if_neg (by omega), if_neg (by omega)]
              have := hdc.1
              omega
            rw [this]
  · have hfe : fe B n p = c := fe_eq (by omega) (by omega) i1 hgo
    have hnx : nxA B n p = c := by unfold nxA; rw [hfe, if_pos (by omega)]
    have hnm : nmA B n p = valN B p c := by unfold nmA; rw [hfe]
    have htk : tkA B n p = if c ≤ p + 2 then 1001 else 1003 := by unfold tkA; rw [hfe, if_pos (by omega)]
    have es : nI c - nI p = nI (c - p) := nI_sub (by omega)
    have fin : ∀ w, w = mtk (tkA B n p) → MFr M (mx_wr M6 119 14 (nI w)) [] [12, 13, 14, 15] ∧ MRd (mx_wr M6 119 14 (nI w)) B n (nxA B n p) ∧ TkM (mx_wr M6 119 14 (nI w)) B n p := fun w hw => by
      refine ⟨i2.wo (by decide), ?_, ?_, ?_, fun _ => ?_, fun q => ?_⟩
      · rw [hnx]
        exact h.of (by rw [rd_n (by decide)]; exact e11.trans h1.symm) (by rw [mx_wr_n _ _ _ (by decide)]; exact e127) (by rw [rd_n (by decide)]; exact i3) hc2
      · rw [rd_n (by decide)]; exact i4
      · rw [rd_s, hw]
      · rw [rd_n (by decide), hnm]; exact i5
      · rw [htk] at q
        split at q
        · exact absurd q (by decide)
        · exact absurd q (by decide)
    by_cases hcn : c < n
    · have ec : M6 127 c = nI (B c) := by rw [e127]; exact (h3 c hcn).1
      have bc := (h3 c hcn).2
      refine sW_go b_Mo_nextToken_165 (st' := ([.int (M6 119 11), .int (M6 119 12)], [some (.ref 119)], M6)) (φ := mx_ocl LAY 119 = 10 ∧ mx_ocl LAY 119 = 10 ∧ True) rfl ⟨oc_119, oc_119, trivial⟩ ?_
      refine sW_eq (st' := ([.int (nI n), .int (nI c)], [some (.ref 119)], M6)) (by simp (disch := omega) only [e11, i3]) ?_
      refine sW_ic_ge 255 d_Mo_nextToken_173 (by decide) (fun c_173 => ?_) (fun c_173 => ?_)
      · skip
        simp (disch := omega) only [nI_leI] at c_173
        refine sW_go b_Mo_nextToken_255 (st' := ([.int (nI 2), .int (M6 119 12 - M6 119 13), .ref 119], [some (.ref 119)], M6)) (φ := mx_ocl LAY 119 = 10 ∧ mx_ocl LAY 119 = 10 ∧ True) rfl ⟨oc_119, oc_119, trivial⟩ ?_
        refine sW_eq (st' := ([.int (nI 2), .int (nI (c - p)), .ref 119], [some (.ref 119)], M6)) (by simp (disch := omega) only [es, i3, i4]) ?_
        refine sW_ic_le 273 d_Mo_nextToken_266 (by decide) (fun c_266 => ?_) (fun c_266 => ?_)
        · skip
          simp (disch := omega) only [nI_leI] at c_266
          refine sW_go b_Mo_nextToken_273 (st' := ([.int (nI 3), .ref 119], [some (.ref 119)], M6)) (φ := True) rfl trivial ?_
          refine sW_go b_Mo_nextToken_274 (st' := ([], [some (.ref 119)], mx_wr M6 119 14 (nI 3))) (φ := mx_ocl LAY 119 = 10 ∧ True) rfl ⟨oc_119, trivial⟩ ?_
          refine sW_retV d_Mo_nextToken_277 rfl ?_
          omega
        · skip
          simp (disch := omega) only [nI_leI] at c_266
          refine sW_go b_Mo_nextToken_269 (st' := ([.int (nI 0), .ref 119], [some (.ref 119)], M6)) (φ := True) rfl trivial ?_
          refine sW_goto 274 d_Mo_nextToken_270 (by decide) ?_
          refine sW_go b_Mo_nextToken_274 (st' := ([], [some (.ref 119)], mx_wr M6 119 14 (nI 0))) (φ := mx_ocl LAY 119 = 10 ∧ True) rfl ⟨oc_119, trivial⟩ ?_
          refine sW_retV d_Mo_nextToken_277 rfl ?_
          omega
      · skip
        simp (disch := omega) only [nI_leI] at c_173
        refine sW_go b_Mo_nextToken_176 (st' := ([.long (lN 57), .long (lN 48), .long (M6 127 (M6 119 12).toNatClampNeg).toInt64], [some (.ref 119)], M6)) (φ := mx_ocl LAY 119 = 10 ∧ mx_ocl LAY 119 = 10 ∧ vp_in (M6 119 12) (mx_len LAY false 127) ∧ True) rfl ⟨oc_119, oc_119, (by simp (disch := omega) only [i3, ln_127]; exact vp_in_nI (by omega) (by decide)), trivial⟩ ?_
        refine sW_eq (st' := ([.long (lN 57), .long (lN 48), .long (nI (B c)).toInt64], [some (.ref 119)], M6)) (by simp (disch := omega) only [ec, i3, nI_clamp]) ?_
        refine sW_callS [.long (nI (B c)).toInt64, .long (lN 48), .long (lN 57)] [] d_Mo_nextToken_192 c_Mo_nextToken_192 ⟨rfl, rfl, Nat.le_of_ble_eq_true rfl, rfl, rfl⟩ (k_inN G 48 57 (by omega) (by decide) (by decide)) ?_
        rintro _ M₁ ⟨rfl, h₁⟩
        rw [h₁]
        show sW G m_Mo_nextToken 195 ([.int (tf (48 ≤ B c ∧ B c ≤ 57))], [some (.ref 119)], M6) _
        refine sW_if_eq 255 d_Mo_nextToken_195 (by decide) (fun c_195 => ?_) (fun c_195 => ?_)
        · skip
          replace c_195 := tf_z.mp c_195
          refine sW_go b_Mo_nextToken_255 (st' := ([.int (nI 2), .int (M6 119 12 - M6 119 13), .ref 119], [some (.ref 119)], M6)) (φ := mx_ocl LAY 119 = 10 ∧ mx_ocl LAY 119 = 10 ∧ True) rfl ⟨oc_119, oc_119, trivial⟩ ?_
          refine sW_eq (st' := ([.int (nI 2), .int (nI (c - p)), .ref 119], [some (.ref 119)], M6)) (by simp (disch := omega) only [es, i3, i4]) ?_
          refine sW_ic_le 273 d_Mo_nextToken_266 (by decide) (fun c_266 => ?_) (fun c_266 => ?_)
          · skip
            simp (disch := omega) only [nI_leI] at c_266
            refine sW_go b_Mo_nextToken_273 (st' := ([.int (nI 3), .ref 119], [some (.ref 119)], M6)) (φ := True) rfl trivial ?_
            refine sW_go b_Mo_nextToken_274 (st' := ([], [some (.ref 119)], mx_wr M6 119 14 (nI 3))) (φ := mx_ocl LAY 119 = 10 ∧ True) rfl ⟨oc_119, trivial⟩ ?_
            refine sW_retV d_Mo_nextToken_277 rfl ?_
            exact ⟨rfl, fin 3 (by rw [htk, if_pos (by omega)]; rfl)⟩
          · skip
            simp (disch := omega) only [nI_leI] at c_266
            refine sW_go b_Mo_nextToken_269 (st' := ([.int (nI 0), .ref 119], [some (.ref 119)], M6)) (φ := True) rfl trivial ?_
            refine sW_goto 274 d_Mo_nextToken_270 (by decide) ?_
            refine sW_go b_Mo_nextToken_274 (st' := ([], [some (.ref 119)], mx_wr M6 119 14 (nI 0))) (φ := mx_ocl LAY 119 = 10 ∧ True) rfl ⟨oc_119, trivial⟩ ?_
            refine sW_retV d_Mo_nextToken_277 rfl ?_
            exact ⟨rfl, fin 0 (by rw [htk, if_neg (by omega)]; rfl)⟩
        · skip
          replace c_195 := tf_nz.mp c_195
          exact absurd ⟨hcn, c_195⟩ hgo
    · skip
      refine sW_go b_Mo_nextToken_165 (st' := ([.int (M6 119 11), .int (M6 119 12)], [some (.ref 119)], M6)) (φ := mx_ocl LAY 119 = 10 ∧ mx_ocl LAY 119 = 10 ∧ True) rfl ⟨oc_119, oc_119, trivial⟩ ?_
      refine sW_eq (st' := ([.int (nI n), .int (nI c)], [some (.ref 119)], M6)) (by simp (disch := omega) only [e11, i3]) ?_
      refine sW_ic_ge 255 d_Mo_nextToken_173 (by decide) (fun c_173 => ?_) (fun c_173 => ?_)
      · skip
        simp (disch := omega) only [nI_leI] at c_173
        refine sW_go b_Mo_nextToken_255 (st' := ([.int (nI 2), .int (M6 119 12 - M6 119 13), .ref 119], [some (.ref 119)], M6)) (φ := mx_ocl LAY 119 = 10 ∧ mx_ocl LAY 119 = 10 ∧ True) rfl ⟨oc_119, oc_119, trivial⟩ ?_
        refine sW_eq (st' := ([.int (nI 2), .int (nI (c - p)), .ref 119], [some (.ref 119)], M6)) (by simp (disch := omega) only [es, i3, i4]) ?_
        refine sW_ic_le 273 d_Mo_nextToken_266 (by decide) (fun c_266 => ?_) (fun c_266 => ?_)
        · skip
          simp (disch := omega) only [nI_leI] at c_266
          refine sW_go b_Mo_nextToken_273 (st' := ([.int (nI 3), .ref 119], [some (.ref 119)], M6)) (φ := True) rfl trivial ?_
          refine sW_go b_Mo_nextToken_274 (st' := ([], [some (.ref 119)], mx_wr M6 119 14 (nI 3))) (φ := mx_ocl LAY 119 = 10 ∧ True) rfl ⟨oc_119, trivial⟩ ?_
          refine sW_retV d_Mo_nextToken_277 rfl ?_
          exact ⟨rfl, fin 3 (by rw [htk, if_pos (by omega)]; rfl)⟩
        · skip
          simp (disch := omega) only [nI_leI] at c_266
          refine sW_go b_Mo_nextToken_269 (st' := ([.int (nI 0), .ref 119], [some (.ref 119)], M6)) (φ := True) rfl trivial ?_
          refine sW_goto 274 d_Mo_nextToken_270 (by decide) ?_
          refine sW_go b_Mo_nextToken_274 (st' := ([], [some (.ref 119)], mx_wr M6 119 14 (nI 0))) (φ := mx_ocl LAY 119 = 10 ∧ True) rfl ⟨oc_119, trivial⟩ ?_
          refine sW_retV d_Mo_nextToken_277 rfl ?_
          exact ⟨rfl, fin 0 (by rw [htk, if_neg (by omega)]; rfl)⟩
      · skip
        simp (disch := omega) only [nI_leI] at c_173
        omega
theorem k_nt118 (G : mx_G) {M M2 : mx_M} {B : Nat → Nat} {n p t : Nat} (h : MRd M B n p) (hp : p < n) (f2 : MFr M M2 [] [12, 13, 14, 15]) (c2 : M2 119 12 = nI p) (s2 : M2 119 13 = nI p) (v2 : M2 119 15 = nI (B p)) (ht : t < 5) (hd : t = 3 ↔ dig B p) (hn : t ≠ 3 → t = mtk (if isL (B p) then B p else 1003)) :
  sW G m_Mo_nextToken 118 ([.int (nI t), .ref 119], [some (.ref 119)], M2) (fun r M' => r = none ∧ MFr M M' [] [12, 13, 14, 15] ∧ MRd M' B n (nxA B n p) ∧ TkM M' B n p) := by
  obtain ⟨h1, h2, h3, h4, h5⟩ := id h
  have e11 : M2 119 11 = nI n := (f2.2 11 (by decide)).trans h1
  have bp := (h3 p hp).2
  obtain ⟨M3, e3⟩ : ∃ M3, mx_wr M2 119 14 (nI t) = M3 := ⟨_, rfl⟩
  obtain ⟨M4, e4⟩ : ∃ M4, mx_wr M3 119 12 (nI (p + 1)) = M4 := ⟨_, rfl⟩
  have a12 : M3 119 12 = nI p := by rw [← e3, rd_n (by decide)]; exact c2
  have a11 : M3 119 11 = nI n := by rw [← e3, rd_n (by decide)]; exact e11
  have b14 : M4 119 14 = nI t := by rw [← e4, rd_n (by decide), ← e3, rd_s]
  have b15 : M4 119 15 = nI (B p) := by rw [← e4, rd_n (by decide), ← e3, rd_n (by decide)]; exact v2
  have b13 : M4 119 13 = nI p := by rw [← e4, rd_n (by decide), ← e3, rd_n (by decide)]; exact s2
  have b12 : M4 119 12 = nI (p + 1) := by rw [← e4, rd_s]
  have b11 : M4 119 11 = nI n := by rw [← e4, rd_n (by decide)]; exact a11
  have f4 : MFr M M4 [] [12, 13, 14, 15] := by rw [← e4, ← e3]; exact (f2.wo (by decide)).wo (by decide)
  have w1 : mx_wr M2 119 14 (nI t) 119 12 = nI p := by rw [e3]; exact a12
  have w2 : mx_wr M2 119 14 (nI t) 119 11 = nI n := by rw [e3]; exact a11
  have w3 : mx_wr M3 119 12 (nI (p + 1)) 119 14 = nI t := by rw [e4]; exact b14
  refine sW_go b_Mo_nextToken_118 (st' := ([.int ((mx_wr M2 119 14 (nI t)) 119 11), .int ((mx_wr M2 119 14 (nI t)) 119 12), .int ((mx_wr M2 119 14 (nI t)) 119 12), .ref 119], [some (.ref 119)], mx_wr M2 119 14 (nI t))) (φ := mx_ocl LAY 119 = 10 ∧ mx_ocl LAY 119 = 10 ∧ mx_ocl LAY 119 = 10 ∧ mx_ocl LAY 119 = 10 ∧ True) rfl ⟨oc_119, oc_119, oc_119, oc_119, trivial⟩ ?_
  refine sW_eq (st' := ([.int (nI n), .int (nI p), .int (nI p), .ref 119], [some (.ref 119)], M3)) (by simp (disch := omega) only [e3, w1, a12, w2, a11]) ?_
  refine sW_ic_ge 141 d_Mo_nextToken_134 (by decide) (fun c_134 => ?_) (fun c_134 => ?_)
  · skip
    simp (disch := omega) only [nI_leI] at c_134
    omega
  · skip
    simp (disch := omega) only [nI_leI] at c_134
    refine sW_go b_Mo_nextToken_137 (st' := ([.int (nI 1), .int (nI p), .ref 119], [some (.ref 119)], M3)) (φ := True) rfl trivial ?_
    refine sW_goto 142 d_Mo_nextToken_138 (by decide) ?_
    refine sW_go b_Mo_nextToken_142 (st' := ([.int (nI 3), .int ((mx_wr M3 119 12 (nI p + nI 1)) 119 14)], [some (.ref 119)], mx_wr M3 119 12 (nI p + nI 1))) (φ := mx_ocl LAY 119 = 10 ∧ mx_ocl LAY 119 = 10 ∧ True) rfl ⟨oc_119, oc_119, trivial⟩ ?_
    refine sW_eq (st' := ([.int (nI 3), .int (nI t)], [some (.ref 119)], M4)) (by simp (disch := omega) only [e4, nI_add, w3, b14]) ?_
    refine sW_ic_ne 277 d_Mo_nextToken_151 (by decide) (fun c_151 => ?_) (fun c_151 => ?_)
    · skip
      simp (disch := omega) only [nI_eq] at c_151
      refine sW_retV d_Mo_nextToken_277 rfl ?_
      have hnd : ¬ dig B p := fun q => c_151 (hd.mpr q)
      have hfe : fe B n p = p := fe_eq (Nat.le_refl _) (Or.inr rfl) (fun i a b => absurd b (by omega)) (fun q => hnd q.2)
      have hnx : nxA B n p = p + 1 := by unfold nxA; rw [hfe, if_neg (Nat.lt_irrefl p), if_neg (by omega)]
      have htk : tkA B n p = if isL (B p) then B p else 1003 := by unfold tkA; rw [hfe, if_neg (Nat.lt_irrefl p), if_neg (by omega)]
      refine ⟨rfl, f4, by rw [hnx]; exact h.of (b11.trans h1.symm) (f4.1 _ (by decide) (by decide)) b12 (by omega), b13, by rw [b14, htk, ← hn c_151], fun q => ?_, fun q => ?_⟩
      · rw [htk] at q
        split at q
        · omega
        · exact absurd q (by decide)
      · rw [htk] at q ⊢
        split at q
        · rename_i w; rw [if_pos w]; exact b15
        · exact absurd q (by decide)
    · skip
      simp (disch := omega) only [nI_eq] at c_151
      have hdp : dig B p := hd.mp c_151
      have ev : nI (B p) - nI 48 = nI (B p - 48) := nI_sub hdp.1
      refine sW_go b_Mo_nextToken_154 (st' := ([], [some (.ref 119)], mx_wr M4 119 15 (M4 119 15 - nI 48))) (φ := mx_ocl LAY 119 = 10 ∧ mx_ocl LAY 119 = 10 ∧ True) rfl ⟨oc_119, oc_119, trivial⟩ ?_
      refine sW_eq (st' := ([], [some (.ref 119)], mx_wr M4 119 15 (nI (B p - 48)))) (by simp (disch := omega) only [b15, ev]) ?_
      refine k_nt165 G h hp hdp (f4.wo (by decide)) (by rw [rd_n (by decide)]; exact b12) (by rw [rd_n (by decide)]; exact b13) ?_
      rw [rd_s]
      unfold valN
      rw [if_neg (by omega), if_pos rfl]
theorem k_nextToken (G : mx_G) {M : mx_M} {B : Nat → Nat} {n p : Nat} (h : MRd M B n p) : sOk G m_Mo_nextToken [.ref 119] M (fun r M' => r = none ∧ MFr M M' [] [12, 13, 14, 15] ∧ MRd M' B n (nxA B n p) ∧ TkM M' B n p) := by
  obtain ⟨h1, h2, h3, h4, h5⟩ := id h
  obtain ⟨M1, e1⟩ : ∃ M1, mx_wr M 119 13 (nI p) = M1 := ⟨_, rfl⟩
  have a11 : M1 119 11 = nI n := by rw [← e1, rd_n (by decide)]; exact h1
  have a12 : M1 119 12 = nI p := by rw [← e1, rd_n (by decide)]; exact h4
  have a13 : M1 119 13 = nI p := by rw [← e1, rd_s]
  have a127 : M1 127 = M 127 := by rw [← e1]; exact mx_wr_n _ _ _ (by decide)
  have f1 : MFr M M1 [] [12, 13, 14, 15] := by rw [← e1]; exact MFr.rf.wo (by decide)
  have w1 : mx_wr M 119 13 (nI p) 119 12 = nI p := by rw [e1]; exact a12
  have w2 : mx_wr M 119 13 (nI p) 119 11 = nI n := by rw [e1]; exact a11
  by_cases hp : p < n
  · obtain ⟨y1, y2⟩ := h3 p hp
    have a1p : M1 127 p = nI (B p) := by rw [a127]; exact y1
    obtain ⟨M2, e2⟩ : ∃ M2, mx_wr M1 119 15 (nI (B p)) = M2 := ⟨_, rfl⟩
    have b11 : M2 119 11 = nI n := by rw [← e2, rd_n (by decide)]; exact a11
    have b12 : M2 119 12 = nI p := by rw [← e2, rd_n (by decide)]; exact a12
    have b13 : M2 119 13 = nI p := by rw [← e2, rd_n (by decide)]; exact a13
    have b15 : M2 119 15 = nI (B p) := by rw [← e2, rd_s]
    have f2 : MFr M M2 [] [12, 13, 14, 15] := by rw [← e2]; exact f1.wo (by decide)
    have w3 : mx_wr M1 119 15 (nI (B p)) 119 12 = nI p := by rw [e2]; exact b12
    have w4 : mx_wr M1 119 15 (nI (B p)) 119 11 = nI n := by rw [e2]; exact b11
    refine sOk_of ⟨by decide +kernel, by decide +kernel, Nat.le_of_ble_eq_true rfl⟩ ?_
    show sW G m_Mo_nextToken 0 ([], [some (.ref 119)], M) _
    refine sW_go b_Mo_nextToken_0 (st' := ([.int ((mx_wr M 119 13 (M 119 12)) 119 11), .int ((mx_wr M 119 13 (M 119 12)) 119 12), .ref 119], [some (.ref 119)], mx_wr M 119 13 (M 119 12))) (φ := mx_ocl LAY 119 = 10 ∧ mx_ocl LAY 119 = 10 ∧ mx_ocl LAY 119 = 10 ∧ mx_ocl LAY 119 = 10 ∧ True) rfl ⟨oc_119, oc_119, oc_119, oc_119, trivial⟩ ?_
    refine sW_eq (st' := ([.int (nI n), .int (nI p), .ref 119], [some (.ref 119)], M1)) (by simp (disch := omega) only [e1, h4, w1, a12, w2, a11]) ?_
    refine sW_ic_ge 32 d_Mo_nextToken_17 (by decide) (fun c_17 => ?_) (fun c_17 => ?_)
    · skip
      simp (disch := omega) only [nI_leI] at c_17
      omega
    · skip
      simp (disch := omega) only [nI_leI] at c_17
      refine sW_go b_Mo_nextToken_20 (st' := ([.int (M1 127 (M1 119 12).toNatClampNeg), .ref 119], [some (.ref 119)], M1)) (φ := mx_ocl LAY 119 = 10 ∧ mx_ocl LAY 119 = 10 ∧ vp_in (M1 119 12) (mx_len LAY false 127) ∧ True) rfl ⟨oc_119, oc_119, (by simp (disch := omega) only [a12, ln_127]; exact vp_in_nI (by omega) (by decide)), trivial⟩ ?_
      refine sW_eq (st' := ([.int (nI (B p)), .ref 119], [some (.ref 119)], M1)) (by simp (disch := omega) only [a12, a1p, nI_clamp]) ?_
      refine sW_goto 34 d_Mo_nextToken_29 (by decide) ?_
      refine sW_go b_Mo_nextToken_34 (st' := ([.int ((mx_wr M1 119 15 (nI (B p))) 119 11), .int ((mx_wr M1 119 15 (nI (B p))) 119 12), .ref 119], [some (.ref 119)], mx_wr M1 119 15 (nI (B p)))) (φ := mx_ocl LAY 119 = 10 ∧ mx_ocl LAY 119 = 10 ∧ mx_ocl LAY 119 = 10 ∧ True) rfl ⟨oc_119, oc_119, oc_119, trivial⟩ ?_
      refine sW_eq (st' := ([.int (nI n), .int (nI p), .ref 119], [some (.ref 119)], M2)) (by simp (disch := omega) only [e2, w3, b12, w4, b11]) ?_
      refine sW_ic_ne 53 d_Mo_nextToken_46 (by decide) (fun c_46 => ?_) (fun c_46 => ?_)
      · skip
        simp (disch := omega) only [nI_eq] at c_46
        refine sW_go b_Mo_nextToken_53 (st' := ([.long (lN 122), .long (lN 97), .long (M2 119 15).toInt64, .ref 119], [some (.ref 119)], M2)) (φ := mx_ocl LAY 119 = 10 ∧ True) rfl ⟨oc_119, trivial⟩ ?_
        refine sW_eq (st' := ([.long (lN 122), .long (lN 97), .long (nI (B p)).toInt64, .ref 119], [some (.ref 119)], M2)) (by simp (disch := omega) only [b15]) ?_
        refine sW_callS [.long (nI (B p)).toInt64, .long (lN 97), .long (lN 122)] [.ref 119] d_Mo_nextToken_64 c_Mo_nextToken_64 ⟨rfl, rfl, Nat.le_of_ble_eq_true rfl, rfl, rfl⟩ (k_inN G 97 122 (by omega) (by decide) (by decide)) ?_
        rintro _ M₁ ⟨rfl, h₁⟩
        rw [h₁]
        show sW G m_Mo_nextToken 67 ([.int (tf (97 ≤ B p ∧ B p ≤ 122)), .ref 119], [some (.ref 119)], M2) _
        refine sW_if_eq 74 d_Mo_nextToken_67 (by decide) (fun c_67 => ?_) (fun c_67 => ?_)
        · skip
          replace c_67 := tf_z.mp c_67
          refine sW_go b_Mo_nextToken_74 (st' := ([.long (lN 57), .long (lN 48), .long (M2 119 15).toInt64, .ref 119], [some (.ref 119)], M2)) (φ := mx_ocl LAY 119 = 10 ∧ True) rfl ⟨oc_119, trivial⟩ ?_
          refine sW_eq (st' := ([.long (lN 57), .long (lN 48), .long (nI (B p)).toInt64, .ref 119], [some (.ref 119)], M2)) (by simp (disch := omega) only [b15]) ?_
          refine sW_callS [.long (nI (B p)).toInt64, .long (lN 48), .long (lN 57)] [.ref 119] d_Mo_nextToken_85 c_Mo_nextToken_85 ⟨rfl, rfl, Nat.le_of_ble_eq_true rfl, rfl, rfl⟩ (k_inN G 48 57 (by omega) (by decide) (by decide)) ?_
          rintro _ M₁ ⟨rfl, h₁⟩
          rw [h₁]
          show sW G m_Mo_nextToken 88 ([.int (tf (48 ≤ B p ∧ B p ≤ 57)), .ref 119], [some (.ref 119)], M2) _
          refine sW_if_eq 95 d_Mo_nextToken_88 (by decide) (fun c_88 => ?_) (fun c_88 => ?_)
          · skip
            replace c_88 := tf_z.mp c_88
            refine sW_go b_Mo_nextToken_95 (st' := ([.int (nI 44), .int (M2 119 15), .ref 119], [some (.ref 119)], M2)) (φ := mx_ocl LAY 119 = 10 ∧ True) rfl ⟨oc_119, trivial⟩ ?_
            refine sW_eq (st' := ([.int (nI 44), .int (nI (B p)), .ref 119], [some (.ref 119)], M2)) (by simp (disch := omega) only [b15]) ?_
            refine sW_ic_eq 113 d_Mo_nextToken_101 (by decide) (fun c_101 => ?_) (fun c_101 => ?_)
            · skip
              simp (disch := omega) only [nI_eq] at c_101
              refine sW_go b_Mo_nextToken_113 (st' := ([.int (nI 4), .ref 119], [some (.ref 119)], M2)) (φ := True) rfl trivial ?_
              refine sW_goto 118 d_Mo_nextToken_114 (by decide) ?_
              exact k_nt118 G h hp f2 b12 b13 b15 (by decide) ⟨fun q => absurd q (by decide), fun q => absurd q c_88⟩ (fun _ => by rw [if_pos (Or.inr (Or.inl c_101)), c_101]; rfl)
            · skip
              simp (disch := omega) only [nI_eq] at c_101
              refine sW_go b_Mo_nextToken_104 (st' := ([.int (nI 59), .int (M2 119 15), .ref 119], [some (.ref 119)], M2)) (φ := mx_ocl LAY 119 = 10 ∧ True) rfl ⟨oc_119, trivial⟩ ?_
              refine sW_eq (st' := ([.int (nI 59), .int (nI (B p)), .ref 119], [some (.ref 119)], M2)) (by simp (disch := omega) only [b15]) ?_
              refine sW_ic_ne 117 d_Mo_nextToken_110 (by decide) (fun c_110 => ?_) (fun c_110 => ?_)
              · skip
                simp (disch := omega) only [nI_eq] at c_110
                refine sW_go b_Mo_nextToken_117 (st' := ([.int (nI 0), .ref 119], [some (.ref 119)], M2)) (φ := True) rfl trivial ?_
                exact k_nt118 G h hp f2 b12 b13 b15 (by decide) ⟨fun q => absurd q (by decide), fun q => absurd q c_88⟩ (fun _ => by rw [if_neg (fun q => q.elim c_67 (fun z => z.elim c_101 c_110))]; rfl)
              · skip
                simp (disch := omega) only [nI_eq] at c_110
                refine sW_go b_Mo_nextToken_113 (st' := ([.int (nI 4), .ref 119], [some (.ref 119)], M2)) (φ := True) rfl trivial ?_
                refine sW_goto 118 d_Mo_nextToken_114 (by decide) ?_
                exact k_nt118 G h hp f2 b12 b13 b15 (by decide) ⟨fun q => absurd q (by decide), fun q => absurd q c_88⟩ (fun _ => by rw [if_pos (Or.inr (Or.inr c_110)), c_110]; rfl)
          · skip
            replace c_88 := tf_nz.mp c_88
            refine sW_go b_Mo_nextToken_91 (st' := ([.int (nI 3), .ref 119], [some (.ref 119)], M2)) (φ := True) rfl trivial ?_
            refine sW_goto 118 d_Mo_nextToken_92 (by decide) ?_
            exact k_nt118 G h hp f2 b12 b13 b15 (by decide) ⟨fun _ => c_88, fun _ => rfl⟩ (fun q => absurd rfl q)
        · skip
          replace c_67 := tf_nz.mp c_67
          refine sW_go b_Mo_nextToken_70 (st' := ([.int (nI 2), .ref 119], [some (.ref 119)], M2)) (φ := True) rfl trivial ?_
          refine sW_goto 118 d_Mo_nextToken_71 (by decide) ?_
          refine k_nt118 G h hp f2 b12 b13 b15 (by decide) ⟨fun q => absurd q (by decide), fun q => absurd q.2 (by omega)⟩ (fun _ => ?_)
          rw [if_pos (Or.inl c_67)]
          unfold mtk
          rw [if_neg (by omega), if_neg (by omega), if_neg (by omega), if_neg (by omega)]
      · skip
        simp (disch := omega) only [nI_eq] at c_46
        refine sW_go b_Mo_nextToken_49 (st' := ([.int (nI 1), .ref 119], [some (.ref 119)], M2)) (φ := True) rfl trivial ?_
        refine sW_goto 118 d_Mo_nextToken_50 (by decide) ?_
        omega
  · have hpe : p = n := by omega
    have hfe : fe B n p = p := fe_eq (Nat.le_refl _) (Or.inr rfl) (fun i a b => absurd b (by omega)) (fun q => hp q.1)
    have hnx : nxA B n p = p := by unfold nxA; rw [hfe, if_neg (Nat.lt_irrefl p), if_pos (by omega)]
    have htk : tkA B n p = 1002 := by unfold tkA; rw [hfe, if_neg (Nat.lt_irrefl p), if_pos (by omega)]
    obtain ⟨M2, e2⟩ : ∃ M2, mx_wr M1 119 15 (-1000000) = M2 := ⟨_, rfl⟩
    obtain ⟨M3, e3⟩ : ∃ M3, mx_wr M2 119 14 (nI 1) = M3 := ⟨_, rfl⟩
    obtain ⟨M4, e4⟩ : ∃ M4, mx_wr M3 119 12 (nI p) = M4 := ⟨_, rfl⟩
    have b11 : M2 119 11 = nI n := by rw [← e2, rd_n (by decide)]; exact a11
    have b12 : M2 119 12 = nI p := by rw [← e2, rd_n (by decide)]; exact a12
    have d11 : M3 119 11 = nI n := by rw [← e3, rd_n (by decide)]; exact b11
    have d12 : M3 119 12 = nI p := by rw [← e3, rd_n (by decide)]; exact b12
    have g14 : M4 119 14 = nI 1 := by rw [← e4, rd_n (by decide), ← e3, rd_s]
    have w3 : mx_wr M1 119 15 (-1000000) 119 12 = nI p := by rw [e2]; exact b12
    have w4 : mx_wr M1 119 15 (-1000000) 119 11 = nI n := by rw [e2]; exact b11
    have w5 : mx_wr M2 119 14 (nI 1) 119 12 = nI p := by rw [e3]; exact d12
    have w6 : mx_wr M2 119 14 (nI 1) 119 11 = nI n := by rw [e3]; exact d11
    have w7 : mx_wr M3 119 12 (nI p) 119 14 = nI 1 := by rw [e4]; exact g14
    have f4 : MFr M M4 [] [12, 13, 14, 15] := by rw [← e4, ← e3, ← e2]; exact ((f1.wo (by decide)).wo (by decide)).wo (by decide)
    refine sOk_of ⟨by decide +kernel, by decide +kernel, Nat.le_of_ble_eq_true rfl⟩ ?_
    show sW G m_Mo_nextToken 0 ([], [some (.ref 119)], M) _
    refine sW_go b_Mo_nextToken_0 (st' := ([.int ((mx_wr M 119 13 (M 119 12)) 119 11), .int ((mx_wr M 119 13 (M 119 12)) 119 12), .ref 119], [some (.ref 119)], mx_wr M 119 13 (M 119 12))) (φ := mx_ocl LAY 119 = 10 ∧ mx_ocl LAY 119 = 10 ∧ mx_ocl LAY 119 = 10 ∧ mx_ocl LAY 119 = 10 ∧ True) rfl ⟨oc_119, oc_119, oc_119, oc_119, trivial⟩ ?_
    refine sW_eq (st' := ([.int (nI n), .int (nI p), .ref 119], [some (.ref 119)], M1)) (by simp (disch := omega) only [e1, h4, w1, a12, w2, a11]) ?_
    refine sW_ic_ge 32 d_Mo_nextToken_17 (by decide) (fun c_17 => ?_) (fun c_17 => ?_)
    · skip
      simp (disch := omega) only [nI_leI] at c_17
      refine sW_go b_Mo_nextToken_32 (st' := ([.int (-1000000), .ref 119], [some (.ref 119)], M1)) (φ := True) rfl trivial ?_
      refine sW_go b_Mo_nextToken_34 (st' := ([.int ((mx_wr M1 119 15 (-1000000)) 119 11), .int ((mx_wr M1 119 15 (-1000000)) 119 12), .ref 119], [some (.ref 119)], mx_wr M1 119 15 (-1000000))) (φ := mx_ocl LAY 119 = 10 ∧ mx_ocl LAY 119 = 10 ∧ mx_ocl LAY 119 = 10 ∧ True) rfl ⟨oc_119, oc_119, oc_119, trivial⟩ ?_
      refine sW_eq (st' := ([.int (nI n), .int (nI p), .ref 119], [some (.ref 119)], M2)) (by simp (disch := omega) only [e2, w3, b12, w4, b11]) ?_
      refine sW_ic_ne 53 d_Mo_nextToken_46 (by decide) (fun c_46 => ?_) (fun c_46 => ?_)
      · skip
        simp (disch := omega) only [nI_eq] at c_46
        exact absurd hpe c_46
      · skip
        simp (disch := omega) only [nI_eq] at c_46
        refine sW_go b_Mo_nextToken_49 (st' := ([.int (nI 1), .ref 119], [some (.ref 119)], M2)) (φ := True) rfl trivial ?_
        refine sW_goto 118 d_Mo_nextToken_50 (by decide) ?_
        refine sW_go b_Mo_nextToken_118 (st' := ([.int ((mx_wr M2 119 14 (nI 1)) 119 11), .int ((mx_wr M2 119 14 (nI 1)) 119 12), .int ((mx_wr M2 119 14 (nI 1)) 119 12), .ref 119], [some (.ref 119)], mx_wr M2 119 14 (nI 1))) (φ := mx_ocl LAY 119 = 10 ∧ mx_ocl LAY 119 = 10 ∧ mx_ocl LAY 119 = 10 ∧ mx_ocl LAY 119 = 10 ∧ True) rfl ⟨oc_119, oc_119, oc_119, oc_119, trivial⟩ ?_
        refine sW_eq (st' := ([.int (nI n), .int (nI p), .int (nI p), .ref 119], [some (.ref 119)], M3)) (by simp (disch := omega) only [e3, w5, d12, w6, d11]) ?_
        refine sW_ic_ge 141 d_Mo_nextToken_134 (by decide) (fun c_134 => ?_) (fun c_134 => ?_)
        · skip
          simp (disch := omega) only [nI_leI] at c_134
          refine sW_go b_Mo_nextToken_141 (st' := ([.int (nI 0), .int (nI p), .ref 119], [some (.ref 119)], M3)) (φ := True) rfl trivial ?_
          refine sW_go b_Mo_nextToken_142 (st' := ([.int (nI 3), .int ((mx_wr M3 119 12 (nI p + nI 0)) 119 14)], [some (.ref 119)], mx_wr M3 119 12 (nI p + nI 0))) (φ := mx_ocl LAY 119 = 10 ∧ mx_ocl LAY 119 = 10 ∧ True) rfl ⟨oc_119, oc_119, trivial⟩ ?_
          refine sW_eq (st' := ([.int (nI 3), .int (nI 1)], [some (.ref 119)], M4)) (by simp (disch := omega) only [Nat.add_zero, e4, nI_add, w7, g14]) ?_
          refine sW_ic_ne 277 d_Mo_nextToken_151 (by decide) (fun c_151 => ?_) (fun c_151 => ?_)
          · skip
            simp (disch := omega) only [nI_eq] at c_151
            refine sW_retV d_Mo_nextToken_277 rfl ?_
            refine ⟨rfl, f4, by rw [hnx]; exact h.of ((f4.2 11 (by decide))) (f4.1 _ (by decide) (by decide)) (by rw [← e4, rd_s]) h5, ?_, by rw [g14, htk]; rfl, fun q => absurd (htk.symm.trans q) (by decide), fun q => absurd q (by rw [htk]; decide)⟩
            rw [← e4, rd_n (by decide), ← e3, rd_n (by decide), ← e2, rd_n (by decide)]
            exact a13
          · skip
            exact absurd c_151 (by decide +kernel)
        · skip
          simp (disch := omega) only [nI_leI] at c_134
          omega
    · skip
      simp (disch := omega) only [nI_leI] at c_17
      omega

