theorem sW_mono {m : MR} {G : mx_G} {pc : Nat} {st : mx_St} {Q Q' : Option Value → mx_M → Prop} (h : sW G m pc st Q') (hq : ∀ r M', Q' r M' → Q r M') : sW G m pc st Q := by
  intro p l e s mid args below meth c Z hC hRet
  exact h p l e s mid args below meth c Z hC (fun r Λ M H locs pc ls hQ => hRet r Λ M H locs pc ls ⟨hQ.1, hq _ _ hQ.2⟩)
/-! ===== acts: the houses that can be had back ===== -/
def hsTell (hs : Hs) (j s a b : Nat) : Hs := (hs.1, hs.2.1, updN hs.2.2.1 j s, updN hs.2.2.2.1 j a, updN hs.2.2.2.2 j b)
theorem updN_id (f : Nat → Nat) (j x : Nat) : updN (updN f j x) j (f j) = f := funext (fun k => by
  by_cases h : k = j
  · rw [h, updN_s]
  · rw [updN_n _ _ h, updN_n _ _ h])
theorem hsTell_back (hs : Hs) (j s a b : Nat) : hsTell (hsTell hs j s a b) j (Sf hs j) (Af hs j) (Bf hs j) = hs := by
  show (hs.1, hs.2.1, updN (updN hs.2.2.1 j s) j (Sf hs j), updN (updN hs.2.2.2.1 j a) j (Af hs j), updN (updN hs.2.2.2.2 j b) j (Bf hs j)) = hs
  rw [updN_id, updN_id, updN_id]
def actE (M : mx_M) (n i : Nat) (H H' : Hs) : Prop := ∃ t, t < n ∧ M 24 i = nI t ∧ M 25 i = nI (Sf H t) ∧ M 26 i = nI (Af H t) ∧ M 27 i = nI (Bf H t) ∧ H = hsTell H' t (Sf H t) (Af H t) (Bf H t)
def ActsAt (M : mx_M) (hs : Hs) (A : List Hs) : Prop := M 23 4 = nI A.length ∧ A.length ≤ 24 ∧ ∀ i, i < A.length → actE M hs.1 i (A.getD i hs) (A.getD (i + 1) hs)
theorem ActsAt.fr {M M' : mx_M} {lo hi : Nat} {hs : Hs} {A : List Hs} (h : ActsAt M hs A) (hf : Fr M M' lo hi) (hd : 28 ≤ lo ∨ hi ≤ 23) : ActsAt M' hs A := by
  obtain ⟨h1, h2, h3⟩ := h
  refine ⟨?_, h2, fun i hi => ?_⟩
  · rw [hf 23 (by omega)]; exact h1
  · obtain ⟨t, a, b⟩ := h3 i hi
    refine ⟨t, a, ?_⟩
    rw [hf 24 (by omega), hf 25 (by omega), hf 26 (by omega), hf 27 (by omega)]
    exact b
def anewA (A : List Hs) (hs : Hs) : List Hs := (if A.length = 24 then A.drop 1 else A) ++ [hs]
theorem k_forgetOldest (G : mx_G) {M : mx_M} {hs : Hs} {A : List Hs} (hA : ActsAt M hs A) (h24 : A.length = 24) : sOk G m_Acts_forgetOldest [.ref 23] M (fun r M' => r = none ∧ Fr M M' 23 28 ∧ ActsAt M' hs (A.drop 1)) := by
  have z0 : (mx_wr M 23 4 (nI 23)) 23 4 = nI 23 := by rw [mx_wr_s, pk_us]
  refine sOk_of ⟨by decide +kernel, by decide +kernel, Nat.le_of_ble_eq_true rfl⟩ ?_
  show sW G m_Acts_forgetOldest 0 ([], [some (.ref 23)], M) _
  refine sW_go b_Acts_forgetOldest_0 (st' := ([.int ((mx_wr M 23 4 (nI 23)) 23 4), .int (nI 0), .ref 24, .int (nI 1), .ref 24], [some (.ref 23)], mx_wr M 23 4 (nI 23))) (φ := mx_ocl LAY 23 = 0 ∧ mx_ocl LAY 23 = 0 ∧ mx_ocl LAY 23 = 0 ∧ mx_ocl LAY 23 = 0 ∧ True) rfl ⟨oc_23, oc_23, oc_23, oc_23, trivial⟩ ?_
  refine sW_eq (st' := ([.int (nI 23), .int (nI 0), .ref 24, .int (nI 1), .ref 24], [some (.ref 23)], mx_wr M 23 4 (nI 23))) (by simp (disch := omega) only [z0]) ?_
  refine sW_copy d_Acts_forgetOldest_20 c_Acts_forgetOldest_20 ⟨rfl, Nat.le_of_ble_eq_true rfl⟩ (by rw [ln_24]; decide) (by rw [ln_24]; decide) (by first | decide | (simp (disch := omega) only [nI_clamp, ln_24, ln_24]; omega)) (by first | decide | (simp (disch := omega) only [nI_clamp, ln_24, ln_24]; omega)) (by first | decide | (simp (disch := omega) only [nI_clamp, ln_24, ln_24]; omega)) (by first | decide | (simp (disch := omega) only [nI_clamp, ln_24, ln_24]; omega)) (by first | decide | (simp (disch := omega) only [nI_clamp, ln_24, ln_24]; omega)) ?_
  refine sW_eq (st' := ([], [some (.ref 23)], mx_cp (mx_wr M 23 4 (nI 23)) 24 24 1 0 23)) (by simp (disch := omega) only [nI_clamp]) ?_
  have e1 : ∀ a, a ≠ 24 → (mx_cp (mx_wr M 23 4 (nI 23)) 24 24 1 0 23) a = (mx_wr M 23 4 (nI 23)) a := fun a ha => mx_cp_n _ _ _ _ _ ha
  have e2 : (mx_cp (mx_wr M 23 4 (nI 23)) 24 24 1 0 23) 24 = va_cpy (M 24) (M 24) 1 0 23 := by rw [mx_cp_s, mx_wr_n _ _ _ (by decide)]
  generalize hM1 : (mx_cp (mx_wr M 23 4 (nI 23)) 24 24 1 0 23) = M1 at e1 e2 ⊢
  have z1 : M1 23 4 = nI 23 := by rw [e1 23 (by decide)]; exact z0
  refine sW_go b_Acts_forgetOldest_23 (st' := ([.int (M1 23 4), .int (nI 0), .ref 25, .int (nI 1), .ref 25], [some (.ref 23)], M1)) (φ := mx_ocl LAY 23 = 0 ∧ mx_ocl LAY 23 = 0 ∧ mx_ocl LAY 23 = 0 ∧ True) rfl ⟨oc_23, oc_23, oc_23, trivial⟩ ?_
  refine sW_eq (st' := ([.int (nI 23), .int (nI 0), .ref 25, .int (nI 1), .ref 25], [some (.ref 23)], M1)) (by simp (disch := omega) only [z1]) ?_
  refine sW_copy d_Acts_forgetOldest_37 c_Acts_forgetOldest_37 ⟨rfl, Nat.le_of_ble_eq_true rfl⟩ (by rw [ln_25]; decide) (by rw [ln_25]; decide) (by first | decide | (simp (disch := omega) only [nI_clamp, ln_25, ln_25]; omega)) (by first | decide | (simp (disch := omega) only [nI_clamp, ln_25, ln_25]; omega)) (by first | decide | (simp (disch := omega) only [nI_clamp, ln_25, ln_25]; omega)) (by first | decide | (simp (disch := omega) only [nI_clamp, ln_25, ln_25]; omega)) (by first | decide | (simp (disch := omega) only [nI_clamp, ln_25, ln_25]; omega)) ?_
  refine sW_eq (st' := ([], [some (.ref 23)], mx_cp M1 25 25 1 0 23)) (by simp (disch := omega) only [nI_clamp]) ?_
  have e3 : ∀ a, a ≠ 25 → (mx_cp M1 25 25 1 0 23) a = M1 a := fun a ha => mx_cp_n _ _ _ _ _ ha
  have e4 : (mx_cp M1 25 25 1 0 23) 25 = va_cpy (M1 25) (M1 25) 1 0 23 := mx_cp_s _ _ _ _ _ _
  generalize hM2 : (mx_cp M1 25 25 1 0 23) = M2 at e3 e4 ⊢
  have z2 : M2 23 4 = nI 23 := by rw [e3 23 (by decide)]; exact z1
  refine sW_go b_Acts_forgetOldest_40 (st' := ([.int (M2 23 4), .int (nI 0), .ref 26, .int (nI 1), .ref 26], [some (.ref 23)], M2)) (φ := mx_ocl LAY 23 = 0 ∧ mx_ocl LAY 23 = 0 ∧ mx_ocl LAY 23 = 0 ∧ True) rfl ⟨oc_23, oc_23, oc_23, trivial⟩ ?_
  refine sW_eq (st' := ([.int (nI 23), .int (nI 0), .ref 26, .int (nI 1), .ref 26], [some (.ref 23)], M2)) (by simp (disch := omega) only [z2]) ?_
  refine sW_copy d_Acts_forgetOldest_54 c_Acts_forgetOldest_54 ⟨rfl, Nat.le_of_ble_eq_true rfl⟩ (by rw [ln_26]; decide) (by rw [ln_26]; decide) (by first | decide | (simp (disch := omega) only [nI_clamp, ln_26, ln_26]; omega)) (by first | decide | (simp (disch := omega) only [nI_clamp, ln_26, ln_26]; omega)) (by first | decide | (simp (disch := omega) only [nI_clamp, ln_26, ln_26]; omega)) (by first | decide | (simp (disch := omega) only [nI_clamp, ln_26, ln_26]; omega)) (by first | decide | (simp (disch := omega) only [nI_clamp, ln_26, ln_26]; omega)) ?_
  refine sW_eq (st' := ([], [some (.ref 23)], mx_cp M2 26 26 1 0 23)) (by simp (disch := omega) only [nI_clamp]) ?_
  have e5 : ∀ a, a ≠ 26 → (mx_cp M2 26 26 1 0 23) a = M2 a := fun a ha => mx_cp_n _ _ _ _ _ ha
  have e6 : (mx_cp M2 26 26 1 0 23) 26 = va_cpy (M2 26) (M2 26) 1 0 23 := mx_cp_s _ _ _ _ _ _
  generalize hM3 : (mx_cp M2 26 26 1 0 23) = M3 at e5 e6 ⊢
  have z3 : M3 23 4 = nI 23 := by rw [e5 23 (by decide)]; exact z2
  refine sW_go b_Acts_forgetOldest_57 (st' := ([.int (M3 23 4), .int (nI 0), .ref 27, .int (nI 1), .ref 27], [some (.ref 23)], M3)) (φ := mx_ocl LAY 23 = 0 ∧ mx_ocl LAY 23 = 0 ∧ mx_ocl LAY 23 = 0 ∧ True) rfl ⟨oc_23, oc_23, oc_23, trivial⟩ ?_
  refine sW_eq (st' := ([.int (nI 23), .int (nI 0), .ref 27, .int (nI 1), .ref 27], [some (.ref 23)], M3)) (by simp (disch := omega) only [z3]) ?_
  refine sW_copy d_Acts_forgetOldest_71 c_Acts_forgetOldest_71 ⟨rfl, Nat.le_of_ble_eq_true rfl⟩ (by rw [ln_27]; decide) (by rw [ln_27]; decide) (by first | decide | (simp (disch := omega) only [nI_clamp, ln_27, ln_27]; omega)) (by first | decide | (simp (disch := omega) only [nI_clamp, ln_27, ln_27]; omega)) (by first | decide | (simp (disch := omega) only [nI_clamp, ln_27, ln_27]; omega)) (by first | decide | (simp (disch := omega) only [nI_clamp, ln_27, ln_27]; omega)) (by first | decide | (simp (disch := omega) only [nI_clamp, ln_27, ln_27]; omega)) ?_
  refine sW_eq (st' := ([], [some (.ref 23)], mx_cp M3 27 27 1 0 23)) (by simp (disch := omega) only [nI_clamp]) ?_
  refine sW_retV d_Acts_forgetOldest_74 rfl ?_
  have e7 : ∀ a, a ≠ 27 → (mx_cp M3 27 27 1 0 23) a = M3 a := fun a ha => mx_cp_n _ _ _ _ _ ha
  have e8 : (mx_cp M3 27 27 1 0 23) 27 = va_cpy (M3 27) (M3 27) 1 0 23 := mx_cp_s _ _ _ _ _ _
  generalize hM4 : (mx_cp M3 27 27 1 0 23) = M4 at e7 e8 ⊢
  have y : ∀ a, a ≠ 23 → (mx_wr M 23 4 (nI 23)) a = M a := fun a ha => mx_wr_n _ _ _ ha
  have y24 : M4 24 = va_cpy (M 24) (M 24) 1 0 23 := by rw [e7 24 (by decide), e5 24 (by decide), e3 24 (by decide), e2]
  have y25 : M4 25 = va_cpy (M 25) (M 25) 1 0 23 := by rw [e7 25 (by decide), e5 25 (by decide), e4, e1 25 (by decide), y 25 (by decide)]
  have y26 : M4 26 = va_cpy (M 26) (M 26) 1 0 23 := by rw [e7 26 (by decide), e6, e3 26 (by decide), e1 26 (by decide), y 26 (by decide)]
  have y27 : M4 27 = va_cpy (M 27) (M 27) 1 0 23 := by rw [e8, e5 27 (by decide), e3 27 (by decide), e1 27 (by decide), y 27 (by decide)]
  have y23 : M4 23 4 = nI 23 := by rw [e7 23 (by decide)]; exact z3
  have hl : (A.drop 1).length = 23 := by rw [List.length_drop, h24]
  refine ⟨rfl, fun a ha => by rw [e7 a (by omega), e5 a (by omega), e3 a (by omega), e1 a (by omega), y a (by omega)], by rw [hl]; exact y23, by omega, fun i hi => ?_⟩
  have hd : ∀ i, (A.drop 1).getD i hs = A.getD (i + 1) hs := fun i => by
    rw [List.getD_eq_getElem?_getD, List.getD_eq_getElem?_getD, List.getElem?_drop, Nat.add_comm]
  rw [hd, hd]
  obtain ⟨t, q1, q2, q3, q4, q5, q6⟩ := hA.2.2 (i + 1) (by omega)
  have hc : ∀ f : Nat → Int32, va_cpy f f 1 0 23 i = f (i + 1) := fun f => by
    rw [pk_cpy_in (by omega) (by omega)]
    congr 1
    omega
  refine ⟨t, q1, ?_, ?_, ?_, ?_, q6⟩
  · rw [y24, hc]; exact q2
  · rw [y25, hc]; exact q3
  · rw [y26, hc]; exact q4
  · rw [y27, hc]; exact q5
theorem k_keep13 (G : mx_G) {M : mx_M} {hs : Hs} {A : List Hs} {t : Nat} (hA : ActsAt M hs A) (hl : A.length < 24) (hH : HsAt M 7 hs) (ht : t < hs.1) (h8 : hs.1 ≤ 8) : sW G m_Acts_keep 13 ([], [some (.ref 23), some (.ref 7), some (.int (nI t))], M) (fun r M' => r = none ∧ Fr M M' 23 28 ∧ ∀ s a b, ActsAt M' (hsTell hs t s a b) (A ++ [hs])) := by
  obtain ⟨h1, h2, h3⟩ := hA
  obtain ⟨x1, x2, x3⟩ := hH.2.2 t ht
  have q1 : (mx_wr M 24 A.length (nI t)) 23 4 = nI A.length := by rw [mx_wr_n _ _ _ (by decide)]; exact h1
  have q2 : (mx_wr M 24 A.length (nI t)) 8 t = nI (Sf hs t) := by rw [mx_wr_n _ _ _ (by decide)]; exact x1
  have q3 : (mx_wr (mx_wr M 24 A.length (nI t)) 25 A.length (nI (Sf hs t))) 23 4 = nI A.length := by rw [mx_wr_n _ _ _ (by decide)]; exact q1
  have q4 : (mx_wr (mx_wr M 24 A.length (nI t)) 25 A.length (nI (Sf hs t))) 9 t = nI (Af hs t) := by rw [mx_wr_n _ _ _ (by decide), mx_wr_n _ _ _ (by decide)]; exact x2
  have q5 : (mx_wr (mx_wr (mx_wr M 24 A.length (nI t)) 25 A.length (nI (Sf hs t))) 26 A.length (nI (Af hs t))) 23 4 = nI A.length := by rw [mx_wr_n _ _ _ (by decide)]; exact q3
  have q6 : (mx_wr (mx_wr (mx_wr M 24 A.length (nI t)) 25 A.length (nI (Sf hs t))) 26 A.length (nI (Af hs t))) 10 t = nI (Bf hs t) := by rw [mx_wr_n _ _ _ (by decide), mx_wr_n _ _ _ (by decide), mx_wr_n _ _ _ (by decide)]; exact x3
  have q7 : (mx_wr (mx_wr (mx_wr (mx_wr M 24 A.length (nI t)) 25 A.length (nI (Sf hs t))) 26 A.length (nI (Af hs t))) 27 A.length (nI (Bf hs t))) 23 4 = nI A.length := by rw [mx_wr_n _ _ _ (by decide)]; exact q5
  refine sW_go b_Acts_keep_13 (st' := ([], [some (.ref 23), some (.ref 7), some (.int (nI t))], mx_wr (mx_wr (mx_wr (mx_wr (mx_wr M 24 (M 23 4).toNatClampNeg (nI t)) 25 ((mx_wr M 24 (M 23 4).toNatClampNeg (nI t)) 23 4).toNatClampNeg ((mx_wr M 24 (M 23 4).toNatClampNeg (nI t)) 8 (nI t).toNatClampNeg)) 26 ((mx_wr (mx_wr M 24 (M 23 4).toNatClampNeg (nI t)) 25 ((mx_wr M 24 (M 23 4).toNatClampNeg (nI t)) 23 4).toNatClampNeg ((mx_wr M 24 (M 23 4).toNatClampNeg (nI t)) 8 (nI t).toNatClampNeg)) 23 4).toNatClampNeg ((mx_wr (mx_wr M 24 (M 23 4).toNatClampNeg (nI t)) 25 ((mx_wr M 24 (M 23 4).toNatClampNeg (nI t)) 23 4).toNatClampNeg ((mx_wr M 24 (M 23 4).toNatClampNeg (nI t)) 8 (nI t).toNatClampNeg)) 9 (nI t).toNatClampNeg)) 27 ((mx_wr (mx_wr (mx_wr M 24 (M 23 4).toNatClampNeg (nI t)) 25 ((mx_wr M 24 (M 23 4).toNatClampNeg (nI t)) 23 4).toNatClampNeg ((mx_wr M 24 (M 23 4).toNatClampNeg (nI t)) 8 (nI t).toNatClampNeg)) 26 ((mx_wr (mx_wr M 24 (M 23 4).toNatClampNeg (nI t)) 25 ((mx_wr M 24 (M 23 4).toNatClampNeg (nI t)) 23 4).toNatClampNeg ((mx_wr M 24 (M 23 4).toNatClampNeg (nI t)) 8 (nI t).toNatClampNeg)) 23 4).toNatClampNeg ((mx_wr (mx_wr M 24 (M 23 4).toNatClampNeg (nI t)) 25 ((mx_wr M 24 (M 23 4).toNatClampNeg (nI t)) 23 4).toNatClampNeg ((mx_wr M 24 (M 23 4).toNatClampNeg (nI t)) 8 (nI t).toNatClampNeg)) 9 (nI t).toNatClampNeg)) 23 4).toNatClampNeg ((mx_wr (mx_wr (mx_wr M 24 (M 23 4).toNatClampNeg (nI t)) 25 ((mx_wr M 24 (M 23 4).toNatClampNeg (nI t)) 23 4).toNatClampNeg ((mx_wr M 24 (M 23 4).toNatClampNeg (nI t)) 8 (nI t).toNatClampNeg)) 26 ((mx_wr (mx_wr M 24 (M 23 4).toNatClampNeg (nI t)) 25 ((mx_wr M 24 (M 23 4).toNatClampNeg (nI t)) 23 4).toNatClampNeg ((mx_wr M 24 (M 23 4).toNatClampNeg (nI t)) 8 (nI t).toNatClampNeg)) 23 4).toNatClampNeg ((mx_wr (mx_wr M 24 (M 23 4).toNatClampNeg (nI t)) 25 ((mx_wr M 24 (M 23 4).toNatClampNeg (nI t)) 23 4).toNatClampNeg ((mx_wr M 24 (M 23 4).toNatClampNeg (nI t)) 8 (nI t).toNatClampNeg)) 9 (nI t).toNatClampNeg)) 10 (nI t).toNatClampNeg)) 23 4 ((mx_wr (mx_wr (mx_wr (mx_wr M 24 (M 23 4).toNatClampNeg (nI t)) 25 ((mx_wr M 24 (M 23 4).toNatClampNeg (nI t)) 23 4).toNatClampNeg ((mx_wr M 24 (M 23 4).toNatClampNeg (nI t)) 8 (nI t).toNatClampNeg)) 26 ((mx_wr (mx_wr M 24 (M 23 4).toNatClampNeg (nI t)) 25 ((mx_wr M 24 (M 23 4).toNatClampNeg (nI t)) 23 4).toNatClampNeg ((mx_wr M 24 (M 23 4).toNatClampNeg (nI t)) 8 (nI t).toNatClampNeg)) 23 4).toNatClampNeg ((mx_wr (mx_wr M 24 (M 23 4).toNatClampNeg (nI t)) 25 ((mx_wr M 24 (M 23 4).toNatClampNeg (nI t)) 23 4).toNatClampNeg ((mx_wr M 24 (M 23 4).toNatClampNeg (nI t)) 8 (nI t).toNatClampNeg)) 9 (nI t).toNatClampNeg)) 27 ((mx_wr (mx_wr (mx_wr M 24 (M 23 4).toNatClampNeg (nI t)) 25 ((mx_wr M 24 (M 23 4).toNatClampNeg (nI t)) 23 4).toNatClampNeg ((mx_wr M 24 (M 23 4).toNatClampNeg (nI t)) 8 (nI t).toNatClampNeg)) 26 ((mx_wr (mx_wr M 24 (M 23 4).toNatClampNeg (nI t)) 25 ((mx_wr M 24 (M 23 4).toNatClampNeg (nI t)) 23 4).toNatClampNeg ((mx_wr M 24 (M 23 4).toNatClampNeg (nI t)) 8 (nI t).toNatClampNeg)) 23 4).toNatClampNeg ((mx_wr (mx_wr M 24 (M 23 4).toNatClampNeg (nI t)) 25 ((mx_wr M 24 (M 23 4).toNatClampNeg (nI t)) 23 4).toNatClampNeg ((mx_wr M 24 (M 23 4).toNatClampNeg (nI t)) 8 (nI t).toNatClampNeg)) 9 (nI t).toNatClampNeg)) 23 4).toNatClampNeg ((mx_wr (mx_wr (mx_wr M 24 (M 23 4).toNatClampNeg (nI t)) 25 ((mx_wr M 24 (M 23 4).toNatClampNeg (nI t)) 23 4).toNatClampNeg ((mx_wr M 24 (M 23 4).toNatClampNeg (nI t)) 8 (nI t).toNatClampNeg)) 26 ((mx_wr (mx_wr M 24 (M 23 4).toNatClampNeg (nI t)) 25 ((mx_wr M 24 (M 23 4).toNatClampNeg (nI t)) 23 4).toNatClampNeg ((mx_wr M 24 (M 23 4).toNatClampNeg (nI t)) 8 (nI t).toNatClampNeg)) 23 4).toNatClampNeg ((mx_wr (mx_wr M 24 (M 23 4).toNatClampNeg (nI t)) 25 ((mx_wr M 24 (M 23 4).toNatClampNeg (nI t)) 23 4).toNatClampNeg ((mx_wr M 24 (M 23 4).toNatClampNeg (nI t)) 8 (nI t).toNatClampNeg)) 9 (nI t).toNatClampNeg)) 10 (nI t).toNatClampNeg)) 23 4 + nI 1))) (φ := mx_ocl LAY 23 = 0 ∧ mx_ocl LAY 23 = 0 ∧ vp_in (M 23 4) (mx_len LAY false 24) ∧ mx_ocl LAY 23 = 0 ∧ mx_ocl LAY 23 = 0 ∧ mx_ocl LAY 7 = 3 ∧ vp_in (nI t) (mx_len LAY false 8) ∧ vp_in ((mx_wr M 24 (M 23 4).toNatClampNeg (nI t)) 23 4) (mx_len LAY false 25) ∧ mx_ocl LAY 23 = 0 ∧ mx_ocl LAY 23 = 0 ∧ mx_ocl LAY 7 = 3 ∧ vp_in (nI t) (mx_len LAY false 9) ∧ vp_in ((mx_wr (mx_wr M 24 (M 23 4).toNatClampNeg (nI t)) 25 ((mx_wr M 24 (M 23 4).toNatClampNeg (nI t)) 23 4).toNatClampNeg ((mx_wr M 24 (M 23 4).toNatClampNeg (nI t)) 8 (nI t).toNatClampNeg)) 23 4) (mx_len LAY false 26) ∧ mx_ocl LAY 23 = 0 ∧ mx_ocl LAY 23 = 0 ∧ mx_ocl LAY 7 = 3 ∧ vp_in (nI t) (mx_len LAY false 10) ∧ vp_in ((mx_wr (mx_wr (mx_wr M 24 (M 23 4).toNatClampNeg (nI t)) 25 ((mx_wr M 24 (M 23 4).toNatClampNeg (nI t)) 23 4).toNatClampNeg ((mx_wr M 24 (M 23 4).toNatClampNeg (nI t)) 8 (nI t).toNatClampNeg)) 26 ((mx_wr (mx_wr M 24 (M 23 4).toNatClampNeg (nI t)) 25 ((mx_wr M 24 (M 23 4).toNatClampNeg (nI t)) 23 4).toNatClampNeg ((mx_wr M 24 (M 23 4).toNatClampNeg (nI t)) 8 (nI t).toNatClampNeg)) 23 4).toNatClampNeg ((mx_wr (mx_wr M 24 (M 23 4).toNatClampNeg (nI t)) 25 ((mx_wr M 24 (M 23 4).toNatClampNeg (nI t)) 23 4).toNatClampNeg ((mx_wr M 24 (M 23 4).toNatClampNeg (nI t)) 8 (nI t).toNatClampNeg)) 9 (nI t).toNatClampNeg)) 23 4) (mx_len LAY false 27) ∧ mx_ocl LAY 23 = 0 ∧ mx_ocl LAY 23 = 0 ∧ True) rfl ⟨oc_23, oc_23, (by simp (disch := omega) only [h1, ln_24]; exact vp_in_nI (by omega) (by decide)), oc_23, oc_23, oc_7, (by simp (disch := omega) only [ln_8]; exact vp_in_nI (by omega) (by decide)), (by simp (disch := omega) only [h1, nI_clamp, q1, ln_25]; exact vp_in_nI (by omega) (by decide)), oc_23, oc_23, oc_7, (by simp (disch := omega) only [ln_9]; exact vp_in_nI (by omega) (by decide)), (by simp (disch := omega) only [h1, nI_clamp, q1, q2, q3, ln_26]; exact vp_in_nI (by omega) (by decide)), oc_23, oc_23, oc_7, (by simp (disch := omega) only [ln_10]; exact vp_in_nI (by omega) (by decide)), (by simp (disch := omega) only [h1, nI_clamp, q1, q2, q3, q4, q5, ln_27]; exact vp_in_nI (by omega) (by decide)), oc_23, oc_23, trivial⟩ ?_
  refine sW_eq (st' := ([], [some (.ref 23), some (.ref 7), some (.int (nI t))], mx_wr (mx_wr (mx_wr (mx_wr (mx_wr M 24 A.length (nI t)) 25 A.length (nI (Sf hs t))) 26 A.length (nI (Af hs t))) 27 A.length (nI (Bf hs t))) 23 4 (nI (A.length + 1)))) (by simp (disch := omega) only [h1, nI_add, nI_clamp, q1, q2, q3, q4, q5, q6, q7]) ?_
  refine sW_retV d_Acts_keep_78 rfl ?_
  refine ⟨rfl, ((((Fr.rf.wr (by decide) (by decide)).wr (by decide) (by decide)).wr (by decide) (by decide)).wr (by decide) (by decide)).wr (by decide) (by decide), fun s a b => ?_⟩
  have hlen : (A ++ [hs]).length = A.length + 1 := by simp
  have e24 : ∀ i, i ≠ A.length → (mx_wr (mx_wr (mx_wr (mx_wr (mx_wr M 24 A.length (nI t)) 25 A.length (nI (Sf hs t))) 26 A.length (nI (Af hs t))) 27 A.length (nI (Bf hs t))) 23 4 (nI (A.length + 1))) 24 i = M 24 i := fun i hi => by
    rw [mx_wr_n _ _ _ (by decide), mx_wr_n _ _ _ (by decide), mx_wr_n _ _ _ (by decide), mx_wr_n _ _ _ (by decide), mx_wr_s, pk_un hi]
  have e25 : ∀ i, i ≠ A.length → (mx_wr (mx_wr (mx_wr (mx_wr (mx_wr M 24 A.length (nI t)) 25 A.length (nI (Sf hs t))) 26 A.length (nI (Af hs t))) 27 A.length (nI (Bf hs t))) 23 4 (nI (A.length + 1))) 25 i = M 25 i := fun i hi => by
    rw [mx_wr_n _ _ _ (by decide), mx_wr_n _ _ _ (by decide), mx_wr_n _ _ _ (by decide), mx_wr_s, pk_un hi, mx_wr_n _ _ _ (by decide)]
  have e26 : ∀ i, i ≠ A.length → (mx_wr (mx_wr (mx_wr (mx_wr (mx_wr M 24 A.length (nI t)) 25 A.length (nI (Sf hs t))) 26 A.length (nI (Af hs t))) 27 A.length (nI (Bf hs t))) 23 4 (nI (A.length + 1))) 26 i = M 26 i := fun i hi => by
    rw [mx_wr_n _ _ _ (by decide), mx_wr_n _ _ _ (by decide), mx_wr_s, pk_un hi, mx_wr_n _ _ _ (by decide), mx_wr_n _ _ _ (by decide)]
  have e27 : ∀ i, i ≠ A.length → (mx_wr (mx_wr (mx_wr (mx_wr (mx_wr M 24 A.length (nI t)) 25 A.length (nI (Sf hs t))) 26 A.length (nI (Af hs t))) 27 A.length (nI (Bf hs t))) 23 4 (nI (A.length + 1))) 27 i = M 27 i := fun i hi => by
    rw [mx_wr_n _ _ _ (by decide), mx_wr_s, pk_un hi, mx_wr_n _ _ _ (by decide), mx_wr_n _ _ _ (by decide), mx_wr_n _ _ _ (by decide)]
  refine ⟨?_, by omega, fun i hi => ?_⟩
  · rw [hlen, mx_wr_s, pk_us]
  · by_cases hx : i = A.length
    · subst hx
      have g1 : (A ++ [hs]).getD A.length (hsTell hs t s a b) = hs := by simp [List.getD_eq_getElem?_getD]
      have g2 : (A ++ [hs]).getD (A.length + 1) (hsTell hs t s a b) = hsTell hs t s a b := by simp [List.getD_eq_getElem?_getD]
      rw [g1, g2]
      refine ⟨t, ht, ?_, ?_, ?_, ?_, (hsTell_back hs t s a b).symm⟩
      · rw [mx_wr_n _ _ _ (by decide), mx_wr_n _ _ _ (by decide), mx_wr_n _ _ _ (by decide), mx_wr_n _ _ _ (by decide), mx_wr_s, pk_us]
      · rw [mx_wr_n _ _ _ (by decide), mx_wr_n _ _ _ (by decide), mx_wr_n _ _ _ (by decide), mx_wr_s, pk_us]
      · rw [mx_wr_n _ _ _ (by decide), mx_wr_n _ _ _ (by decide), mx_wr_s, pk_us]
      · rw [mx_wr_n _ _ _ (by decide), mx_wr_s, pk_us]
    · have hi2 : i < A.length := by omega
      have g1 : (A ++ [hs]).getD i (hsTell hs t s a b) = A.getD i hs := by
        rw [List.getD_eq_getElem?_getD, List.getD_eq_getElem?_getD, List.getElem?_append_left hi2, List.getElem?_eq_getElem hi2]
        rfl
      have g2 : (A ++ [hs]).getD (i + 1) (hsTell hs t s a b) = A.getD (i + 1) hs := by
        by_cases hy : i + 1 < A.length
        · rw [List.getD_eq_getElem?_getD, List.getD_eq_getElem?_getD, List.getElem?_append_left hy, List.getElem?_eq_getElem hy]
          rfl
        · have : i + 1 = A.length := by omega
          rw [this]
          simp [List.getD_eq_getElem?_getD]
      rw [g1, g2]
      obtain ⟨t', r1, r2, r3, r4, r5, r6⟩ := h3 i hi2
      exact ⟨t', r1, (e24 i hx).trans r2, (e25 i hx).trans r3, (e26 i hx).trans r4, (e27 i hx).trans r5, r6⟩
theorem k_keep (G : mx_G) {M : mx_M} {hs : Hs} {A : List Hs} {t : Nat} (hA : ActsAt M hs A) (hH : HsAt M 7 hs) (ht : t < hs.1) (h8 : hs.1 ≤ 8) : sOk G m_Acts_keep [.ref 23, .ref 7, .int (nI t)] M (fun r M' => r = none ∧ Fr M M' 23 28 ∧ ∀ s a b, ActsAt M' (hsTell hs t s a b) (anewA A hs)) := by
  have h1 := hA.1
  have h2 := hA.2.1
  refine sOk_of ⟨by decide +kernel, by decide +kernel, Nat.le_of_ble_eq_true rfl⟩ ?_
  show sW G m_Acts_keep 0 ([], [some (.ref 23), some (.ref 7), some (.int (nI t))], M) _
  refine sW_go b_Acts_keep_0 (st' := ([.int (nI 24), .int (M 23 4)], [some (.ref 23), some (.ref 7), some (.int (nI t))], M)) (φ := mx_ocl LAY 23 = 0 ∧ True) rfl ⟨oc_23, trivial⟩ ?_
  refine sW_eq (st' := ([.int (nI 24), .int (nI A.length)], [some (.ref 23), some (.ref 7), some (.int (nI t))], M)) (by simp (disch := omega) only [h1]) ?_
  refine sW_ic_ne 13 d_Acts_keep_6 (by decide) (fun c_6 => ?_) (fun c_6 => ?_)
  · skip
    simp (disch := omega) only [nI_eq] at c_6
    refine sW_mono (k_keep13 G hA (by omega) hH ht h8) ?_
    rintro r M' ⟨a1, a2, a3⟩
    refine ⟨a1, a2, ?_⟩
    unfold anewA
    rw [if_neg (by omega)]
    exact a3
  · skip
    simp (disch := omega) only [nI_eq] at c_6
    refine sW_go b_Acts_keep_9 (st' := ([.ref 23], [some (.ref 23), some (.ref 7), some (.int (nI t))], M)) (φ := True) rfl trivial ?_
    refine sW_callV 0 [] [] d_Acts_keep_10 c_Acts_keep_10 ⟨rfl, rfl, rfl, Nat.le_of_ble_eq_true rfl, rfl, rfl⟩ oc_23 (k_forgetOldest G hA (by omega)) ?_
    rintro _ M1 ⟨rfl, f1, g1⟩
    show sW G m_Acts_keep 13 ([], [some (.ref 23), some (.ref 7), some (.int (nI t))], M1) _
    refine sW_mono (k_keep13 G g1 (by rw [List.length_drop]; omega) (hH.fr f1 (by decide)) ht h8) ?_
    rintro r M' ⟨a1, a2, a3⟩
    refine ⟨a1, f1.tr a2, ?_⟩
    unfold anewA
    rw [if_pos (by omega)]
    exact a3
theorem HsAt.tell {M : mx_M} {h j s a b : Nat} {hs : Hs} (hH : HsAt M h hs) (hj : j < hs.1) : HsAt (mx_wr (mx_wr (mx_wr M (h + 1) j (nI s)) (h + 2) j (nI a)) (h + 3) j (nI b)) h (hsTell hs j s a b) := by
  obtain ⟨h1, h2, h3⟩ := hH
  refine ⟨?_, ?_, fun k hk => ?_⟩
  · rw [mx_wr_n _ _ _ (by omega), mx_wr_n _ _ _ (by omega), mx_wr_n _ _ _ (by omega)]; exact h1
  · rw [mx_wr_n _ _ _ (by omega), mx_wr_n _ _ _ (by omega), mx_wr_n _ _ _ (by omega)]; exact h2
  · obtain ⟨x1, x2, x3⟩ := h3 k hk
    show _ = nI (updN hs.2.2.1 j s k) ∧ _ = nI (updN hs.2.2.2.1 j a k) ∧ _ = nI (updN hs.2.2.2.2 j b k)
    by_cases hx : k = j
    · subst hx
      rw [updN_s, updN_s, updN_s]
      refine ⟨?_, ?_, ?_⟩
      · rw [mx_wr_n _ _ _ (by omega), mx_wr_n _ _ _ (by omega), mx_wr_s, pk_us]
      · rw [mx_wr_n _ _ _ (by omega), mx_wr_s, pk_us]
      · rw [mx_wr_s, pk_us]
    · rw [updN_n _ _ hx, updN_n _ _ hx, updN_n _ _ hx]
      refine ⟨?_, ?_, ?_⟩
      · rw [mx_wr_n _ _ _ (by omega), mx_wr_n _ _ _ (by omega), mx_wr_s, pk_un hx]; exact x1
      · rw [mx_wr_n _ _ _ (by omega), mx_wr_s, pk_un hx, mx_wr_n _ _ _ (by omega)]; exact x2
      · rw [mx_wr_s, pk_un hx, mx_wr_n _ _ _ (by omega), mx_wr_n _ _ _ (by omega)]; exact x3
theorem k_takeBack (G : mx_G) {M : mx_M} {hs : Hs} {A : List Hs} {H : Hs} (hA : ActsAt M hs (A ++ [H])) (hH : HsAt M 7 hs) (h8 : hs.1 ≤ 8) : sOk G m_Acts_takeBack [.ref 23, .ref 7] M (fun r M' => r = none ∧ Fr M M' 7 28 ∧ (∀ a, 11 ≤ a → a < 23 → M' a = M a) ∧ HsAt M' 7 H ∧ ActsAt M' H A) := by
  obtain ⟨h1, h2, h3⟩ := hA
  have hlen : (A ++ [H]).length = A.length + 1 := by simp
  rw [hlen] at h1 h2 h3
  have g1 : (A ++ [H]).getD A.length hs = H := by simp [List.getD_eq_getElem?_getD]
  have g2 : (A ++ [H]).getD (A.length + 1) hs = hs := by simp [List.getD_eq_getElem?_getD]
  have h4 := h3 A.length (by omega)
  rw [g1, g2] at h4
  obtain ⟨t, r1, r2, r3, r4, r5, r6⟩ := h4
  have z0 : nI (A.length + 1) - nI 1 = nI A.length := sub_1 _
  have q1 : (mx_wr M 23 4 (nI A.length)) 23 4 = nI A.length := by rw [mx_wr_s, pk_us]
  have q2 : (mx_wr M 23 4 (nI A.length)) 24 A.length = nI t := by rw [mx_wr_n _ _ _ (by decide)]; exact r2
  have q3 : (mx_wr M 23 4 (nI A.length)) 25 A.length = nI (Sf H t) := by rw [mx_wr_n _ _ _ (by decide)]; exact r3
  have q4 : (mx_wr M 23 4 (nI A.length)) 26 A.length = nI (Af H t) := by rw [mx_wr_n _ _ _ (by decide)]; exact r4
  have q5 : (mx_wr M 23 4 (nI A.length)) 27 A.length = nI (Bf H t) := by rw [mx_wr_n _ _ _ (by decide)]; exact r5
  refine sOk_of ⟨by decide +kernel, by decide +kernel, Nat.le_of_ble_eq_true rfl⟩ ?_
  show sW G m_Acts_takeBack 0 ([], [some (.ref 23), some (.ref 7)], M) _
  refine sW_go b_Acts_takeBack_0 (st' := ([.int (M 23 4)], [some (.ref 23), some (.ref 7)], M)) (φ := mx_ocl LAY 23 = 0 ∧ True) rfl ⟨oc_23, trivial⟩ ?_
  refine sW_eq (st' := ([.int (nI (A.length + 1))], [some (.ref 23), some (.ref 7)], M)) (by simp (disch := omega) only [h1]) ?_
  refine sW_if_le 57 d_Acts_takeBack_4 (by decide) (fun c_4 => ?_) (fun c_4 => ?_)
  · skip
    refine sW_retV d_Acts_takeBack_57 rfl ?_
    rw [← nI_0, nI_leI (by omega) (by decide)] at c_4
    omega
  · skip
    refine sW_go b_Acts_takeBack_7 (st' := ([.int ((mx_wr M 23 4 (M 23 4 - nI 1)) 27 ((mx_wr M 23 4 (M 23 4 - nI 1)) 23 4).toNatClampNeg), .int ((mx_wr M 23 4 (M 23 4 - nI 1)) 26 ((mx_wr M 23 4 (M 23 4 - nI 1)) 23 4).toNatClampNeg), .int ((mx_wr M 23 4 (M 23 4 - nI 1)) 25 ((mx_wr M 23 4 (M 23 4 - nI 1)) 23 4).toNatClampNeg), .int ((mx_wr M 23 4 (M 23 4 - nI 1)) 24 ((mx_wr M 23 4 (M 23 4 - nI 1)) 23 4).toNatClampNeg), .ref 7], [some (.ref 23), some (.ref 7)], mx_wr M 23 4 (M 23 4 - nI 1))) (φ := mx_ocl LAY 23 = 0 ∧ mx_ocl LAY 23 = 0 ∧ mx_ocl LAY 23 = 0 ∧ mx_ocl LAY 23 = 0 ∧ vp_in ((mx_wr M 23 4 (M 23 4 - nI 1)) 23 4) (mx_len LAY false 24) ∧ mx_ocl LAY 23 = 0 ∧ mx_ocl LAY 23 = 0 ∧ vp_in ((mx_wr M 23 4 (M 23 4 - nI 1)) 23 4) (mx_len LAY false 25) ∧ mx_ocl LAY 23 = 0 ∧ mx_ocl LAY 23 = 0 ∧ vp_in ((mx_wr M 23 4 (M 23 4 - nI 1)) 23 4) (mx_len LAY false 26) ∧ mx_ocl LAY 23 = 0 ∧ mx_ocl LAY 23 = 0 ∧ vp_in ((mx_wr M 23 4 (M 23 4 - nI 1)) 23 4) (mx_len LAY false 27) ∧ True) rfl ⟨oc_23, oc_23, oc_23, oc_23, (by simp (disch := omega) only [h1, q1, z0, ln_24]; exact vp_in_nI (by omega) (by decide)), oc_23, oc_23, (by simp (disch := omega) only [h1, q1, z0, ln_25]; exact vp_in_nI (by omega) (by decide)), oc_23, oc_23, (by simp (disch := omega) only [h1, q1, z0, ln_26]; exact vp_in_nI (by omega) (by decide)), oc_23, oc_23, (by simp (disch := omega) only [h1, q1, z0, ln_27]; exact vp_in_nI (by omega) (by decide)), trivial⟩ ?_
    refine sW_eq (st' := ([.int (nI (Bf H t)), .int (nI (Af H t)), .int (nI (Sf H t)), .int (nI t), .ref 7], [some (.ref 23), some (.ref 7)], mx_wr M 23 4 (nI A.length))) (by simp (disch := omega) only [h1, nI_clamp, q1, q2, q3, q4, q5, z0]) ?_
    refine sW_callV 3 [.int (nI t), .int (nI (Sf H t)), .int (nI (Af H t)), .int (nI (Bf H t))] [] d_Acts_takeBack_54 c_Acts_takeBack_54 ⟨rfl, rfl, rfl, Nat.le_of_ble_eq_true rfl, rfl, rfl⟩ oc_7 (k_House_tell G oc_7 (by omega) (nI (Sf H t)) (nI (Af H t)) (nI (Bf H t))) ?_
    rintro _ M2 ⟨rfl, hM2⟩
    show sW G m_Acts_takeBack 57 ([], [some (.ref 23), some (.ref 7)], M2) _
    refine sW_retV d_Acts_takeBack_57 rfl ?_
    have hH' : HsAt (mx_wr M 23 4 (nI A.length)) 7 hs := hH.fr (Fr.rf.wr (lo := 23) (hi := 24) (by decide) (by decide)) (by decide)
    have hF := hH'.tell (s := Sf H t) (a := Af H t) (b := Bf H t) r1
    rw [← r6, ← hM2] at hF
    have e : ∀ a, a ≠ 8 → a ≠ 9 → a ≠ 10 → M2 a = (mx_wr M 23 4 (nI A.length)) a := fun a b1 b2 b3 => by rw [hM2, mx_wr_n _ _ _ b3, mx_wr_n _ _ _ b2, mx_wr_n _ _ _ b1]
    have e2 : ∀ a, a ≠ 8 → a ≠ 9 → a ≠ 10 → a ≠ 23 → M2 a = M a := fun a b1 b2 b3 b4 => (e a b1 b2 b3).trans (mx_wr_n _ _ _ b4)
    refine ⟨rfl, fun a ha => e2 a (by omega) (by omega) (by omega) (by omega), fun a b1 b2 => e2 a (by omega) (by omega) (by omega) (by omega), hF, ?_, by omega, fun i hi => ?_⟩
    · rw [e 23 (by decide) (by decide) (by decide)]; exact q1
    · have k1 : (A ++ [H]).getD i hs = A.getD i H := by
        rw [List.getD_eq_getElem?_getD, List.getD_eq_getElem?_getD, List.getElem?_append_left hi, List.getElem?_eq_getElem hi]
        rfl
      have k2 : (A ++ [H]).getD (i + 1) hs = A.getD (i + 1) H := by
        by_cases hy : i + 1 < A.length
        · rw [List.getD_eq_getElem?_getD, List.getD_eq_getElem?_getD, List.getElem?_append_left hy, List.getElem?_eq_getElem hy]
          rfl
        · have : i + 1 = A.length := by omega
          rw [this]
          simp [List.getD_eq_getElem?_getD]
      have hn : H.1 = hs.1 := by rw [r6]; rfl
      have := h3 i (by omega)
      rw [k1, k2] at this
      obtain ⟨t', u1, u2⟩ := this
      refine ⟨t', by omega, ?_⟩
      rw [e2 24 (by decide) (by decide) (by decide) (by decide), e2 25 (by decide) (by decide) (by decide) (by decide), e2 26 (by decide) (by decide) (by decide) (by decide), e2 27 (by decide) (by decide) (by decide) (by decide)]
      exact u2

