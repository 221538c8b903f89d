theorem SetsL.eq {M M' : mx_M} {q : Nat} {L : List Nat} (h : SetsL M q L) (h1 : M' q = M q) (h2 : M' (q + 1) = M (q + 1)) (h3 : M' (q + 2) = M (q + 2)) : SetsL M' q L := by
  obtain ⟨f, h⟩ := h
  refine ⟨f, ?_⟩
  unfold SetsAt
  rw [h1, h2, h3]
  exact h
theorem SetsAt.eq {M M' : mx_M} {q : Nat} {L : List Nat} {f : Nat → Nat} (h : SetsAt M q L f) (h1 : M' q = M q) (h2 : M' (q + 1) = M (q + 1)) (h3 : M' (q + 2) = M (q + 2)) : SetsAt M' q L f := by
  unfold SetsAt
  rw [h1, h2, h3]
  exact h
theorem k_addPair (G : mx_G) {M : mx_M} {c cc t h : Nat} {hs : Hs} {X : Cx} (ho : mx_ocl LAY c = 2) (hw : HsOk hs) (hM : CxM M c hs X) (hI : CxI hs cc X) (ht : t < 256) (hh : 0 < h) (hh2 : h < 2 ^ 31) :
    sOk G m_Cells_addPair [.ref c, .int (nI t), .int (nI h)] M (fun r M' => r = none ∧ Fr M M' c (c + 37) ∧ (∀ a, c + 8 ≤ a → a < c + 26 → M' a = M a) ∧ ∃ Y, CxM M' c hs Y ∧ CxI hs cc Y ∧ Ext h X Y ∧ (∀ u, u ∈ cPS Y ↔ u ∈ cPS X ∨ u = t) ∧ cMS Y = cMS X) := by
  obtain ⟨m0, m1, m2, m3, m4, m5, m6, m7, m8, m9, m10, m11, m12, m13, m14⟩ := id hM
  refine sOk_of ⟨by decide +kernel, by decide +kernel, Nat.le_of_ble_eq_true rfl⟩ ?_
  show sW G m_Cells_addPair 0 ([], [some (.ref c), some (.int (nI t)), some (.int (nI h)), none], M) _
  refine sW_go b_Cells_addPair_0 (st' := ([.int (nI 1), .int (nI t), .ref (c + 26)], [some (.ref c), some (.int (nI t)), some (.int (nI h)), none], M)) (φ := mx_ocl LAY c = 2 ∧ True) rfl ⟨ho, trivial⟩ ?_
  refine sW_callV 6 [.int (nI t), .int (nI 1)] [] d_Cells_addPair_6 c_Cells_addPair_6 ⟨rfl, rfl, rfl, Nat.le_of_ble_eq_true rfl, rfl, rfl⟩ (oc_Cells_pairSets ho) (k_Sets_addL G (oc_Cells_pairSets ho) m11 ht (by decide) (by decide)) ?_
  rintro _ M2 ⟨rfl, g1, g2, g3⟩
  show sW G m_Cells_addPair 9 ([.int (tf (t ∉ cPS X))], [some (.ref c), some (.int (nI t)), some (.int (nI h)), none], M2) _
  refine sW_if_eq 48 d_Cells_addPair_9 (by decide) (fun c_9 => ?_) (fun c_9 => ?_)
  · skip
    replace c_9 := tf_z.mp c_9
    refine sW_retV d_Cells_addPair_48 rfl ?_
    have hm : t ∈ cPS X := Classical.not_not.mp c_9
    have e2 := g3 hm
    subst e2
    exact ⟨rfl, Fr.rf, fun _ _ _ => rfl, X, hM, hI, Ext.rf, fun u => ⟨Or.inl, fun q => q.elim id (fun e => e ▸ hm)⟩, rfl⟩
  · skip
    replace c_9 := tf_nz.mp c_9
    have hm : t ∉ cPS X := c_9
    have hc := cellOf_lt hw ht
    have n0 : HsAt M2 (c + 1) hs := m0.fr g1 (by omega)
    have e4 : (mx_wr M2 (c + 32) t (nI (cellOf hs t))) c 4 = nI (cwp X) := by rw [mx_wr_n _ _ _ (by omega), g1 c (by omega)]; exact m4
    have f0 : Fr M (mx_wr (mx_wr M2 (c + 32) t (nI (cellOf hs t))) c 4 (nI (cwp X ||| cellOf hs t))) c (c + 37) := ((g1.mono (by omega) (by omega)).wr (by omega) (by omega)).wr (by omega) (by omega)
    have n6 : SetsAt (mx_wr (mx_wr M2 (c + 32) t (nI (cellOf hs t))) c 4 (nI (cwp X ||| cellOf hs t))) (c + 5) (cF X) (cf X) := by
      refine SetsAt.fr (lo := c + 32) (hi := c + 33) (SetsAt.fr (M := M2) (M' := mx_wr M2 c 4 (nI (cwp X ||| cellOf hs t))) (lo := c) (hi := c + 1) (m6.fr g1 (by omega)) (Fr.rf.wr (by omega) (by omega)) (by omega)) (fun a ha => ?_) (by omega)
      by_cases hac : a = c
      · subst hac
        rw [mx_wr_s, mx_wr_s, mx_wr_n _ _ _ (by omega)]
      · rw [mx_wr_n _ _ _ hac, mx_wr_n _ _ _ (by omega), mx_wr_n _ _ _ hac]
    refine sW_go b_Cells_addPair_12 (st' := ([.int (nI t), .ref (c + 1)], [some (.ref c), some (.int (nI t)), some (.int (nI h)), none], M2)) (φ := mx_ocl LAY c = 2 ∧ True) rfl ⟨ho, trivial⟩ ?_
    refine sW_callV 3 [.int (nI t)] [] d_Cells_addPair_17 c_Cells_addPair_17 ⟨rfl, rfl, rfl, Nat.le_of_ble_eq_true rfl, rfl, rfl⟩ (oc_Cells_house ho) (k_House_cellOf G (oc_Cells_house ho) n0 hw ht) ?_
    rintro _ M₁ ⟨rfl, h₁⟩
    rw [h₁]
    show sW G m_Cells_addPair 20 ([.int (nI (cellOf hs t))], [some (.ref c), some (.int (nI t)), some (.int (nI h)), none], M2) _
    refine sW_go b_Cells_addPair_20 (st' := ([.int (nI h), .int (nI (cellOf hs t)), .ref (c + 5)], [some (.ref c), some (.int (nI t)), some (.int (nI h)), some (.int (nI (cellOf hs t)))], mx_wr (mx_wr M2 (c + 32) (nI t).toNatClampNeg (nI (cellOf hs t))) c 4 ((mx_wr M2 (c + 32) (nI t).toNatClampNeg (nI (cellOf hs t))) c 4 ||| nI (cellOf hs t)))) (φ := mx_ocl LAY c = 2 ∧ vp_in (nI t) (mx_len LAY false (c + 32)) ∧ mx_ocl LAY c = 2 ∧ mx_ocl LAY c = 2 ∧ mx_ocl LAY c = 2 ∧ True) rfl ⟨ho, (by simp (disch := omega) only [(ln_Cells_cellOfPair ho)]; exact vp_in_nI (by omega) (by decide)), ho, ho, ho, trivial⟩ ?_
    refine sW_eq (st' := ([.int (nI h), .int (nI (cellOf hs t)), .ref (c + 5)], [some (.ref c), some (.int (nI t)), some (.int (nI h)), some (.int (nI (cellOf hs t)))], mx_wr (mx_wr M2 (c + 32) t (nI (cellOf hs t))) c 4 (nI (cwp X ||| cellOf hs t)))) (by simp (disch := omega) only [e4, nI_clamp, nx_or]) ?_
    refine sW_callV 6 [.int (nI (cellOf hs t)), .int (nI h)] [] d_Cells_addPair_44 c_Cells_addPair_44 ⟨rfl, rfl, rfl, Nat.le_of_ble_eq_true rfl, rfl, rfl⟩ (oc_Cells_found ho) (k_Sets_add G (oc_Cells_found ho) n6 hc hh hh2) ?_
    rintro _ M4 ⟨rfl, g4, g5, g6⟩
    show sW G m_Cells_addPair 47 ([.int (tf (cellOf hs t ∉ cF X))], [some (.ref c), some (.int (nI t)), some (.int (nI h)), some (.int (nI (cellOf hs t)))], M4) _
    refine sW_go b_Cells_addPair_47 (st' := ([], [some (.ref c), some (.int (nI t)), some (.int (nI h)), some (.int (nI (cellOf hs t)))], M4)) (φ := True) rfl trivial ?_
    refine sW_retV d_Cells_addPair_48 rfl ?_
    have e1 : ∀ a, (c + 8 ≤ a ∧ a < c + 26) ∨ (c + 29 ≤ a ∧ a < c + 32) ∨ (c + 33 ≤ a) ∨ (c < a ∧ a < c + 5) → M4 a = M a := by
      intro a ha
      rw [g4 a (by omega), mx_wr_n _ _ _ (by omega), mx_wr_n _ _ _ (by omega), g1 a (by omega)]
    have ec : M4 c = upd (M c) 4 (nI (cwp X ||| cellOf hs t)) := by
      rw [g4 c (by omega), mx_wr_s, mx_wr_n _ _ _ (by omega), g1 c (by omega)]
    refine ⟨rfl, f0.tr (g4.mono (by omega) (by omega)), fun a h1 h2 => e1 a (by omega), xPair hs h X t, ⟨?_, ?_, ?_, ?_, ?_, ?_, ?_, ?_, ?_, ?_, ?_, ?_, ?_, ?_, ?_⟩, xPair_I hw hI ht, xPair_ext hs h X t, fun u => by show u ∈ cPS X ++ [t] ↔ _; simp, rfl⟩
    · unfold HsAt
      rw [e1 (c + 1) (by omega), e1 (c + 1 + 1) (by omega), e1 (c + 1 + 2) (by omega), e1 (c + 1 + 3) (by omega)]
      exact m0
    · rw [ec, pk_un (by decide)]; exact m1
    · rw [ec, pk_un (by decide)]; exact m2
    · rw [ec, pk_un (by decide)]; exact m3
    · rw [ec, pk_us]; rfl
    · rw [ec, pk_un (by decide)]; exact m5
    · exact SetsAt.xadd g5 g6 n6
    · exact m7.eq (e1 _ (by omega)) (e1 _ (by omega)) (e1 _ (by omega))
    · exact m8.eq (e1 _ (by omega)) (e1 _ (by omega)) (e1 _ (by omega))
    · exact m9.eq (e1 _ (by omega)) (e1 _ (by omega)) (e1 _ (by omega))
    · exact m10.eq (e1 _ (by omega)) (e1 _ (by omega)) (e1 _ (by omega))
    · have q1 : ins (cPS X) t = cPS X ++ [t] := if_neg hm
      rw [q1] at g2
      have q2 : ∀ a, c + 26 ≤ a → a < c + 29 → M4 a = M2 a := fun a h1 h2 => by rw [g4 a (by omega), mx_wr_n _ _ _ (by omega), mx_wr_n _ _ _ (by omega)]
      exact g2.eq (q2 _ (by omega) (by omega)) (q2 _ (by omega) (by omega)) (q2 _ (by omega) (by omega))
    · exact m12.eq (e1 _ (by omega)) (e1 _ (by omega)) (e1 _ (by omega))
    · intro u hu
      rw [g4 _ (by omega), mx_wr_n _ _ _ (by omega), mx_wr_s]
      by_cases hx : u = t
      · rw [hx, pk_us]
      · rw [pk_un hx, g1 _ (by omega)]
        have hu' : u ∈ cPS X ++ [t] := hu
        exact m13 u (by simpa [hx] using hu')
    · intro v hv
      rw [e1 (c + 33) (by omega)]
      exact m14 v hv
theorem k_addFunction (G : mx_G) {M : mx_M} {c cc v h : Nat} {hs : Hs} {X : Cx} (ho : mx_ocl LAY c = 2) (hw : HsOk hs) (hM : CxM M c hs X) (hI : CxI hs cc X) (ht : v < 256) (hh : 0 < h) (hh2 : h < 2 ^ 31) :
    sOk G m_Cells_addFunction [.ref c, .int (nI v), .int (nI h)] M (fun r M' => r = none ∧ Fr M M' c (c + 37) ∧ (∀ a, c + 8 ≤ a → a < c + 26 → M' a = M a) ∧ ∃ Y, CxM M' c hs Y ∧ CxI hs cc Y ∧ Ext h X Y ∧ (∀ u, u ∈ cMS Y ↔ u ∈ cMS X ∨ u = v) ∧ cPS Y = cPS X) := by
  obtain ⟨m0, m1, m2, m3, m4, m5, m6, m7, m8, m9, m10, m11, m12, m13, m14⟩ := id hM
  have ea := an_i (bsum (sortB hs 2) hs.1) v
  refine sOk_of ⟨by decide +kernel, by decide +kernel, Nat.le_of_ble_eq_true rfl⟩ ?_
  show sW G m_Cells_addFunction 0 ([], [some (.ref c), some (.int (nI v)), some (.int (nI h)), none], M) _
  refine sW_go b_Cells_addFunction_0 (st' := ([.int (nI 1), .int (nI v), .ref (c + 29)], [some (.ref c), some (.int (nI v)), some (.int (nI h)), none], M)) (φ := mx_ocl LAY c = 2 ∧ True) rfl ⟨ho, trivial⟩ ?_
  refine sW_callV 6 [.int (nI v), .int (nI 1)] [] d_Cells_addFunction_6 c_Cells_addFunction_6 ⟨rfl, rfl, rfl, Nat.le_of_ble_eq_true rfl, rfl, rfl⟩ (oc_Cells_missed ho) (k_Sets_addL G (oc_Cells_missed ho) m12 ht (by decide) (by decide)) ?_
  rintro _ M2 ⟨rfl, g1, g2, g3⟩
  show sW G m_Cells_addFunction 9 ([.int (tf (v ∉ cMS X))], [some (.ref c), some (.int (nI v)), some (.int (nI h)), none], M2) _
  refine sW_if_eq 55 d_Cells_addFunction_9 (by decide) (fun c_9 => ?_) (fun c_9 => ?_)
  · skip
    replace c_9 := tf_z.mp c_9
    refine sW_retV d_Cells_addFunction_55 rfl ?_
    have hm : v ∈ cMS X := Classical.not_not.mp c_9
    have e2 := g3 hm
    subst e2
    exact ⟨rfl, Fr.rf, fun _ _ _ => rfl, X, hM, hI, Ext.rf, fun u => ⟨Or.inl, fun q => q.elim id (fun e => e ▸ hm)⟩, rfl⟩
  · skip
    replace c_9 := tf_nz.mp c_9
    have hm : v ∉ cMS X := c_9
    have hc := funC_lt hw v
    have n0 : HsAt M2 (c + 1) hs := m0.fr g1 (by omega)
    have n2 : M2 c 2 = nI (bsum (sortB hs 2) hs.1) := by rw [g1 c (by omega)]; exact m2
    have e4 : (mx_wr M2 (c + 33) v (nI (funC hs v))) c 5 = nI (cwf X) := by rw [mx_wr_n _ _ _ (by omega), g1 c (by omega)]; exact m5
    have f0 : Fr M (mx_wr (mx_wr M2 (c + 33) v (nI (funC hs v))) c 5 (nI (cwf X ||| funC hs v))) c (c + 37) := ((g1.mono (by omega) (by omega)).wr (by omega) (by omega)).wr (by omega) (by omega)
    have n6 : SetsAt (mx_wr (mx_wr M2 (c + 33) v (nI (funC hs v))) c 5 (nI (cwf X ||| funC hs v))) (c + 5) (cF X) (cf X) := by
      have q : ∀ a, c + 5 ≤ a → a < c + 8 → (mx_wr (mx_wr M2 (c + 33) v (nI (funC hs v))) c 5 (nI (cwf X ||| funC hs v))) a = M a := fun a h1 h2 => by rw [mx_wr_n _ _ _ (by omega), mx_wr_n _ _ _ (by omega), g1 a (by omega)]
      exact m6.eq (q _ (by omega) (by omega)) (q _ (by omega) (by omega)) (q _ (by omega) (by omega))
    refine sW_go b_Cells_addFunction_12 (st' := ([.int (M2 c 2 &&& (nI v ^^^ (-1))), .ref (c + 1)], [some (.ref c), some (.int (nI v)), some (.int (nI h)), none], M2)) (φ := mx_ocl LAY c = 2 ∧ mx_ocl LAY c = 2 ∧ True) rfl ⟨ho, ho, trivial⟩ ?_
    refine sW_eq (st' := ([.int (nI (andn (bsum (sortB hs 2) hs.1) v)), .ref (c + 1)], [some (.ref c), some (.int (nI v)), some (.int (nI h)), none], M2)) (by simp (disch := omega) only [ea, n2]) ?_
    refine sW_callV 3 [.int (nI (andn (bsum (sortB hs 2) hs.1) v))] [] d_Cells_addFunction_24 c_Cells_addFunction_24 ⟨rfl, rfl, rfl, Nat.le_of_ble_eq_true rfl, rfl, rfl⟩ (oc_Cells_house ho) (k_House_cellOf G (oc_Cells_house ho) n0 hw (funT_lt hw v)) ?_
    rintro _ M₁ ⟨rfl, h₁⟩
    rw [h₁]
    show sW G m_Cells_addFunction 27 ([.int (nI (funC hs v))], [some (.ref c), some (.int (nI v)), some (.int (nI h)), none], M2) _
    refine sW_go b_Cells_addFunction_27 (st' := ([.int (nI h), .int (nI (funC hs v)), .ref (c + 5)], [some (.ref c), some (.int (nI v)), some (.int (nI h)), some (.int (nI (funC hs v)))], mx_wr (mx_wr M2 (c + 33) (nI v).toNatClampNeg (nI (funC hs v))) c 5 ((mx_wr M2 (c + 33) (nI v).toNatClampNeg (nI (funC hs v))) c 5 ||| nI (funC hs v)))) (φ := mx_ocl LAY c = 2 ∧ vp_in (nI v) (mx_len LAY false (c + 33)) ∧ mx_ocl LAY c = 2 ∧ mx_ocl LAY c = 2 ∧ mx_ocl LAY c = 2 ∧ True) rfl ⟨ho, (by simp (disch := omega) only [(ln_Cells_cellMissing ho)]; exact vp_in_nI (by omega) (by decide)), ho, ho, ho, trivial⟩ ?_
    refine sW_eq (st' := ([.int (nI h), .int (nI (funC hs v)), .ref (c + 5)], [some (.ref c), some (.int (nI v)), some (.int (nI h)), some (.int (nI (funC hs v)))], mx_wr (mx_wr M2 (c + 33) v (nI (funC hs v))) c 5 (nI (cwf X ||| funC hs v)))) (by simp (disch := omega) only [e4, nI_clamp, nx_or]) ?_
    refine sW_callV 6 [.int (nI (funC hs v)), .int (nI h)] [] d_Cells_addFunction_51 c_Cells_addFunction_51 ⟨rfl, rfl, rfl, Nat.le_of_ble_eq_true rfl, rfl, rfl⟩ (oc_Cells_found ho) (k_Sets_add G (oc_Cells_found ho) n6 hc hh hh2) ?_
    rintro _ M4 ⟨rfl, g4, g5, g6⟩
    show sW G m_Cells_addFunction 54 ([.int (tf (funC hs v ∉ cF X))], [some (.ref c), some (.int (nI v)), some (.int (nI h)), some (.int (nI (funC hs v)))], M4) _
    refine sW_go b_Cells_addFunction_54 (st' := ([], [some (.ref c), some (.int (nI v)), some (.int (nI h)), some (.int (nI (funC hs v)))], M4)) (φ := True) rfl trivial ?_
    refine sW_retV d_Cells_addFunction_55 rfl ?_
    have e1 : ∀ a, (c + 8 ≤ a ∧ a < c + 29) ∨ (c + 32 ≤ a ∧ a < c + 33) ∨ (c + 34 ≤ a) ∨ (c < a ∧ a < c + 5) → M4 a = M a := by
      intro a ha
      rw [g4 a (by omega), mx_wr_n _ _ _ (by omega), mx_wr_n _ _ _ (by omega), g1 a (by omega)]
    have ec : M4 c = upd (M c) 5 (nI (cwf X ||| funC hs v)) := by
      rw [g4 c (by omega), mx_wr_s, mx_wr_n _ _ _ (by omega), g1 c (by omega)]
    refine ⟨rfl, f0.tr (g4.mono (by omega) (by omega)), fun a h1 h2 => e1 a (by omega), xFun hs h X v, ⟨?_, ?_, ?_, ?_, ?_, ?_, ?_, ?_, ?_, ?_, ?_, ?_, ?_, ?_, ?_⟩, xFun_I hw hI v, xFun_ext hs h X v, fun u => by show u ∈ cMS X ++ [v] ↔ _; simp, rfl⟩
    · unfold HsAt
      rw [e1 (c + 1) (by omega), e1 (c + 1 + 1) (by omega), e1 (c + 1 + 2) (by omega), e1 (c + 1 + 3) (by omega)]
      exact m0
    · rw [ec, pk_un (by decide)]; exact m1
    · rw [ec, pk_un (by decide)]; exact m2
    · rw [ec, pk_un (by decide)]; exact m3
    · rw [ec, pk_un (by decide)]; exact m4
    · rw [ec, pk_us]; rfl
    · exact SetsAt.xadd g5 g6 n6
    · exact m7.eq (e1 _ (by omega)) (e1 _ (by omega)) (e1 _ (by omega))
    · exact m8.eq (e1 _ (by omega)) (e1 _ (by omega)) (e1 _ (by omega))
    · exact m9.eq (e1 _ (by omega)) (e1 _ (by omega)) (e1 _ (by omega))
    · exact m10.eq (e1 _ (by omega)) (e1 _ (by omega)) (e1 _ (by omega))
    · exact m11.eq (e1 _ (by omega)) (e1 _ (by omega)) (e1 _ (by omega))
    · have q1 : ins (cMS X) v = cMS X ++ [v] := if_neg hm
      rw [q1] at g2
      have q2 : ∀ a, c + 29 ≤ a → a < c + 32 → M4 a = M2 a := fun a h1 h2 => by rw [g4 a (by omega), mx_wr_n _ _ _ (by omega), mx_wr_n _ _ _ (by omega)]
      exact g2.eq (q2 _ (by omega) (by omega)) (q2 _ (by omega) (by omega)) (q2 _ (by omega) (by omega))
    · intro u hu
      rw [e1 (c + 32) (by omega)]
      exact m13 u hu
    · intro u hu
      rw [g4 _ (by omega), mx_wr_n _ _ _ (by omega), mx_wr_s]
      by_cases hx : u = v
      · rw [hx, pk_us]
      · rw [pk_un hx, g1 _ (by omega)]
        have hu' : u ∈ cMS X ++ [v] := hu
        exact m14 u (by simpa [hx] using hu')

