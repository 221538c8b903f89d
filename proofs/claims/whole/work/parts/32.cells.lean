theorem SetsL.l256 {M : mx_M} {q : Nat} {L : List Nat} (h : SetsL M q L) {s : Nat} (hs : s ∈ L) : s < 256 := by
  obtain ⟨f, h⟩ := h
  exact h.2.2.1 s hs
theorem SetsL.len {M : mx_M} {q : Nat} {L : List Nat} (h : SetsL M q L) : L.length ≤ 256 := by
  obtain ⟨f, h⟩ := h
  exact h.len
theorem SetsL.size {M : mx_M} {q : Nat} {L : List Nat} (h : SetsL M q L) : M q 2 = nI L.length := by
  obtain ⟨f, h⟩ := h
  exact h.1
theorem SetsL.at {M : mx_M} {q : Nat} {L : List Nat} (h : SetsL M q L) {i : Nat} (hi : i < L.length) : M (q + 1) i = nI (L.getD i 0) ∧ L.getD i 0 < 256 ∧ L.getD i 0 ∈ L := by
  obtain ⟨f, h⟩ := h
  exact ⟨h.2.2.2.1 i hi, h.lt hi⟩
theorem getD_app {L l : List Nat} {i : Nat} (hi : i < L.length) : (L ++ l).getD i 0 = L.getD i 0 := by
  simp [List.getD_eq_getElem?_getD, List.getElem?_append_left hi]
theorem k_addCase (G : mx_G) {M : mx_M} {c cc t h : Nat} {hs : Hs} {X : Cx} (ho : mx_ocl LAY c = 2) (hw : HsOk hs) (hM : CxM M c hs X) (hI : CxI hs cc X) (ht : t < 256) (hh : 0 < h) (hh2 : h < 2 ^ 31) (hcl : t ∈ cMS X → ∀ m, m ∈ cMS X → m ||| t ∈ cMS X) :
    sOk G m_Cells_addCase [.ref c, .int (nI t), .int (nI h)] M (fun r M' => r = none ∧ Fr M M' c (c + 37) ∧ (∀ a, c + 8 ≤ a → a < c + 26 → M' a = M a) ∧ ∃ Y, CxM M' c hs Y ∧ CxI hs cc Y ∧ Ext h X Y ∧ (∀ u, u ∈ cMS Y ↔ u ∈ cMS X ∨ ∃ m, m ∈ cMS X ∧ u = m ||| t) ∧ cPS Y = cPS X) := by
  obtain ⟨m0, m1, m2, m3, m4, m5, m6, m7, m8, m9, m10, m11, m12, m13, m14⟩ := id hM
  have hl := m12.len
  have e1 := m12.size
  obtain ⟨f, hf⟩ := id m12
  obtain ⟨f1, f2⟩ := hf.2.2.2.2.1 t ht
  have f3 := hf.2.2.2.2.2 t ht
  have e2 : M (c + 31) t = nI (f t) := f1
  refine sOk_of ⟨by decide +kernel, by decide +kernel, Nat.le_of_ble_eq_true rfl⟩ ?_
  show sW G m_Cells_addCase 0 ([], [some (.ref c), some (.int (nI t)), some (.int (nI h)), none, none], M) _
  refine sW_go b_Cells_addCase_0 (st' := ([.int (M (c + 31) (nI t).toNatClampNeg)], [some (.ref c), some (.int (nI t)), some (.int (nI h)), none, none], M)) (φ := mx_ocl LAY c = 2 ∧ mx_ocl LAY (c + 29) = 6 ∧ vp_in (nI t) (mx_len LAY false (c + 31)) ∧ True) rfl ⟨ho, (oc_Cells_missed ho), (by simp (disch := omega) only [(ln_Sets_number (oc_Cells_missed ho))]; exact vp_in_nI (by omega) (by decide)), trivial⟩ ?_
  refine sW_eq (st' := ([.int (nI (f t))], [some (.ref c), some (.int (nI t)), some (.int (nI h)), none, none], M)) (by simp (disch := omega) only [e2, nI_clamp]) ?_
  refine sW_if_eq 13 d_Cells_addCase_9 (by decide) (fun c_9 => ?_) (fun c_9 => ?_)
  · skip
    simp (disch := omega) only [nI_z] at c_9
    refine sW_go b_Cells_addCase_13 (st' := ([], [some (.ref c), some (.int (nI t)), some (.int (nI h)), some (.int (M (c + 29) 2)), some (.int (nI 0))], M)) (φ := mx_ocl LAY c = 2 ∧ mx_ocl LAY (c + 29) = 6 ∧ True) rfl ⟨ho, (oc_Cells_missed ho), trivial⟩ ?_
    refine sW_eq (st' := ([], [some (.ref c), some (.int (nI t)), some (.int (nI h)), some (.int (nI (cMS X).length)), some (.int (nI 0))], M)) (by simp (disch := omega) only [e1]) ?_
    have hm : t ∉ cMS X := fun q => f3.mpr q c_9
    refine mx_ind (α := Nat × mx_M × Cx) (fun q => (cMS X).length - q.1) (fun q => q.1 ≤ (cMS X).length → Fr M q.2.1 c (c + 37) → (∀ a, c + 8 ≤ a → a < c + 26 → q.2.1 a = M a) → CxM q.2.1 c hs q.2.2 → CxI hs cc q.2.2 → Ext h X q.2.2 → (∀ u, u ∈ cMS q.2.2 ↔ u ∈ cMS X ∨ ∃ j, j < q.1 ∧ u = (cMS X).getD j 0 ||| t) → cPS q.2.2 = cPS X → sW G m_Cells_addCase 24 ([], [some (.ref c), some (.int (nI t)), some (.int (nI h)), some (.int (nI (cMS X).length)), some (.int (nI q.1))], q.2.1) _) ?_ (0, M, X) (Nat.zero_le _) Fr.rf (fun _ _ _ => rfl) hM hI Ext.rf (fun u => by simp) rfl
    rintro ⟨k, M2, Y⟩ ih hk i1 i2 i3 i4 i5 i6 i7
    dsimp only at ih hk i1 i2 i3 i4 i5 i6 i7 ⊢
    by_cases hkn : k < (cMS X).length
    · obtain ⟨l, el⟩ := i5.2.2.2.2.1
      obtain ⟨p0, p1, p2, p3, p4, p5, p6, p7, p8, p9, p10, p11, p12, p13, p14⟩ := id i3
      have hkl : k < (cMS Y).length := by rw [el]; simp; omega
      obtain ⟨q1, q2, q3⟩ := p12.at hkl
      have q4 : (cMS Y).getD k 0 = (cMS X).getD k 0 := by rw [el]; exact getD_app hkn
      have q5 : M2 (c + 30) k = nI ((cMS X).getD k 0) := by rw [← q4]; exact q1
      rw [q4] at q2
      refine sW_go b_Cells_addCase_24 (st' := ([.int (nI (cMS X).length), .int (nI k)], [some (.ref c), some (.int (nI t)), some (.int (nI h)), some (.int (nI (cMS X).length)), some (.int (nI k))], M2)) (φ := True) rfl trivial ?_
      refine sW_ic_ge 53 d_Cells_addCase_27 (by decide) (fun c_27 => ?_) (fun c_27 => ?_)
      · skip
        simp (disch := omega) only [nI_leI] at c_27
        refine sW_retV d_Cells_addCase_53 rfl ?_
        omega
      · skip
        simp (disch := omega) only [nI_leI] at c_27
        refine sW_go b_Cells_addCase_30 (st' := ([.int (nI h), .int (M2 (c + 30) (nI k).toNatClampNeg ||| nI t), .ref c], [some (.ref c), some (.int (nI t)), some (.int (nI h)), some (.int (nI (cMS X).length)), some (.int (nI k))], M2)) (φ := mx_ocl LAY c = 2 ∧ mx_ocl LAY (c + 29) = 6 ∧ vp_in (nI k) (mx_len LAY false (c + 30)) ∧ True) rfl ⟨ho, (oc_Cells_missed ho), (by simp (disch := omega) only [(ln_Sets_at (oc_Cells_missed ho))]; exact vp_in_nI (by omega) (by decide)), trivial⟩ ?_
        refine sW_eq (st' := ([.int (nI h), .int (nI ((cMS X).getD k 0 ||| t)), .ref c], [some (.ref c), some (.int (nI t)), some (.int (nI h)), some (.int (nI (cMS X).length)), some (.int (nI k))], M2)) (by simp (disch := omega) only [nI_clamp, nx_or, q5]) ?_
        refine sW_callV 2 [.int (nI ((cMS X).getD k 0 ||| t)), .int (nI h)] [] d_Cells_addCase_44 c_Cells_addCase_44 ⟨rfl, rfl, rfl, Nat.le_of_ble_eq_true rfl, rfl, rfl⟩ ho (k_addFunction G ho hw i3 i4 (or256 q2 ht) hh hh2) ?_
        rintro _ M3 ⟨rfl, g1, g2, Z, g3, g4, g5, g6, g7⟩
        show sW G m_Cells_addCase 47 ([], [some (.ref c), some (.int (nI t)), some (.int (nI h)), some (.int (nI (cMS X).length)), some (.int (nI k))], M3) _
        refine sW_go b_Cells_addCase_47 (st' := ([], [some (.ref c), some (.int (nI t)), some (.int (nI h)), some (.int (nI (cMS X).length)), some (.int (nI k + nI 1))], M3)) (φ := True) rfl trivial ?_
        refine sW_eq (st' := ([], [some (.ref c), some (.int (nI t)), some (.int (nI h)), some (.int (nI (cMS X).length)), some (.int (nI (k + 1)))], M3)) (by simp (disch := omega) only [nI_add]) ?_
        refine sW_goto 24 d_Cells_addCase_50 (by decide) ?_
        refine ih (k + 1, M3, Z) (by dsimp only; omega) (by dsimp only; omega) (i1.tr g1) (fun a h1 h2 => (g2 a h1 h2).trans (i2 a h1 h2)) g3 g4 (i5.tr g5) (fun u => ?_) (g7.trans i7)
        dsimp only
        rw [g6 u, i6 u]
        constructor
        · rintro ((a | ⟨j, a, b⟩) | a)
          · exact Or.inl a
          · exact Or.inr ⟨j, by omega, b⟩
          · exact Or.inr ⟨k, by omega, a⟩
        · rintro (a | ⟨j, a, b⟩)
          · exact Or.inl (Or.inl a)
          · rcases Nat.lt_or_ge j k with w | w
            · exact Or.inl (Or.inr ⟨j, w, b⟩)
            · obtain rfl : j = k := by omega
              exact Or.inr b
    · have hke : k = (cMS X).length := by omega
      refine sW_go b_Cells_addCase_24 (st' := ([.int (nI (cMS X).length), .int (nI k)], [some (.ref c), some (.int (nI t)), some (.int (nI h)), some (.int (nI (cMS X).length)), some (.int (nI k))], M2)) (φ := True) rfl trivial ?_
      refine sW_ic_ge 53 d_Cells_addCase_27 (by decide) (fun c_27 => ?_) (fun c_27 => ?_)
      · skip
        simp (disch := omega) only [nI_leI] at c_27
        refine sW_retV d_Cells_addCase_53 rfl ?_
        refine ⟨rfl, i1, i2, Y, i3, i4, i5, fun u => ?_, i7⟩
        rw [i6 u, hke]
        refine or_congr Iff.rfl ⟨fun ⟨j, a, b⟩ => ⟨(cMS X).getD j 0, (m12.at a).2.2, b⟩, fun ⟨m, a, b⟩ => ?_⟩
        obtain ⟨j, hj, rfl⟩ := List.getElem_of_mem a
        exact ⟨j, hj, by rw [b]; simp [hj]⟩
      · skip
        simp (disch := omega) only [nI_leI] at c_27
        exact absurd c_27 (by omega)
  · skip
    simp (disch := omega) only [nI_z] at c_9
    refine sW_retV d_Cells_addCase_12 rfl ?_
    have hm : t ∈ cMS X := f3.mp c_9
    refine ⟨rfl, Fr.rf, fun _ _ _ => rfl, X, hM, hI, Ext.rf, fun u => ⟨Or.inl, ?_⟩, rfl⟩
    rintro (a | ⟨m, a, b⟩)
    · exact a
    · rw [b]
      exact hcl hm m a
def prs (X : Cx) (ol orr n : Nat) (u : Nat) : Prop := ∃ i j, i < n ∧ j < (cPR X).length ∧ (i < ol → orr ≤ j) ∧ u = (cPL X).getD i 0 &&& (cPR X).getD j 0
theorem k_addPairsQ (G : mx_G) {M : mx_M} {c cc h ol orr : Nat} {hs : Hs} {X : Cx} (ho : mx_ocl LAY c = 2) (hw : HsOk hs) (hM : CxM M c hs X) (hI : CxI hs cc X) (hh : 0 < h) (hh2 : h < 2 ^ 31) (hol : ol ≤ 256) (hor : orr ≤ 256) {Q : Option Value → mx_M → Prop}
    (hQ : ∀ M' Y, Fr M M' c (c + 37) → (∀ a, c + 8 ≤ a → a < c + 26 → M' a = M a) → CxM M' c hs Y → CxI hs cc Y → Ext h X Y → (∀ u, u ∈ cPS Y ↔ u ∈ cPS X ∨ prs X ol orr (cPL X).length u) → cMS Y = cMS X → Q none M') :
    sOk G m_Cells_addPairs [.ref c, .int (nI ol), .int (nI orr), .int (nI h)] M Q := by
  obtain ⟨m0, m1, m2, m3, m4, m5, m6, m7, m8, m9, m10, m11, m12, m13, m14⟩ := id hM
  have hlL := m7.len
  have hlR := m8.len
  refine sOk_of ⟨by decide +kernel, by decide +kernel, Nat.le_of_ble_eq_true rfl⟩ ?_
  show sW G m_Cells_addPairs 0 ([], [some (.ref c), some (.int (nI ol)), some (.int (nI orr)), some (.int (nI h)), none, none], M) _
  refine sW_go b_Cells_addPairs_0 (st' := ([], [some (.ref c), some (.int (nI ol)), some (.int (nI orr)), some (.int (nI h)), some (.int (nI 0)), none], M)) (φ := True) rfl trivial ?_
  refine mx_ind (α := Nat × mx_M × Cx) (fun q => (cPL X).length - q.1) (fun q => q.1 ≤ (cPL X).length → Fr M q.2.1 c (c + 37) → (∀ a, c + 8 ≤ a → a < c + 26 → q.2.1 a = M a) → CxM q.2.1 c hs q.2.2 → CxI hs cc q.2.2 → Ext h X q.2.2 → (∀ u, u ∈ cPS q.2.2 ↔ u ∈ cPS X ∨ prs X ol orr q.1 u) → cMS q.2.2 = cMS X → sW G m_Cells_addPairs 3 ([], [some (.ref c), some (.int (nI ol)), some (.int (nI orr)), some (.int (nI h)), some (.int (nI q.1)), none], q.2.1) Q) ?_ (0, M, X) (Nat.zero_le _) Fr.rf (fun _ _ _ => rfl) hM hI Ext.rf (fun u => ⟨Or.inl, fun q => q.elim id (fun ⟨i, j, a, _⟩ => absurd a (Nat.not_lt_zero i))⟩) rfl
  rintro ⟨i, M2, Y⟩ ih hk i1 i2 i3 i4 i5 i6 i7
  dsimp only at ih hk i1 i2 i3 i4 i5 i6 i7 ⊢
  have eL : cPL Y = cPL X := by show Y.2.1.1 = X.2.1.1; rw [i5.1]
  have z1 : M2 (c + 11) 2 = nI (cPL X).length := by rw [← eL]; exact i3.2.2.2.2.2.2.2.1.size
  have inner : ∀ start : Nat, i < (cPL X).length → (∀ j, start ≤ j ↔ (i < ol → orr ≤ j)) → ∀ q : Nat × mx_M × Cx, start ≤ q.1 → Fr M q.2.1 c (c + 37) → (∀ a, c + 8 ≤ a → a < c + 26 → q.2.1 a = M a) → CxM q.2.1 c hs q.2.2 → CxI hs cc q.2.2 → Ext h X q.2.2 → (∀ u, u ∈ cPS q.2.2 ↔ (u ∈ cPS X ∨ prs X ol orr i u) ∨ ∃ j, start ≤ j ∧ j < q.1 ∧ j < (cPR X).length ∧ u = (cPL X).getD i 0 &&& (cPR X).getD j 0) → cMS q.2.2 = cMS X → q.1 ≤ 256 → sW G m_Cells_addPairs 31 ([], [some (.ref c), some (.int (nI ol)), some (.int (nI orr)), some (.int (nI h)), some (.int (nI i)), some (.int (nI q.1))], q.2.1) Q := by
    intro start hi hst
    refine mx_ind (α := Nat × mx_M × Cx) (fun q => (cPR X).length - q.1) (fun q => start ≤ q.1 → Fr M q.2.1 c (c + 37) → (∀ a, c + 8 ≤ a → a < c + 26 → q.2.1 a = M a) → CxM q.2.1 c hs q.2.2 → CxI hs cc q.2.2 → Ext h X q.2.2 → (∀ u, u ∈ cPS q.2.2 ↔ (u ∈ cPS X ∨ prs X ol orr i u) ∨ ∃ j, start ≤ j ∧ j < q.1 ∧ j < (cPR X).length ∧ u = (cPL X).getD i 0 &&& (cPR X).getD j 0) → cMS q.2.2 = cMS X → q.1 ≤ 256 → sW G m_Cells_addPairs 31 ([], [some (.ref c), some (.int (nI ol)), some (.int (nI orr)), some (.int (nI h)), some (.int (nI i)), some (.int (nI q.1))], q.2.1) Q) ?_
    rintro ⟨j, M3, Z⟩ ihj hj j1 j2 j3 j4 j5 j6 j7 j8
    dsimp only at ihj hj j1 j2 j3 j4 j5 j6 j7 j8 ⊢
    have eL3 : cPL Z = cPL X := by show Z.2.1.1 = X.2.1.1; rw [j5.1]
    have eR3 : cPR Z = cPR X := by show Z.2.1.2 = X.2.1.2; rw [j5.1]
    have y1 : M3 (c + 14) 2 = nI (cPR X).length := by rw [← eR3]; exact j3.2.2.2.2.2.2.2.2.1.size
    have y2 : M3 (c + 12) i = nI ((cPL X).getD i 0) ∧ (cPL X).getD i 0 < 256 := by
      have := j3.2.2.2.2.2.2.2.1.at (i := i) (by rw [eL3]; exact hi)
      rw [eL3] at this
      exact ⟨this.1, this.2.1⟩
    have y3 : j < (cPR X).length → M3 (c + 15) j = nI ((cPR X).getD j 0) := fun w => by
      have := j3.2.2.2.2.2.2.2.2.1.at (i := j) (by rw [eR3]; exact w)
      rw [eR3] at this
      exact this.1
    obtain ⟨y4, y5⟩ := y2
    by_cases hjn : j < (cPR X).length
    · have y6 := y3 hjn
      have y7 : (cPL X).getD i 0 &&& (cPR X).getD j 0 < 256 := Nat.lt_of_le_of_lt Nat.and_le_left y5
      refine sW_go b_Cells_addPairs_31 (st' := ([.int (M3 (c + 14) 2), .int (nI j)], [some (.ref c), some (.int (nI ol)), some (.int (nI orr)), some (.int (nI h)), some (.int (nI i)), some (.int (nI j))], M3)) (φ := mx_ocl LAY c = 2 ∧ mx_ocl LAY (c + 8) = 7 ∧ mx_ocl LAY (c + 14) = 6 ∧ True) rfl ⟨ho, (oc_Cells_ofPairs ho), (oc_Sides_rights (oc_Cells_ofPairs ho)), trivial⟩ ?_
      refine sW_eq (st' := ([.int (nI (cPR X).length), .int (nI j)], [some (.ref c), some (.int (nI ol)), some (.int (nI orr)), some (.int (nI h)), some (.int (nI i)), some (.int (nI j))], M3)) (by simp (disch := omega) only [y1]) ?_
      refine sW_ic_ge 84 d_Cells_addPairs_43 (by decide) (fun c_43 => ?_) (fun c_43 => ?_)
      · skip
        simp (disch := omega) only [nI_leI] at c_43
        refine sW_go b_Cells_addPairs_84 (st' := ([], [some (.ref c), some (.int (nI ol)), some (.int (nI orr)), some (.int (nI h)), some (.int (nI i + nI 1)), some (.int (nI j))], M3)) (φ := True) rfl trivial ?_
        refine sW_eq (st' := ([], [some (.ref c), some (.int (nI ol)), some (.int (nI orr)), some (.int (nI h)), some (.int (nI (i + 1))), some (.int (nI j))], M3)) (by simp (disch := omega) only [nI_add]) ?_
        refine sW_goto 3 d_Cells_addPairs_87 (by decide) ?_
        omega
      · skip
        simp (disch := omega) only [nI_leI] at c_43
        refine sW_go b_Cells_addPairs_46 (st' := ([.int (nI h), .int (M3 (c + 12) (nI i).toNatClampNeg &&& M3 (c + 15) (nI j).toNatClampNeg), .ref c], [some (.ref c), some (.int (nI ol)), some (.int (nI orr)), some (.int (nI h)), some (.int (nI i)), some (.int (nI j))], M3)) (φ := mx_ocl LAY c = 2 ∧ mx_ocl LAY (c + 8) = 7 ∧ mx_ocl LAY (c + 11) = 6 ∧ vp_in (nI i) (mx_len LAY false (c + 12)) ∧ mx_ocl LAY c = 2 ∧ mx_ocl LAY (c + 8) = 7 ∧ mx_ocl LAY (c + 14) = 6 ∧ vp_in (nI j) (mx_len LAY false (c + 15)) ∧ True) rfl ⟨ho, (oc_Cells_ofPairs ho), (oc_Sides_lefts (oc_Cells_ofPairs ho)), (by simp (disch := omega) only [(ln_Sets_at (oc_Sides_lefts (oc_Cells_ofPairs ho)))]; exact vp_in_nI (by omega) (by decide)), ho, (oc_Cells_ofPairs ho), (oc_Sides_rights (oc_Cells_ofPairs ho)), (by simp (disch := omega) only [(ln_Sets_at (oc_Sides_rights (oc_Cells_ofPairs ho)))]; exact vp_in_nI (by omega) (by decide)), trivial⟩ ?_
        refine sW_eq (st' := ([.int (nI h), .int (nI ((cPL X).getD i 0 &&& (cPR X).getD j 0)), .ref c], [some (.ref c), some (.int (nI ol)), some (.int (nI orr)), some (.int (nI h)), some (.int (nI i)), some (.int (nI j))], M3)) (by simp (disch := omega) only [nI_clamp, nx_and, y4, y6]) ?_
        refine sW_callV 2 [.int (nI ((cPL X).getD i 0 &&& (cPR X).getD j 0)), .int (nI h)] [] d_Cells_addPairs_75 c_Cells_addPairs_75 ⟨rfl, rfl, rfl, Nat.le_of_ble_eq_true rfl, rfl, rfl⟩ ho (k_addPair G ho hw j3 j4 y7 hh hh2) ?_
        rintro _ M4 ⟨rfl, g1, g2, Z2, g3, g4, g5, g6, g7⟩
        show sW G m_Cells_addPairs 78 ([], [some (.ref c), some (.int (nI ol)), some (.int (nI orr)), some (.int (nI h)), some (.int (nI i)), some (.int (nI j))], M4) _
        refine sW_go b_Cells_addPairs_78 (st' := ([], [some (.ref c), some (.int (nI ol)), some (.int (nI orr)), some (.int (nI h)), some (.int (nI i)), some (.int (nI j + nI 1))], M4)) (φ := True) rfl trivial ?_
        refine sW_eq (st' := ([], [some (.ref c), some (.int (nI ol)), some (.int (nI orr)), some (.int (nI h)), some (.int (nI i)), some (.int (nI (j + 1)))], M4)) (by simp (disch := omega) only [nI_add]) ?_
        refine sW_goto 31 d_Cells_addPairs_81 (by decide) ?_
        refine ihj (j + 1, M4, Z2) (by dsimp only; omega) (by dsimp only; omega) (j1.tr g1) (fun a h1 h2 => (g2 a h1 h2).trans (j2 a h1 h2)) g3 g4 (j5.tr g5) (fun u => ?_) (g7.trans j7) (by dsimp only; omega)
        dsimp only
        rw [g6 u, j6 u]
        constructor
        · rintro ((a | ⟨j', a, b, d, e⟩) | a)
          · exact Or.inl a
          · exact Or.inr ⟨j', a, by omega, d, e⟩
          · exact Or.inr ⟨j, hj, by omega, hjn, a⟩
        · rintro (a | ⟨j', a, b, d, e⟩)
          · exact Or.inl (Or.inl a)
          · rcases Nat.lt_or_ge j' j with w | w
            · exact Or.inl (Or.inr ⟨j', a, w, d, e⟩)
            · obtain rfl : j' = j := by omega
              exact Or.inr e
    · skip
      refine sW_go b_Cells_addPairs_31 (st' := ([.int (M3 (c + 14) 2), .int (nI j)], [some (.ref c), some (.int (nI ol)), some (.int (nI orr)), some (.int (nI h)), some (.int (nI i)), some (.int (nI j))], M3)) (φ := mx_ocl LAY c = 2 ∧ mx_ocl LAY (c + 8) = 7 ∧ mx_ocl LAY (c + 14) = 6 ∧ True) rfl ⟨ho, (oc_Cells_ofPairs ho), (oc_Sides_rights (oc_Cells_ofPairs ho)), trivial⟩ ?_
      refine sW_eq (st' := ([.int (nI (cPR X).length), .int (nI j)], [some (.ref c), some (.int (nI ol)), some (.int (nI orr)), some (.int (nI h)), some (.int (nI i)), some (.int (nI j))], M3)) (by simp (disch := omega) only [y1]) ?_
      refine sW_ic_ge 84 d_Cells_addPairs_43 (by decide) (fun c_43 => ?_) (fun c_43 => ?_)
      · skip
        simp (disch := omega) only [nI_leI] at c_43
        refine sW_go b_Cells_addPairs_84 (st' := ([], [some (.ref c), some (.int (nI ol)), some (.int (nI orr)), some (.int (nI h)), some (.int (nI i + nI 1)), some (.int (nI j))], M3)) (φ := True) rfl trivial ?_
        refine sW_eq (st' := ([], [some (.ref c), some (.int (nI ol)), some (.int (nI orr)), some (.int (nI h)), some (.int (nI (i + 1))), some (.int (nI j))], M3)) (by simp (disch := omega) only [nI_add]) ?_
        refine sW_goto 3 d_Cells_addPairs_87 (by decide) ?_
        refine sW_fg [false, false, false, false, false, true] ?_
        show sW G m_Cells_addPairs 3 ([], [some (.ref c), some (.int (nI ol)), some (.int (nI orr)), some (.int (nI h)), some (.int (nI (i + 1))), none], M3) _
        refine ih (i + 1, M3, Z) (by dsimp only; omega) (by dsimp only; omega) j1 j2 j3 j4 j5 (fun u => ?_) j7
        dsimp only
        rw [j6 u, or_assoc]
        refine or_congr Iff.rfl ⟨?_, ?_⟩
        · rintro (⟨i', j', a, b, d, e⟩ | ⟨j', a, b, d, e⟩)
          · exact ⟨i', j', by omega, b, d, e⟩
          · exact ⟨i, j', by omega, d, (hst j').mp a, e⟩
        · rintro ⟨i', j', a, b, d, e⟩
          rcases Nat.lt_or_ge i' i with w | w
          · exact Or.inl ⟨i', j', w, b, d, e⟩
          · obtain rfl : i' = i := by omega
            exact Or.inr ⟨j', (hst j').mpr d, by omega, b, e⟩
      · skip
        simp (disch := omega) only [nI_leI] at c_43
        exact absurd c_43 (by omega)
  refine sW_go b_Cells_addPairs_3 (st' := ([.int (M2 (c + 11) 2), .int (nI i)], [some (.ref c), some (.int (nI ol)), some (.int (nI orr)), some (.int (nI h)), some (.int (nI i)), none], M2)) (φ := mx_ocl LAY c = 2 ∧ mx_ocl LAY (c + 8) = 7 ∧ mx_ocl LAY (c + 11) = 6 ∧ True) rfl ⟨ho, (oc_Cells_ofPairs ho), (oc_Sides_lefts (oc_Cells_ofPairs ho)), trivial⟩ ?_
  refine sW_eq (st' := ([.int (nI (cPL X).length), .int (nI i)], [some (.ref c), some (.int (nI ol)), some (.int (nI orr)), some (.int (nI h)), some (.int (nI i)), none], M2)) (by simp (disch := omega) only [z1]) ?_
  refine sW_ic_ge 90 d_Cells_addPairs_15 (by decide) (fun c_15 => ?_) (fun c_15 => ?_)
  · skip
    simp (disch := omega) only [nI_leI] at c_15
    refine sW_retV d_Cells_addPairs_90 rfl ?_
    have hke : i = (cPL X).length := by omega
    subst hke
    exact hQ M2 Y i1 i2 i3 i4 i5 i6 i7
  · skip
    simp (disch := omega) only [nI_leI] at c_15
    refine sW_go b_Cells_addPairs_18 (st' := ([.int (nI ol), .int (nI i)], [some (.ref c), some (.int (nI ol)), some (.int (nI orr)), some (.int (nI h)), some (.int (nI i)), none], M2)) (φ := True) rfl trivial ?_
    refine sW_ic_ge 28 d_Cells_addPairs_21 (by decide) (fun c_21 => ?_) (fun c_21 => ?_)
    · skip
      simp (disch := omega) only [nI_leI] at c_21
      refine sW_go b_Cells_addPairs_28 (st' := ([.int (nI 0)], [some (.ref c), some (.int (nI ol)), some (.int (nI orr)), some (.int (nI h)), some (.int (nI i)), none], M2)) (φ := True) rfl trivial ?_
      refine sW_go b_Cells_addPairs_29 (st' := ([], [some (.ref c), some (.int (nI ol)), some (.int (nI orr)), some (.int (nI h)), some (.int (nI i)), some (.int (nI 0))], M2)) (φ := True) rfl trivial ?_
      exact inner 0 (by omega) (fun j => by constructor <;> intro _ <;> omega) (0, M2, Y) (Nat.zero_le _) i1 i2 i3 i4 i5 (fun u => ⟨fun q => Or.inl ((i6 u).mp q), fun q => q.elim (i6 u).mpr (fun ⟨j', _, b, _⟩ => absurd b (Nat.not_lt_zero j'))⟩) i7 (Nat.zero_le _)
    · skip
      simp (disch := omega) only [nI_leI] at c_21
      refine sW_go b_Cells_addPairs_24 (st' := ([.int (nI orr)], [some (.ref c), some (.int (nI ol)), some (.int (nI orr)), some (.int (nI h)), some (.int (nI i)), none], M2)) (φ := True) rfl trivial ?_
      refine sW_goto 29 d_Cells_addPairs_25 (by decide) ?_
      refine sW_go b_Cells_addPairs_29 (st' := ([], [some (.ref c), some (.int (nI ol)), some (.int (nI orr)), some (.int (nI h)), some (.int (nI i)), some (.int (nI orr))], M2)) (φ := True) rfl trivial ?_
      exact inner orr (by omega) (fun j => by constructor <;> intro w <;> omega) (orr, M2, Y) (Nat.le_refl _) i1 i2 i3 i4 i5 (fun u => ⟨fun q => Or.inl ((i6 u).mp q), fun q => q.elim (i6 u).mpr (fun ⟨j', a, b, _⟩ => absurd b (by dsimp only; omega))⟩) i7 (by dsimp only; omega)

