/-! ===== what functions miss: unions of what their cases take ===== -/
def joinl : List Nat → Nat
  | [] => 0
  | a :: l => a ||| joinl l
theorem joinl_app (a b : List Nat) : joinl (a ++ b) = joinl a ||| joinl b := by
  induction a with
  | nil => simp [joinl]
  | cons x a ih => simp only [List.cons_append, joinl, ih, Nat.or_assoc]
def Jn (T : Nat → Prop) (v : Nat) : Prop := ∃ l : List Nat, (∀ t, t ∈ l → T t) ∧ v = joinl l
theorem Jn_0 {T : Nat → Prop} : Jn T 0 := ⟨[], fun _ h => by simp at h, rfl⟩
theorem Jn_1 {T : Nat → Prop} {t : Nat} (h : T t) : Jn T t := ⟨[t], fun x hx => by simp at hx; exact hx ▸ h, by simp [joinl]⟩
theorem Jn_or {T : Nat → Prop} {a b : Nat} (ha : Jn T a) (hb : Jn T b) : Jn T (a ||| b) := by
  obtain ⟨l, h1, h2⟩ := ha
  obtain ⟨m, h3, h4⟩ := hb
  exact ⟨l ++ m, fun t ht => (List.mem_append.mp ht).elim (h1 t) (h3 t), by rw [joinl_app, h2, h4]⟩
theorem Jn_mono {T T' : Nat → Prop} (h : ∀ t, T t → T' t) {v : Nat} (hv : Jn T v) : Jn T' v := by
  obtain ⟨l, h1, h2⟩ := hv
  exact ⟨l, fun t ht => h t (h1 t ht), h2⟩
theorem Jn_congr {T T' : Nat → Prop} (h : ∀ t, T t ↔ T' t) {v : Nat} : Jn T v ↔ Jn T' v := ⟨Jn_mono (fun t => (h t).mp), Jn_mono (fun t => (h t).mpr)⟩
theorem Jn_add {T : Nat → Prop} {t v : Nat} : (Jn T v ∨ ∃ m, Jn T m ∧ v = m ||| t) ↔ Jn (fun u => T u ∨ u = t) v := by
  constructor
  · rintro (h | ⟨m, h, rfl⟩)
    · exact Jn_mono (fun _ => Or.inl) h
    · exact Jn_or (Jn_mono (fun _ => Or.inl) h) (Jn_1 (Or.inr rfl))
  · rintro ⟨l, h1, rfl⟩
    induction l with
    | nil => exact Or.inl Jn_0
    | cons a l ih =>
      have h2 := ih (fun u hu => h1 u (List.mem_cons_of_mem _ hu))
      rcases h1 a List.mem_cons_self with ha | ha
      · rcases h2 with h3 | ⟨m, h3, h4⟩
        · exact Or.inl (Jn_or (Jn_1 ha) h3)
        · refine Or.inr ⟨a ||| m, Jn_or (Jn_1 ha) h3, ?_⟩
          show a ||| joinl l = _
          rw [h4, Nat.or_assoc]
      · subst ha
        rcases h2 with h3 | ⟨m, h3, h4⟩
        · exact Or.inr ⟨joinl l, h3, Nat.or_comm _ _⟩
        · refine Or.inr ⟨m, h3, ?_⟩
          show a ||| joinl l = _
          rw [h4, Nat.or_comm, Nat.or_assoc, Nat.or_self]
def css (X : Cx) (ol orr n : Nat) (u : Nat) : Prop := ∃ i j, i < n ∧ j < (cQR X).length ∧ (i < ol → orr ≤ j) ∧ u = andn ((cQL X).getD i 0) ((cQR X).getD j 0)
theorem k_addCasesQ (G : mx_G) {M : mx_M} {c cc h ol orr : Nat} {hs : Hs} {X : Cx} (ho : mx_ocl LAY c = 2) (hw : HsOk hs) (hM : CxM M c hs X) (hI : CxI hs cc X) (hh : 0 < h) (hh2 : h < 2 ^ 31) {T0 : Nat → Prop} (hT : ∀ u, u ∈ cMS X ↔ Jn T0 u) (hol : ol ≤ 256) (hor : orr ≤ 256) {Q : Option Value → mx_M → Prop}
    (hQ : ∀ M' Y, Fr M M' c (c + 37) → (∀ a, c + 8 ≤ a → a < c + 26 → M' a = M a) → CxM M' c hs Y → CxI hs cc Y → Ext h X Y → (∀ u, u ∈ cMS Y ↔ Jn (fun t => T0 t ∨ css X ol orr (cQL X).length t) u) → cPS Y = cPS X → Q none M') :
    sOk G m_Cells_addCases [.ref c, .int (nI ol), .int (nI orr), .int (nI h)] M Q := by
  obtain ⟨m0, m1, m2, m3, m4, m5, m6, m7, m8, m9, m10, m11, m12, m13, m14⟩ := id hM
  have hlL := m9.len
  have hlR := m10.len
  refine sOk_of ⟨by decide +kernel, by decide +kernel, Nat.le_of_ble_eq_true rfl⟩ ?_
  show sW G m_Cells_addCases 0 ([], [some (.ref c), some (.int (nI ol)), some (.int (nI orr)), some (.int (nI h)), none, none], M) _
  refine sW_go b_Cells_addCases_0 (st' := ([], [some (.ref c), some (.int (nI ol)), some (.int (nI orr)), some (.int (nI h)), some (.int (nI 0)), none], M)) (φ := True) rfl trivial ?_
  refine mx_ind (α := Nat × mx_M × Cx) (fun q => (cQL X).length - q.1) (fun q => q.1 ≤ (cQL X).length → Fr M q.2.1 c (c + 37) → (∀ a, c + 8 ≤ a → a < c + 26 → q.2.1 a = M a) → CxM q.2.1 c hs q.2.2 → CxI hs cc q.2.2 → Ext h X q.2.2 → (∀ u, u ∈ cMS q.2.2 ↔ Jn (fun t => T0 t ∨ css X ol orr q.1 t) u) → cPS q.2.2 = cPS X → sW G m_Cells_addCases 3 ([], [some (.ref c), some (.int (nI ol)), some (.int (nI orr)), some (.int (nI h)), some (.int (nI q.1)), none], q.2.1) Q) ?_ (0, M, X) (Nat.zero_le _) Fr.rf (fun _ _ _ => rfl) hM hI Ext.rf (fun u => (hT u).trans (Jn_congr (fun t => ⟨Or.inl, fun q => q.elim id (fun ⟨i, j, a, _⟩ => absurd a (Nat.not_lt_zero i))⟩))) rfl
  rintro ⟨i, M2, Y⟩ ih hk i1 i2 i3 i4 i5 i6 i7
  dsimp only at ih hk i1 i2 i3 i4 i5 i6 i7 ⊢
  have eL : cQL Y = cQL X := by show Y.2.2.1.1 = X.2.2.1.1; rw [i5.2.1]
  have z1 : M2 (c + 20) 2 = nI (cQL X).length := by rw [← eL]; exact i3.2.2.2.2.2.2.2.2.2.1.size
  have inner : ∀ start : Nat, i < (cQL X).length → (∀ j, start ≤ j ↔ (i < ol → orr ≤ j)) → ∀ q : Nat × mx_M × Cx, start ≤ q.1 → Fr M q.2.1 c (c + 37) → (∀ a, c + 8 ≤ a → a < c + 26 → q.2.1 a = M a) → CxM q.2.1 c hs q.2.2 → CxI hs cc q.2.2 → Ext h X q.2.2 → (∀ u, u ∈ cMS q.2.2 ↔ Jn (fun t => (T0 t ∨ css X ol orr i t) ∨ ∃ j, start ≤ j ∧ j < q.1 ∧ j < (cQR X).length ∧ t = andn ((cQL X).getD i 0) ((cQR X).getD j 0)) u) → cPS q.2.2 = cPS X → q.1 ≤ 256 → sW G m_Cells_addCases 31 ([], [some (.ref c), some (.int (nI ol)), some (.int (nI orr)), some (.int (nI h)), some (.int (nI i)), some (.int (nI q.1))], q.2.1) Q := by
    intro start hi hst
    refine mx_ind (α := Nat × mx_M × Cx) (fun q => (cQR X).length - q.1) (fun q => start ≤ q.1 → Fr M q.2.1 c (c + 37) → (∀ a, c + 8 ≤ a → a < c + 26 → q.2.1 a = M a) → CxM q.2.1 c hs q.2.2 → CxI hs cc q.2.2 → Ext h X q.2.2 → (∀ u, u ∈ cMS q.2.2 ↔ Jn (fun t => (T0 t ∨ css X ol orr i t) ∨ ∃ j, start ≤ j ∧ j < q.1 ∧ j < (cQR X).length ∧ t = andn ((cQL X).getD i 0) ((cQR X).getD j 0)) u) → cPS q.2.2 = cPS X → q.1 ≤ 256 → sW G m_Cells_addCases 31 ([], [some (.ref c), some (.int (nI ol)), some (.int (nI orr)), some (.int (nI h)), some (.int (nI i)), some (.int (nI q.1))], q.2.1) Q) ?_
    rintro ⟨j, M3, Z⟩ ihj hj j1 j2 j3 j4 j5 j6 j7 j8
    dsimp only at ihj hj j1 j2 j3 j4 j5 j6 j7 j8 ⊢
    have eL3 : cQL Z = cQL X := by show Z.2.2.1.1 = X.2.2.1.1; rw [j5.2.1]
    have eR3 : cQR Z = cQR X := by show Z.2.2.1.2 = X.2.2.1.2; rw [j5.2.1]
    have y1 : M3 (c + 23) 2 = nI (cQR X).length := by rw [← eR3]; exact j3.2.2.2.2.2.2.2.2.2.2.1.size
    have y2 : M3 (c + 21) i = nI ((cQL X).getD i 0) ∧ (cQL X).getD i 0 < 256 := by
      have := j3.2.2.2.2.2.2.2.2.2.1.at (i := i) (by rw [eL3]; exact hi)
      rw [eL3] at this
      exact ⟨this.1, this.2.1⟩
    have y3 : j < (cQR X).length → M3 (c + 24) j = nI ((cQR X).getD j 0) := fun w => by
      have := j3.2.2.2.2.2.2.2.2.2.2.1.at (i := j) (by rw [eR3]; exact w)
      rw [eR3] at this
      exact this.1
    obtain ⟨y4, y5⟩ := y2
    by_cases hjn : j < (cQR X).length
    · have y6 := y3 hjn
      have y7 : andn ((cQL X).getD i 0) ((cQR X).getD j 0) < 256 := Nat.lt_of_le_of_lt (andn_le _ _) y5
      have y8 := an_i ((cQL X).getD i 0) ((cQR X).getD j 0)
      refine sW_go b_Cells_addCases_31 (st' := ([.int (M3 (c + 23) 2), .int (nI j)], [some (.ref c), some (.int (nI ol)), some (.int (nI orr)), some (.int (nI h)), some (.int (nI i)), some (.int (nI j))], M3)) (φ := mx_ocl LAY c = 2 ∧ mx_ocl LAY (c + 17) = 7 ∧ mx_ocl LAY (c + 23) = 6 ∧ True) rfl ⟨ho, (oc_Cells_ofCases ho), (oc_Sides_rights (oc_Cells_ofCases ho)), trivial⟩ ?_
      refine sW_eq (st' := ([.int (nI (cQR X).length), .int (nI j)], [some (.ref c), some (.int (nI ol)), some (.int (nI orr)), some (.int (nI h)), some (.int (nI i)), some (.int (nI j))], M3)) (by simp (disch := omega) only [y1]) ?_
      refine sW_ic_ge 86 d_Cells_addCases_43 (by decide) (fun c_43 => ?_) (fun c_43 => ?_)
      · skip
        simp (disch := omega) only [nI_leI] at c_43
        refine sW_go b_Cells_addCases_86 (st' := ([], [some (.ref c), some (.int (nI ol)), some (.int (nI orr)), some (.int (nI h)), some (.int (nI i + nI 1)), some (.int (nI j))], M3)) (φ := True) rfl trivial ?_
        refine sW_eq (st' := ([], [some (.ref c), some (.int (nI ol)), some (.int (nI orr)), some (.int (nI h)), some (.int (nI (i + 1))), some (.int (nI j))], M3)) (by simp (disch := omega) only [nI_add]) ?_
        refine sW_goto 3 d_Cells_addCases_89 (by decide) ?_
        omega
      · skip
        simp (disch := omega) only [nI_leI] at c_43
        refine sW_go b_Cells_addCases_46 (st' := ([.int (nI h), .int (M3 (c + 21) (nI i).toNatClampNeg &&& (M3 (c + 24) (nI j).toNatClampNeg ^^^ (-1))), .ref c], [some (.ref c), some (.int (nI ol)), some (.int (nI orr)), some (.int (nI h)), some (.int (nI i)), some (.int (nI j))], M3)) (φ := mx_ocl LAY c = 2 ∧ mx_ocl LAY (c + 17) = 7 ∧ mx_ocl LAY (c + 20) = 6 ∧ vp_in (nI i) (mx_len LAY false (c + 21)) ∧ mx_ocl LAY c = 2 ∧ mx_ocl LAY (c + 17) = 7 ∧ mx_ocl LAY (c + 23) = 6 ∧ vp_in (nI j) (mx_len LAY false (c + 24)) ∧ True) rfl ⟨ho, (oc_Cells_ofCases ho), (oc_Sides_lefts (oc_Cells_ofCases ho)), (by simp (disch := omega) only [(ln_Sets_at (oc_Sides_lefts (oc_Cells_ofCases ho)))]; exact vp_in_nI (by omega) (by decide)), ho, (oc_Cells_ofCases ho), (oc_Sides_rights (oc_Cells_ofCases ho)), (by simp (disch := omega) only [(ln_Sets_at (oc_Sides_rights (oc_Cells_ofCases ho)))]; exact vp_in_nI (by omega) (by decide)), trivial⟩ ?_
        refine sW_eq (st' := ([.int (nI h), .int (nI (andn ((cQL X).getD i 0) ((cQR X).getD j 0))), .ref c], [some (.ref c), some (.int (nI ol)), some (.int (nI orr)), some (.int (nI h)), some (.int (nI i)), some (.int (nI j))], M3)) (by simp (disch := omega) only [nI_clamp, y4, y6, y8]) ?_
        refine sW_callV 2 [.int (nI (andn ((cQL X).getD i 0) ((cQR X).getD j 0))), .int (nI h)] [] d_Cells_addCases_77 c_Cells_addCases_77 ⟨rfl, rfl, rfl, Nat.le_of_ble_eq_true rfl, rfl, rfl⟩ ho (k_addCase G ho hw j3 j4 y7 hh hh2 (fun w m hm => (j6 _).mpr (Jn_or ((j6 m).mp hm) ((j6 _).mp w)))) ?_
        rintro _ M4 ⟨rfl, g1, g2, Z2, g3, g4, g5, g6, g7⟩
        show sW G m_Cells_addCases 80 ([], [some (.ref c), some (.int (nI ol)), some (.int (nI orr)), some (.int (nI h)), some (.int (nI i)), some (.int (nI j))], M4) _
        refine sW_go b_Cells_addCases_80 (st' := ([], [some (.ref c), some (.int (nI ol)), some (.int (nI orr)), some (.int (nI h)), some (.int (nI i)), some (.int (nI j + nI 1))], M4)) (φ := True) rfl trivial ?_
        refine sW_eq (st' := ([], [some (.ref c), some (.int (nI ol)), some (.int (nI orr)), some (.int (nI h)), some (.int (nI i)), some (.int (nI (j + 1)))], M4)) (by simp (disch := omega) only [nI_add]) ?_
        refine sW_goto 31 d_Cells_addCases_83 (by decide) ?_
        refine ihj (j + 1, M4, Z2) (by dsimp only; omega) (by dsimp only; omega) (j1.tr g1) (fun a h1 h2 => (g2 a h1 h2).trans (j2 a h1 h2)) g3 g4 (j5.tr g5) (fun u => ?_) (g7.trans j7) (by dsimp only; omega)
        dsimp only
        rw [g6 u]
        have q1 : (u ∈ cMS Z ∨ ∃ m, m ∈ cMS Z ∧ u = m ||| andn ((cQL X).getD i 0) ((cQR X).getD j 0)) ↔ (Jn (fun t => (T0 t ∨ css X ol orr i t) ∨ ∃ j', start ≤ j' ∧ j' < j ∧ j' < (cQR X).length ∧ t = andn ((cQL X).getD i 0) ((cQR X).getD j' 0)) u ∨ ∃ m, Jn (fun t => (T0 t ∨ css X ol orr i t) ∨ ∃ j', start ≤ j' ∧ j' < j ∧ j' < (cQR X).length ∧ t = andn ((cQL X).getD i 0) ((cQR X).getD j' 0)) m ∧ u = m ||| andn ((cQL X).getD i 0) ((cQR X).getD j 0)) :=
          or_congr (j6 u) ⟨fun ⟨m, a, b⟩ => ⟨m, (j6 m).mp a, b⟩, fun ⟨m, a, b⟩ => ⟨m, (j6 m).mpr a, b⟩⟩
        rw [q1, Jn_add]
        refine Jn_congr (fun t => ?_)
        constructor
        · rintro ((a | ⟨j', a, b, d, e⟩) | a)
          · exact Or.inl a
          · exact Or.inr ⟨j', a, by omega, d, e⟩
          · exact Or.inr ⟨j, hj, by omega, hjn, a⟩
        · rintro (a | ⟨j', a, b, d, e⟩)
          · exact Or.inl (Or.inl a)
          · rcases Nat.lt_or_ge j' j with w | w
            · exact Or.inl (Or.inr ⟨j', a, w, d, e⟩)
            · obtain rfl : j' = j := by omega
              exact Or.inr e
    · skip
      refine sW_go b_Cells_addCases_31 (st' := ([.int (M3 (c + 23) 2), .int (nI j)], [some (.ref c), some (.int (nI ol)), some (.int (nI orr)), some (.int (nI h)), some (.int (nI i)), some (.int (nI j))], M3)) (φ := mx_ocl LAY c = 2 ∧ mx_ocl LAY (c + 17) = 7 ∧ mx_ocl LAY (c + 23) = 6 ∧ True) rfl ⟨ho, (oc_Cells_ofCases ho), (oc_Sides_rights (oc_Cells_ofCases ho)), trivial⟩ ?_
      refine sW_eq (st' := ([.int (nI (cQR X).length), .int (nI j)], [some (.ref c), some (.int (nI ol)), some (.int (nI orr)), some (.int (nI h)), some (.int (nI i)), some (.int (nI j))], M3)) (by simp (disch := omega) only [y1]) ?_
      refine sW_ic_ge 86 d_Cells_addCases_43 (by decide) (fun c_43 => ?_) (fun c_43 => ?_)
      · skip
        simp (disch := omega) only [nI_leI] at c_43
        refine sW_go b_Cells_addCases_86 (st' := ([], [some (.ref c), some (.int (nI ol)), some (.int (nI orr)), some (.int (nI h)), some (.int (nI i + nI 1)), some (.int (nI j))], M3)) (φ := True) rfl trivial ?_
        refine sW_eq (st' := ([], [some (.ref c), some (.int (nI ol)), some (.int (nI orr)), some (.int (nI h)), some (.int (nI (i + 1))), some (.int (nI j))], M3)) (by simp (disch := omega) only [nI_add]) ?_
        refine sW_goto 3 d_Cells_addCases_89 (by decide) ?_
        refine sW_fg [false, false, false, false, false, true] ?_
        show sW G m_Cells_addCases 3 ([], [some (.ref c), some (.int (nI ol)), some (.int (nI orr)), some (.int (nI h)), some (.int (nI (i + 1))), none], M3) _
        refine ih (i + 1, M3, Z) (by dsimp only; omega) (by dsimp only; omega) j1 j2 j3 j4 j5 (fun u => ?_) j7
        dsimp only
        rw [j6 u]
        refine Jn_congr (fun t => ?_)
        rw [or_assoc]
        refine or_congr Iff.rfl ⟨?_, ?_⟩
        · rintro (⟨i', j', a, b, d, e⟩ | ⟨j', a, b, d, e⟩)
          · exact ⟨i', j', by omega, b, d, e⟩
          · exact ⟨i, j', by omega, d, (hst j').mp a, e⟩
        · rintro ⟨i', j', a, b, d, e⟩
          rcases Nat.lt_or_ge i' i with w | w
          · exact Or.inl ⟨i', j', w, b, d, e⟩
          · obtain rfl : i' = i := by omega
            exact Or.inr ⟨j', (hst j').mpr d, by omega, b, e⟩
      · skip
        simp (disch := omega) only [nI_leI] at c_43
        exact absurd c_43 (by omega)
  refine sW_go b_Cells_addCases_3 (st' := ([.int (M2 (c + 20) 2), .int (nI i)], [some (.ref c), some (.int (nI ol)), some (.int (nI orr)), some (.int (nI h)), some (.int (nI i)), none], M2)) (φ := mx_ocl LAY c = 2 ∧ mx_ocl LAY (c + 17) = 7 ∧ mx_ocl LAY (c + 20) = 6 ∧ True) rfl ⟨ho, (oc_Cells_ofCases ho), (oc_Sides_lefts (oc_Cells_ofCases ho)), trivial⟩ ?_
  refine sW_eq (st' := ([.int (nI (cQL X).length), .int (nI i)], [some (.ref c), some (.int (nI ol)), some (.int (nI orr)), some (.int (nI h)), some (.int (nI i)), none], M2)) (by simp (disch := omega) only [z1]) ?_
  refine sW_ic_ge 92 d_Cells_addCases_15 (by decide) (fun c_15 => ?_) (fun c_15 => ?_)
  · skip
    simp (disch := omega) only [nI_leI] at c_15
    refine sW_retV d_Cells_addCases_92 rfl ?_
    have hke : i = (cQL X).length := by omega
    subst hke
    exact hQ M2 Y i1 i2 i3 i4 i5 i6 i7
  · skip
    simp (disch := omega) only [nI_leI] at c_15
    refine sW_go b_Cells_addCases_18 (st' := ([.int (nI ol), .int (nI i)], [some (.ref c), some (.int (nI ol)), some (.int (nI orr)), some (.int (nI h)), some (.int (nI i)), none], M2)) (φ := True) rfl trivial ?_
    refine sW_ic_ge 28 d_Cells_addCases_21 (by decide) (fun c_21 => ?_) (fun c_21 => ?_)
    · skip
      simp (disch := omega) only [nI_leI] at c_21
      refine sW_go b_Cells_addCases_28 (st' := ([.int (nI 0)], [some (.ref c), some (.int (nI ol)), some (.int (nI orr)), some (.int (nI h)), some (.int (nI i)), none], M2)) (φ := True) rfl trivial ?_
      refine sW_go b_Cells_addCases_29 (st' := ([], [some (.ref c), some (.int (nI ol)), some (.int (nI orr)), some (.int (nI h)), some (.int (nI i)), some (.int (nI 0))], M2)) (φ := True) rfl trivial ?_
      exact inner 0 (by omega) (fun j => by constructor <;> intro _ <;> omega) (0, M2, Y) (Nat.zero_le _) i1 i2 i3 i4 i5 (fun u => (i6 u).trans (Jn_congr (fun t => ⟨Or.inl, fun q => q.elim id (fun ⟨j', _, b, _⟩ => absurd b (Nat.not_lt_zero j'))⟩))) i7 (Nat.zero_le _)
    · skip
      simp (disch := omega) only [nI_leI] at c_21
      refine sW_go b_Cells_addCases_24 (st' := ([.int (nI orr)], [some (.ref c), some (.int (nI ol)), some (.int (nI orr)), some (.int (nI h)), some (.int (nI i)), none], M2)) (φ := True) rfl trivial ?_
      refine sW_goto 29 d_Cells_addCases_25 (by decide) ?_
      refine sW_go b_Cells_addCases_29 (st' := ([], [some (.ref c), some (.int (nI ol)), some (.int (nI orr)), some (.int (nI h)), some (.int (nI i)), some (.int (nI orr))], M2)) (φ := True) rfl trivial ?_
      exact inner orr (by omega) (fun j => by constructor <;> intro w <;> omega) (orr, M2, Y) (Nat.le_refl _) i1 i2 i3 i4 i5 (fun u => (i6 u).trans (Jn_congr (fun t => ⟨Or.inl, fun q => q.elim id (fun ⟨j', a, b, _⟩ => absurd b (by dsimp only; omega))⟩))) i7 (by dsimp only; omega)

