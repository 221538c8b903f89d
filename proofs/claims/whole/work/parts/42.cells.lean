/-! ===== answers, askable, ends ===== -/
theorem MesD.op {M M' : mx_M} {c : Nat} {hs : Hs} {X : Cx} (h : MesD M c hs X) (hf : Fr M M' (c + 34) (c + 35)) : MesD M' c hs X := by
  obtain ⟨⟨m0, m1, m2, m3, m4, m5, m6, m7, m8, m9, m10, m11, m12, m13, m14⟩, d2, d3, d4, d5, d6, d7⟩ := h
  have e : ∀ a, a < c + 34 → M' a = M a := fun a ha => hf a (Or.inl ha)
  refine ⟨⟨m0.fr hf (by omega), ?_, ?_, ?_, ?_, ?_, m6.fr hf (by omega), m7.fr hf (by omega), m8.fr hf (by omega), m9.fr hf (by omega), m10.fr hf (by omega), m11.fr hf (by omega), m12.fr hf (by omega), ?_, ?_⟩, d2, d3, d4, d5, d6, ?_⟩
  · rw [e c (by omega)]; exact m1
  · rw [e c (by omega)]; exact m2
  · rw [e c (by omega)]; exact m3
  · rw [e c (by omega)]; exact m4
  · rw [e c (by omega)]; exact m5
  · intro t ht; rw [e _ (by omega)]; exact m13 t ht
  · intro t ht; rw [e _ (by omega)]; exact m14 t ht
  · intro k hk
    have := d7 k hk
    rw [e _ (by omega), e (c + 10) (by omega), e (c + 18) (by omega), e (c + 19) (by omega)]
    exact this
theorem RelA.op {M M' : mx_M} {c n i : Nat} {F : List Nat} (h : RelA M c F n i) (hf : Fr M M' (c + 34) (c + 35)) : RelA M' c F n i := by
  intro k hk
  have := h k hk
  rw [hf (c + 35) (by omega), hf (c + 36) (by omega)]
  exact this
theorem CellsOK.op {M M' : mx_M} {c : Nat} {hs : Hs} (h : CellsOK M c hs) (hf : Fr M M' (c + 34) (c + 35)) : CellsOK M' c hs := by
  obtain ⟨X, h1, h2⟩ := h
  exact ⟨X, h1.op hf, h2.op hf⟩
theorem CellsOK.fr {M M' : mx_M} {c lo hi : Nat} {hs : Hs} (h : CellsOK M c hs) (hf : Fr M M' lo hi) (hd : c + 37 ≤ lo ∨ hi ≤ c) : CellsOK M' c hs := by
  obtain ⟨X, ⟨⟨m0, m1, m2, m3, m4, m5, m6, m7, m8, m9, m10, m11, m12, m13, m14⟩, d2, d3, d4, d5, d6, d7⟩, h2⟩ := h
  have e : ∀ a, c ≤ a → a < c + 37 → M' a = M a := fun a ha hb => hf a (by omega)
  refine ⟨X, ⟨⟨m0.fr hf (by omega), ?_, ?_, ?_, ?_, ?_, m6.fr hf (by omega), m7.fr hf (by omega), m8.fr hf (by omega), m9.fr hf (by omega), m10.fr hf (by omega), m11.fr hf (by omega), m12.fr hf (by omega), ?_, ?_⟩, d2, d3, d4, d5, d6, ?_⟩, ?_⟩
  · rw [e c (by omega) (by omega)]; exact m1
  · rw [e c (by omega) (by omega)]; exact m2
  · rw [e c (by omega) (by omega)]; exact m3
  · rw [e c (by omega) (by omega)]; exact m4
  · rw [e c (by omega) (by omega)]; exact m5
  · intro t ht; rw [e _ (by omega) (by omega)]; exact m13 t ht
  · intro t ht; rw [e _ (by omega) (by omega)]; exact m14 t ht
  · intro k hk
    have := d7 k hk
    rw [e _ (by omega) (by omega), e (c + 10) (by omega) (by omega), e (c + 18) (by omega) (by omega), e (c + 19) (by omega) (by omega)]
    exact this
  · intro k hk
    have := h2 k hk
    rw [e (c + 35) (by omega) (by omega), e (c + 36) (by omega) (by omega)]
    exact this
theorem CellsOK.sh {M : mx_M} {c : Nat} {hs : Hs} (h : CellsOK M c hs) : CellsSh M c := by
  obtain ⟨X, h1, _⟩ := h
  exact h1.1.sh
def HasC (hs : Hs) (f : Nat) : Prop := ∃ i, i < hs.2.1 ∧ bt (constCell hs i) f = 1
def HasP (hs : Hs) (f : Nat) : Prop := ∃ x y, Kw hs x ∧ Kw hs y ∧ bt (pairC hs x y) f = 1
def HasF (hs : Hs) (f : Nat) : Prop := ∃ v, Jn (Tk hs (Kw hs)) v ∧ bt (funC hs v) f = 1
theorem MesD.wc {M : mx_M} {c : Nat} {hs : Hs} {X : Cx} (h : MesD M c hs X) (f : Nat) : bt (cwc X) f = 1 ↔ HasC hs f := h.2.1.2.1.2 f
theorem MesD.wp {M : mx_M} {c : Nat} {hs : Hs} {X : Cx} (h : MesD M c hs X) (f : Nat) : bt (cwp X) f = 1 ↔ HasP hs f := by
  rw [h.2.1.2.2.1.2 f]
  constructor
  · rintro ⟨t, h1, h2⟩
    obtain ⟨x, y, hx, hy, rfl⟩ := (h.2.2.2.1.1 t).mp h1
    exact ⟨x, y, hx, hy, h2⟩
  · rintro ⟨x, y, hx, hy, h2⟩
    exact ⟨_, (h.2.2.2.1.1 _).mpr ⟨x, y, hx, hy, rfl⟩, h2⟩
theorem MesD.wf {M : mx_M} {c : Nat} {hs : Hs} {X : Cx} (h : MesD M c hs X) (f : Nat) : bt (cwf X) f = 1 ↔ HasF hs f := by
  rw [h.2.1.2.2.2.2 f]
  constructor
  · rintro ⟨t, h1, h2⟩
    exact ⟨t, (h.2.2.2.1.2 t).mp h1, h2⟩
  · rintro ⟨t, h1, h2⟩
    exact ⟨t, (h.2.2.2.1.2 t).mpr h1, h2⟩
def OpA (M : mx_M) (c : Nat) (hs : Hs) (f : Nat) : Prop := ∀ s, s < 256 → M (c + 34) s = nI (cif (opB hs f 8 s) 1 0)
/-- with the argument x: the types that hold each answer -/
noncomputable def fromM (hs : Hs) (f x : Nat) : Nat := mk8 (fun t => t < hs.1 ∧ ¬ Open hs f (L2 hs x) ∧ ∀ y, Kw hs y → Open hs f (andn (L2 hs x) (R2 hs y)) → bt y t = 1)
theorem cif_nz {P : Prop} : (cif P 1 0 : Nat) = 0 ↔ ¬ P := by
  by_cases h : P
  · rw [cif_t h]; simp [h]
  · rw [cif_f h]; simp [h]
theorem k_holdingAnswersFrom (G : mx_G) {M : mx_M} {c f x : Nat} {hs : Hs} {X : Cx} (ho : mx_ocl LAY c = 2) (hw : HsOk hs) (h : MesD M c hs X) (hop : OpA M c hs f) : sOk G m_Cells_holdingAnswersFrom [.ref c, .int (nI (L2 hs x))] M (fun r M' => r = some (.int (nI (fromM hs f x))) ∧ M' = M) := by
  obtain ⟨⟨m0, m1, m2, m3, m4, m5, m6, m7, m8, m9, m10, m11, m12, m13, m14⟩, d2, d3, d4, d5, d6, d7⟩ := id h
  have w1 := hw.1
  have hl := m6.len
  have hL := L2_lt hw x
  have hLs := L2_sub hs x
  have z0 : M (c + 5) 2 = nI (cF X).length := m6.1
  have o1 := hop _ hL
  have o2 := opB_Open hw (f := f) hLs
  have o3 := cif_le (opB hs f 8 (L2 hs x))
  have hfr : ∀ t, bt (fromM hs f x) t = 1 ↔ t < 8 ∧ _ := fun t => mk8_bt _ t
  have hfl : fromM hs f x < 256 := mk8_lt _
  have hp8 : 2 ^ hs.1 ≤ 2 ^ 8 := Nat.pow_le_pow_right (by decide) w1
  generalize hE : L2 hs x = E at hL hLs o1 o2 o3 hfr ⊢
  generalize hFM : fromM hs f x = FM at hfr hfl ⊢
  refine sOk_of ⟨by decide +kernel, by decide +kernel, Nat.le_of_ble_eq_true rfl⟩ ?_
  show sW G m_Cells_holdingAnswersFrom 0 ([], [some (.ref c), some (.int (nI E)), none, none], M) _
  refine sW_go b_Cells_holdingAnswersFrom_0 (st' := ([.int (M (c + 34) (nI E).toNatClampNeg)], [some (.ref c), some (.int (nI E)), none, none], M)) (φ := mx_ocl LAY c = 2 ∧ vp_in (nI E) (mx_len LAY false (c + 34)) ∧ True) rfl ⟨ho, (by simp (disch := omega) only [(ln_Cells_open ho)]; exact vp_in_nI (by omega) (by decide)), trivial⟩ ?_
  refine sW_eq (st' := ([.int (nI (cif (opB hs f 8 E) 1 0))], [some (.ref c), some (.int (nI E)), none, none], M)) (by simp (disch := omega) only [nI_clamp, o1]) ?_
  refine sW_if_eq 11 d_Cells_holdingAnswersFrom_6 (by decide) (fun c_6 => ?_) (fun c_6 => ?_)
  · skip
    simp (disch := omega) only [nI_z] at c_6
    refine sW_go b_Cells_holdingAnswersFrom_11 (st' := ([], [some (.ref c), some (.int (nI E)), some (.int (M c 1)), some (.int (nI 0))], M)) (φ := mx_ocl LAY c = 2 ∧ True) rfl ⟨ho, trivial⟩ ?_
    refine sW_eq (st' := ([], [some (.ref c), some (.int (nI E)), some (.int (nI (2 ^ hs.1 - 1))), some (.int (nI 0))], M)) (by simp (disch := omega) only [m1]) ?_
    have hno : ¬ Open hs f E := fun q => cif_nz.mp c_6 (o2.mpr q)
    refine mx_ind (α := Nat × Nat) (fun a => (cF X).length - a.1) (fun a => a.1 ≤ (cF X).length → a.2 < 256 → (∀ t, bt a.2 t = 1 ↔ t < hs.1 ∧ ∀ j, j < a.1 → Open hs f (andn E (R2 hs ((cF X).getD j 0))) → bt ((cF X).getD j 0) t = 1) → sW G m_Cells_holdingAnswersFrom 18 ([], [some (.ref c), some (.int (nI E)), some (.int (nI a.2)), some (.int (nI a.1))], M) _) ?_ (0, 2 ^ hs.1 - 1) (Nat.zero_le _) (by dsimp only; omega) (fun t => by dsimp only; rw [bt_all]; exact ⟨fun q => ⟨q, fun j hj => absurd hj (Nat.not_lt_zero j)⟩, fun q => q.1⟩)
    rintro ⟨k, m⟩ ih hk hm hb
    dsimp only at ih hk hm hb ⊢
    by_cases hkn : k < (cF X).length
    · have z1 : M (c + 6) k = nI ((cF X).getD k 0) := m6.2.2.2.1 k hkn
      have z2 := (m6.lt hkn).1
      have z3 := (d7 k hkn).2.2.2
      have z4 := R2_lt hw ((cF X).getD k 0)
      have z5 := an_i E (R2 hs ((cF X).getD k 0))
      have z6 : andn E (R2 hs ((cF X).getD k 0)) < 256 := Nat.lt_of_le_of_lt (andn_le _ _) hL
      have z7 := hop _ z6
      have z8 := opB_Open hw (f := f) (andn_sub (b := R2 hs ((cF X).getD k 0)) hLs)
      have hst : ∀ (P : Nat → Prop), (∀ j, j < k + 1 → P j) ↔ (∀ j, j < k → P j) ∧ P k := fun P => ⟨fun q => ⟨fun j hj => q j (by omega), q k (by omega)⟩, fun q j hj => by
        by_cases hjk : j = k
        · rw [hjk]; exact q.2
        · exact q.1 j (by omega)⟩
      have hst2 := fun t => hst (fun j => Open hs f (andn E (R2 hs ((cF X).getD j 0))) → bt ((cF X).getD j 0) t = 1)
      have z9 := cif_le (opB hs f 8 (andn E (R2 hs ((cF X).getD k 0))))
      generalize hg : (cF X).getD k 0 = g at z9 z1 z2 z3 z4 z5 z6 z7 z8 hst2
      generalize hr : R2 hs g = r at z9 z3 z4 z5 z6 z7 z8 hst2
      generalize ha : andn E r = u at z9 z5 z6 z7 z8 hst2
      refine sW_go b_Cells_holdingAnswersFrom_18 (st' := ([.int (M (c + 5) 2), .int (nI k)], [some (.ref c), some (.int (nI E)), some (.int (nI m)), some (.int (nI k))], M)) (φ := mx_ocl LAY c = 2 ∧ mx_ocl LAY (c + 5) = 6 ∧ True) rfl ⟨ho, (oc_Cells_found ho), trivial⟩ ?_
      refine sW_eq (st' := ([.int (nI (cF X).length), .int (nI k)], [some (.ref c), some (.int (nI E)), some (.int (nI m)), some (.int (nI k))], M)) (by simp (disch := omega) only [z0]) ?_
      refine sW_ic_ge 68 d_Cells_holdingAnswersFrom_26 (by decide) (fun c_26 => ?_) (fun c_26 => ?_)
      · skip
        simp (disch := omega) only [nI_leI] at c_26
        refine sW_go b_Cells_holdingAnswersFrom_68 (st' := ([.int (nI m)], [some (.ref c), some (.int (nI E)), some (.int (nI m)), some (.int (nI k))], M)) (φ := True) rfl trivial ?_
        refine sW_retI d_Cells_holdingAnswersFrom_69 rfl (vp_nar_int _) ?_
        omega
      · skip
        simp (disch := omega) only [nI_leI] at c_26
        refine sW_go b_Cells_holdingAnswersFrom_29 (st' := ([.int (M (c + 34) (nI E &&& (M (c + 19) (nI k).toNatClampNeg ^^^ (-1))).toNatClampNeg)], [some (.ref c), some (.int (nI E)), some (.int (nI m)), some (.int (nI k))], M)) (φ := mx_ocl LAY c = 2 ∧ mx_ocl LAY c = 2 ∧ mx_ocl LAY (c + 17) = 7 ∧ vp_in (nI k) (mx_len LAY false (c + 19)) ∧ vp_in (nI E &&& (M (c + 19) (nI k).toNatClampNeg ^^^ (-1))) (mx_len LAY false (c + 34)) ∧ True) rfl ⟨ho, ho, (oc_Cells_ofCases ho), (by simp (disch := omega) only [(ln_Sides_rightOf (oc_Cells_ofCases ho))]; exact vp_in_nI (by omega) (by decide)), (by simp (disch := omega) only [nI_clamp, z3, z5, (ln_Cells_open ho)]; exact vp_in_nI (by omega) (by decide)), trivial⟩ ?_
        refine sW_eq (st' := ([.int (nI (cif (opB hs f 8 u) 1 0))], [some (.ref c), some (.int (nI E)), some (.int (nI m)), some (.int (nI k))], M)) (by simp (disch := omega) only [nI_clamp, z3, z5, z7]) ?_
        refine sW_if_eq 62 d_Cells_holdingAnswersFrom_47 (by decide) (fun c_47 => ?_) (fun c_47 => ?_)
        · skip
          simp (disch := omega) only [nI_z] at c_47
          refine sW_go b_Cells_holdingAnswersFrom_62 (st' := ([], [some (.ref c), some (.int (nI E)), some (.int (nI m)), some (.int (nI k + nI 1))], M)) (φ := True) rfl trivial ?_
          refine sW_eq (st' := ([], [some (.ref c), some (.int (nI E)), some (.int (nI m)), some (.int (nI (k + 1)))], M)) (by simp (disch := omega) only [nI_add]) ?_
          refine sW_goto 18 d_Cells_holdingAnswersFrom_65 (by decide) ?_
          have hnu : ¬ Open hs f u := fun q => cif_nz.mp c_47 (z8.mpr q)
          refine ih (k + 1, m) (by dsimp only; omega) (by dsimp only; omega) hm (fun t => ?_)
          dsimp only
          rw [hb t, hst2 t]
          exact ⟨fun q => ⟨q.1, q.2, fun w => absurd w hnu⟩, fun q => ⟨q.1, q.2.1⟩⟩
        · skip
          simp (disch := omega) only [nI_z] at c_47
          refine sW_go b_Cells_holdingAnswersFrom_50 (st' := ([], [some (.ref c), some (.int (nI E)), some (.int (nI m &&& M (c + 6) (nI k).toNatClampNeg)), some (.int (nI k))], M)) (φ := mx_ocl LAY c = 2 ∧ mx_ocl LAY (c + 5) = 6 ∧ vp_in (nI k) (mx_len LAY false (c + 6)) ∧ True) rfl ⟨ho, (oc_Cells_found ho), (by simp (disch := omega) only [(ln_Sets_at (oc_Cells_found ho))]; exact vp_in_nI (by omega) (by decide)), trivial⟩ ?_
          refine sW_eq (st' := ([], [some (.ref c), some (.int (nI E)), some (.int (nI (m &&& g))), some (.int (nI k))], M)) (by simp (disch := omega) only [nI_clamp, nx_and, z1]) ?_
          refine sW_go b_Cells_holdingAnswersFrom_62 (st' := ([], [some (.ref c), some (.int (nI E)), some (.int (nI (m &&& g))), some (.int (nI k + nI 1))], M)) (φ := True) rfl trivial ?_
          refine sW_eq (st' := ([], [some (.ref c), some (.int (nI E)), some (.int (nI (m &&& g))), some (.int (nI (k + 1)))], M)) (by simp (disch := omega) only [nI_add]) ?_
          refine sW_goto 18 d_Cells_holdingAnswersFrom_65 (by decide) ?_
          have hnu : Open hs f u := Classical.not_not.mp (fun q => c_47 (cif_nz.mpr (fun w => q (z8.mp w))))
          refine ih (k + 1, m &&& g) (by dsimp only; omega) (by dsimp only; omega) (Nat.lt_of_le_of_lt Nat.and_le_left hm) (fun t => ?_)
          dsimp only
          rw [bt_and, hb t, hst2 t]
          exact ⟨fun q => ⟨q.1.1, q.1.2, fun _ => q.2⟩, fun q => ⟨⟨q.1, q.2.1⟩, q.2.2 hnu⟩⟩
    · have hke : k = (cF X).length := by omega
      subst hke
      refine sW_go b_Cells_holdingAnswersFrom_18 (st' := ([.int (M (c + 5) 2), .int (nI (cF X).length)], [some (.ref c), some (.int (nI E)), some (.int (nI m)), some (.int (nI (cF X).length))], M)) (φ := mx_ocl LAY c = 2 ∧ mx_ocl LAY (c + 5) = 6 ∧ True) rfl ⟨ho, (oc_Cells_found ho), trivial⟩ ?_
      refine sW_eq (st' := ([.int (nI (cF X).length), .int (nI (cF X).length)], [some (.ref c), some (.int (nI E)), some (.int (nI m)), some (.int (nI (cF X).length))], M)) (by simp (disch := omega) only [z0]) ?_
      refine sW_ic_ge 68 d_Cells_holdingAnswersFrom_26 (by decide) (fun c_26 => ?_) (fun c_26 => ?_)
      · skip
        simp (disch := omega) only [nI_leI] at c_26
        refine sW_go b_Cells_holdingAnswersFrom_68 (st' := ([.int (nI m)], [some (.ref c), some (.int (nI E)), some (.int (nI m)), some (.int (nI (cF X).length))], M)) (φ := True) rfl trivial ?_
        refine sW_retI d_Cells_holdingAnswersFrom_69 rfl (vp_nar_int _) ?_
        refine ⟨?_, rfl⟩
        have e : m = FM := bt_ext (fun t => by
          rw [hb t, hfr t]
          constructor
          · rintro ⟨a1, a2⟩
            refine ⟨by omega, a1, hno, fun y hy ho' => ?_⟩
            obtain ⟨i, hi, rfl⟩ := mem_at ((d6 y).mpr hy)
            exact a2 i hi ho'
          · rintro ⟨_, a1, a2, a3⟩
            exact ⟨a1, fun j hj ho' => a3 _ ((d6 _).mp (getD_mem hj)) ho'⟩)
        rw [e]
      · skip
        simp (disch := omega) only [nI_leI] at c_26
        exact absurd c_26 (by omega)
  · skip
    simp (disch := omega) only [nI_z] at c_6
    refine sW_go b_Cells_holdingAnswersFrom_9 (st' := ([.int (nI 0)], [some (.ref c), some (.int (nI E)), none, none], M)) (φ := True) rfl trivial ?_
    refine sW_retI d_Cells_holdingAnswersFrom_10 rfl (vp_nar_int _) ?_
    have hno : Open hs f E := Classical.not_not.mp (fun q => c_6 (cif_nz.mpr (fun w => q (o2.mp w))))
    refine ⟨?_, rfl⟩
    have e : FM = 0 := bt_ext (fun t => by
      rw [hfr t]
      exact ⟨fun q => absurd hno q.2.2.1, fun q => absurd q (by simp [bt])⟩)
    rw [e]

