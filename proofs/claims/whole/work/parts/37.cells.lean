/-- how things stand in a Cells object when its house has been measured (but for what lies in what) -/
def MesD (M : mx_M) (c : Nat) (hs : Hs) (X : Cx) : Prop := CxM M c hs X ∧ CxI hs hs.2.1 X ∧ CxL hs (Kw hs) X ∧ CxP hs (Kw hs) X ∧ CxH hs X ∧ (∀ s, s ∈ cF X ↔ Kw hs s) ∧ SdA M c hs (cF X) (cF X).length
theorem Mes_end {M : mx_M} {c n : Nat} {hs : Hs} {X : Cx} (h : MesI M c hs n (cF X).length X) : MesD M c hs X := by
  obtain ⟨h1, h2, h3, h4, h5, h6, h7, h8, h9⟩ := h
  have hF := CxF h4 h6
  have hfix : ∀ s, Kx hs (n + 1) s → Kx hs n s := fun s hs' => (h8 s).mp (by rw [List.take_length]; exact (hF s).mpr hs')
  have hK : ∀ s, Kx hs n s ↔ Kw hs s := fun s => ⟨fun q => ⟨n, q⟩, fun ⟨j, q⟩ => Kx_fix hfix j s q⟩
  have eK : Kx hs n = Kw hs := funext fun s => propext (hK s)
  rw [eK] at h5 h6
  refine ⟨h3, h4, h5, h6, h7, fun s => ?_, h9⟩
  rw [hF s, ← hK s]
  exact ⟨hfix s, Kx_up n⟩
theorem k_measure9 (G : mx_G) {M : mx_M} {c o : Nat} {hs : Hs} (ho : mx_ocl LAY c = 2) (hq : mx_ocl LAY o = 3) (hw : HsOk hs) {Q : Option Value → mx_M → Prop}
    (hQ : ∀ M' X, Fr M M' c (c + 37) → MesD M' c hs X → sW G m_Cells_measure 175 ([], [some (.ref c), some (.ref o), none, none, none, none, none, none, none, none], M') Q) :
    ∀ q : Nat × Nat × mx_M × Cx, Fr M q.2.2.1 c (c + 37) → MesI q.2.2.1 c hs q.1 q.2.1 q.2.2.2 → sW G m_Cells_measure 9 ([], [some (.ref c), some (.ref o), some (.int (nI q.2.1)), some (.int (nI (q.1 + 2))), none, none, none, none, none, none], q.2.2.1) Q := by
  refine mx_ind (α := Nat × Nat × mx_M × Cx) (fun q => 300 - q.1) _ ?_
  rintro ⟨n, sn, M2, X⟩ ih hF hI
  dsimp only at ih hF hI ⊢
  obtain ⟨h1, h2, h3, h4, h5, h6, h7, h8, h9⟩ := id hI
  obtain ⟨m0, m1, m2, m3, m4, m5, m6, m7, m8, m9, m10, m11, m12, m13, m14⟩ := id h3
  have hlen := m6.len
  have z0 : M2 (c + 5) 2 = nI (cF X).length := m6.1
  have z1 := m7.size
  have z2 := m8.size
  have z3 := m9.size
  have z4 := m10.size
  have y1 := m7.len
  have y2 := m8.len
  have y3 := m9.len
  have y4 := m10.len
  refine sW_go b_Cells_measure_9 (st' := ([.int (nI 257), .int (nI (n + 2))], [some (.ref c), some (.ref o), some (.int (nI sn)), some (.int (nI (n + 2))), none, none, none, none, none, none], M2)) (φ := True) rfl trivial ?_
  refine sW_ic_gt 175 d_Cells_measure_13 (by decide) (fun c_13 => ?_) (fun c_13 => ?_)
  · skip
    simp (disch := omega) only [nI_ltI] at c_13
    refine sW_fg [false, false, true, true, false, false, false, false, false, false] ?_
    show sW G m_Cells_measure 175 ([], [some (.ref c), some (.ref o), none, none, none, none, none, none, none, none], M2) _
    have he : sn = (cF X).length := by omega
    subst he
    exact hQ M2 X hF (Mes_end hI)
  · skip
    simp (disch := omega) only [nI_ltI] at c_13
    refine sW_go b_Cells_measure_16 (st' := ([.int (M2 (c + 5) 2), .int (nI sn)], [some (.ref c), some (.ref o), some (.int (nI sn)), some (.int (nI (n + 2))), none, none, none, none, none, none], M2)) (φ := mx_ocl LAY c = 2 ∧ mx_ocl LAY (c + 5) = 6 ∧ True) rfl ⟨ho, (oc_Cells_found ho), trivial⟩ ?_
    refine sW_eq (st' := ([.int (nI (cF X).length), .int (nI sn)], [some (.ref c), some (.ref o), some (.int (nI sn)), some (.int (nI (n + 2))), none, none, none, none, none, none], M2)) (by simp (disch := omega) only [z0]) ?_
    refine sW_ic_ge 175 d_Cells_measure_24 (by decide) (fun c_24 => ?_) (fun c_24 => ?_)
    · skip
      simp (disch := omega) only [nI_leI] at c_24
      refine sW_fg [false, false, true, true, false, false, false, false, false, false] ?_
      show sW G m_Cells_measure 175 ([], [some (.ref c), some (.ref o), none, none, none, none, none, none, none, none], M2) _
      have he : sn = (cF X).length := by omega
      subst he
      exact hQ M2 X hF (Mes_end hI)
    · skip
      simp (disch := omega) only [nI_leI] at c_24
      refine sW_go b_Cells_measure_27 (st' := ([], [some (.ref c), some (.ref o), some (.int (nI sn)), some (.int (nI (n + 2))), some (.int (M2 (c + 11) 2)), some (.int (M2 (c + 14) 2)), some (.int (M2 (c + 20) 2)), some (.int (M2 (c + 23) 2)), some (.int (M2 (c + 5) 2)), some (.int (nI sn))], M2)) (φ := mx_ocl LAY c = 2 ∧ mx_ocl LAY (c + 8) = 7 ∧ mx_ocl LAY (c + 11) = 6 ∧ mx_ocl LAY c = 2 ∧ mx_ocl LAY (c + 8) = 7 ∧ mx_ocl LAY (c + 14) = 6 ∧ mx_ocl LAY c = 2 ∧ mx_ocl LAY (c + 17) = 7 ∧ mx_ocl LAY (c + 20) = 6 ∧ mx_ocl LAY c = 2 ∧ mx_ocl LAY (c + 17) = 7 ∧ mx_ocl LAY (c + 23) = 6 ∧ mx_ocl LAY c = 2 ∧ mx_ocl LAY (c + 5) = 6 ∧ True) rfl ⟨ho, (oc_Cells_ofPairs ho), (oc_Sides_lefts (oc_Cells_ofPairs ho)), ho, (oc_Cells_ofPairs ho), (oc_Sides_rights (oc_Cells_ofPairs ho)), ho, (oc_Cells_ofCases ho), (oc_Sides_lefts (oc_Cells_ofCases ho)), ho, (oc_Cells_ofCases ho), (oc_Sides_rights (oc_Cells_ofCases ho)), ho, (oc_Cells_found ho), trivial⟩ ?_
      refine sW_eq (st' := ([], [some (.ref c), some (.ref o), some (.int (nI sn)), some (.int (nI (n + 2))), some (.int (nI (cPL X).length)), some (.int (nI (cPR X).length)), some (.int (nI (cQL X).length)), some (.int (nI (cQR X).length)), some (.int (nI (cF X).length)), some (.int (nI sn))], M2)) (by simp (disch := omega) only [z0, z1, z2, z3, z4]) ?_
      have hFX := CxF h4 h6
      have inner : ∀ q : Nat × mx_M × Cx, sn ≤ q.1 → q.1 ≤ (cF X).length → SeeI M2 q.2.1 c hs X sn q.1 q.2.2 → sW G m_Cells_measure 87 ([], [some (.ref c), some (.ref o), some (.int (nI sn)), some (.int (nI (n + 2))), some (.int (nI (cPL X).length)), some (.int (nI (cPR X).length)), some (.int (nI (cQL X).length)), some (.int (nI (cQR X).length)), some (.int (nI (cF X).length)), some (.int (nI q.1))], q.2.1) Q := by
        refine mx_ind (α := Nat × mx_M × Cx) (fun q => (cF X).length - q.1) _ ?_
        rintro ⟨k, M3, Y⟩ ihk hk1 hk2 hS
        dsimp only at ihk hk1 hk2 hS ⊢
        obtain ⟨i1, i2, i3, i4, i5, i6, i7, i8, i9, i10, i11, i12, i13⟩ := id hS
        obtain ⟨p0, p1, p2, p3, p4, p5, p6, p7, p8, p9, p10, p11, p12, p13, p14⟩ := id i2
        have eF : cF Y = cF X := by show Y.1.1 = X.1.1; rw [i3]
        by_cases hkn : k < (cF X).length
        · have q1 : M3 (c + 6) k = nI ((cF X).getD k 0) := by rw [← eF]; exact p6.2.2.2.1 k (by rw [eF]; exact hkn)
          have q2 : (cF X).getD k 0 < 256 := (m6.lt hkn).1
          have q3 := hlen
          refine sW_go b_Cells_measure_87 (st' := ([.int (nI (cF X).length), .int (nI k)], [some (.ref c), some (.ref o), some (.int (nI sn)), some (.int (nI (n + 2))), some (.int (nI (cPL X).length)), some (.int (nI (cPR X).length)), some (.int (nI (cQL X).length)), some (.int (nI (cQR X).length)), some (.int (nI (cF X).length)), some (.int (nI k))], M3)) (φ := True) rfl trivial ?_
          refine sW_ic_ge 148 d_Cells_measure_91 (by decide) (fun c_91 => ?_) (fun c_91 => ?_)
          · skip
            simp (disch := omega) only [nI_leI] at c_91
            refine sW_go b_Cells_measure_148 (st' := ([.int (nI (n + 2)), .int (nI (cPR X).length), .int (nI (cPL X).length), .ref c], [some (.ref c), some (.ref o), some (.int (nI (cF X).length)), some (.int (nI (n + 2))), some (.int (nI (cPL X).length)), some (.int (nI (cPR X).length)), some (.int (nI (cQL X).length)), some (.int (nI (cQR X).length)), some (.int (nI (cF X).length)), some (.int (nI k))], M3)) (φ := True) rfl trivial ?_
            omega
          · skip
            simp (disch := omega) only [nI_leI] at c_91
            refine sW_go b_Cells_measure_94 (st' := ([.int (M3 (c + 6) (nI k).toNatClampNeg), .int (nI k), .int (nI 1), .ref (c + 1), .ref (c + 8)], [some (.ref c), some (.ref o), some (.int (nI sn)), some (.int (nI (n + 2))), some (.int (nI (cPL X).length)), some (.int (nI (cPR X).length)), some (.int (nI (cQL X).length)), some (.int (nI (cQR X).length)), some (.int (nI (cF X).length)), some (.int (nI k))], M3)) (φ := mx_ocl LAY c = 2 ∧ mx_ocl LAY c = 2 ∧ mx_ocl LAY c = 2 ∧ mx_ocl LAY (c + 5) = 6 ∧ vp_in (nI k) (mx_len LAY false (c + 6)) ∧ True) rfl ⟨ho, ho, ho, (oc_Cells_found ho), (by simp (disch := omega) only [(ln_Sets_at (oc_Cells_found ho))]; exact vp_in_nI (by omega) (by decide)), trivial⟩ ?_
            refine sW_eq (st' := ([.int (nI ((cF X).getD k 0)), .int (nI k), .int (nI 1), .ref (c + 1), .ref (c + 8)], [some (.ref c), some (.ref o), some (.int (nI sn)), some (.int (nI (n + 2))), some (.int (nI (cPL X).length)), some (.int (nI (cPR X).length)), some (.int (nI (cQL X).length)), some (.int (nI (cQR X).length)), some (.int (nI (cF X).length)), some (.int (nI k))], M3)) (by simp (disch := omega) only [nI_clamp, q1]) ?_
            refine sW_callV 7 [.ref (c + 1), .int (nI 1), .int (nI k), .int (nI ((cF X).getD k 0))] [] d_Cells_measure_115 c_Cells_measure_115 ⟨rfl, rfl, rfl, Nat.le_of_ble_eq_true rfl, rfl, rfl⟩ (oc_Cells_ofPairs ho) (k_Sides_see G (oc_Cells_ofPairs ho) (oc_Cells_house ho) p0 hw (by decide) q2 (by omega) p7 p8 (by omega)) ?_
            rintro _ M4 ⟨rfl, a1, a2, a3, a4, a5⟩
            have q4 : M4 (c + 6) k = nI ((cF X).getD k 0) := by rw [a1 (c + 6) (by omega)]; exact q1
            show sW G m_Cells_measure 118 ([], [some (.ref c), some (.ref o), some (.int (nI sn)), some (.int (nI (n + 2))), some (.int (nI (cPL X).length)), some (.int (nI (cPR X).length)), some (.int (nI (cQL X).length)), some (.int (nI (cQR X).length)), some (.int (nI (cF X).length)), some (.int (nI k))], M4) _
            refine sW_go b_Cells_measure_118 (st' := ([.int (M4 (c + 6) (nI k).toNatClampNeg), .int (nI k), .int (nI 2), .ref (c + 1), .ref (c + 17)], [some (.ref c), some (.ref o), some (.int (nI sn)), some (.int (nI (n + 2))), some (.int (nI (cPL X).length)), some (.int (nI (cPR X).length)), some (.int (nI (cQL X).length)), some (.int (nI (cQR X).length)), some (.int (nI (cF X).length)), some (.int (nI k))], M4)) (φ := mx_ocl LAY c = 2 ∧ mx_ocl LAY c = 2 ∧ mx_ocl LAY c = 2 ∧ mx_ocl LAY (c + 5) = 6 ∧ vp_in (nI k) (mx_len LAY false (c + 6)) ∧ True) rfl ⟨ho, ho, ho, (oc_Cells_found ho), (by simp (disch := omega) only [(ln_Sets_at (oc_Cells_found ho))]; exact vp_in_nI (by omega) (by decide)), trivial⟩ ?_
            refine sW_eq (st' := ([.int (nI ((cF X).getD k 0)), .int (nI k), .int (nI 2), .ref (c + 1), .ref (c + 17)], [some (.ref c), some (.ref o), some (.int (nI sn)), some (.int (nI (n + 2))), some (.int (nI (cPL X).length)), some (.int (nI (cPR X).length)), some (.int (nI (cQL X).length)), some (.int (nI (cQR X).length)), some (.int (nI (cF X).length)), some (.int (nI k))], M4)) (by simp (disch := omega) only [nI_clamp, q4]) ?_
            refine sW_callV 7 [.ref (c + 1), .int (nI 2), .int (nI k), .int (nI ((cF X).getD k 0))] [] d_Cells_measure_139 c_Cells_measure_139 ⟨rfl, rfl, rfl, Nat.le_of_ble_eq_true rfl, rfl, rfl⟩ (oc_Cells_ofCases ho) (k_Sides_see G (oc_Cells_ofCases ho) (oc_Cells_house ho) (p0.fr a1 (by omega)) hw (by decide) q2 (by omega) (p9.fr a1 (by omega)) (p10.fr a1 (by omega)) (by omega)) ?_
            rintro _ M5 ⟨rfl, b1, b2, b3, b4, b5⟩
            show sW G m_Cells_measure 142 ([], [some (.ref c), some (.ref o), some (.int (nI sn)), some (.int (nI (n + 2))), some (.int (nI (cPL X).length)), some (.int (nI (cPR X).length)), some (.int (nI (cQL X).length)), some (.int (nI (cQR X).length)), some (.int (nI (cF X).length)), some (.int (nI k))], M5) _
            refine sW_go b_Cells_measure_142 (st' := ([], [some (.ref c), some (.ref o), some (.int (nI sn)), some (.int (nI (n + 2))), some (.int (nI (cPL X).length)), some (.int (nI (cPR X).length)), some (.int (nI (cQL X).length)), some (.int (nI (cQR X).length)), some (.int (nI (cF X).length)), some (.int (nI k + nI 1))], M5)) (φ := True) rfl trivial ?_
            refine sW_eq (st' := ([], [some (.ref c), some (.ref o), some (.int (nI sn)), some (.int (nI (n + 2))), some (.int (nI (cPL X).length)), some (.int (nI (cPR X).length)), some (.int (nI (cQL X).length)), some (.int (nI (cQR X).length)), some (.int (nI (cF X).length)), some (.int (nI (k + 1)))], M5)) (by simp (disch := omega) only [nI_add]) ?_
            refine sW_goto 87 d_Cells_measure_145 (by decide) ?_
            exact ihk (k + 1, M5, _) (by dsimp only; omega) (by dsimp only; omega) (by dsimp only; omega) (See_step hk1 hS a1 a2 a3 a4 a5 b1 b2 b3 b4 b5)
        · have hke : k = (cF X).length := by omega
          subst hke
          have hLY : CxL hs (Kx hs (n + 1)) Y := by
            refine ⟨Mes_seen h5.1 h8 hFX i9, Mes_seen h5.2.1 h8 hFX i10, Mes_seen h5.2.2.1 h8 hFX i11, fun u => ?_⟩
            rw [i12 u, h5.2.2.2 u, or_assoc]
            refine or_congr Iff.rfl ?_
            constructor
            · rintro (⟨s, a, b⟩ | ⟨j, a, _, b⟩)
              · exact ⟨s, Kx_up n a, b⟩
              · exact ⟨_, (hFX _).mp (getD_mem a), b⟩
            · rintro ⟨s, a, b⟩
              obtain ⟨j, hj, ej⟩ := mem_at ((hFX s).mpr a)
              by_cases hjs : j < sn
              · refine Or.inl ⟨s, (h8 s).mp ?_, b⟩
                rw [← ej]
                exact take_at hjs hj
              · exact Or.inr ⟨j, hj, by omega, by rw [ej]; exact b⟩
          have hIY : CxI hs hs.2.1 Y := by
            unfold CxI
            have e1 : cPS Y = cPS X := by show Y.2.2.2.1 = _; rw [i4]
            have e2 : cMS Y = cMS X := by show Y.2.2.2.2.1 = _; rw [i4]
            have e3 : cwc Y = cwc X := by show Y.2.2.2.2.2.1 = _; rw [i4]
            have e4 : cwp Y = cwp X := by show Y.2.2.2.2.2.2.1 = _; rw [i4]
            have e5 : cwf Y = cwf X := by show Y.2.2.2.2.2.2.2 = _; rw [i4]
            rw [eF, e1, e2, e3, e4, e5]
            exact h4
          have ePS : cPS Y = cPS X := by show Y.2.2.2.1 = _; rw [i4]
          have eMS : cMS Y = cMS X := by show Y.2.2.2.2.1 = _; rw [i4]
          refine sW_go b_Cells_measure_87 (st' := ([.int (nI (cF X).length), .int (nI (cF X).length)], [some (.ref c), some (.ref o), some (.int (nI sn)), some (.int (nI (n + 2))), some (.int (nI (cPL X).length)), some (.int (nI (cPR X).length)), some (.int (nI (cQL X).length)), some (.int (nI (cQR X).length)), some (.int (nI (cF X).length)), some (.int (nI (cF X).length))], M3)) (φ := True) rfl trivial ?_
          refine sW_ic_ge 148 d_Cells_measure_91 (by decide) (fun c_91 => ?_) (fun c_91 => ?_)
          · skip
            simp (disch := omega) only [nI_leI] at c_91
            refine sW_go b_Cells_measure_148 (st' := ([.int (nI (n + 2)), .int (nI (cPR X).length), .int (nI (cPL X).length), .ref c], [some (.ref c), some (.ref o), some (.int (nI (cF X).length)), some (.int (nI (n + 2))), some (.int (nI (cPL X).length)), some (.int (nI (cPR X).length)), some (.int (nI (cQL X).length)), some (.int (nI (cQR X).length)), some (.int (nI (cF X).length)), some (.int (nI (cF X).length))], M3)) (φ := True) rfl trivial ?_
            refine sW_callV 2 [.int (nI (cPL X).length), .int (nI (cPR X).length), .int (nI (n + 2))] [] d_Cells_measure_157 c_Cells_measure_157 ⟨rfl, rfl, rfl, Nat.le_of_ble_eq_true rfl, rfl, rfl⟩ ho (k_addPairsQ G ho hw i2 hIY (by omega) (by omega) y1 y2 (Q := fun r M' => r = none ∧ ∃ Z, Fr M3 M' c (c + 37) ∧ (∀ a, c + 8 ≤ a → a < c + 26 → M' a = M3 a) ∧ CxM M' c hs Z ∧ CxI hs hs.2.1 Z ∧ Ext (n + 2) Y Z ∧ (∀ u, u ∈ cPS Z ↔ u ∈ cPS Y ∨ prs Y (cPL X).length (cPR X).length (cPL Y).length u) ∧ cMS Z = cMS Y) (fun M' Z a b d e g i j => ⟨rfl, Z, a, b, d, e, g, i, j⟩)) ?_
            rintro _ M4 ⟨rfl, Z, g1, g2, g3, g4, g5, g6, g7⟩
            show sW G m_Cells_measure 160 ([], [some (.ref c), some (.ref o), some (.int (nI (cF X).length)), some (.int (nI (n + 2))), some (.int (nI (cPL X).length)), some (.int (nI (cPR X).length)), some (.int (nI (cQL X).length)), some (.int (nI (cQR X).length)), some (.int (nI (cF X).length)), some (.int (nI (cF X).length))], M4) _
            refine sW_go b_Cells_measure_160 (st' := ([.int (nI (n + 2)), .int (nI (cQR X).length), .int (nI (cQL X).length), .ref c], [some (.ref c), some (.ref o), some (.int (nI (cF X).length)), some (.int (nI (n + 2))), some (.int (nI (cPL X).length)), some (.int (nI (cPR X).length)), some (.int (nI (cQL X).length)), some (.int (nI (cQR X).length)), some (.int (nI (cF X).length)), some (.int (nI (cF X).length))], M4)) (φ := True) rfl trivial ?_
            refine sW_callV 2 [.int (nI (cQL X).length), .int (nI (cQR X).length), .int (nI (n + 2))] [] d_Cells_measure_166 c_Cells_measure_166 ⟨rfl, rfl, rfl, Nat.le_of_ble_eq_true rfl, rfl, rfl⟩ ho (k_addCasesQ G ho hw g3 g4 (by omega) (by omega) (T0 := Tk hs (Kx hs n)) (fun u => by rw [g7, eMS]; exact h6.2 u) y3 y4 (Q := fun r M' => r = none ∧ ∃ W, Fr M4 M' c (c + 37) ∧ (∀ a, c + 8 ≤ a → a < c + 26 → M' a = M4 a) ∧ CxM M' c hs W ∧ CxI hs hs.2.1 W ∧ Ext (n + 2) Z W ∧ (∀ u, u ∈ cMS W ↔ Jn (fun t => Tk hs (Kx hs n) t ∨ css Z (cQL X).length (cQR X).length (cQL Z).length t) u) ∧ cPS W = cPS Z) (fun M' W a b d e g i j => ⟨rfl, W, a, b, d, e, g, i, j⟩)) ?_
            rintro _ M5 ⟨rfl, W, k1, k2, k3, k4, k5, k6, k7⟩
            show sW G m_Cells_measure 169 ([], [some (.ref c), some (.ref o), some (.int (nI (cF X).length)), some (.int (nI (n + 2))), some (.int (nI (cPL X).length)), some (.int (nI (cPR X).length)), some (.int (nI (cQL X).length)), some (.int (nI (cQR X).length)), some (.int (nI (cF X).length)), some (.int (nI (cF X).length))], M5) _
            refine sW_go b_Cells_measure_169 (st' := ([], [some (.ref c), some (.ref o), some (.int (nI (cF X).length)), some (.int (nI (n + 2) + nI 1)), some (.int (nI (cPL X).length)), some (.int (nI (cPR X).length)), some (.int (nI (cQL X).length)), some (.int (nI (cQR X).length)), some (.int (nI (cF X).length)), some (.int (nI (cF X).length))], M5)) (φ := True) rfl trivial ?_
            refine sW_eq (st' := ([], [some (.ref c), some (.ref o), some (.int (nI (cF X).length)), some (.int (nI (n + 2 + 1))), some (.int (nI (cPL X).length)), some (.int (nI (cPR X).length)), some (.int (nI (cQL X).length)), some (.int (nI (cQR X).length)), some (.int (nI (cF X).length)), some (.int (nI (cF X).length))], M5)) (by simp (disch := omega) only [nI_add]) ?_
            refine sW_goto 9 d_Cells_measure_172 (by decide) ?_
            refine sW_fg [false, false, false, false, true, true, true, true, true, true] ?_
            show sW G m_Cells_measure 9 ([], [some (.ref c), some (.ref o), some (.int (nI (cF X).length)), some (.int (nI (n + 2 + 1))), none, none, none, none, none, none], M5) _
            have eZ1 : Z.2.1 = Y.2.1 := g5.1
            have eZ2 : Z.2.2.1 = Y.2.2.1 := g5.2.1
            have eW1 : W.2.1 = Y.2.1 := k5.1.trans eZ1
            have eW2 : W.2.2.1 = Y.2.2.1 := k5.2.1.trans eZ2
            have hLZ : CxL hs (Kx hs (n + 1)) Z := by
              unfold CxL
              have e1 : cPL Z = cPL Y := by show Z.2.1.1 = _; rw [eZ1]
              have e2 : cPR Z = cPR Y := by show Z.2.1.2 = _; rw [eZ1]
              have e3 : cQL Z = cQL Y := by show Z.2.2.1.1 = _; rw [eZ2]
              have e4 : cQR Z = cQR Y := by show Z.2.2.1.2 = _; rw [eZ2]
              rw [e1, e2, e3, e4]
              exact hLY
            have hLW : CxL hs (Kx hs (n + 1)) W := by
              unfold CxL
              have e1 : cPL W = cPL Y := by show W.2.1.1 = _; rw [eW1]
              have e2 : cPR W = cPR Y := by show W.2.1.2 = _; rw [eW1]
              have e3 : cQL W = cQL Y := by show W.2.2.1.1 = _; rw [eW2]
              have e4 : cQR W = cQR Y := by show W.2.2.1.2 = _; rw [eW2]
              rw [e1, e2, e3, e4]
              exact hLY
            have hPW : CxP hs (Kx hs (n + 1)) W := by
              refine ⟨fun u => ?_, fun v => ?_⟩
              · rw [k7, g6 u, ePS]
                exact CxP_pairs (fun x => Kx_up n) h5 h6.1 hLY i5 i6 u
              · rw [k6 v]
                have e3 : cQL Z = cQL Y := by show Z.2.2.1.1 = _; rw [eZ2]
                have e4 : cQR Z = cQR Y := by show Z.2.2.1.2 = _; rw [eZ2]
                exact Jn_congr (fun t => CxP_cases (fun x => Kx_up n) h5 hLZ (by rw [e3]; exact i7) (by rw [e4]; exact i8) t)
            have hE := g5.tr k5
            have hFW := CxF k4 hPW
            obtain ⟨l, el⟩ := hE.2.2.1
            have el2 : cF W = cF X ++ l := by rw [← eF]; exact el
            have hcf : cf Y = cf X := by show Y.1.2 = _; rw [i3]
            have hn : (cF W).Nodup := k3.2.2.2.2.2.2.1.2.1
            have hHW : CxH hs W := Mes_H h7 hFX hFW ⟨l, el2⟩ (fun s hs' => by rw [hE.2.2.2.2.2.1 s (by rw [eF]; exact hs'), hcf]) (fun s a b => hE.2.2.2.2.2.2 s a (by rw [eF]; exact b)) hn
            refine ih (n + 1, (cF X).length, M5, W) (by dsimp only; omega) ((hF.tr i1).tr (g1.tr k1)) ⟨show n + 1 ≤ (cF X).length by omega, show (cF X).length ≤ (cF W).length by rw [el2]; simp, k3, k4, hLW, hPW, hHW, fun s => ?_, fun j hj => ?_⟩
            · dsimp only
              rw [el2, List.take_left]
              exact hFX s
            · dsimp only
              rw [el2, getD_app hj, k2 (c + 9) (by omega) (by omega), k2 (c + 10) (by omega) (by omega), k2 (c + 18) (by omega) (by omega), k2 (c + 19) (by omega) (by omega), g2 (c + 9) (by omega) (by omega), g2 (c + 10) (by omega) (by omega), g2 (c + 18) (by omega) (by omega), g2 (c + 19) (by omega) (by omega)]
              exact i13 j hj
          · skip
            simp (disch := omega) only [nI_leI] at c_91
            exact absurd c_91 (by omega)
      exact inner (sn, M2, X) (Nat.le_refl _) h2 (See_0 h3 h9)

