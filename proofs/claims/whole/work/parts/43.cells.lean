theorem all_k1 {k : Nat} (P : Nat → Prop) : (∀ j, j < k + 1 → P j) ↔ (∀ j, j < k → P j) ∧ P k := ⟨fun q => ⟨fun j hj => q j (by omega), q k (by omega)⟩, fun q j hj => by
  by_cases hjk : j = k
  · rw [hjk]; exact q.2
  · exact q.1 j (by omega)⟩
theorem ex_k1 {k : Nat} (P : Nat → Prop) : (∃ j, j < k + 1 ∧ P j) ↔ (∃ j, j < k ∧ P j) ∨ P k := ⟨fun ⟨j, hj, q⟩ => by
  by_cases hjk : j = k
  · rw [hjk] at q; exact Or.inr q
  · exact Or.inl ⟨j, by omega, q⟩, fun q => q.elim (fun ⟨j, hj, w⟩ => ⟨j, by omega, w⟩) (fun w => ⟨k, by omega, w⟩)⟩
theorem bt_zz (k : Nat) : ¬ bt 0 k = 1 := by simp [bt]
noncomputable def answM (hs : Hs) (f a : Nat) : Nat := mk8 (fun t => t < hs.1 ∧ ¬ HasC hs f ∧ ¬ HasP hs f ∧ ∀ x, Kw hs x → bt x a = 1 → bt (fromM hs f x) t = 1)
theorem k_holdingAnswers (G : mx_G) {M : mx_M} {c f a : Nat} {hs : Hs} {X : Cx} (ho : mx_ocl LAY c = 2) (hw : HsOk hs) (h : MesD M c hs X) (hf : f < hs.1) (ha : a < hs.1) : sOk G m_Cells_holdingAnswers [.ref c, .int (nI f), .int (nI a)] M (fun r M' => r = some (.int (nI (answM hs f a))) ∧ Fr M M' (c + 34) (c + 35)) := by
  obtain ⟨⟨m0, m1, m2, m3, m4, m5, m6, m7, m8, m9, m10, m11, m12, m13, m14⟩, ⟨i1, ⟨i2, i3⟩, ⟨i4, i5⟩, ⟨i6, i7⟩⟩, d3, d4, d5, d6, d7⟩ := id h
  have w1 := hw.1
  have hl := m6.len
  have hp8 : 2 ^ hs.1 ≤ 2 ^ 8 := Nat.pow_le_pow_right (by decide) w1
  have b1 := h.wc f
  have b2 := h.wp f
  have b3 := bt_le (cwc X) f
  have b4 := bt_le (cwp X) f
  have p1 : (nI (cwc X) >>> (nI f &&& 31)) &&& nI 1 = nI (bt (cwc X) f) := sh_b (by omega) (by omega)
  have p2 : (nI (cwp X) >>> (nI f &&& 31)) &&& nI 1 = nI (bt (cwp X) f) := sh_b (by omega) (by omega)
  have hfr : ∀ t, bt (answM hs f a) t = 1 ↔ t < 8 ∧ _ := fun t => mk8_bt _ t
  generalize hFM : answM hs f a = FM at hfr ⊢
  have z : ¬ (¬ HasC hs f ∧ ¬ HasP hs f) → FM = 0 := fun hn => bt_ext (fun t => by
    rw [hfr t]
    exact ⟨fun q => absurd ⟨q.2.2.1, q.2.2.2.1⟩ hn, fun q => absurd q (bt_zz t)⟩)
  refine sOk_of ⟨by decide +kernel, by decide +kernel, Nat.le_of_ble_eq_true rfl⟩ ?_
  show sW G m_Cells_holdingAnswers 0 ([], [some (.ref c), some (.int (nI f)), some (.int (nI a)), none, none], M) _
  refine sW_go b_Cells_holdingAnswers_0 (st' := ([.int ((M c 3 >>> (nI f &&& 31)) &&& nI 1)], [some (.ref c), some (.int (nI f)), some (.int (nI a)), none, none], M)) (φ := mx_ocl LAY c = 2 ∧ True) rfl ⟨ho, trivial⟩ ?_
  refine sW_eq (st' := ([.int (nI (bt (cwc X) f))], [some (.ref c), some (.int (nI f)), some (.int (nI a)), none, none], M)) (by simp (disch := omega) only [m3, p1]) ?_
  refine sW_if_ne 22 d_Cells_holdingAnswers_8 (by decide) (fun c_8 => ?_) (fun c_8 => ?_)
  · skip
    simp (disch := omega) only [nI_z] at c_8
    refine sW_go b_Cells_holdingAnswers_22 (st' := ([.int (nI 0)], [some (.ref c), some (.int (nI f)), some (.int (nI a)), none, none], M)) (φ := True) rfl trivial ?_
    refine sW_retI d_Cells_holdingAnswers_23 rfl (vp_nar_int _) ?_
    refine ⟨?_, Fr.rf⟩
    rw [z (fun q => q.1 (b1.mp (by omega)))]
  · skip
    simp (disch := omega) only [nI_z] at c_8
    refine sW_go b_Cells_holdingAnswers_11 (st' := ([.int ((M c 4 >>> (nI f &&& 31)) &&& nI 1)], [some (.ref c), some (.int (nI f)), some (.int (nI a)), none, none], M)) (φ := mx_ocl LAY c = 2 ∧ True) rfl ⟨ho, trivial⟩ ?_
    refine sW_eq (st' := ([.int (nI (bt (cwp X) f))], [some (.ref c), some (.int (nI f)), some (.int (nI a)), none, none], M)) (by simp (disch := omega) only [m4, p2]) ?_
    refine sW_if_eq 24 d_Cells_holdingAnswers_19 (by decide) (fun c_19 => ?_) (fun c_19 => ?_)
    · skip
      simp (disch := omega) only [nI_z] at c_19
      refine sW_go b_Cells_holdingAnswers_24 (st' := ([.int (nI f), .ref c], [some (.ref c), some (.int (nI f)), some (.int (nI a)), none, none], M)) (φ := True) rfl trivial ?_
      refine sW_callV 2 [.int (nI f)] [] d_Cells_holdingAnswers_26 c_Cells_holdingAnswers_26 ⟨rfl, rfl, rfl, Nat.le_of_ble_eq_true rfl, rfl, rfl⟩ ho (k_openFor G ho hw h hf) ?_
      rintro _ M1 ⟨rfl, a1, a2⟩
      have hMD := h.op a1
      have n1 : M1 c 1 = nI (2 ^ hs.1 - 1) := hMD.1.2.1
      show sW G m_Cells_holdingAnswers 29 ([], [some (.ref c), some (.int (nI f)), some (.int (nI a)), none, none], M1) _
      refine sW_go b_Cells_holdingAnswers_29 (st' := ([], [some (.ref c), some (.int (nI f)), some (.int (nI a)), some (.int (M1 c 1)), some (.int (nI 0))], M1)) (φ := mx_ocl LAY c = 2 ∧ True) rfl ⟨ho, trivial⟩ ?_
      refine sW_eq (st' := ([], [some (.ref c), some (.int (nI f)), some (.int (nI a)), some (.int (nI (2 ^ hs.1 - 1))), some (.int (nI 0))], M1)) (by simp (disch := omega) only [n1]) ?_
      have hnn : ¬ HasC hs f ∧ ¬ HasP hs f := ⟨fun q => by have := b1.mpr q; omega, fun q => by have := b2.mpr q; omega⟩
      have z0 : M1 (c + 5) 2 = nI (cF X).length := hMD.1.2.2.2.2.2.2.1.1
      have n6 := hMD.1.2.2.2.2.2.2.1
      have n7 := hMD.2.2.2.2.2.2
      refine mx_ind (α := Nat × Nat) (fun q => (cF X).length - q.1) (fun q => q.1 ≤ (cF X).length → q.2 < 256 → (∀ t, bt q.2 t = 1 ↔ t < hs.1 ∧ ∀ j, j < q.1 → bt ((cF X).getD j 0) a = 1 → bt (fromM hs f ((cF X).getD j 0)) t = 1) → sW G m_Cells_holdingAnswers 37 ([], [some (.ref c), some (.int (nI f)), some (.int (nI a)), some (.int (nI q.2)), some (.int (nI q.1))], M1) _) ?_ (0, 2 ^ hs.1 - 1) (Nat.zero_le _) (by dsimp only; omega) (fun t => by dsimp only; rw [bt_all]; exact ⟨fun q => ⟨q, fun j hj => absurd hj (Nat.not_lt_zero j)⟩, fun q => q.1⟩)
      rintro ⟨k, m⟩ ih hk hm hb
      dsimp only at ih hk hm hb ⊢
      have fin : (∀ t, bt m t = 1 ↔ t < hs.1 ∧ ∀ j, j < (cF X).length → bt ((cF X).getD j 0) a = 1 → bt (fromM hs f ((cF X).getD j 0)) t = 1) → m = FM := fun hb => bt_ext (fun t => by
        rw [hb t, hfr t]
        constructor
        · rintro ⟨q1, q2⟩
          refine ⟨by omega, q1, hnn.1, hnn.2, fun y hy ho' => ?_⟩
          obtain ⟨i, hi, rfl⟩ := mem_at ((d6 y).mpr hy)
          exact q2 i hi ho'
        · rintro ⟨_, q1, q2, q2', q3⟩
          exact ⟨q1, fun j hj ho' => q3 _ ((d6 _).mp (getD_mem hj)) ho'⟩)
      by_cases hkn : k < (cF X).length
      · have z1 : M1 (c + 6) k = nI ((cF X).getD k 0) := n6.2.2.2.1 k hkn
        have z2 := (m6.lt hkn).1
        have z3 := (n7 k hkn).2.2.1
        have hst2 := fun t => all_k1 (k := k) (fun j => bt ((cF X).getD j 0) a = 1 → bt (fromM hs f ((cF X).getD j 0)) t = 1)
        have z8 : fromM hs f ((cF X).getD k 0) < 256 := mk8_lt _
        generalize hg : (cF X).getD k 0 = g at z1 z2 z3 z8 hst2
        have z9 := bt_le g a
        have p5 : (nI g >>> (nI a &&& 31)) &&& nI 1 = nI (bt g a) := sh_b (by omega) (by omega)
        refine sW_go b_Cells_holdingAnswers_37 (st' := ([.int (M1 (c + 5) 2), .int (nI k)], [some (.ref c), some (.int (nI f)), some (.int (nI a)), some (.int (nI m)), some (.int (nI k))], M1)) (φ := mx_ocl LAY c = 2 ∧ mx_ocl LAY (c + 5) = 6 ∧ True) rfl ⟨ho, (oc_Cells_found ho), trivial⟩ ?_
        refine sW_eq (st' := ([.int (nI (cF X).length), .int (nI k)], [some (.ref c), some (.int (nI f)), some (.int (nI a)), some (.int (nI m)), some (.int (nI k))], M1)) (by simp (disch := omega) only [z0]) ?_
        refine sW_ic_ge 93 d_Cells_holdingAnswers_46 (by decide) (fun c_46 => ?_) (fun c_46 => ?_)
        · skip
          simp (disch := omega) only [nI_leI] at c_46
          refine sW_go b_Cells_holdingAnswers_93 (st' := ([.int (nI m)], [some (.ref c), some (.int (nI f)), some (.int (nI a)), some (.int (nI m)), some (.int (nI k))], M1)) (φ := True) rfl trivial ?_
          refine sW_retI d_Cells_holdingAnswers_94 rfl (vp_nar_int _) ?_
          omega
        · skip
          simp (disch := omega) only [nI_leI] at c_46
          refine sW_go b_Cells_holdingAnswers_49 (st' := ([.int (nI m)], [some (.ref c), some (.int (nI f)), some (.int (nI a)), some (.int (nI m)), some (.int (nI k))], M1)) (φ := True) rfl trivial ?_
          refine sW_if_eq 93 d_Cells_holdingAnswers_50 (by decide) (fun c_50 => ?_) (fun c_50 => ?_)
          · skip
            simp (disch := omega) only [nI_z] at c_50
            refine sW_go b_Cells_holdingAnswers_93 (st' := ([.int (nI m)], [some (.ref c), some (.int (nI f)), some (.int (nI a)), some (.int (nI m)), some (.int (nI k))], M1)) (φ := True) rfl trivial ?_
            refine sW_retI d_Cells_holdingAnswers_94 rfl (vp_nar_int _) ?_
            refine ⟨?_, a1⟩
            have hm0 : m = 0 := by omega
            have : m = FM := fin (fun t => by
              rw [hm0]
              refine ⟨fun q => absurd q (bt_zz t), fun q => absurd ((hb t).mpr ⟨q.1, fun j hj => q.2 j (by omega)⟩) (by rw [hm0]; exact bt_zz t)⟩)
            rw [← this]
          · skip
            simp (disch := omega) only [nI_z] at c_50
            refine sW_go b_Cells_holdingAnswers_53 (st' := ([.int ((M1 (c + 6) (nI k).toNatClampNeg >>> (nI a &&& 31)) &&& nI 1)], [some (.ref c), some (.int (nI f)), some (.int (nI a)), some (.int (nI m)), some (.int (nI k))], M1)) (φ := mx_ocl LAY c = 2 ∧ mx_ocl LAY (c + 5) = 6 ∧ vp_in (nI k) (mx_len LAY false (c + 6)) ∧ True) rfl ⟨ho, (oc_Cells_found ho), (by simp (disch := omega) only [(ln_Sets_at (oc_Cells_found ho))]; exact vp_in_nI (by omega) (by decide)), trivial⟩ ?_
            refine sW_eq (st' := ([.int (nI (bt g a))], [some (.ref c), some (.int (nI f)), some (.int (nI a)), some (.int (nI m)), some (.int (nI k))], M1)) (by simp (disch := omega) only [nI_clamp, p5, z1]) ?_
            refine sW_if_eq 87 d_Cells_holdingAnswers_67 (by decide) (fun c_67 => ?_) (fun c_67 => ?_)
            · skip
              simp (disch := omega) only [nI_z] at c_67
              refine sW_go b_Cells_holdingAnswers_87 (st' := ([], [some (.ref c), some (.int (nI f)), some (.int (nI a)), some (.int (nI m)), some (.int (nI k + nI 1))], M1)) (φ := True) rfl trivial ?_
              refine sW_eq (st' := ([], [some (.ref c), some (.int (nI f)), some (.int (nI a)), some (.int (nI m)), some (.int (nI (k + 1)))], M1)) (by simp (disch := omega) only [nI_add]) ?_
              refine sW_goto 37 d_Cells_holdingAnswers_90 (by decide) ?_
              refine ih (k + 1, m) (by dsimp only; omega) (by dsimp only; omega) hm (fun t => ?_)
              dsimp only
              rw [hb t, hst2 t]
              exact ⟨fun q => ⟨q.1, q.2, fun w => by omega⟩, fun q => ⟨q.1, q.2.1⟩⟩
            · skip
              simp (disch := omega) only [nI_z] at c_67
              refine sW_go b_Cells_holdingAnswers_70 (st' := ([.int (M1 (c + 18) (nI k).toNatClampNeg), .ref c, .int (nI m)], [some (.ref c), some (.int (nI f)), some (.int (nI a)), some (.int (nI m)), some (.int (nI k))], M1)) (φ := mx_ocl LAY c = 2 ∧ mx_ocl LAY (c + 17) = 7 ∧ vp_in (nI k) (mx_len LAY false (c + 18)) ∧ True) rfl ⟨ho, (oc_Cells_ofCases ho), (by simp (disch := omega) only [(ln_Sides_leftOf (oc_Cells_ofCases ho))]; exact vp_in_nI (by omega) (by decide)), trivial⟩ ?_
              refine sW_eq (st' := ([.int (nI (L2 hs g)), .ref c, .int (nI m)], [some (.ref c), some (.int (nI f)), some (.int (nI a)), some (.int (nI m)), some (.int (nI k))], M1)) (by simp (disch := omega) only [nI_clamp, z3]) ?_
              refine sW_callV 2 [.int (nI (L2 hs g))] [.int (nI m)] d_Cells_holdingAnswers_82 c_Cells_holdingAnswers_82 ⟨rfl, rfl, rfl, Nat.le_of_ble_eq_true rfl, rfl, rfl⟩ ho (k_holdingAnswersFrom G ho hw hMD a2) ?_
              rintro _ M₁ ⟨rfl, h₁⟩
              rw [h₁]
              show sW G m_Cells_holdingAnswers 85 ([.int (nI (fromM hs f g)), .int (nI m)], [some (.ref c), some (.int (nI f)), some (.int (nI a)), some (.int (nI m)), some (.int (nI k))], M1) _
              refine sW_go b_Cells_holdingAnswers_85 (st' := ([], [some (.ref c), some (.int (nI f)), some (.int (nI a)), some (.int (nI m &&& nI (fromM hs f g))), some (.int (nI k))], M1)) (φ := True) rfl trivial ?_
              refine sW_eq (st' := ([], [some (.ref c), some (.int (nI f)), some (.int (nI a)), some (.int (nI (m &&& fromM hs f g))), some (.int (nI k))], M1)) (by simp (disch := omega) only [nx_and]) ?_
              refine sW_go b_Cells_holdingAnswers_87 (st' := ([], [some (.ref c), some (.int (nI f)), some (.int (nI a)), some (.int (nI (m &&& fromM hs f g))), some (.int (nI k + nI 1))], M1)) (φ := True) rfl trivial ?_
              refine sW_eq (st' := ([], [some (.ref c), some (.int (nI f)), some (.int (nI a)), some (.int (nI (m &&& fromM hs f g))), some (.int (nI (k + 1)))], M1)) (by simp (disch := omega) only [nI_add]) ?_
              refine sW_goto 37 d_Cells_holdingAnswers_90 (by decide) ?_
              refine ih (k + 1, m &&& fromM hs f g) (by dsimp only; omega) (by dsimp only; omega) (Nat.lt_of_le_of_lt Nat.and_le_left hm) (fun t => ?_)
              dsimp only
              rw [bt_and, hb t, hst2 t]
              exact ⟨fun q => ⟨q.1.1, q.1.2, fun _ => q.2⟩, fun q => ⟨⟨q.1, q.2.1⟩, q.2.2 (by omega)⟩⟩
      · have hke : k = (cF X).length := by omega
        subst hke
        refine sW_go b_Cells_holdingAnswers_37 (st' := ([.int (M1 (c + 5) 2), .int (nI (cF X).length)], [some (.ref c), some (.int (nI f)), some (.int (nI a)), some (.int (nI m)), some (.int (nI (cF X).length))], M1)) (φ := mx_ocl LAY c = 2 ∧ mx_ocl LAY (c + 5) = 6 ∧ True) rfl ⟨ho, (oc_Cells_found ho), trivial⟩ ?_
        refine sW_eq (st' := ([.int (nI (cF X).length), .int (nI (cF X).length)], [some (.ref c), some (.int (nI f)), some (.int (nI a)), some (.int (nI m)), some (.int (nI (cF X).length))], M1)) (by simp (disch := omega) only [z0]) ?_
        refine sW_ic_ge 93 d_Cells_holdingAnswers_46 (by decide) (fun c_46 => ?_) (fun c_46 => ?_)
        · skip
          simp (disch := omega) only [nI_leI] at c_46
          refine sW_go b_Cells_holdingAnswers_93 (st' := ([.int (nI m)], [some (.ref c), some (.int (nI f)), some (.int (nI a)), some (.int (nI m)), some (.int (nI (cF X).length))], M1)) (φ := True) rfl trivial ?_
          refine sW_retI d_Cells_holdingAnswers_94 rfl (vp_nar_int _) ?_
          refine ⟨?_, a1⟩
          rw [fin hb]
        · skip
          simp (disch := omega) only [nI_leI] at c_46
          exact absurd c_46 (by omega)
    · skip
      simp (disch := omega) only [nI_z] at c_19
      refine sW_go b_Cells_holdingAnswers_22 (st' := ([.int (nI 0)], [some (.ref c), some (.int (nI f)), some (.int (nI a)), none, none], M)) (φ := True) rfl trivial ?_
      refine sW_retI d_Cells_holdingAnswers_23 rfl (vp_nar_int _) ?_
      refine ⟨?_, Fr.rf⟩
      rw [z (fun q => q.2 (b2.mp (by omega)))]
noncomputable def askM (hs : Hs) (f : Nat) : Nat := mk8 (fun t => t < hs.1 ∧ ¬ HasC hs f ∧ ¬ HasP hs f ∧ ∀ x, Kw hs x → bt x t = 1 → ¬ Open hs f (L2 hs x))
theorem k_alwaysAnswered (G : mx_G) {M : mx_M} {c f : Nat} {hs : Hs} {X : Cx} (ho : mx_ocl LAY c = 2) (hw : HsOk hs) (h : MesD M c hs X) (hf : f < hs.1) : sOk G m_Cells_alwaysAnswered [.ref c, .int (nI f)] M (fun r M' => r = some (.int (nI (askM hs f))) ∧ Fr M M' (c + 34) (c + 35)) := by
  obtain ⟨⟨m0, m1, m2, m3, m4, m5, m6, m7, m8, m9, m10, m11, m12, m13, m14⟩, ⟨i1, ⟨i2, i3⟩, ⟨i4, i5⟩, ⟨i6, i7⟩⟩, d3, d4, d5, d6, d7⟩ := id h
  have w1 := hw.1
  have hl := m6.len
  have hp8 : 2 ^ hs.1 ≤ 2 ^ 8 := Nat.pow_le_pow_right (by decide) w1
  have b1 := h.wc f
  have b2 := h.wp f
  have b3 := bt_le (cwc X) f
  have b4 := bt_le (cwp X) f
  have p1 : (nI (cwc X) >>> (nI f &&& 31)) &&& nI 1 = nI (bt (cwc X) f) := sh_b (by omega) (by omega)
  have p2 : (nI (cwp X) >>> (nI f &&& 31)) &&& nI 1 = nI (bt (cwp X) f) := sh_b (by omega) (by omega)
  have hfr : ∀ t, bt (askM hs f) t = 1 ↔ t < 8 ∧ _ := fun t => mk8_bt _ t
  generalize hFM : askM hs f = FM at hfr ⊢
  have z : ¬ (¬ HasC hs f ∧ ¬ HasP hs f) → FM = 0 := fun hn => bt_ext (fun t => by
    rw [hfr t]
    exact ⟨fun q => absurd ⟨q.2.2.1, q.2.2.2.1⟩ hn, fun q => absurd q (bt_zz t)⟩)
  refine sOk_of ⟨by decide +kernel, by decide +kernel, Nat.le_of_ble_eq_true rfl⟩ ?_
  show sW G m_Cells_alwaysAnswered 0 ([], [some (.ref c), some (.int (nI f)), none, none], M) _
  refine sW_go b_Cells_alwaysAnswered_0 (st' := ([.int ((M c 3 >>> (nI f &&& 31)) &&& nI 1)], [some (.ref c), some (.int (nI f)), none, none], M)) (φ := mx_ocl LAY c = 2 ∧ True) rfl ⟨ho, trivial⟩ ?_
  refine sW_eq (st' := ([.int (nI (bt (cwc X) f))], [some (.ref c), some (.int (nI f)), none, none], M)) (by simp (disch := omega) only [m3, p1]) ?_
  refine sW_if_ne 22 d_Cells_alwaysAnswered_8 (by decide) (fun c_8 => ?_) (fun c_8 => ?_)
  · skip
    simp (disch := omega) only [nI_z] at c_8
    refine sW_go b_Cells_alwaysAnswered_22 (st' := ([.int (nI 0)], [some (.ref c), some (.int (nI f)), none, none], M)) (φ := True) rfl trivial ?_
    refine sW_retI d_Cells_alwaysAnswered_23 rfl (vp_nar_int _) ?_
    refine ⟨?_, Fr.rf⟩
    rw [z (fun q => q.1 (b1.mp (by omega)))]
  · skip
    simp (disch := omega) only [nI_z] at c_8
    refine sW_go b_Cells_alwaysAnswered_11 (st' := ([.int ((M c 4 >>> (nI f &&& 31)) &&& nI 1)], [some (.ref c), some (.int (nI f)), none, none], M)) (φ := mx_ocl LAY c = 2 ∧ True) rfl ⟨ho, trivial⟩ ?_
    refine sW_eq (st' := ([.int (nI (bt (cwp X) f))], [some (.ref c), some (.int (nI f)), none, none], M)) (by simp (disch := omega) only [m4, p2]) ?_
    refine sW_if_eq 24 d_Cells_alwaysAnswered_19 (by decide) (fun c_19 => ?_) (fun c_19 => ?_)
    · skip
      simp (disch := omega) only [nI_z] at c_19
      refine sW_go b_Cells_alwaysAnswered_24 (st' := ([.int (nI f), .ref c], [some (.ref c), some (.int (nI f)), none, none], M)) (φ := True) rfl trivial ?_
      refine sW_callV 2 [.int (nI f)] [] d_Cells_alwaysAnswered_26 c_Cells_alwaysAnswered_26 ⟨rfl, rfl, rfl, Nat.le_of_ble_eq_true rfl, rfl, rfl⟩ ho (k_openFor G ho hw h hf) ?_
      rintro _ M1 ⟨rfl, a1, a2⟩
      have hMD := h.op a1
      show sW G m_Cells_alwaysAnswered 29 ([], [some (.ref c), some (.int (nI f)), none, none], M1) _
      refine sW_go b_Cells_alwaysAnswered_29 (st' := ([], [some (.ref c), some (.int (nI f)), some (.int (nI 0)), some (.int (nI 0))], M1)) (φ := True) rfl trivial ?_
      have hnn : ¬ HasC hs f ∧ ¬ HasP hs f := ⟨fun q => by have := b1.mpr q; omega, fun q => by have := b2.mpr q; omega⟩
      have n1 : M1 c 1 = nI (2 ^ hs.1 - 1) := hMD.1.2.1
      have z0 : M1 (c + 5) 2 = nI (cF X).length := hMD.1.2.2.2.2.2.2.1.1
      have n6 := hMD.1.2.2.2.2.2.2.1
      have n7 := hMD.2.2.2.2.2.2
      refine mx_ind (α := Nat × Nat) (fun q => (cF X).length - q.1) (fun q => q.1 ≤ (cF X).length → q.2 < 256 → (∀ t, bt q.2 t = 1 ↔ ∃ j, j < q.1 ∧ Open hs f (L2 hs ((cF X).getD j 0)) ∧ bt ((cF X).getD j 0) t = 1) → sW G m_Cells_alwaysAnswered 33 ([], [some (.ref c), some (.int (nI f)), some (.int (nI q.2)), some (.int (nI q.1))], M1) _) ?_ (0, 0) (Nat.zero_le _) (by decide) (fun t => by dsimp only; exact ⟨fun q => absurd q (bt_zz t), fun ⟨j, hj, _⟩ => absurd hj (Nat.not_lt_zero j)⟩)
      rintro ⟨k, m⟩ ih hk hm hb
      dsimp only at ih hk hm hb ⊢
      by_cases hkn : k < (cF X).length
      · have z1 : M1 (c + 6) k = nI ((cF X).getD k 0) := n6.2.2.2.1 k hkn
        have z2 := (m6.lt hkn).1
        have z3 := (n7 k hkn).2.2.1
        have z4 := L2_lt hw ((cF X).getD k 0)
        have z5 := opB_Open hw (f := f) (L2_sub hs ((cF X).getD k 0))
        have z6 := a2 _ z4
        have z7 := cif_le (opB hs f 8 (L2 hs ((cF X).getD k 0)))
        have hst2 := fun t => ex_k1 (k := k) (fun j => Open hs f (L2 hs ((cF X).getD j 0)) ∧ bt ((cF X).getD j 0) t = 1)
        generalize hg : (cF X).getD k 0 = g at z1 z2 z3 z4 z5 z6 z7 hst2
        generalize hE : L2 hs g = E at z3 z4 z5 z6 z7 hst2
        refine sW_go b_Cells_alwaysAnswered_33 (st' := ([.int (M1 (c + 5) 2), .int (nI k)], [some (.ref c), some (.int (nI f)), some (.int (nI m)), some (.int (nI k))], M1)) (φ := mx_ocl LAY c = 2 ∧ mx_ocl LAY (c + 5) = 6 ∧ True) rfl ⟨ho, (oc_Cells_found ho), trivial⟩ ?_
        refine sW_eq (st' := ([.int (nI (cF X).length), .int (nI k)], [some (.ref c), some (.int (nI f)), some (.int (nI m)), some (.int (nI k))], M1)) (by simp (disch := omega) only [z0]) ?_
        refine sW_ic_ge 79 d_Cells_alwaysAnswered_41 (by decide) (fun c_41 => ?_) (fun c_41 => ?_)
        · skip
          simp (disch := omega) only [nI_leI] at c_41
          refine sW_go b_Cells_alwaysAnswered_79 (st' := ([.int (M1 c 1 &&& (nI m ^^^ (-1)))], [some (.ref c), some (.int (nI f)), some (.int (nI m)), some (.int (nI k))], M1)) (φ := mx_ocl LAY c = 2 ∧ True) rfl ⟨ho, trivial⟩ ?_
          refine sW_retI d_Cells_alwaysAnswered_87 rfl (vp_nar_int _) ?_
          omega
        · skip
          simp (disch := omega) only [nI_leI] at c_41
          refine sW_go b_Cells_alwaysAnswered_44 (st' := ([.int (M1 (c + 34) (M1 (c + 18) (nI k).toNatClampNeg).toNatClampNeg)], [some (.ref c), some (.int (nI f)), some (.int (nI m)), some (.int (nI k))], M1)) (φ := mx_ocl LAY c = 2 ∧ mx_ocl LAY c = 2 ∧ mx_ocl LAY (c + 17) = 7 ∧ vp_in (nI k) (mx_len LAY false (c + 18)) ∧ vp_in (M1 (c + 18) (nI k).toNatClampNeg) (mx_len LAY false (c + 34)) ∧ True) rfl ⟨ho, ho, (oc_Cells_ofCases ho), (by simp (disch := omega) only [(ln_Sides_leftOf (oc_Cells_ofCases ho))]; exact vp_in_nI (by omega) (by decide)), (by simp (disch := omega) only [nI_clamp, z3, (ln_Cells_open ho)]; exact vp_in_nI (by omega) (by decide)), trivial⟩ ?_
          refine sW_eq (st' := ([.int (nI (cif (opB hs f 8 E) 1 0))], [some (.ref c), some (.int (nI f)), some (.int (nI m)), some (.int (nI k))], M1)) (by simp (disch := omega) only [nI_clamp, z3, z6]) ?_
          refine sW_if_eq 73 d_Cells_alwaysAnswered_58 (by decide) (fun c_58 => ?_) (fun c_58 => ?_)
          · skip
            simp (disch := omega) only [nI_z] at c_58
            refine sW_go b_Cells_alwaysAnswered_73 (st' := ([], [some (.ref c), some (.int (nI f)), some (.int (nI m)), some (.int (nI k + nI 1))], M1)) (φ := True) rfl trivial ?_
            refine sW_eq (st' := ([], [some (.ref c), some (.int (nI f)), some (.int (nI m)), some (.int (nI (k + 1)))], M1)) (by simp (disch := omega) only [nI_add]) ?_
            refine sW_goto 33 d_Cells_alwaysAnswered_76 (by decide) ?_
            have hno : ¬ Open hs f E := fun q => cif_nz.mp c_58 (z5.mpr q)
            refine ih (k + 1, m) (by dsimp only; omega) (by dsimp only; omega) hm (fun t => ?_)
            dsimp only
            rw [hb t, hst2 t]
            exact ⟨Or.inl, fun q => q.elim id (fun w => absurd w.1 hno)⟩
          · skip
            simp (disch := omega) only [nI_z] at c_58
            refine sW_go b_Cells_alwaysAnswered_61 (st' := ([], [some (.ref c), some (.int (nI f)), some (.int (nI m ||| M1 (c + 6) (nI k).toNatClampNeg)), some (.int (nI k))], M1)) (φ := mx_ocl LAY c = 2 ∧ mx_ocl LAY (c + 5) = 6 ∧ vp_in (nI k) (mx_len LAY false (c + 6)) ∧ True) rfl ⟨ho, (oc_Cells_found ho), (by simp (disch := omega) only [(ln_Sets_at (oc_Cells_found ho))]; exact vp_in_nI (by omega) (by decide)), trivial⟩ ?_
            refine sW_eq (st' := ([], [some (.ref c), some (.int (nI f)), some (.int (nI (m ||| g))), some (.int (nI k))], M1)) (by simp (disch := omega) only [nI_clamp, nx_or, z1]) ?_
            refine sW_go b_Cells_alwaysAnswered_73 (st' := ([], [some (.ref c), some (.int (nI f)), some (.int (nI (m ||| g))), some (.int (nI k + nI 1))], M1)) (φ := True) rfl trivial ?_
            refine sW_eq (st' := ([], [some (.ref c), some (.int (nI f)), some (.int (nI (m ||| g))), some (.int (nI (k + 1)))], M1)) (by simp (disch := omega) only [nI_add]) ?_
            refine sW_goto 33 d_Cells_alwaysAnswered_76 (by decide) ?_
            have hno : Open hs f E := Classical.not_not.mp (fun q => c_58 (cif_nz.mpr (fun w => q (z5.mp w))))
            refine ih (k + 1, m ||| g) (by dsimp only; omega) (by dsimp only; omega) (or256 hm z2) (fun t => ?_)
            dsimp only
            rw [bt_or, hb t, hst2 t]
            exact or_congr Iff.rfl ⟨fun q => ⟨hno, q⟩, fun q => q.2⟩
      · have hke : k = (cF X).length := by omega
        subst hke
        have e := an_i (2 ^ hs.1 - 1) m
        refine sW_go b_Cells_alwaysAnswered_33 (st' := ([.int (M1 (c + 5) 2), .int (nI (cF X).length)], [some (.ref c), some (.int (nI f)), some (.int (nI m)), some (.int (nI (cF X).length))], M1)) (φ := mx_ocl LAY c = 2 ∧ mx_ocl LAY (c + 5) = 6 ∧ True) rfl ⟨ho, (oc_Cells_found ho), trivial⟩ ?_
        refine sW_eq (st' := ([.int (nI (cF X).length), .int (nI (cF X).length)], [some (.ref c), some (.int (nI f)), some (.int (nI m)), some (.int (nI (cF X).length))], M1)) (by simp (disch := omega) only [z0]) ?_
        refine sW_ic_ge 79 d_Cells_alwaysAnswered_41 (by decide) (fun c_41 => ?_) (fun c_41 => ?_)
        · skip
          simp (disch := omega) only [nI_leI] at c_41
          refine sW_go b_Cells_alwaysAnswered_79 (st' := ([.int (M1 c 1 &&& (nI m ^^^ (-1)))], [some (.ref c), some (.int (nI f)), some (.int (nI m)), some (.int (nI (cF X).length))], M1)) (φ := mx_ocl LAY c = 2 ∧ True) rfl ⟨ho, trivial⟩ ?_
          refine sW_eq (st' := ([.int (nI (andn (2 ^ hs.1 - 1) m))], [some (.ref c), some (.int (nI f)), some (.int (nI m)), some (.int (nI (cF X).length))], M1)) (by simp (disch := omega) only [e, n1]) ?_
          refine sW_retI d_Cells_alwaysAnswered_87 rfl (vp_nar_int _) ?_
          refine ⟨?_, a1⟩
          have e : andn (2 ^ hs.1 - 1) m = FM := bt_ext (fun t => by
            rw [bt_andn, bt_all, hb t, hfr t]
            constructor
            · rintro ⟨q1, q2⟩
              refine ⟨by omega, q1, hnn.1, hnn.2, fun y hy h1 h2 => ?_⟩
              obtain ⟨i, hi, rfl⟩ := mem_at ((d6 y).mpr hy)
              exact q2 ⟨i, hi, h2, h1⟩
            · rintro ⟨_, q1, _, _, q2⟩
              exact ⟨q1, fun ⟨j, hj, h1, h2⟩ => q2 _ ((d6 _).mp (getD_mem hj)) h2 h1⟩)
          rw [e]
        · skip
          simp (disch := omega) only [nI_leI] at c_41
          exact absurd c_41 (by omega)
    · skip
      simp (disch := omega) only [nI_z] at c_19
      refine sW_go b_Cells_alwaysAnswered_22 (st' := ([.int (nI 0)], [some (.ref c), some (.int (nI f)), none, none], M)) (φ := True) rfl trivial ?_
      refine sW_retI d_Cells_alwaysAnswered_23 rfl (vp_nar_int _) ?_
      refine ⟨?_, Fr.rf⟩
      rw [z (fun q => q.2 (b2.mp (by omega)))]

