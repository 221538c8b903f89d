theorem k_pairsInto (G : mx_G) {M : mx_M} {c f one q : Nat} {hs : Hs} {X : Cx} {L : List Nat} (ho : mx_ocl LAY c = 2) (hq : mx_ocl LAY q = 6) (hw : HsOk hs) (h : MesD M c hs X) (hf : f < 8) (h1 : one < 256) (hL : SetsL M q L) (hin : ∀ u, u ∈ L → one &&& u ∈ cPS X) : sOk G m_Cells_pairsInto [.ref c, .int (nI f), .int (nI one), .ref q] M (fun r M' => r = some (.int (tf (∃ u, u ∈ L ∧ bt (cellOf hs (one &&& u)) f = 1))) ∧ M' = M) := by
  have m13 := h.1.2.2.2.2.2.2.2.2.2.2.2.2.2.1
  have hl := hL.len
  have z0 := hL.size
  refine sOk_of ⟨by decide +kernel, by decide +kernel, Nat.le_of_ble_eq_true rfl⟩ ?_
  show sW G m_Cells_pairsInto 0 ([], [some (.ref c), some (.int (nI f)), some (.int (nI one)), some (.ref q), none], M) _
  refine sW_go b_Cells_pairsInto_0 (st' := ([], [some (.ref c), some (.int (nI f)), some (.int (nI one)), some (.ref q), some (.int (nI 0))], M)) (φ := True) rfl trivial ?_
  refine mx_ind (α := Nat) (fun k => L.length - k) (fun k => k ≤ L.length → (∀ j, j < k → ¬ bt (cellOf hs (one &&& L.getD j 0)) f = 1) → sW G m_Cells_pairsInto 3 ([], [some (.ref c), some (.int (nI f)), some (.int (nI one)), some (.ref q), some (.int (nI k))], M) _) ?_ 0 (Nat.zero_le _) (fun j hj => absurd hj (Nat.not_lt_zero j))
  intro k ih hk hb
  by_cases hkn : k < L.length
  · obtain ⟨z1, z2, z3⟩ := hL.at hkn
    have z4 := m13 _ (hin _ z3)
    have z5 : one &&& L.getD k 0 < 256 := Nat.lt_of_le_of_lt Nat.and_le_left h1
    have z6 := cellOf_lt (told := one &&& L.getD k 0) hw z5
    have hst := (all_k1 (k := k) (fun j => ¬ bt (cellOf hs (one &&& L.getD j 0)) f = 1)).mpr
    generalize hg : L.getD k 0 = g at z1 z2 z3 z4 z5 z6 hst
    generalize hce : cellOf hs (one &&& g) = ce at z4 z6 hst
    have z9 := bt_le ce f
    have p5 : (nI ce >>> (nI f &&& 31)) &&& nI 1 = nI (bt ce f) := sh_b (by omega) (by omega)
    refine sW_go b_Cells_pairsInto_3 (st' := ([.int (M q 2), .int (nI k)], [some (.ref c), some (.int (nI f)), some (.int (nI one)), some (.ref q), some (.int (nI k))], M)) (φ := mx_ocl LAY q = 6 ∧ True) rfl ⟨hq, trivial⟩ ?_
    refine sW_eq (st' := ([.int (nI L.length), .int (nI k)], [some (.ref c), some (.int (nI f)), some (.int (nI one)), some (.ref q), some (.int (nI k))], M)) (by simp (disch := omega) only [z0]) ?_
    refine sW_ic_ge 41 d_Cells_pairsInto_9 (by decide) (fun c_9 => ?_) (fun c_9 => ?_)
    · skip
      simp (disch := omega) only [nI_leI] at c_9
      refine sW_go b_Cells_pairsInto_41 (st' := ([.int (nI 0)], [some (.ref c), some (.int (nI f)), some (.int (nI one)), some (.ref q), some (.int (nI k))], M)) (φ := True) rfl trivial ?_
      refine sW_retI d_Cells_pairsInto_42 rfl nb_0 ?_
      omega
    · skip
      simp (disch := omega) only [nI_leI] at c_9
      refine sW_go b_Cells_pairsInto_12 (st' := ([.int ((M (c + 32) (nI one &&& M (q + 1) (nI k).toNatClampNeg).toNatClampNeg >>> (nI f &&& 31)) &&& nI 1)], [some (.ref c), some (.int (nI f)), some (.int (nI one)), some (.ref q), some (.int (nI k))], M)) (φ := mx_ocl LAY c = 2 ∧ mx_ocl LAY q = 6 ∧ vp_in (nI k) (mx_len LAY false (q + 1)) ∧ vp_in (nI one &&& M (q + 1) (nI k).toNatClampNeg) (mx_len LAY false (c + 32)) ∧ True) rfl ⟨ho, hq, (by simp (disch := omega) only [(ln_Sets_at hq)]; exact vp_in_nI (by omega) (by decide)), (by simp (disch := omega) only [nI_clamp, nx_and, z1, (ln_Cells_cellOfPair ho)]; exact vp_in_nI (by omega) (by decide)), trivial⟩ ?_
      refine sW_eq (st' := ([.int (nI (bt ce f))], [some (.ref c), some (.int (nI f)), some (.int (nI one)), some (.ref q), some (.int (nI k))], M)) (by simp (disch := omega) only [nI_clamp, nx_and, p5, z1, z4]) ?_
      refine sW_if_eq 35 d_Cells_pairsInto_30 (by decide) (fun c_30 => ?_) (fun c_30 => ?_)
      · skip
        simp (disch := omega) only [nI_z] at c_30
        refine sW_go b_Cells_pairsInto_35 (st' := ([], [some (.ref c), some (.int (nI f)), some (.int (nI one)), some (.ref q), some (.int (nI k + nI 1))], M)) (φ := True) rfl trivial ?_
        refine sW_eq (st' := ([], [some (.ref c), some (.int (nI f)), some (.int (nI one)), some (.ref q), some (.int (nI (k + 1)))], M)) (by simp (disch := omega) only [nI_add]) ?_
        refine sW_goto 3 d_Cells_pairsInto_38 (by decide) ?_
        exact ih (k + 1) (by omega) (by omega) (hst ⟨hb, by omega⟩)
      · skip
        simp (disch := omega) only [nI_z] at c_30
        refine sW_go b_Cells_pairsInto_33 (st' := ([.int (nI 1)], [some (.ref c), some (.int (nI f)), some (.int (nI one)), some (.ref q), some (.int (nI k))], M)) (φ := True) rfl trivial ?_
        refine sW_retI d_Cells_pairsInto_34 rfl nb_1 ?_
        refine ⟨?_, rfl⟩
        rw [tf_t ⟨g, z3, by rw [hce]; omega⟩]
  · have hke : k = L.length := by omega
    subst hke
    refine sW_go b_Cells_pairsInto_3 (st' := ([.int (M q 2), .int (nI L.length)], [some (.ref c), some (.int (nI f)), some (.int (nI one)), some (.ref q), some (.int (nI L.length))], M)) (φ := mx_ocl LAY q = 6 ∧ True) rfl ⟨hq, trivial⟩ ?_
    refine sW_eq (st' := ([.int (nI L.length), .int (nI L.length)], [some (.ref c), some (.int (nI f)), some (.int (nI one)), some (.ref q), some (.int (nI L.length))], M)) (by simp (disch := omega) only [z0]) ?_
    refine sW_ic_ge 41 d_Cells_pairsInto_9 (by decide) (fun c_9 => ?_) (fun c_9 => ?_)
    · skip
      simp (disch := omega) only [nI_leI] at c_9
      refine sW_go b_Cells_pairsInto_41 (st' := ([.int (nI 0)], [some (.ref c), some (.int (nI f)), some (.int (nI one)), some (.ref q), some (.int (nI L.length))], M)) (φ := True) rfl trivial ?_
      refine sW_retI d_Cells_pairsInto_42 rfl nb_0 ?_
      refine ⟨?_, rfl⟩
      rw [tf_f]
      rintro ⟨u, hu, hu2⟩
      obtain ⟨i, hi, rfl⟩ := mem_at hu
      exact hb i hi hu2
    · skip
      simp (disch := omega) only [nI_leI] at c_9
      exact absurd c_9 (by omega)
noncomputable def endM (hs : Hs) (f sd : Nat) : Nat := mk8 (fun t => t < hs.1 ∧ ¬ HasC hs f ∧ ¬ HasF hs f ∧ ∀ x y, Kw hs x → Kw hs y → bt (pairC hs x y) f = 1 → bt (if sd = 0 then x else y) t = 1)
theorem k_side78 (G : mx_G) {M : mx_M} {c f sd sa q FM : Nat} {hs : Hs} {X : Cx} {L : List Nat} {S : Nat → Nat} (ho : mx_ocl LAY c = 2) (hq : mx_ocl LAY q = 6) (hsa : mx_len LAY false sa = 256) (hw : HsOk hs) (h : MesD M c hs X) (hf : f < 8) (h8 : sd ≤ 1) (hS : ∀ k, k < (cF X).length → M sa k = nI (S ((cF X).getD k 0)) ∧ S ((cF X).getD k 0) < 256) (hL : SetsL M q L) (hin : ∀ x u, Kw hs x → u ∈ L → S x &&& u ∈ cPS X)
  (hfin : ∀ m, m < 256 → (∀ t, bt m t = 1 ↔ t < hs.1 ∧ ∀ x, Kw hs x → (∃ u, u ∈ L ∧ bt (cellOf hs (S x &&& u)) f = 1) → bt x t = 1) → m = FM) :
  sW G m_Cells_holdingSide 78 ([], [some (.ref c), some (.int (nI f)), some (.int (nI sd)), some (.ref sa), some (.ref q), some (.int (nI (2 ^ hs.1 - 1))), some (.int (nI 0))], M) (fun r M' => r = some (.int (nI FM)) ∧ M' = M) := by
  obtain ⟨⟨m0, m1, m2, m3, m4, m5, m6, m7, m8, m9, m10, m11, m12, m13, m14⟩, ⟨i1, ⟨i2, i3⟩, ⟨i4, i5⟩, ⟨i6, i7⟩⟩, d3, d4, d5, d6, d7⟩ := id h
  have w1 := hw.1
  have hl := m6.len
  have hp8 : 2 ^ hs.1 ≤ 2 ^ 8 := Nat.pow_le_pow_right (by decide) w1
  have z0 : M (c + 5) 2 = nI (cF X).length := m6.1
  refine mx_ind (α := Nat × Nat) (fun a => (cF X).length - a.1) (fun a => a.1 ≤ (cF X).length → a.2 < 256 → (∀ t, bt a.2 t = 1 ↔ t < hs.1 ∧ ∀ j, j < a.1 → (∃ u, u ∈ L ∧ bt (cellOf hs (S ((cF X).getD j 0) &&& u)) f = 1) → bt ((cF X).getD j 0) t = 1) → sW G m_Cells_holdingSide 78 ([], [some (.ref c), some (.int (nI f)), some (.int (nI sd)), some (.ref sa), some (.ref q), some (.int (nI a.2)), some (.int (nI a.1))], M) _) ?_ (0, 2 ^ hs.1 - 1) (Nat.zero_le _) (by dsimp only; omega) (fun t => by dsimp only; rw [bt_all]; exact ⟨fun q => ⟨q, fun j hj => absurd hj (Nat.not_lt_zero j)⟩, fun q => q.1⟩)
  rintro ⟨k, m⟩ ih hk hm hb
  dsimp only at ih hk hm hb ⊢
  by_cases hkn : k < (cF X).length
  · have z1 : M (c + 6) k = nI ((cF X).getD k 0) := m6.2.2.2.1 k hkn
    have z2 := (m6.lt hkn).1
    obtain ⟨z3, z4⟩ := hS k hkn
    have z5 := (d6 _).mp (getD_mem hkn)
    have hst2 := fun t => all_k1 (k := k) (fun j => (∃ u, u ∈ L ∧ bt (cellOf hs (S ((cF X).getD j 0) &&& u)) f = 1) → bt ((cF X).getD j 0) t = 1)
    generalize hg : (cF X).getD k 0 = g at z1 z2 z3 z4 z5 hst2
    refine sW_go b_Cells_holdingSide_78 (st' := ([.int (M (c + 5) 2), .int (nI k)], [some (.ref c), some (.int (nI f)), some (.int (nI sd)), some (.ref sa), some (.ref q), some (.int (nI m)), some (.int (nI k))], M)) (φ := mx_ocl LAY c = 2 ∧ mx_ocl LAY (c + 5) = 6 ∧ True) rfl ⟨ho, (oc_Cells_found ho), trivial⟩ ?_
    refine sW_eq (st' := ([.int (nI (cF X).length), .int (nI k)], [some (.ref c), some (.int (nI f)), some (.int (nI sd)), some (.ref sa), some (.ref q), some (.int (nI m)), some (.int (nI k))], M)) (by simp (disch := omega) only [z0]) ?_
    refine sW_ic_ge 125 d_Cells_holdingSide_87 (by decide) (fun c_87 => ?_) (fun c_87 => ?_)
    · skip
      simp (disch := omega) only [nI_leI] at c_87
      refine sW_go b_Cells_holdingSide_125 (st' := ([.int (nI m)], [some (.ref c), some (.int (nI f)), some (.int (nI sd)), some (.ref sa), some (.ref q), some (.int (nI m)), some (.int (nI k))], M)) (φ := True) rfl trivial ?_
      refine sW_retI d_Cells_holdingSide_127 rfl (vp_nar_int _) ?_
      omega
    · skip
      simp (disch := omega) only [nI_leI] at c_87
      refine sW_go b_Cells_holdingSide_90 (st' := ([.ref q, .int (M sa (nI k).toNatClampNeg), .int (nI f), .ref c], [some (.ref c), some (.int (nI f)), some (.int (nI sd)), some (.ref sa), some (.ref q), some (.int (nI m)), some (.int (nI k))], M)) (φ := vp_in (nI k) (mx_len LAY false sa) ∧ True) rfl ⟨(by simp (disch := omega) only [hsa]; exact vp_in_nI (by omega) (by decide)), trivial⟩ ?_
      refine sW_eq (st' := ([.ref q, .int (nI (S g)), .int (nI f), .ref c], [some (.ref c), some (.int (nI f)), some (.int (nI sd)), some (.ref sa), some (.ref q), some (.int (nI m)), some (.int (nI k))], M)) (by simp (disch := omega) only [nI_clamp, z3]) ?_
      refine sW_callV 2 [.int (nI f), .int (nI (S g)), .ref q] [] d_Cells_holdingSide_98 c_Cells_holdingSide_98 ⟨rfl, rfl, rfl, Nat.le_of_ble_eq_true rfl, rfl, rfl⟩ ho (k_pairsInto G ho hq hw h hf z4 hL (fun u hu => hin g u z5 hu)) ?_
      rintro _ M₁ ⟨rfl, h₁⟩
      rw [h₁]
      show sW G m_Cells_holdingSide 101 ([.int (tf (∃ u, u ∈ L ∧ bt (cellOf hs (S g &&& u)) f = 1))], [some (.ref c), some (.int (nI f)), some (.int (nI sd)), some (.ref sa), some (.ref q), some (.int (nI m)), some (.int (nI k))], M) _
      refine sW_if_eq 119 d_Cells_holdingSide_101 (by decide) (fun c_101 => ?_) (fun c_101 => ?_)
      · skip
        replace c_101 := tf_z.mp c_101
        refine sW_go b_Cells_holdingSide_119 (st' := ([], [some (.ref c), some (.int (nI f)), some (.int (nI sd)), some (.ref sa), some (.ref q), some (.int (nI m)), some (.int (nI k + nI 1))], M)) (φ := True) rfl trivial ?_
        refine sW_eq (st' := ([], [some (.ref c), some (.int (nI f)), some (.int (nI sd)), some (.ref sa), some (.ref q), some (.int (nI m)), some (.int (nI (k + 1)))], M)) (by simp (disch := omega) only [nI_add]) ?_
        refine sW_goto 78 d_Cells_holdingSide_122 (by decide) ?_
        refine ih (k + 1, m) (by dsimp only; omega) (by dsimp only; omega) hm (fun t => ?_)
        dsimp only
        rw [hb t, hst2 t]
        exact ⟨fun q => ⟨q.1, q.2, fun w => absurd w c_101⟩, fun q => ⟨q.1, q.2.1⟩⟩
      · skip
        replace c_101 := tf_nz.mp c_101
        refine sW_go b_Cells_holdingSide_104 (st' := ([], [some (.ref c), some (.int (nI f)), some (.int (nI sd)), some (.ref sa), some (.ref q), some (.int (nI m &&& M (c + 6) (nI k).toNatClampNeg)), some (.int (nI k))], M)) (φ := mx_ocl LAY c = 2 ∧ mx_ocl LAY (c + 5) = 6 ∧ vp_in (nI k) (mx_len LAY false (c + 6)) ∧ True) rfl ⟨ho, (oc_Cells_found ho), (by simp (disch := omega) only [(ln_Sets_at (oc_Cells_found ho))]; exact vp_in_nI (by omega) (by decide)), trivial⟩ ?_
        refine sW_eq (st' := ([], [some (.ref c), some (.int (nI f)), some (.int (nI sd)), some (.ref sa), some (.ref q), some (.int (nI (m &&& g))), some (.int (nI k))], M)) (by simp (disch := omega) only [nI_clamp, nx_and, z1]) ?_
        refine sW_go b_Cells_holdingSide_119 (st' := ([], [some (.ref c), some (.int (nI f)), some (.int (nI sd)), some (.ref sa), some (.ref q), some (.int (nI (m &&& g))), some (.int (nI k + nI 1))], M)) (φ := True) rfl trivial ?_
        refine sW_eq (st' := ([], [some (.ref c), some (.int (nI f)), some (.int (nI sd)), some (.ref sa), some (.ref q), some (.int (nI (m &&& g))), some (.int (nI (k + 1)))], M)) (by simp (disch := omega) only [nI_add]) ?_
        refine sW_goto 78 d_Cells_holdingSide_122 (by decide) ?_
        refine ih (k + 1, m &&& g) (by dsimp only; omega) (by dsimp only; omega) (Nat.lt_of_le_of_lt Nat.and_le_left hm) (fun t => ?_)
        dsimp only
        rw [bt_and, hb t, hst2 t]
        exact ⟨fun q => ⟨q.1.1, q.1.2, fun _ => q.2⟩, fun q => ⟨⟨q.1, q.2.1⟩, q.2.2 c_101⟩⟩
  · have hke : k = (cF X).length := by omega
    subst hke
    refine sW_go b_Cells_holdingSide_78 (st' := ([.int (M (c + 5) 2), .int (nI (cF X).length)], [some (.ref c), some (.int (nI f)), some (.int (nI sd)), some (.ref sa), some (.ref q), some (.int (nI m)), some (.int (nI (cF X).length))], M)) (φ := mx_ocl LAY c = 2 ∧ mx_ocl LAY (c + 5) = 6 ∧ True) rfl ⟨ho, (oc_Cells_found ho), trivial⟩ ?_
    refine sW_eq (st' := ([.int (nI (cF X).length), .int (nI (cF X).length)], [some (.ref c), some (.int (nI f)), some (.int (nI sd)), some (.ref sa), some (.ref q), some (.int (nI m)), some (.int (nI (cF X).length))], M)) (by simp (disch := omega) only [z0]) ?_
    refine sW_ic_ge 125 d_Cells_holdingSide_87 (by decide) (fun c_87 => ?_) (fun c_87 => ?_)
    · skip
      simp (disch := omega) only [nI_leI] at c_87
      refine sW_go b_Cells_holdingSide_125 (st' := ([.int (nI m)], [some (.ref c), some (.int (nI f)), some (.int (nI sd)), some (.ref sa), some (.ref q), some (.int (nI m)), some (.int (nI (cF X).length))], M)) (φ := True) rfl trivial ?_
      refine sW_retI d_Cells_holdingSide_127 rfl (vp_nar_int _) ?_
      refine ⟨?_, rfl⟩
      rw [hfin m hm (fun t => by
        rw [hb t]
        refine and_congr Iff.rfl ⟨fun w y hy h1 => ?_, fun w j hj h1 => w _ ((d6 _).mp (getD_mem hj)) h1⟩
        obtain ⟨i, hi, rfl⟩ := mem_at ((d6 y).mpr hy)
        exact w i hi h1)]
    · skip
      simp (disch := omega) only [nI_leI] at c_87
      exact absurd c_87 (by omega)
theorem k_holdingSide (G : mx_G) {M : mx_M} {c f sd : Nat} {hs : Hs} {X : Cx} (ho : mx_ocl LAY c = 2) (hw : HsOk hs) (h : MesD M c hs X) (hf : f < hs.1) (h8 : sd ≤ 1) : sOk G m_Cells_holdingSide [.ref c, .int (nI f), .int (nI sd)] M (fun r M' => r = some (.int (nI (endM hs f sd))) ∧ M' = M) := by
  obtain ⟨⟨m0, m1, m2, m3, m4, m5, m6, m7, m8, m9, m10, m11, m12, m13, m14⟩, ⟨i1, ⟨i2, i3⟩, ⟨i4, i5⟩, ⟨i6, i7⟩⟩, d3, d4, d5, d6, d7⟩ := id h
  have w1 := hw.1
  have hl := m6.len
  have b1 := h.wc f
  have b2 := h.wf f
  have b3 := bt_le (cwc X) f
  have b4 := bt_le (cwf X) f
  have p1 : (nI (cwc X) >>> (nI f &&& 31)) &&& nI 1 = nI (bt (cwc X) f) := sh_b (by omega) (by omega)
  have p2 : (nI (cwf X) >>> (nI f &&& 31)) &&& nI 1 = nI (bt (cwf X) f) := sh_b (by omega) (by omega)
  have hfr : ∀ t, bt (endM hs f sd) t = 1 ↔ t < 8 ∧ _ := fun t => mk8_bt _ t
  generalize hFM : endM hs f sd = FM at hfr ⊢
  have z : ¬ (¬ HasC hs f ∧ ¬ HasF hs f) → FM = 0 := fun hn => bt_ext (fun t => by
    rw [hfr t]
    exact ⟨fun q => absurd ⟨q.2.2.1, q.2.2.2.1⟩ hn, fun q => absurd q (bt_zz t)⟩)
  refine sOk_of ⟨by decide +kernel, by decide +kernel, Nat.le_of_ble_eq_true rfl⟩ ?_
  show sW G m_Cells_holdingSide 0 ([], [some (.ref c), some (.int (nI f)), some (.int (nI sd)), none, none, none, none], M) _
  refine sW_go b_Cells_holdingSide_0 (st' := ([.int ((M c 3 >>> (nI f &&& 31)) &&& nI 1)], [some (.ref c), some (.int (nI f)), some (.int (nI sd)), none, none, none, none], M)) (φ := mx_ocl LAY c = 2 ∧ True) rfl ⟨ho, trivial⟩ ?_
  refine sW_eq (st' := ([.int (nI (bt (cwc X) f))], [some (.ref c), some (.int (nI f)), some (.int (nI sd)), none, none, none, none], M)) (by simp (disch := omega) only [m3, p1]) ?_
  refine sW_if_ne 22 d_Cells_holdingSide_8 (by decide) (fun c_8 => ?_) (fun c_8 => ?_)
  · skip
    simp (disch := omega) only [nI_z] at c_8
    refine sW_go b_Cells_holdingSide_22 (st' := ([.int (nI 0)], [some (.ref c), some (.int (nI f)), some (.int (nI sd)), none, none, none, none], M)) (φ := True) rfl trivial ?_
    refine sW_retI d_Cells_holdingSide_23 rfl (vp_nar_int _) ?_
    refine ⟨?_, rfl⟩
    rw [z (fun q => q.1 (b1.mp (by omega)))]
  · skip
    simp (disch := omega) only [nI_z] at c_8
    refine sW_go b_Cells_holdingSide_11 (st' := ([.int ((M c 5 >>> (nI f &&& 31)) &&& nI 1)], [some (.ref c), some (.int (nI f)), some (.int (nI sd)), none, none, none, none], M)) (φ := mx_ocl LAY c = 2 ∧ True) rfl ⟨ho, trivial⟩ ?_
    refine sW_eq (st' := ([.int (nI (bt (cwf X) f))], [some (.ref c), some (.int (nI f)), some (.int (nI sd)), none, none, none, none], M)) (by simp (disch := omega) only [m5, p2]) ?_
    refine sW_if_eq 24 d_Cells_holdingSide_19 (by decide) (fun c_19 => ?_) (fun c_19 => ?_)
    · skip
      simp (disch := omega) only [nI_z] at c_19
      refine sW_go b_Cells_holdingSide_24 (st' := ([.int (nI sd)], [some (.ref c), some (.int (nI f)), some (.int (nI sd)), none, none, none, none], M)) (φ := True) rfl trivial ?_
      refine sW_if_ne 38 d_Cells_holdingSide_25 (by decide) (fun c_25 => ?_) (fun c_25 => ?_)
      · skip
        simp (disch := omega) only [nI_z] at c_25
        refine sW_go b_Cells_holdingSide_38 (st' := ([.ref (c + 10)], [some (.ref c), some (.int (nI f)), some (.int (nI sd)), none, none, none, none], M)) (φ := mx_ocl LAY c = 2 ∧ mx_ocl LAY (c + 8) = 7 ∧ True) rfl ⟨ho, (oc_Cells_ofPairs ho), trivial⟩ ?_
        refine sW_go b_Cells_holdingSide_45 (st' := ([.int (nI sd)], [some (.ref c), some (.int (nI f)), some (.int (nI sd)), some (.ref (c + 10)), none, none, none], M)) (φ := True) rfl trivial ?_
        refine sW_if_ne 60 d_Cells_holdingSide_47 (by decide) (fun c_47 => ?_) (fun c_47 => ?_)
        · skip
          simp (disch := omega) only [nI_z] at c_47
          refine sW_go b_Cells_holdingSide_60 (st' := ([.ref (c + 11)], [some (.ref c), some (.int (nI f)), some (.int (nI sd)), some (.ref (c + 10)), none, none, none], M)) (φ := mx_ocl LAY c = 2 ∧ mx_ocl LAY (c + 8) = 7 ∧ True) rfl ⟨ho, (oc_Cells_ofPairs ho), trivial⟩ ?_
          refine sW_go b_Cells_holdingSide_67 (st' := ([], [some (.ref c), some (.int (nI f)), some (.int (nI sd)), some (.ref (c + 10)), some (.ref (c + 11)), some (.int (M c 1)), some (.int (nI 0))], M)) (φ := mx_ocl LAY c = 2 ∧ True) rfl ⟨ho, trivial⟩ ?_
          refine sW_eq (st' := ([], [some (.ref c), some (.int (nI f)), some (.int (nI sd)), some (.ref (c + 10)), some (.ref (c + 11)), some (.int (nI (2 ^ hs.1 - 1))), some (.int (nI 0))], M)) (by simp (disch := omega) only [m1]) ?_
          refine k_side78 G (S := R1 hs) ho (oc_Sides_lefts (oc_Cells_ofPairs ho)) (ln_Sides_rightOf (oc_Cells_ofPairs ho)) hw h (by omega) h8 (fun k hk => ⟨(d7 k hk).2.1, R1_lt hw _⟩) m7 (fun x u hx hu => ?_) (fun m hm hb => ?_)
          · obtain ⟨s, hs1, rfl⟩ := (d3.1 u).mp hu
            rw [Nat.and_comm]
            exact (d4.1 _).mpr ⟨s, x, hs1, hx, rfl⟩
          · have hnn : ¬ HasC hs f ∧ ¬ HasF hs f := ⟨fun q => by have := b1.mpr q; omega, fun q => by have := b2.mpr q; omega⟩
            refine bt_ext (fun t => ?_)
            rw [hb t, hfr t]
            constructor
            · rintro ⟨q1, q2⟩
              refine ⟨by omega, q1, hnn.1, hnn.2, fun x y hx hy h1 => ?_⟩
              rw [if_neg (by omega)]
              exact q2 y hy ⟨_, (d3.1 _).mpr ⟨x, hx, rfl⟩, by rw [Nat.and_comm]; exact h1⟩
            · rintro ⟨_, q1, _, _, q2⟩
              refine ⟨q1, fun y hy hu => ?_⟩
              obtain ⟨u, hu, h1⟩ := hu
              obtain ⟨x, hx, rfl⟩ := (d3.1 u).mp hu
              have := q2 x y hx hy (by rw [Nat.and_comm] at h1; exact h1)
              rwa [if_neg (by omega)] at this
        · skip
          simp (disch := omega) only [nI_z] at c_47
          refine sW_go b_Cells_holdingSide_50 (st' := ([.ref (c + 14)], [some (.ref c), some (.int (nI f)), some (.int (nI sd)), some (.ref (c + 10)), none, none, none], M)) (φ := mx_ocl LAY c = 2 ∧ mx_ocl LAY (c + 8) = 7 ∧ True) rfl ⟨ho, (oc_Cells_ofPairs ho), trivial⟩ ?_
          refine sW_goto 67 d_Cells_holdingSide_57 (by decide) ?_
          refine sW_go b_Cells_holdingSide_67 (st' := ([], [some (.ref c), some (.int (nI f)), some (.int (nI sd)), some (.ref (c + 10)), some (.ref (c + 14)), some (.int (M c 1)), some (.int (nI 0))], M)) (φ := mx_ocl LAY c = 2 ∧ True) rfl ⟨ho, trivial⟩ ?_
          refine sW_eq (st' := ([], [some (.ref c), some (.int (nI f)), some (.int (nI sd)), some (.ref (c + 10)), some (.ref (c + 14)), some (.int (nI (2 ^ hs.1 - 1))), some (.int (nI 0))], M)) (by simp (disch := omega) only [m1]) ?_
          omega
      · skip
        simp (disch := omega) only [nI_z] at c_25
        refine sW_go b_Cells_holdingSide_28 (st' := ([.ref (c + 9)], [some (.ref c), some (.int (nI f)), some (.int (nI sd)), none, none, none, none], M)) (φ := mx_ocl LAY c = 2 ∧ mx_ocl LAY (c + 8) = 7 ∧ True) rfl ⟨ho, (oc_Cells_ofPairs ho), trivial⟩ ?_
        refine sW_goto 45 d_Cells_holdingSide_35 (by decide) ?_
        refine sW_go b_Cells_holdingSide_45 (st' := ([.int (nI sd)], [some (.ref c), some (.int (nI f)), some (.int (nI sd)), some (.ref (c + 9)), none, none, none], M)) (φ := True) rfl trivial ?_
        refine sW_if_ne 60 d_Cells_holdingSide_47 (by decide) (fun c_47 => ?_) (fun c_47 => ?_)
        · skip
          simp (disch := omega) only [nI_z] at c_47
          refine sW_go b_Cells_holdingSide_60 (st' := ([.ref (c + 11)], [some (.ref c), some (.int (nI f)), some (.int (nI sd)), some (.ref (c + 9)), none, none, none], M)) (φ := mx_ocl LAY c = 2 ∧ mx_ocl LAY (c + 8) = 7 ∧ True) rfl ⟨ho, (oc_Cells_ofPairs ho), trivial⟩ ?_
          refine sW_go b_Cells_holdingSide_67 (st' := ([], [some (.ref c), some (.int (nI f)), some (.int (nI sd)), some (.ref (c + 9)), some (.ref (c + 11)), some (.int (M c 1)), some (.int (nI 0))], M)) (φ := mx_ocl LAY c = 2 ∧ True) rfl ⟨ho, trivial⟩ ?_
          refine sW_eq (st' := ([], [some (.ref c), some (.int (nI f)), some (.int (nI sd)), some (.ref (c + 9)), some (.ref (c + 11)), some (.int (nI (2 ^ hs.1 - 1))), some (.int (nI 0))], M)) (by simp (disch := omega) only [m1]) ?_
          omega
        · skip
          simp (disch := omega) only [nI_z] at c_47
          refine sW_go b_Cells_holdingSide_50 (st' := ([.ref (c + 14)], [some (.ref c), some (.int (nI f)), some (.int (nI sd)), some (.ref (c + 9)), none, none, none], M)) (φ := mx_ocl LAY c = 2 ∧ mx_ocl LAY (c + 8) = 7 ∧ True) rfl ⟨ho, (oc_Cells_ofPairs ho), trivial⟩ ?_
          refine sW_goto 67 d_Cells_holdingSide_57 (by decide) ?_
          refine sW_go b_Cells_holdingSide_67 (st' := ([], [some (.ref c), some (.int (nI f)), some (.int (nI sd)), some (.ref (c + 9)), some (.ref (c + 14)), some (.int (M c 1)), some (.int (nI 0))], M)) (φ := mx_ocl LAY c = 2 ∧ True) rfl ⟨ho, trivial⟩ ?_
          refine sW_eq (st' := ([], [some (.ref c), some (.int (nI f)), some (.int (nI sd)), some (.ref (c + 9)), some (.ref (c + 14)), some (.int (nI (2 ^ hs.1 - 1))), some (.int (nI 0))], M)) (by simp (disch := omega) only [m1]) ?_
          refine k_side78 G (S := L1 hs) ho (oc_Sides_rights (oc_Cells_ofPairs ho)) (ln_Sides_leftOf (oc_Cells_ofPairs ho)) hw h (by omega) h8 (fun k hk => ⟨(d7 k hk).1, L1_lt hw _⟩) m8 (fun x u hx hu => ?_) (fun m hm hb => ?_)
          · obtain ⟨s, hs1, rfl⟩ := (d3.2.1 u).mp hu
            exact (d4.1 _).mpr ⟨x, s, hx, hs1, rfl⟩
          · have hnn : ¬ HasC hs f ∧ ¬ HasF hs f := ⟨fun q => by have := b1.mpr q; omega, fun q => by have := b2.mpr q; omega⟩
            refine bt_ext (fun t => ?_)
            rw [hb t, hfr t]
            constructor
            · rintro ⟨q1, q2⟩
              refine ⟨by omega, q1, hnn.1, hnn.2, fun x y hx hy h1 => ?_⟩
              rw [if_pos (by omega)]
              exact q2 x hx ⟨_, (d3.2.1 _).mpr ⟨y, hy, rfl⟩, h1⟩
            · rintro ⟨_, q1, _, _, q2⟩
              refine ⟨q1, fun x hx hu => ?_⟩
              obtain ⟨u, hu, h1⟩ := hu
              obtain ⟨y, hy, rfl⟩ := (d3.2.1 u).mp hu
              have := q2 x y hx hy h1
              rwa [if_pos (by omega)] at this
    · skip
      simp (disch := omega) only [nI_z] at c_19
      refine sW_go b_Cells_holdingSide_22 (st' := ([.int (nI 0)], [some (.ref c), some (.int (nI f)), some (.int (nI sd)), none, none, none, none], M)) (φ := True) rfl trivial ?_
      refine sW_retI d_Cells_holdingSide_23 rfl (vp_nar_int _) ?_
      refine ⟨?_, rfl⟩
      rw [z (fun q => q.2 (b2.mp (by omega)))]

