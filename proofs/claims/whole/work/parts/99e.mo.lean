/-! ===== the model: cases ===== -/
def csT (hs : Hs) (fr : Nat) (mk : Nat → Prop) (u : Nat) : Prop := ∃ x, Kw hs x ∧ (u = L2 hs x + cif (bt x fr = 1) 256 0 ∨ ∃ y, Kw hs y ∧ u = andn (L2 hs x) (R2 hs y) + cif (bt x fr = 1 ∧ mk y) 256 0)
def csI (hs : Hs) (L : List Nat) (fr : Nat) (mk : Nat → Prop) (x j u : Nat) : Prop := ∃ k, k < j ∧ u = andn (L2 hs x) (R2 hs (L.getD k 0)) + cif (bt x fr = 1 ∧ mk (L.getD k 0)) 256 0
def csA (hs : Hs) (L : List Nat) (fr : Nat) (mk : Nat → Prop) (i u : Nat) : Prop := ∃ k, k < i ∧ (u = L2 hs (L.getD k 0) + cif (bt (L.getD k 0) fr = 1) 256 0 ∨ csI hs L fr mk (L.getD k 0) L.length u)

theorem k_lc95T (G : mx_G) {M1 : mx_M} {a t fr x i mv n : Nat} {hs : Hs} {H S : Nat → Nat} (hl : mx_len LAY false a = 26) (ha : a = 123 ∨ a = 125) (hR : RowAt M1 a 0 hs) (hw : WHs hs) (hC : MC M1 hs n H S) (ht : t < 8) (hx : x < 256) (hmv : (mv = 1 ∧ bt x fr = 1) ∨ (mv = 0 ∧ ¬ bt x fr = 1)) {J : Nat → Prop} (hJ : BolAt M1 131 J) {QQ : Option Value → mx_M → Prop}
  (nx : ∀ M2, MFr M1 M2 [131] [] → BolAt M2 131 (fun u => J u ∨ csI hs (gat H) fr (fun y => ¬ bt y t = 1) x (gat H).length u) → sW G m_Mo_layCases 159 ([], [some (.ref 119), some (.ref a), some (.int (nI fr)), some (.int (nI t)), some (.int (nI i)), none, none, none, none], M2) QQ) :
  sW G m_Mo_layCases 95 ([], [some (.ref 119), some (.ref a), some (.int (nI fr)), some (.int (nI t)), some (.int (nI i)), some (.int (nI x)), some (.int (nI mv)), some (.int (nI 0)), none], M1) QQ := by
  obtain ⟨hn, c1, c2, c3, c4, c5, c6⟩ := id hC
  have hlen := gat_len H
  refine mx_ind (α := Nat × mx_M) (fun q => (gat H).length - q.1) (fun q => q.1 ≤ (gat H).length → MFr M1 q.2 [131] [] → BolAt q.2 131 (fun u => J u ∨ csI hs (gat H) fr (fun y => ¬ bt y t = 1) x q.1 u) → sW G m_Mo_layCases 95 ([], [some (.ref 119), some (.ref a), some (.int (nI fr)), some (.int (nI t)), some (.int (nI i)), some (.int (nI x)), some (.int (nI mv)), some (.int (nI q.1)), none], q.2) _) ?_ (0, M1) (Nat.zero_le _) MFr.rf (hJ.congr (fun u _ => ⟨Or.inl, fun q => q.elim id (fun ⟨k, hk, _⟩ => absurd hk (Nat.not_lt_zero k))⟩))
  rintro ⟨j, M2⟩ ih hj i1 i2
  dsimp only at ih hj i1 i2 ⊢
  have e22 : M2 119 22 = nI (gat H).length := (i1.2 22 (by decide)).trans c3.1
  by_cases hjn : j < (gat H).length
  · have e1 : M2 130 j = nI ((gat H).getD j 0) := by rw [i1.1 130 (by decide) (by decide)]; exact c3.2 j hjn
    have hy := (gat_at hjn).1
    obtain ⟨y, hyy⟩ : ∃ y, (gat H).getD j 0 = y := ⟨_, rfl⟩
    rw [hyy] at e1 hy
    have hR2 : RowAt M2 a 0 hs := hR.eq (i1.1 a (by omega) (by rcases ha with rfl | rfl <;> decide))
    have hbr : andn (L2 hs x) (R2 hs y) < 256 := Nat.lt_of_le_of_lt (andn_le _ _) (L2_lt hw.1 x)
    have st : ∀ u0, u0 = andn (L2 hs x) (R2 hs y) + cif (bt x fr = 1 ∧ (fun y => ¬ bt y t = 1) y) 256 0 → sW G m_Mo_layCases 95 ([], [some (.ref 119), some (.ref a), some (.int (nI fr)), some (.int (nI t)), some (.int (nI i)), some (.int (nI x)), some (.int (nI mv)), some (.int (nI (j + 1))), none], mx_wr M2 131 u0 (nI 1)) QQ := fun u0 hu => by
      refine ih (j + 1, mx_wr M2 131 u0 (nI 1)) (by dsimp only; omega) (by dsimp only; omega) (i1.wr (by decide) (by decide)) ((i2.set u0).congr (fun u _ => ?_))
      dsimp only
      unfold csI
      constructor
      · rintro ((q | ⟨k, q1, q2⟩) | q)
        · exact Or.inl q
        · exact Or.inr ⟨k, by omega, q2⟩
        · exact Or.inr ⟨j, by omega, by rw [hyy, q, hu]⟩
      · rintro (q | ⟨k, q1, q2⟩)
        · exact Or.inl (Or.inl q)
        · by_cases hk : k = j
          · subst hk
            rw [hyy] at q2
            exact Or.inr (by rw [q2, hu])
          · exact Or.inl (Or.inr ⟨k, by omega, q2⟩)
    refine sW_go b_Mo_layCases_95 (st' := ([.int (M2 119 22), .int (nI j)], [some (.ref 119), some (.ref a), some (.int (nI fr)), some (.int (nI t)), some (.int (nI i)), some (.int (nI x)), some (.int (nI mv)), some (.int (nI j)), none], M2)) (φ := mx_ocl LAY 119 = 10 ∧ True) rfl ⟨oc_119, trivial⟩ ?_
    refine sW_eq (st' := ([.int (nI (gat H).length), .int (nI j)], [some (.ref 119), some (.ref a), some (.int (nI fr)), some (.int (nI t)), some (.int (nI i)), some (.int (nI x)), some (.int (nI mv)), some (.int (nI j)), none], M2)) (by simp (disch := omega) only [e22]) ?_
    refine sW_ic_ge 159 d_Mo_layCases_101 (by decide) (fun c_101 => ?_) (fun c_101 => ?_)
    · skip
      simp (disch := omega) only [nI_leI] at c_101
      omega
    · skip
      simp (disch := omega) only [nI_leI] at c_101
      refine sW_go b_Mo_layCases_104 (st' := ([.int (M2 130 (nI j).toNatClampNeg), .int (nI x), .ref a, .ref 131], [some (.ref 119), some (.ref a), some (.int (nI fr)), some (.int (nI t)), some (.int (nI i)), some (.int (nI x)), some (.int (nI mv)), some (.int (nI j)), some (.int (M2 130 (nI j).toNatClampNeg))], M2)) (φ := mx_ocl LAY 119 = 10 ∧ vp_in (nI j) (mx_len LAY false 130) ∧ mx_ocl LAY 119 = 10 ∧ True) rfl ⟨oc_119, (by simp (disch := omega) only [ln_130]; exact vp_in_nI (by omega) (by decide)), oc_119, trivial⟩ ?_
      refine sW_eq (st' := ([.int (nI y), .int (nI x), .ref a, .ref 131], [some (.ref 119), some (.ref a), some (.int (nI fr)), some (.int (nI t)), some (.int (nI i)), some (.int (nI x)), some (.int (nI mv)), some (.int (nI j)), some (.int (nI y))], M2)) (by simp (disch := omega) only [e1, nI_clamp]) ?_
      refine sW_callS [.ref a, .int (nI x), .int (nI y)] [.ref 131] d_Mo_layCases_122 c_Mo_layCases_122 ⟨rfl, rfl, Nat.le_of_ble_eq_true rfl, rfl, rfl⟩ (k_breaks G hl hR2 hw hx hy) ?_
      rintro _ M₁ ⟨rfl, h₁⟩
      rw [h₁]
      show sW G m_Mo_layCases 125 ([.int (nI (andn (L2 hs x) (R2 hs y))), .ref 131], [some (.ref 119), some (.ref a), some (.int (nI fr)), some (.int (nI t)), some (.int (nI i)), some (.int (nI x)), some (.int (nI mv)), some (.int (nI j)), some (.int (nI y))], M2) _
      refine sW_go b_Mo_layCases_125 (st' := ([.int (nI mv), .int (nI (andn (L2 hs x) (R2 hs y))), .ref 131], [some (.ref 119), some (.ref a), some (.int (nI fr)), some (.int (nI t)), some (.int (nI i)), some (.int (nI x)), some (.int (nI mv)), some (.int (nI j)), some (.int (nI y))], M2)) (φ := True) rfl trivial ?_
      refine sW_if_eq 149 d_Mo_layCases_127 (by decide) (fun c_127 => ?_) (fun c_127 => ?_)
      · skip
        simp (disch := omega) only [nI_z] at c_127
        refine sW_go b_Mo_layCases_149 (st' := ([.int (nI 0), .int (nI (andn (L2 hs x) (R2 hs y))), .ref 131], [some (.ref 119), some (.ref a), some (.int (nI fr)), some (.int (nI t)), some (.int (nI i)), some (.int (nI x)), some (.int (nI mv)), some (.int (nI j)), some (.int (nI y))], M2)) (φ := True) rfl trivial ?_
        refine sW_go b_Mo_layCases_150 (st' := ([], [some (.ref 119), some (.ref a), some (.int (nI fr)), some (.int (nI t)), some (.int (nI i)), some (.int (nI x)), some (.int (nI mv)), some (.int (nI j + nI 1)), some (.int (nI y))], mx_wr M2 131 (nI (andn (L2 hs x) (R2 hs y)) + nI 0).toNatClampNeg (nI 1))) (φ := (vp_in (nI (andn (L2 hs x) (R2 hs y)) + nI 0) (mx_len LAY true 131) ∧ ((nI 1) = 0 ∨ (nI 1) = 1)) ∧ True) rfl ⟨⟨(by simp (disch := omega) only [Nat.add_zero, nI_add, ln_131]; exact vp_in_nI (by omega) (by decide)), (by first | exact tf_01 _ | decide)⟩, trivial⟩ ?_
        refine sW_eq (st' := ([], [some (.ref 119), some (.ref a), some (.int (nI fr)), some (.int (nI t)), some (.int (nI i)), some (.int (nI x)), some (.int (nI mv)), some (.int (nI (j + 1))), some (.int (nI y))], mx_wr M2 131 (andn (L2 hs x) (R2 hs y)) (nI 1))) (by simp (disch := omega) only [Nat.add_zero, nI_add, nI_clamp]) ?_
        refine sW_goto 95 d_Mo_layCases_156 (by decide) ?_
        refine sW_fg [false, false, false, false, false, false, false, false, true] ?_
        show sW G m_Mo_layCases 95 ([], [some (.ref 119), some (.ref a), some (.int (nI fr)), some (.int (nI t)), some (.int (nI i)), some (.int (nI x)), some (.int (nI mv)), some (.int (nI (j + 1))), none], mx_wr M2 131 (andn (L2 hs x) (R2 hs y)) (nI 1)) _
        exact st _ (by rw [cif_f (fun q => hmv.elim (fun z => by omega) (fun z => z.2 q.1)), Nat.add_zero])
      · skip
        simp (disch := omega) only [nI_z] at c_127
        refine sW_go b_Mo_layCases_130 (st' := ([.int (nI t), .int (nI (andn (L2 hs x) (R2 hs y))), .ref 131], [some (.ref 119), some (.ref a), some (.int (nI fr)), some (.int (nI t)), some (.int (nI i)), some (.int (nI x)), some (.int (nI mv)), some (.int (nI j)), some (.int (nI y))], M2)) (φ := True) rfl trivial ?_
        refine sW_if_lt 149 d_Mo_layCases_131 (by decide) (fun c_131 => ?_) (fun c_131 => ?_)
        · skip
          refine sW_go b_Mo_layCases_149 (st' := ([.int (nI 0), .int (nI (andn (L2 hs x) (R2 hs y))), .ref 131], [some (.ref 119), some (.ref a), some (.int (nI fr)), some (.int (nI t)), some (.int (nI i)), some (.int (nI x)), some (.int (nI mv)), some (.int (nI j)), some (.int (nI y))], M2)) (φ := True) rfl trivial ?_
          refine sW_go b_Mo_layCases_150 (st' := ([], [some (.ref 119), some (.ref a), some (.int (nI fr)), some (.int (nI t)), some (.int (nI i)), some (.int (nI x)), some (.int (nI mv)), some (.int (nI j + nI 1)), some (.int (nI y))], mx_wr M2 131 (nI (andn (L2 hs x) (R2 hs y)) + nI 0).toNatClampNeg (nI 1))) (φ := (vp_in (nI (andn (L2 hs x) (R2 hs y)) + nI 0) (mx_len LAY true 131) ∧ ((nI 1) = 0 ∨ (nI 1) = 1)) ∧ True) rfl ⟨⟨(by simp (disch := omega) only [Nat.add_zero, nI_add, ln_131]; exact vp_in_nI (by omega) (by decide)), (by first | exact tf_01 _ | decide)⟩, trivial⟩ ?_
          refine sW_eq (st' := ([], [some (.ref 119), some (.ref a), some (.int (nI fr)), some (.int (nI t)), some (.int (nI i)), some (.int (nI x)), some (.int (nI mv)), some (.int (nI (j + 1))), some (.int (nI y))], mx_wr M2 131 (andn (L2 hs x) (R2 hs y)) (nI 1))) (by simp (disch := omega) only [Nat.add_zero, nI_add, nI_clamp]) ?_
          refine sW_goto 95 d_Mo_layCases_156 (by decide) ?_
          exact absurd c_131 (nI_nn (by omega))
        · skip
          refine sW_go b_Mo_layCases_134 (st' := ([.int (nI t), .int (nI y), .int (nI (andn (L2 hs x) (R2 hs y))), .ref 131], [some (.ref 119), some (.ref a), some (.int (nI fr)), some (.int (nI t)), some (.int (nI i)), some (.int (nI x)), some (.int (nI mv)), some (.int (nI j)), some (.int (nI y))], M2)) (φ := True) rfl trivial ?_
          refine sW_callS [.int (nI y), .int (nI t)] [.int (nI (andn (L2 hs x) (R2 hs y))), .ref 131] d_Mo_layCases_137 c_Mo_layCases_137 ⟨rfl, rfl, Nat.le_of_ble_eq_true rfl, rfl, rfl⟩ (k_has G (by omega) (by omega)) ?_
          rintro _ M₁ ⟨rfl, h₁⟩
          rw [h₁]
          show sW G m_Mo_layCases 140 ([.int (tf (bt y t = 1)), .int (nI (andn (L2 hs x) (R2 hs y))), .ref 131], [some (.ref 119), some (.ref a), some (.int (nI fr)), some (.int (nI t)), some (.int (nI i)), some (.int (nI x)), some (.int (nI mv)), some (.int (nI j)), some (.int (nI y))], M2) _
          refine sW_if_ne 149 d_Mo_layCases_140 (by decide) (fun c_140 => ?_) (fun c_140 => ?_)
          · skip
            replace c_140 := tf_nz.mp c_140
            refine sW_go b_Mo_layCases_149 (st' := ([.int (nI 0), .int (nI (andn (L2 hs x) (R2 hs y))), .ref 131], [some (.ref 119), some (.ref a), some (.int (nI fr)), some (.int (nI t)), some (.int (nI i)), some (.int (nI x)), some (.int (nI mv)), some (.int (nI j)), some (.int (nI y))], M2)) (φ := True) rfl trivial ?_
            refine sW_go b_Mo_layCases_150 (st' := ([], [some (.ref 119), some (.ref a), some (.int (nI fr)), some (.int (nI t)), some (.int (nI i)), some (.int (nI x)), some (.int (nI mv)), some (.int (nI j + nI 1)), some (.int (nI y))], mx_wr M2 131 (nI (andn (L2 hs x) (R2 hs y)) + nI 0).toNatClampNeg (nI 1))) (φ := (vp_in (nI (andn (L2 hs x) (R2 hs y)) + nI 0) (mx_len LAY true 131) ∧ ((nI 1) = 0 ∨ (nI 1) = 1)) ∧ True) rfl ⟨⟨(by simp (disch := omega) only [Nat.add_zero, nI_add, ln_131]; exact vp_in_nI (by omega) (by decide)), (by first | exact tf_01 _ | decide)⟩, trivial⟩ ?_
            refine sW_eq (st' := ([], [some (.ref 119), some (.ref a), some (.int (nI fr)), some (.int (nI t)), some (.int (nI i)), some (.int (nI x)), some (.int (nI mv)), some (.int (nI (j + 1))), some (.int (nI y))], mx_wr M2 131 (andn (L2 hs x) (R2 hs y)) (nI 1))) (by simp (disch := omega) only [Nat.add_zero, nI_add, nI_clamp]) ?_
            refine sW_goto 95 d_Mo_layCases_156 (by decide) ?_
            refine sW_fg [false, false, false, false, false, false, false, false, true] ?_
            show sW G m_Mo_layCases 95 ([], [some (.ref 119), some (.ref a), some (.int (nI fr)), some (.int (nI t)), some (.int (nI i)), some (.int (nI x)), some (.int (nI mv)), some (.int (nI (j + 1))), none], mx_wr M2 131 (andn (L2 hs x) (R2 hs y)) (nI 1)) _
            exact st _ (by rw [cif_f (fun q => q.2 c_140), Nat.add_zero])
          · skip
            replace c_140 := tf_z.mp c_140
            refine sW_go b_Mo_layCases_143 (st' := ([.int (nI 256), .int (nI (andn (L2 hs x) (R2 hs y))), .ref 131], [some (.ref 119), some (.ref a), some (.int (nI fr)), some (.int (nI t)), some (.int (nI i)), some (.int (nI x)), some (.int (nI mv)), some (.int (nI j)), some (.int (nI y))], M2)) (φ := True) rfl trivial ?_
            refine sW_goto 150 d_Mo_layCases_146 (by decide) ?_
            refine sW_go b_Mo_layCases_150 (st' := ([], [some (.ref 119), some (.ref a), some (.int (nI fr)), some (.int (nI t)), some (.int (nI i)), some (.int (nI x)), some (.int (nI mv)), some (.int (nI j + nI 1)), some (.int (nI y))], mx_wr M2 131 (nI (andn (L2 hs x) (R2 hs y)) + nI 256).toNatClampNeg (nI 1))) (φ := (vp_in (nI (andn (L2 hs x) (R2 hs y)) + nI 256) (mx_len LAY true 131) ∧ ((nI 1) = 0 ∨ (nI 1) = 1)) ∧ True) rfl ⟨⟨(by simp (disch := omega) only [nI_add, ln_131]; exact vp_in_nI (by omega) (by decide)), (by first | exact tf_01 _ | decide)⟩, trivial⟩ ?_
            refine sW_eq (st' := ([], [some (.ref 119), some (.ref a), some (.int (nI fr)), some (.int (nI t)), some (.int (nI i)), some (.int (nI x)), some (.int (nI mv)), some (.int (nI (j + 1))), some (.int (nI y))], mx_wr M2 131 (andn (L2 hs x) (R2 hs y) + 256) (nI 1))) (by simp (disch := omega) only [nI_add, nI_clamp]) ?_
            refine sW_goto 95 d_Mo_layCases_156 (by decide) ?_
            refine sW_fg [false, false, false, false, false, false, false, false, true] ?_
            show sW G m_Mo_layCases 95 ([], [some (.ref 119), some (.ref a), some (.int (nI fr)), some (.int (nI t)), some (.int (nI i)), some (.int (nI x)), some (.int (nI mv)), some (.int (nI (j + 1))), none], mx_wr M2 131 (andn (L2 hs x) (R2 hs y) + 256) (nI 1)) _
            exact st _ (by rw [cif_t ⟨hmv.elim (fun z => z.2) (fun z => by omega), c_140⟩])
  · obtain rfl : j = (gat H).length := by omega
    refine sW_go b_Mo_layCases_95 (st' := ([.int (M2 119 22), .int (nI (gat H).length)], [some (.ref 119), some (.ref a), some (.int (nI fr)), some (.int (nI t)), some (.int (nI i)), some (.int (nI x)), some (.int (nI mv)), some (.int (nI (gat H).length)), none], M2)) (φ := mx_ocl LAY 119 = 10 ∧ True) rfl ⟨oc_119, trivial⟩ ?_
    refine sW_eq (st' := ([.int (nI (gat H).length), .int (nI (gat H).length)], [some (.ref 119), some (.ref a), some (.int (nI fr)), some (.int (nI t)), some (.int (nI i)), some (.int (nI x)), some (.int (nI mv)), some (.int (nI (gat H).length)), none], M2)) (by simp (disch := omega) only [e22]) ?_
    refine sW_ic_ge 159 d_Mo_layCases_101 (by decide) (fun c_101 => ?_) (fun c_101 => ?_)
    · skip
      simp (disch := omega) only [nI_leI] at c_101
      refine sW_fg [false, false, false, false, false, true, true, true, false] ?_
      show sW G m_Mo_layCases 159 ([], [some (.ref 119), some (.ref a), some (.int (nI fr)), some (.int (nI t)), some (.int (nI i)), none, none, none, none], M2) _
      exact nx M2 i1 i2
    · skip
      simp (disch := omega) only [nI_leI] at c_101
      omega
theorem k_layCasesT (G : mx_G) {M : mx_M} {a t fr n : Nat} {hs : Hs} {H S : Nat → Nat} (hl : mx_len LAY false a = 26) (ha : a = 123 ∨ a = 125) (hR : RowAt M a 0 hs) (hw : WHs hs) (hC : MC M hs n H S) (ht : t < 8) (hf : fr < 8) : sOk G m_Mo_layCases [.ref 119, .ref a, .int (nI fr), .int (nI t)] M (fun r M' => r = none ∧ MFr M M' [131, 132] [] ∧ BolAt M' 132 (Jn (csT hs fr (fun y => ¬ bt y t = 1)))) := by
  have hlen := gat_len H
  refine sOk_of ⟨by decide +kernel, by decide +kernel, Nat.le_of_ble_eq_true rfl⟩ ?_
  show sW G m_Mo_layCases 0 ([], [some (.ref 119), some (.ref a), some (.int (nI fr)), some (.int (nI t)), none, none, none, none, none], M) _
  refine sW_go b_Mo_layCases_0 (st' := ([], [some (.ref 119), some (.ref a), some (.int (nI fr)), some (.int (nI t)), some (.int (nI 0)), none, none, none, none], M)) (φ := True) rfl trivial ?_
  refine mx_ind (α := Nat × mx_M) (fun q => 512 - q.1) (fun q => q.1 ≤ 512 → MFr M q.2 [131] [] → (∀ c, c < q.1 → q.2 131 c = nI 0) → sW G m_Mo_layCases 3 ([], [some (.ref 119), some (.ref a), some (.int (nI fr)), some (.int (nI t)), some (.int (nI q.1)), none, none, none, none], q.2) _) ?_ (0, M) (Nat.zero_le _) MFr.rf (fun i hi => absurd hi (Nat.not_lt_zero i))
  rintro ⟨q, M2⟩ ih hq i1 i2
  dsimp only at ih hq i1 i2 ⊢
  by_cases hqn : q < 512
  · skip
    refine sW_go b_Mo_layCases_3 (st' := ([.int (nI 512), .int (nI q)], [some (.ref 119), some (.ref a), some (.int (nI fr)), some (.int (nI t)), some (.int (nI q)), none, none, none, none], M2)) (φ := True) rfl trivial ?_
    refine sW_ic_ge 25 d_Mo_layCases_8 (by decide) (fun c_8 => ?_) (fun c_8 => ?_)
    · skip
      simp (disch := omega) only [nI_leI] at c_8
      omega
    · skip
      simp (disch := omega) only [nI_leI] at c_8
      refine sW_go b_Mo_layCases_11 (st' := ([], [some (.ref 119), some (.ref a), some (.int (nI fr)), some (.int (nI t)), some (.int (nI q + nI 1)), none, none, none, none], mx_wr M2 131 (nI q).toNatClampNeg (nI 0))) (φ := mx_ocl LAY 119 = 10 ∧ (vp_in (nI q) (mx_len LAY true 131) ∧ ((nI 0) = 0 ∨ (nI 0) = 1)) ∧ True) rfl ⟨oc_119, ⟨(by simp (disch := omega) only [ln_131]; exact vp_in_nI (by omega) (by decide)), (by first | exact tf_01 _ | decide)⟩, trivial⟩ ?_
      refine sW_eq (st' := ([], [some (.ref 119), some (.ref a), some (.int (nI fr)), some (.int (nI t)), some (.int (nI (q + 1))), none, none, none, none], mx_wr M2 131 q (nI 0))) (by simp (disch := omega) only [nI_add, nI_clamp]) ?_
      refine sW_goto 3 d_Mo_layCases_22 (by decide) ?_
      refine ih (q + 1, (mx_wr M2 131 q (nI 0))) (by dsimp only; omega) (by dsimp only; omega) (i1.wr (by decide) (by decide)) (fun c hc => ?_)
      dsimp only at hc ⊢
      rw [mx_wr_s]
      by_cases hx : c = q
      · rw [hx, pk_us]
      · rw [pk_un hx]; exact i2 c (by omega)
  · obtain rfl : q = 512 := by omega
    refine sW_go b_Mo_layCases_3 (st' := ([.int (nI 512), .int (nI 512)], [some (.ref 119), some (.ref a), some (.int (nI fr)), some (.int (nI t)), some (.int (nI 512)), none, none, none, none], M2)) (φ := True) rfl trivial ?_
    refine sW_ic_ge 25 d_Mo_layCases_8 (by decide) (fun c_8 => ?_) (fun c_8 => ?_)
    · skip
      simp (disch := omega) only [nI_leI] at c_8
      refine sW_go b_Mo_layCases_25 (st' := ([], [some (.ref 119), some (.ref a), some (.int (nI fr)), some (.int (nI t)), some (.int (nI 0)), none, none, none, none], M2)) (φ := True) rfl trivial ?_
      refine mx_ind (α := Nat × mx_M) (fun q => (gat H).length - q.1) (fun q => q.1 ≤ (gat H).length → MFr M q.2 [131] [] → BolAt q.2 131 (csA hs (gat H) fr (fun y => ¬ bt y t = 1) q.1) → sW G m_Mo_layCases 28 ([], [some (.ref 119), some (.ref a), some (.int (nI fr)), some (.int (nI t)), some (.int (nI q.1)), none, none, none, none], q.2) _) ?_ (0, M2) (Nat.zero_le _) i1 (fun v hv => by dsimp only; rw [i2 v hv, tf_f (fun ⟨k, hk, _⟩ => absurd hk (Nat.not_lt_zero k))])
      rintro ⟨i, M3⟩ ih3 hi j1 j2
      dsimp only at ih3 hi j1 j2 ⊢
      have hC3 : MC M3 hs n H S := ⟨hC.1, hC.2.1.eq (j1.1 128 (by decide) (by decide)), hC.2.2.1.eq (j1.1 129 (by decide) (by decide)), hC.2.2.2.1.eq (j1.2 22 (by decide)) (j1.1 130 (by decide) (by decide)), hC.2.2.2.2⟩
      have hR3 : RowAt M3 a 0 hs := hR.eq (j1.1 a (by omega) (by rcases ha with rfl | rfl <;> decide))
      have e22 := hC3.2.2.2.1.1
      by_cases hin : i < (gat H).length
      · have e1 := hC3.2.2.2.1.2 i hin
        have hx := (gat_at hin).1
        obtain ⟨x, hxx⟩ : ∃ x, (gat H).getD i 0 = x := ⟨_, rfl⟩
        rw [hxx] at e1 hx
        have hl2 := L2_lt hw.1 x
        have go : ∀ (mv u0 : Nat), ((mv = 1 ∧ bt x fr = 1) ∨ (mv = 0 ∧ ¬ bt x fr = 1)) → u0 = L2 hs x + cif (bt x fr = 1) 256 0 → sW G m_Mo_layCases 95 ([], [some (.ref 119), some (.ref a), some (.int (nI fr)), some (.int (nI t)), some (.int (nI i)), some (.int (nI x)), some (.int (nI mv)), some (.int (nI 0)), none], mx_wr M3 131 u0 (nI 1)) (fun r M' => r = none ∧ MFr M M' [131, 132] [] ∧ BolAt M' 132 (Jn (csT hs fr (fun y => ¬ bt y t = 1)))) := fun mv u0 hmv hu => by
          have fw : MFr M3 (mx_wr M3 131 u0 (nI 1)) [131] [] := MFr.rf.wr (by decide) (by decide)
          have hC4 : MC (mx_wr M3 131 u0 (nI 1)) hs n H S := ⟨hC3.1, hC3.2.1.eq (fw.1 128 (by decide) (by decide)), hC3.2.2.1.eq (fw.1 129 (by decide) (by decide)), hC3.2.2.2.1.eq (fw.2 22 (by decide)) (fw.1 130 (by decide) (by decide)), hC3.2.2.2.2⟩
          refine k_lc95T G hl ha (hR3.eq (fw.1 a (by omega) (by rcases ha with rfl | rfl <;> decide))) hw hC4 ht hx hmv (j2.set u0) (fun M4 k1 k2 => ?_)
          refine sW_go b_Mo_layCases_159 (st' := ([], [some (.ref 119), some (.ref a), some (.int (nI fr)), some (.int (nI t)), some (.int (nI i + nI 1)), none, none, none, none], M4)) (φ := True) rfl trivial ?_
          refine sW_eq (st' := ([], [some (.ref 119), some (.ref a), some (.int (nI fr)), some (.int (nI t)), some (.int (nI (i + 1))), none, none, none, none], M4)) (by simp (disch := omega) only [nI_add]) ?_
          refine sW_goto 28 d_Mo_layCases_162 (by decide) ?_
          refine ih3 (i + 1, M4) (by dsimp only; omega) (by dsimp only; omega) ((j1.tr fw).tr k1) (k2.congr (fun u _ => ?_))
          dsimp only
          unfold csA
          constructor
          · rintro ((⟨k, q1, q2⟩ | q) | q)
            · exact ⟨k, by omega, q2⟩
            · exact ⟨i, by omega, by rw [hxx]; exact Or.inl (by rw [q, hu])⟩
            · exact ⟨i, by omega, by rw [hxx]; exact Or.inr q⟩
          · rintro ⟨k, q1, q2⟩
            by_cases hk : k = i
            · subst hk
              rw [hxx] at q2
              rcases q2 with q2 | q2
              · exact Or.inl (Or.inr (by rw [q2, hu]))
              · exact Or.inr q2
            · exact Or.inl (Or.inl ⟨k, by omega, q2⟩)
        refine sW_go b_Mo_layCases_28 (st' := ([.int (M3 119 22), .int (nI i)], [some (.ref 119), some (.ref a), some (.int (nI fr)), some (.int (nI t)), some (.int (nI i)), none, none, none, none], M3)) (φ := mx_ocl LAY 119 = 10 ∧ True) rfl ⟨oc_119, trivial⟩ ?_
        refine sW_eq (st' := ([.int (nI (gat H).length), .int (nI i)], [some (.ref 119), some (.ref a), some (.int (nI fr)), some (.int (nI t)), some (.int (nI i)), none, none, none, none], M3)) (by simp (disch := omega) only [e22]) ?_
        refine sW_ic_ge 165 d_Mo_layCases_34 (by decide) (fun c_34 => ?_) (fun c_34 => ?_)
        · skip
          simp (disch := omega) only [nI_leI] at c_34
          omega
        · skip
          simp (disch := omega) only [nI_leI] at c_34
          refine sW_go b_Mo_layCases_37 (st' := ([.int (nI fr)], [some (.ref 119), some (.ref a), some (.int (nI fr)), some (.int (nI t)), some (.int (nI i)), some (.int (M3 130 (nI i).toNatClampNeg)), none, none, none], M3)) (φ := mx_ocl LAY 119 = 10 ∧ vp_in (nI i) (mx_len LAY false 130) ∧ True) rfl ⟨oc_119, (by simp (disch := omega) only [ln_130]; exact vp_in_nI (by omega) (by decide)), trivial⟩ ?_
          refine sW_eq (st' := ([.int (nI fr)], [some (.ref 119), some (.ref a), some (.int (nI fr)), some (.int (nI t)), some (.int (nI i)), some (.int (nI x)), none, none, none], M3)) (by simp (disch := omega) only [e1, nI_clamp]) ?_
          refine sW_if_lt 63 d_Mo_layCases_47 (by decide) (fun c_47 => ?_) (fun c_47 => ?_)
          · skip
            exact absurd c_47 (nI_nn (by omega))
          · skip
            refine sW_go b_Mo_layCases_50 (st' := ([.int (nI fr), .int (nI x)], [some (.ref 119), some (.ref a), some (.int (nI fr)), some (.int (nI t)), some (.int (nI i)), some (.int (nI x)), none, none, none], M3)) (φ := True) rfl trivial ?_
            refine sW_callS [.int (nI x), .int (nI fr)] [] d_Mo_layCases_53 c_Mo_layCases_53 ⟨rfl, rfl, Nat.le_of_ble_eq_true rfl, rfl, rfl⟩ (k_has G (by omega) (by omega)) ?_
            rintro _ M₁ ⟨rfl, h₁⟩
            rw [h₁]
            show sW G m_Mo_layCases 56 ([.int (tf (bt x fr = 1))], [some (.ref 119), some (.ref a), some (.int (nI fr)), some (.int (nI t)), some (.int (nI i)), some (.int (nI x)), none, none, none], M3) _
            refine sW_if_eq 63 d_Mo_layCases_56 (by decide) (fun c_56 => ?_) (fun c_56 => ?_)
            · skip
              replace c_56 := tf_z.mp c_56
              refine sW_go b_Mo_layCases_63 (st' := ([.int (nI 0)], [some (.ref 119), some (.ref a), some (.int (nI fr)), some (.int (nI t)), some (.int (nI i)), some (.int (nI x)), none, none, none], M3)) (φ := True) rfl trivial ?_
              refine sW_go b_Mo_layCases_64 (st' := ([.int (-1), .int (nI x), .ref a, .ref 131], [some (.ref 119), some (.ref a), some (.int (nI fr)), some (.int (nI t)), some (.int (nI i)), some (.int (nI x)), some (.int (nI 0)), none, none], M3)) (φ := mx_ocl LAY 119 = 10 ∧ True) rfl ⟨oc_119, trivial⟩ ?_
              refine sW_callS [.ref a, .int (nI x), .int (-1)] [.ref 131] d_Mo_layCases_74 c_Mo_layCases_74 ⟨rfl, rfl, Nat.le_of_ble_eq_true rfl, rfl, rfl⟩ (k_breaks0 G hl hR3 hw hx) ?_
              rintro _ M₁ ⟨rfl, h₁⟩
              rw [h₁]
              show sW G m_Mo_layCases 77 ([.int (nI (L2 hs x)), .ref 131], [some (.ref 119), some (.ref a), some (.int (nI fr)), some (.int (nI t)), some (.int (nI i)), some (.int (nI x)), some (.int (nI 0)), none, none], M3) _
              refine sW_go b_Mo_layCases_77 (st' := ([.int (nI 0), .int (nI (L2 hs x)), .ref 131], [some (.ref 119), some (.ref a), some (.int (nI fr)), some (.int (nI t)), some (.int (nI i)), some (.int (nI x)), some (.int (nI 0)), none, none], M3)) (φ := True) rfl trivial ?_
              refine sW_if_eq 88 d_Mo_layCases_79 (by decide) (fun c_79 => ?_) (fun c_79 => ?_)
              · skip
                simp (disch := omega) only [nI_z] at c_79
                refine sW_go b_Mo_layCases_88 (st' := ([.int (nI 0), .int (nI (L2 hs x)), .ref 131], [some (.ref 119), some (.ref a), some (.int (nI fr)), some (.int (nI t)), some (.int (nI i)), some (.int (nI x)), some (.int (nI 0)), none, none], M3)) (φ := True) rfl trivial ?_
                refine sW_go b_Mo_layCases_89 (st' := ([], [some (.ref 119), some (.ref a), some (.int (nI fr)), some (.int (nI t)), some (.int (nI i)), some (.int (nI x)), some (.int (nI 0)), some (.int (nI 0)), none], mx_wr M3 131 (nI (L2 hs x) + nI 0).toNatClampNeg (nI 1))) (φ := (vp_in (nI (L2 hs x) + nI 0) (mx_len LAY true 131) ∧ ((nI 1) = 0 ∨ (nI 1) = 1)) ∧ True) rfl ⟨⟨(by simp (disch := omega) only [Nat.add_zero, nI_add, ln_131]; exact vp_in_nI (by omega) (by decide)), (by first | exact tf_01 _ | decide)⟩, trivial⟩ ?_
                refine sW_eq (st' := ([], [some (.ref 119), some (.ref a), some (.int (nI fr)), some (.int (nI t)), some (.int (nI i)), some (.int (nI x)), some (.int (nI 0)), some (.int (nI 0)), none], mx_wr M3 131 (L2 hs x) (nI 1))) (by simp (disch := omega) only [Nat.add_zero, nI_add, nI_clamp]) ?_
                exact go 0 _ (Or.inr ⟨rfl, c_56⟩) (by rw [cif_f c_56, Nat.add_zero])
              · skip
                exact absurd (by decide +kernel) c_79
            · skip
              replace c_56 := tf_nz.mp c_56
              refine sW_go b_Mo_layCases_59 (st' := ([.int (nI 1)], [some (.ref 119), some (.ref a), some (.int (nI fr)), some (.int (nI t)), some (.int (nI i)), some (.int (nI x)), none, none, none], M3)) (φ := True) rfl trivial ?_
              refine sW_goto 64 d_Mo_layCases_60 (by decide) ?_
              refine sW_go b_Mo_layCases_64 (st' := ([.int (-1), .int (nI x), .ref a, .ref 131], [some (.ref 119), some (.ref a), some (.int (nI fr)), some (.int (nI t)), some (.int (nI i)), some (.int (nI x)), some (.int (nI 1)), none, none], M3)) (φ := mx_ocl LAY 119 = 10 ∧ True) rfl ⟨oc_119, trivial⟩ ?_
              refine sW_callS [.ref a, .int (nI x), .int (-1)] [.ref 131] d_Mo_layCases_74 c_Mo_layCases_74 ⟨rfl, rfl, Nat.le_of_ble_eq_true rfl, rfl, rfl⟩ (k_breaks0 G hl hR3 hw hx) ?_
              rintro _ M₁ ⟨rfl, h₁⟩
              rw [h₁]
              show sW G m_Mo_layCases 77 ([.int (nI (L2 hs x)), .ref 131], [some (.ref 119), some (.ref a), some (.int (nI fr)), some (.int (nI t)), some (.int (nI i)), some (.int (nI x)), some (.int (nI 1)), none, none], M3) _
              refine sW_go b_Mo_layCases_77 (st' := ([.int (nI 1), .int (nI (L2 hs x)), .ref 131], [some (.ref 119), some (.ref a), some (.int (nI fr)), some (.int (nI t)), some (.int (nI i)), some (.int (nI x)), some (.int (nI 1)), none, none], M3)) (φ := True) rfl trivial ?_
              refine sW_if_eq 88 d_Mo_layCases_79 (by decide) (fun c_79 => ?_) (fun c_79 => ?_)
              · skip
                exact absurd c_79 (by decide +kernel)
              · skip
                simp (disch := omega) only [nI_z] at c_79
                refine sW_go b_Mo_layCases_82 (st' := ([.int (nI 256), .int (nI (L2 hs x)), .ref 131], [some (.ref 119), some (.ref a), some (.int (nI fr)), some (.int (nI t)), some (.int (nI i)), some (.int (nI x)), some (.int (nI 1)), none, none], M3)) (φ := True) rfl trivial ?_
                refine sW_goto 89 d_Mo_layCases_85 (by decide) ?_
                refine sW_go b_Mo_layCases_89 (st' := ([], [some (.ref 119), some (.ref a), some (.int (nI fr)), some (.int (nI t)), some (.int (nI i)), some (.int (nI x)), some (.int (nI 1)), some (.int (nI 0)), none], mx_wr M3 131 (nI (L2 hs x) + nI 256).toNatClampNeg (nI 1))) (φ := (vp_in (nI (L2 hs x) + nI 256) (mx_len LAY true 131) ∧ ((nI 1) = 0 ∨ (nI 1) = 1)) ∧ True) rfl ⟨⟨(by simp (disch := omega) only [nI_add, ln_131]; exact vp_in_nI (by omega) (by decide)), (by first | exact tf_01 _ | decide)⟩, trivial⟩ ?_
                refine sW_eq (st' := ([], [some (.ref 119), some (.ref a), some (.int (nI fr)), some (.int (nI t)), some (.int (nI i)), some (.int (nI x)), some (.int (nI 1)), some (.int (nI 0)), none], mx_wr M3 131 (L2 hs x + 256) (nI 1))) (by simp (disch := omega) only [nI_add, nI_clamp]) ?_
                exact go 1 _ (Or.inl ⟨rfl, c_56⟩) (by rw [cif_t c_56])
      · obtain rfl : i = (gat H).length := by omega
        refine sW_go b_Mo_layCases_28 (st' := ([.int (M3 119 22), .int (nI (gat H).length)], [some (.ref 119), some (.ref a), some (.int (nI fr)), some (.int (nI t)), some (.int (nI (gat H).length)), none, none, none, none], M3)) (φ := mx_ocl LAY 119 = 10 ∧ True) rfl ⟨oc_119, trivial⟩ ?_
        refine sW_eq (st' := ([.int (nI (gat H).length), .int (nI (gat H).length)], [some (.ref 119), some (.ref a), some (.int (nI fr)), some (.int (nI t)), some (.int (nI (gat H).length)), none, none, none, none], M3)) (by simp (disch := omega) only [e22]) ?_
        refine sW_ic_ge 165 d_Mo_layCases_34 (by decide) (fun c_34 => ?_) (fun c_34 => ?_)
        · skip
          simp (disch := omega) only [nI_leI] at c_34
          refine sW_go b_Mo_layCases_165 (st' := ([.ref 119], [some (.ref 119), some (.ref a), some (.int (nI fr)), some (.int (nI t)), some (.int (nI (gat H).length)), none, none, none, none], M3)) (φ := True) rfl trivial ?_
          refine sW_callV 10 [] [] d_Mo_layCases_166 c_Mo_layCases_166 ⟨rfl, rfl, rfl, Nat.le_of_ble_eq_true rfl, rfl, rfl⟩ oc_119 (k_join G j2) ?_
          rintro _ M4 ⟨rfl, k1, k2⟩
          show sW G m_Mo_layCases 169 ([], [some (.ref 119), some (.ref a), some (.int (nI fr)), some (.int (nI t)), some (.int (nI (gat H).length)), none, none, none, none], M4) _
          refine sW_retV d_Mo_layCases_169 rfl ?_
          refine ⟨rfl, (j1.mono (by decide) (by decide)).tr (k1.mono (by decide) (by decide)), k2.congr (fun v _ => Jn_congr (fun u => ?_))⟩
          unfold csA
          rw [ex_gat (P := fun x => u = L2 hs x + cif (bt x fr = 1) 256 0 ∨ csI hs (gat H) fr (fun y => ¬ bt y t = 1) x (gat H).length u)]
          have e5 : ∀ x, csI hs (gat H) fr (fun y => ¬ bt y t = 1) x (gat H).length u ↔ ∃ y, y ∈ gat H ∧ u = andn (L2 hs x) (R2 hs y) + cif (bt x fr = 1 ∧ (fun y => ¬ bt y t = 1) y) 256 0 := fun x => ex_gat (P := fun y => u = andn (L2 hs x) (R2 hs y) + cif (bt x fr = 1 ∧ (fun y => ¬ bt y t = 1) y) 256 0)
          constructor
          · rintro ⟨_, x, q1, q2⟩
            refine ⟨x, (hC.mem hw.1 x).mp q1, q2.imp id (fun z => ?_)⟩
            obtain ⟨y, y1, y2⟩ := (e5 x).mp z
            exact ⟨y, (hC.mem hw.1 y).mp y1, y2⟩
          · rintro ⟨x, q1, q2⟩
            refine ⟨?_, x, (hC.mem hw.1 x).mpr q1, q2.imp id (fun ⟨y, y1, y2⟩ => (e5 x).mpr ⟨y, (hC.mem hw.1 y).mpr y1, y2⟩)⟩
            have h1 := L2_lt hw.1 x
            have h3 : ∀ P : Prop, (cif P 256 0 : Nat) ≤ 256 := fun P => by unfold cif; split <;> omega
            rcases q2 with q2 | ⟨y, _, q2⟩
            · have := h3 (bt x fr = 1); omega
            · have h2 := andn_le (L2 hs x) (R2 hs y)
              have := h3 (bt x fr = 1 ∧ (fun y => ¬ bt y t = 1) y); omega
        · skip
          simp (disch := omega) only [nI_leI] at c_34
          omega
    · skip
      exact absurd (by decide +kernel) c_8
theorem k_lc95N (G : mx_G) {M1 : mx_M} {a fr x i mv n : Nat} {hs : Hs} {H S : Nat → Nat} (hl : mx_len LAY false a = 26) (ha : a = 123 ∨ a = 125) (hR : RowAt M1 a 0 hs) (hw : WHs hs) (hC : MC M1 hs n H S) (hx : x < 256) (hmv : (mv = 1 ∧ bt x fr = 1) ∨ (mv = 0 ∧ ¬ bt x fr = 1)) {J : Nat → Prop} (hJ : BolAt M1 131 J) {QQ : Option Value → mx_M → Prop}
  (nx : ∀ M2, MFr M1 M2 [131] [] → BolAt M2 131 (fun u => J u ∨ csI hs (gat H) fr (fun _ => False) x (gat H).length u) → sW G m_Mo_layCases 159 ([], [some (.ref 119), some (.ref a), some (.int (nI fr)), some (.int ((-1))), some (.int (nI i)), none, none, none, none], M2) QQ) :
  sW G m_Mo_layCases 95 ([], [some (.ref 119), some (.ref a), some (.int (nI fr)), some (.int ((-1))), some (.int (nI i)), some (.int (nI x)), some (.int (nI mv)), some (.int (nI 0)), none], M1) QQ := by
  obtain ⟨hn, c1, c2, c3, c4, c5, c6⟩ := id hC
  have hlen := gat_len H
  refine mx_ind (α := Nat × mx_M) (fun q => (gat H).length - q.1) (fun q => q.1 ≤ (gat H).length → MFr M1 q.2 [131] [] → BolAt q.2 131 (fun u => J u ∨ csI hs (gat H) fr (fun _ => False) x q.1 u) → sW G m_Mo_layCases 95 ([], [some (.ref 119), some (.ref a), some (.int (nI fr)), some (.int ((-1))), some (.int (nI i)), some (.int (nI x)), some (.int (nI mv)), some (.int (nI q.1)), none], q.2) _) ?_ (0, M1) (Nat.zero_le _) MFr.rf (hJ.congr (fun u _ => ⟨Or.inl, fun q => q.elim id (fun ⟨k, hk, _⟩ => absurd hk (Nat.not_lt_zero k))⟩))
  rintro ⟨j, M2⟩ ih hj i1 i2
  dsimp only at ih hj i1 i2 ⊢
  have e22 : M2 119 22 = nI (gat H).length := (i1.2 22 (by decide)).trans c3.1
  by_cases hjn : j < (gat H).length
  · have e1 : M2 130 j = nI ((gat H).getD j 0) := by rw [i1.1 130 (by decide) (by decide)]; exact c3.2 j hjn
    have hy := (gat_at hjn).1
    obtain ⟨y, hyy⟩ : ∃ y, (gat H).getD j 0 = y := ⟨_, rfl⟩
    rw [hyy] at e1 hy
    have hR2 : RowAt M2 a 0 hs := hR.eq (i1.1 a (by omega) (by rcases ha with rfl | rfl <;> decide))
    have hbr : andn (L2 hs x) (R2 hs y) < 256 := Nat.lt_of_le_of_lt (andn_le _ _) (L2_lt hw.1 x)
    have st : ∀ u0, u0 = andn (L2 hs x) (R2 hs y) + cif (bt x fr = 1 ∧ (fun _ => False) y) 256 0 → sW G m_Mo_layCases 95 ([], [some (.ref 119), some (.ref a), some (.int (nI fr)), some (.int ((-1))), some (.int (nI i)), some (.int (nI x)), some (.int (nI mv)), some (.int (nI (j + 1))), none], mx_wr M2 131 u0 (nI 1)) QQ := fun u0 hu => by
      refine ih (j + 1, mx_wr M2 131 u0 (nI 1)) (by dsimp only; omega) (by dsimp only; omega) (i1.wr (by decide) (by decide)) ((i2.set u0).congr (fun u _ => ?_))
      dsimp only
      unfold csI
      constructor
      · rintro ((q | ⟨k, q1, q2⟩) | q)
        · exact Or.inl q
        · exact Or.inr ⟨k, by omega, q2⟩
        · exact Or.inr ⟨j, by omega, by rw [hyy, q, hu]⟩
      · rintro (q | ⟨k, q1, q2⟩)
        · exact Or.inl (Or.inl q)
        · by_cases hk : k = j
          · subst hk
            rw [hyy] at q2
            exact Or.inr (by rw [q2, hu])
          · exact Or.inl (Or.inr ⟨k, by omega, q2⟩)
    refine sW_go b_Mo_layCases_95 (st' := ([.int (M2 119 22), .int (nI j)], [some (.ref 119), some (.ref a), some (.int (nI fr)), some (.int (-1)), some (.int (nI i)), some (.int (nI x)), some (.int (nI mv)), some (.int (nI j)), none], M2)) (φ := mx_ocl LAY 119 = 10 ∧ True) rfl ⟨oc_119, trivial⟩ ?_
    refine sW_eq (st' := ([.int (nI (gat H).length), .int (nI j)], [some (.ref 119), some (.ref a), some (.int (nI fr)), some (.int (-1)), some (.int (nI i)), some (.int (nI x)), some (.int (nI mv)), some (.int (nI j)), none], M2)) (by simp (disch := omega) only [e22]) ?_
    refine sW_ic_ge 159 d_Mo_layCases_101 (by decide) (fun c_101 => ?_) (fun c_101 => ?_)
    · skip
      simp (disch := omega) only [nI_leI] at c_101
      omega
    · skip
      simp (disch := omega) only [nI_leI] at c_101
      refine sW_go b_Mo_layCases_104 (st' := ([.int (M2 130 (nI j).toNatClampNeg), .int (nI x), .ref a, .ref 131], [some (.ref 119), some (.ref a), some (.int (nI fr)), some (.int (-1)), some (.int (nI i)), some (.int (nI x)), some (.int (nI mv)), some (.int (nI j)), some (.int (M2 130 (nI j).toNatClampNeg))], M2)) (φ := mx_ocl LAY 119 = 10 ∧ vp_in (nI j) (mx_len LAY false 130) ∧ mx_ocl LAY 119 = 10 ∧ True) rfl ⟨oc_119, (by simp (disch := omega) only [ln_130]; exact vp_in_nI (by omega) (by decide)), oc_119, trivial⟩ ?_
      refine sW_eq (st' := ([.int (nI y), .int (nI x), .ref a, .ref 131], [some (.ref 119), some (.ref a), some (.int (nI fr)), some (.int (-1)), some (.int (nI i)), some (.int (nI x)), some (.int (nI mv)), some (.int (nI j)), some (.int (nI y))], M2)) (by simp (disch := omega) only [e1, nI_clamp]) ?_
      refine sW_callS [.ref a, .int (nI x), .int (nI y)] [.ref 131] d_Mo_layCases_122 c_Mo_layCases_122 ⟨rfl, rfl, Nat.le_of_ble_eq_true rfl, rfl, rfl⟩ (k_breaks G hl hR2 hw hx hy) ?_
      rintro _ M₁ ⟨rfl, h₁⟩
      rw [h₁]
      show sW G m_Mo_layCases 125 ([.int (nI (andn (L2 hs x) (R2 hs y))), .ref 131], [some (.ref 119), some (.ref a), some (.int (nI fr)), some (.int (-1)), some (.int (nI i)), some (.int (nI x)), some (.int (nI mv)), some (.int (nI j)), some (.int (nI y))], M2) _
      refine sW_go b_Mo_layCases_125 (st' := ([.int (nI mv), .int (nI (andn (L2 hs x) (R2 hs y))), .ref 131], [some (.ref 119), some (.ref a), some (.int (nI fr)), some (.int (-1)), some (.int (nI i)), some (.int (nI x)), some (.int (nI mv)), some (.int (nI j)), some (.int (nI y))], M2)) (φ := True) rfl trivial ?_
      refine sW_if_eq 149 d_Mo_layCases_127 (by decide) (fun c_127 => ?_) (fun c_127 => ?_)
      · skip
        simp (disch := omega) only [nI_z] at c_127
        refine sW_go b_Mo_layCases_149 (st' := ([.int (nI 0), .int (nI (andn (L2 hs x) (R2 hs y))), .ref 131], [some (.ref 119), some (.ref a), some (.int (nI fr)), some (.int (-1)), some (.int (nI i)), some (.int (nI x)), some (.int (nI mv)), some (.int (nI j)), some (.int (nI y))], M2)) (φ := True) rfl trivial ?_
        refine sW_go b_Mo_layCases_150 (st' := ([], [some (.ref 119), some (.ref a), some (.int (nI fr)), some (.int (-1)), some (.int (nI i)), some (.int (nI x)), some (.int (nI mv)), some (.int (nI j + nI 1)), some (.int (nI y))], mx_wr M2 131 (nI (andn (L2 hs x) (R2 hs y)) + nI 0).toNatClampNeg (nI 1))) (φ := (vp_in (nI (andn (L2 hs x) (R2 hs y)) + nI 0) (mx_len LAY true 131) ∧ ((nI 1) = 0 ∨ (nI 1) = 1)) ∧ True) rfl ⟨⟨(by simp (disch := omega) only [Nat.add_zero, nI_add, ln_131]; exact vp_in_nI (by omega) (by decide)), (by first | exact tf_01 _ | decide)⟩, trivial⟩ ?_
        refine sW_eq (st' := ([], [some (.ref 119), some (.ref a), some (.int (nI fr)), some (.int (-1)), some (.int (nI i)), some (.int (nI x)), some (.int (nI mv)), some (.int (nI (j + 1))), some (.int (nI y))], mx_wr M2 131 (andn (L2 hs x) (R2 hs y)) (nI 1))) (by simp (disch := omega) only [Nat.add_zero, nI_add, nI_clamp]) ?_
        refine sW_goto 95 d_Mo_layCases_156 (by decide) ?_
        refine sW_fg [false, false, false, false, false, false, false, false, true] ?_
        show sW G m_Mo_layCases 95 ([], [some (.ref 119), some (.ref a), some (.int (nI fr)), some (.int (-1)), some (.int (nI i)), some (.int (nI x)), some (.int (nI mv)), some (.int (nI (j + 1))), none], mx_wr M2 131 (andn (L2 hs x) (R2 hs y)) (nI 1)) _
        exact st _ (by rw [cif_f (fun q => hmv.elim (fun z => by omega) (fun z => z.2 q.1)), Nat.add_zero])
      · skip
        simp (disch := omega) only [nI_z] at c_127
        refine sW_go b_Mo_layCases_130 (st' := ([.int (-1), .int (nI (andn (L2 hs x) (R2 hs y))), .ref 131], [some (.ref 119), some (.ref a), some (.int (nI fr)), some (.int (-1)), some (.int (nI i)), some (.int (nI x)), some (.int (nI mv)), some (.int (nI j)), some (.int (nI y))], M2)) (φ := True) rfl trivial ?_
        refine sW_if_lt 149 d_Mo_layCases_131 (by decide) (fun c_131 => ?_) (fun c_131 => ?_)
        · skip
          refine sW_go b_Mo_layCases_149 (st' := ([.int (nI 0), .int (nI (andn (L2 hs x) (R2 hs y))), .ref 131], [some (.ref 119), some (.ref a), some (.int (nI fr)), some (.int (-1)), some (.int (nI i)), some (.int (nI x)), some (.int (nI mv)), some (.int (nI j)), some (.int (nI y))], M2)) (φ := True) rfl trivial ?_
          refine sW_go b_Mo_layCases_150 (st' := ([], [some (.ref 119), some (.ref a), some (.int (nI fr)), some (.int (-1)), some (.int (nI i)), some (.int (nI x)), some (.int (nI mv)), some (.int (nI j + nI 1)), some (.int (nI y))], mx_wr M2 131 (nI (andn (L2 hs x) (R2 hs y)) + nI 0).toNatClampNeg (nI 1))) (φ := (vp_in (nI (andn (L2 hs x) (R2 hs y)) + nI 0) (mx_len LAY true 131) ∧ ((nI 1) = 0 ∨ (nI 1) = 1)) ∧ True) rfl ⟨⟨(by simp (disch := omega) only [Nat.add_zero, nI_add, ln_131]; exact vp_in_nI (by omega) (by decide)), (by first | exact tf_01 _ | decide)⟩, trivial⟩ ?_
          refine sW_eq (st' := ([], [some (.ref 119), some (.ref a), some (.int (nI fr)), some (.int (-1)), some (.int (nI i)), some (.int (nI x)), some (.int (nI mv)), some (.int (nI (j + 1))), some (.int (nI y))], mx_wr M2 131 (andn (L2 hs x) (R2 hs y)) (nI 1))) (by simp (disch := omega) only [Nat.add_zero, nI_add, nI_clamp]) ?_
          refine sW_goto 95 d_Mo_layCases_156 (by decide) ?_
          refine sW_fg [false, false, false, false, false, false, false, false, true] ?_
          show sW G m_Mo_layCases 95 ([], [some (.ref 119), some (.ref a), some (.int (nI fr)), some (.int (-1)), some (.int (nI i)), some (.int (nI x)), some (.int (nI mv)), some (.int (nI (j + 1))), none], mx_wr M2 131 (andn (L2 hs x) (R2 hs y)) (nI 1)) _
          exact st _ (by rw [cif_f (fun q => q.2), Nat.add_zero])
        · skip
          exact absurd (by decide +kernel) c_131
  · obtain rfl : j = (gat H).length := by omega
    refine sW_go b_Mo_layCases_95 (st' := ([.int (M2 119 22), .int (nI (gat H).length)], [some (.ref 119), some (.ref a), some (.int (nI fr)), some (.int (-1)), some (.int (nI i)), some (.int (nI x)), some (.int (nI mv)), some (.int (nI (gat H).length)), none], M2)) (φ := mx_ocl LAY 119 = 10 ∧ True) rfl ⟨oc_119, trivial⟩ ?_
    refine sW_eq (st' := ([.int (nI (gat H).length), .int (nI (gat H).length)], [some (.ref 119), some (.ref a), some (.int (nI fr)), some (.int (-1)), some (.int (nI i)), some (.int (nI x)), some (.int (nI mv)), some (.int (nI (gat H).length)), none], M2)) (by simp (disch := omega) only [e22]) ?_
    refine sW_ic_ge 159 d_Mo_layCases_101 (by decide) (fun c_101 => ?_) (fun c_101 => ?_)
    · skip
      simp (disch := omega) only [nI_leI] at c_101
      refine sW_fg [false, false, false, false, false, true, true, true, false] ?_
      show sW G m_Mo_layCases 159 ([], [some (.ref 119), some (.ref a), some (.int (nI fr)), some (.int (-1)), some (.int (nI i)), none, none, none, none], M2) _
      exact nx M2 i1 i2
    · skip
      simp (disch := omega) only [nI_leI] at c_101
      omega
theorem k_layCasesN (G : mx_G) {M : mx_M} {a fr n : Nat} {hs : Hs} {H S : Nat → Nat} (hl : mx_len LAY false a = 26) (ha : a = 123 ∨ a = 125) (hR : RowAt M a 0 hs) (hw : WHs hs) (hC : MC M hs n H S) (hf : fr < 8) : sOk G m_Mo_layCases [.ref 119, .ref a, .int (nI fr), .int ((-1))] M (fun r M' => r = none ∧ MFr M M' [131, 132] [] ∧ BolAt M' 132 (Jn (csT hs fr (fun _ => False)))) := by
  have hlen := gat_len H
  refine sOk_of ⟨by decide +kernel, by decide +kernel, Nat.le_of_ble_eq_true rfl⟩ ?_
  show sW G m_Mo_layCases 0 ([], [some (.ref 119), some (.ref a), some (.int (nI fr)), some (.int (-1)), none, none, none, none, none], M) _
  refine sW_go b_Mo_layCases_0 (st' := ([], [some (.ref 119), some (.ref a), some (.int (nI fr)), some (.int (-1)), some (.int (nI 0)), none, none, none, none], M)) (φ := True) rfl trivial ?_
  refine mx_ind (α := Nat × mx_M) (fun q => 512 - q.1) (fun q => q.1 ≤ 512 → MFr M q.2 [131] [] → (∀ c, c < q.1 → q.2 131 c = nI 0) → sW G m_Mo_layCases 3 ([], [some (.ref 119), some (.ref a), some (.int (nI fr)), some (.int ((-1))), some (.int (nI q.1)), none, none, none, none], q.2) _) ?_ (0, M) (Nat.zero_le _) MFr.rf (fun i hi => absurd hi (Nat.not_lt_zero i))
  rintro ⟨q, M2⟩ ih hq i1 i2
  dsimp only at ih hq i1 i2 ⊢
  by_cases hqn : q < 512
  · skip
    refine sW_go b_Mo_layCases_3 (st' := ([.int (nI 512), .int (nI q)], [some (.ref 119), some (.ref a), some (.int (nI fr)), some (.int (-1)), some (.int (nI q)), none, none, none, none], M2)) (φ := True) rfl trivial ?_
    refine sW_ic_ge 25 d_Mo_layCases_8 (by decide) (fun c_8 => ?_) (fun c_8 => ?_)
    · skip
      simp (disch := omega) only [nI_leI] at c_8
      omega
    · skip
      simp (disch := omega) only [nI_leI] at c_8
      refine sW_go b_Mo_layCases_11 (st' := ([], [some (.ref 119), some (.ref a), some (.int (nI fr)), some (.int (-1)), some (.int (nI q + nI 1)), none, none, none, none], mx_wr M2 131 (nI q).toNatClampNeg (nI 0))) (φ := mx_ocl LAY 119 = 10 ∧ (vp_in (nI q) (mx_len LAY true 131) ∧ ((nI 0) = 0 ∨ (nI 0) = 1)) ∧ True) rfl ⟨oc_119, ⟨(by simp (disch := omega) only [ln_131]; exact vp_in_nI (by omega) (by decide)), (by first | exact tf_01 _ | decide)⟩, trivial⟩ ?_
      refine sW_eq (st' := ([], [some (.ref 119), some (.ref a), some (.int (nI fr)), some (.int (-1)), some (.int (nI (q + 1))), none, none, none, none], mx_wr M2 131 q (nI 0))) (by simp (disch := omega) only [nI_add, nI_clamp]) ?_
      refine sW_goto 3 d_Mo_layCases_22 (by decide) ?_
      refine ih (q + 1, (mx_wr M2 131 q (nI 0))) (by dsimp only; omega) (by dsimp only; omega) (i1.wr (by decide) (by decide)) (fun c hc => ?_)
      dsimp only at hc ⊢
      rw [mx_wr_s]
      by_cases hx : c = q
      · rw [hx, pk_us]
      · rw [pk_un hx]; exact i2 c (by omega)
  · obtain rfl : q = 512 := by omega
    refine sW_go b_Mo_layCases_3 (st' := ([.int (nI 512), .int (nI 512)], [some (.ref 119), some (.ref a), some (.int (nI fr)), some (.int (-1)), some (.int (nI 512)), none, none, none, none], M2)) (φ := True) rfl trivial ?_
    refine sW_ic_ge 25 d_Mo_layCases_8 (by decide) (fun c_8 => ?_) (fun c_8 => ?_)
    · skip
      simp (disch := omega) only [nI_leI] at c_8
      refine sW_go b_Mo_layCases_25 (st' := ([], [some (.ref 119), some (.ref a), some (.int (nI fr)), some (.int (-1)), some (.int (nI 0)), none, none, none, none], M2)) (φ := True) rfl trivial ?_
      refine mx_ind (α := Nat × mx_M) (fun q => (gat H).length - q.1) (fun q => q.1 ≤ (gat H).length → MFr M q.2 [131] [] → BolAt q.2 131 (csA hs (gat H) fr (fun _ => False) q.1) → sW G m_Mo_layCases 28 ([], [some (.ref 119), some (.ref a), some (.int (nI fr)), some (.int ((-1))), some (.int (nI q.1)), none, none, none, none], q.2) _) ?_ (0, M2) (Nat.zero_le _) i1 (fun v hv => by dsimp only; rw [i2 v hv, tf_f (fun ⟨k, hk, _⟩ => absurd hk (Nat.not_lt_zero k))])
      rintro ⟨i, M3⟩ ih3 hi j1 j2
      dsimp only at ih3 hi j1 j2 ⊢
      have hC3 : MC M3 hs n H S := ⟨hC.1, hC.2.1.eq (j1.1 128 (by decide) (by decide)), hC.2.2.1.eq (j1.1 129 (by decide) (by decide)), hC.2.2.2.1.eq (j1.2 22 (by decide)) (j1.1 130 (by decide) (by decide)), hC.2.2.2.2⟩
      have hR3 : RowAt M3 a 0 hs := hR.eq (j1.1 a (by omega) (by rcases ha with rfl | rfl <;> decide))
      have e22 := hC3.2.2.2.1.1
      by_cases hin : i < (gat H).length
      · have e1 := hC3.2.2.2.1.2 i hin
        have hx := (gat_at hin).1
        obtain ⟨x, hxx⟩ : ∃ x, (gat H).getD i 0 = x := ⟨_, rfl⟩
        rw [hxx] at e1 hx
        have hl2 := L2_lt hw.1 x
        have go : ∀ (mv u0 : Nat), ((mv = 1 ∧ bt x fr = 1) ∨ (mv = 0 ∧ ¬ bt x fr = 1)) → u0 = L2 hs x + cif (bt x fr = 1) 256 0 → sW G m_Mo_layCases 95 ([], [some (.ref 119), some (.ref a), some (.int (nI fr)), some (.int ((-1))), some (.int (nI i)), some (.int (nI x)), some (.int (nI mv)), some (.int (nI 0)), none], mx_wr M3 131 u0 (nI 1)) (fun r M' => r = none ∧ MFr M M' [131, 132] [] ∧ BolAt M' 132 (Jn (csT hs fr (fun _ => False)))) := fun mv u0 hmv hu => by
          have fw : MFr M3 (mx_wr M3 131 u0 (nI 1)) [131] [] := MFr.rf.wr (by decide) (by decide)
          have hC4 : MC (mx_wr M3 131 u0 (nI 1)) hs n H S := ⟨hC3.1, hC3.2.1.eq (fw.1 128 (by decide) (by decide)), hC3.2.2.1.eq (fw.1 129 (by decide) (by decide)), hC3.2.2.2.1.eq (fw.2 22 (by decide)) (fw.1 130 (by decide) (by decide)), hC3.2.2.2.2⟩
          refine k_lc95N G hl ha (hR3.eq (fw.1 a (by omega) (by rcases ha with rfl | rfl <;> decide))) hw hC4 hx hmv (j2.set u0) (fun M4 k1 k2 => ?_)
          refine sW_go b_Mo_layCases_159 (st' := ([], [some (.ref 119), some (.ref a), some (.int (nI fr)), some (.int (-1)), some (.int (nI i + nI 1)), none, none, none, none], M4)) (φ := True) rfl trivial ?_
          refine sW_eq (st' := ([], [some (.ref 119), some (.ref a), some (.int (nI fr)), some (.int (-1)), some (.int (nI (i + 1))), none, none, none, none], M4)) (by simp (disch := omega) only [nI_add]) ?_
          refine sW_goto 28 d_Mo_layCases_162 (by decide) ?_
          refine ih3 (i + 1, M4) (by dsimp only; omega) (by dsimp only; omega) ((j1.tr fw).tr k1) (k2.congr (fun u _ => ?_))
          dsimp only
          unfold csA
          constructor
          · rintro ((⟨k, q1, q2⟩ | q) | q)
            · exact ⟨k, by omega, q2⟩
            · exact ⟨i, by omega, by rw [hxx]; exact Or.inl (by rw [q, hu])⟩
            · exact ⟨i, by omega, by rw [hxx]; exact Or.inr q⟩
          · rintro ⟨k, q1, q2⟩
            by_cases hk : k = i
            · subst hk
              rw [hxx] at q2
              rcases q2 with q2 | q2
              · exact Or.inl (Or.inr (by rw [q2, hu]))
              · exact Or.inr q2
            · exact Or.inl (Or.inl ⟨k, by omega, q2⟩)
        refine sW_go b_Mo_layCases_28 (st' := ([.int (M3 119 22), .int (nI i)], [some (.ref 119), some (.ref a), some (.int (nI fr)), some (.int (-1)), some (.int (nI i)), none, none, none, none], M3)) (φ := mx_ocl LAY 119 = 10 ∧ True) rfl ⟨oc_119, trivial⟩ ?_
        refine sW_eq (st' := ([.int (nI (gat H).length), .int (nI i)], [some (.ref 119), some (.ref a), some (.int (nI fr)), some (.int (-1)), some (.int (nI i)), none, none, none, none], M3)) (by simp (disch := omega) only [e22]) ?_
        refine sW_ic_ge 165 d_Mo_layCases_34 (by decide) (fun c_34 => ?_) (fun c_34 => ?_)
        · skip
          simp (disch := omega) only [nI_leI] at c_34
          omega
        · skip
          simp (disch := omega) only [nI_leI] at c_34
          refine sW_go b_Mo_layCases_37 (st' := ([.int (nI fr)], [some (.ref 119), some (.ref a), some (.int (nI fr)), some (.int (-1)), some (.int (nI i)), some (.int (M3 130 (nI i).toNatClampNeg)), none, none, none], M3)) (φ := mx_ocl LAY 119 = 10 ∧ vp_in (nI i) (mx_len LAY false 130) ∧ True) rfl ⟨oc_119, (by simp (disch := omega) only [ln_130]; exact vp_in_nI (by omega) (by decide)), trivial⟩ ?_
          refine sW_eq (st' := ([.int (nI fr)], [some (.ref 119), some (.ref a), some (.int (nI fr)), some (.int (-1)), some (.int (nI i)), some (.int (nI x)), none, none, none], M3)) (by simp (disch := omega) only [e1, nI_clamp]) ?_
          refine sW_if_lt 63 d_Mo_layCases_47 (by decide) (fun c_47 => ?_) (fun c_47 => ?_)
          · skip
            exact absurd c_47 (nI_nn (by omega))
          · skip
            refine sW_go b_Mo_layCases_50 (st' := ([.int (nI fr), .int (nI x)], [some (.ref 119), some (.ref a), some (.int (nI fr)), some (.int (-1)), some (.int (nI i)), some (.int (nI x)), none, none, none], M3)) (φ := True) rfl trivial ?_
            refine sW_callS [.int (nI x), .int (nI fr)] [] d_Mo_layCases_53 c_Mo_layCases_53 ⟨rfl, rfl, Nat.le_of_ble_eq_true rfl, rfl, rfl⟩ (k_has G (by omega) (by omega)) ?_
            rintro _ M₁ ⟨rfl, h₁⟩
            rw [h₁]
            show sW G m_Mo_layCases 56 ([.int (tf (bt x fr = 1))], [some (.ref 119), some (.ref a), some (.int (nI fr)), some (.int (-1)), some (.int (nI i)), some (.int (nI x)), none, none, none], M3) _
            refine sW_if_eq 63 d_Mo_layCases_56 (by decide) (fun c_56 => ?_) (fun c_56 => ?_)
            · skip
              replace c_56 := tf_z.mp c_56
              refine sW_go b_Mo_layCases_63 (st' := ([.int (nI 0)], [some (.ref 119), some (.ref a), some (.int (nI fr)), some (.int (-1)), some (.int (nI i)), some (.int (nI x)), none, none, none], M3)) (φ := True) rfl trivial ?_
              refine sW_go b_Mo_layCases_64 (st' := ([.int (-1), .int (nI x), .ref a, .ref 131], [some (.ref 119), some (.ref a), some (.int (nI fr)), some (.int (-1)), some (.int (nI i)), some (.int (nI x)), some (.int (nI 0)), none, none], M3)) (φ := mx_ocl LAY 119 = 10 ∧ True) rfl ⟨oc_119, trivial⟩ ?_
              refine sW_callS [.ref a, .int (nI x), .int (-1)] [.ref 131] d_Mo_layCases_74 c_Mo_layCases_74 ⟨rfl, rfl, Nat.le_of_ble_eq_true rfl, rfl, rfl⟩ (k_breaks0 G hl hR3 hw hx) ?_
              rintro _ M₁ ⟨rfl, h₁⟩
              rw [h₁]
              show sW G m_Mo_layCases 77 ([.int (nI (L2 hs x)), .ref 131], [some (.ref 119), some (.ref a), some (.int (nI fr)), some (.int (-1)), some (.int (nI i)), some (.int (nI x)), some (.int (nI 0)), none, none], M3) _
              refine sW_go b_Mo_layCases_77 (st' := ([.int (nI 0), .int (nI (L2 hs x)), .ref 131], [some (.ref 119), some (.ref a), some (.int (nI fr)), some (.int (-1)), some (.int (nI i)), some (.int (nI x)), some (.int (nI 0)), none, none], M3)) (φ := True) rfl trivial ?_
              refine sW_if_eq 88 d_Mo_layCases_79 (by decide) (fun c_79 => ?_) (fun c_79 => ?_)
              · skip
                simp (disch := omega) only [nI_z] at c_79
                refine sW_go b_Mo_layCases_88 (st' := ([.int (nI 0), .int (nI (L2 hs x)), .ref 131], [some (.ref 119), some (.ref a), some (.int (nI fr)), some (.int (-1)), some (.int (nI i)), some (.int (nI x)), some (.int (nI 0)), none, none], M3)) (φ := True) rfl trivial ?_
                refine sW_go b_Mo_layCases_89 (st' := ([], [some (.ref 119), some (.ref a), some (.int (nI fr)), some (.int (-1)), some (.int (nI i)), some (.int (nI x)), some (.int (nI 0)), some (.int (nI 0)), none], mx_wr M3 131 (nI (L2 hs x) + nI 0).toNatClampNeg (nI 1))) (φ := (vp_in (nI (L2 hs x) + nI 0) (mx_len LAY true 131) ∧ ((nI 1) = 0 ∨ (nI 1) = 1)) ∧ True) rfl ⟨⟨(by simp (disch := omega) only [Nat.add_zero, nI_add, ln_131]; exact vp_in_nI (by omega) (by decide)), (by first | exact tf_01 _ | decide)⟩, trivial⟩ ?_
                refine sW_eq (st' := ([], [some (.ref 119), some (.ref a), some (.int (nI fr)), some (.int (-1)), some (.int (nI i)), some (.int (nI x)), some (.int (nI 0)), some (.int (nI 0)), none], mx_wr M3 131 (L2 hs x) (nI 1))) (by simp (disch := omega) only [Nat.add_zero, nI_add, nI_clamp]) ?_
                exact go 0 _ (Or.inr ⟨rfl, c_56⟩) (by rw [cif_f c_56, Nat.add_zero])
              · skip
                exact absurd (by decide +kernel) c_79
            · skip
              replace c_56 := tf_nz.mp c_56
              refine sW_go b_Mo_layCases_59 (st' := ([.int (nI 1)], [some (.ref 119), some (.ref a), some (.int (nI fr)), some (.int (-1)), some (.int (nI i)), some (.int (nI x)), none, none, none], M3)) (φ := True) rfl trivial ?_
              refine sW_goto 64 d_Mo_layCases_60 (by decide) ?_
              refine sW_go b_Mo_layCases_64 (st' := ([.int (-1), .int (nI x), .ref a, .ref 131], [some (.ref 119), some (.ref a), some (.int (nI fr)), some (.int (-1)), some (.int (nI i)), some (.int (nI x)), some (.int (nI 1)), none, none], M3)) (φ := mx_ocl LAY 119 = 10 ∧ True) rfl ⟨oc_119, trivial⟩ ?_
              refine sW_callS [.ref a, .int (nI x), .int (-1)] [.ref 131] d_Mo_layCases_74 c_Mo_layCases_74 ⟨rfl, rfl, Nat.le_of_ble_eq_true rfl, rfl, rfl⟩ (k_breaks0 G hl hR3 hw hx) ?_
              rintro _ M₁ ⟨rfl, h₁⟩
              rw [h₁]
              show sW G m_Mo_layCases 77 ([.int (nI (L2 hs x)), .ref 131], [some (.ref 119), some (.ref a), some (.int (nI fr)), some (.int (-1)), some (.int (nI i)), some (.int (nI x)), some (.int (nI 1)), none, none], M3) _
              refine sW_go b_Mo_layCases_77 (st' := ([.int (nI 1), .int (nI (L2 hs x)), .ref 131], [some (.ref 119), some (.ref a), some (.int (nI fr)), some (.int (-1)), some (.int (nI i)), some (.int (nI x)), some (.int (nI 1)), none, none], M3)) (φ := True) rfl trivial ?_
              refine sW_if_eq 88 d_Mo_layCases_79 (by decide) (fun c_79 => ?_) (fun c_79 => ?_)
              · skip
                exact absurd c_79 (by decide +kernel)
              · skip
                simp (disch := omega) only [nI_z] at c_79
                refine sW_go b_Mo_layCases_82 (st' := ([.int (nI 256), .int (nI (L2 hs x)), .ref 131], [some (.ref 119), some (.ref a), some (.int (nI fr)), some (.int (-1)), some (.int (nI i)), some (.int (nI x)), some (.int (nI 1)), none, none], M3)) (φ := True) rfl trivial ?_
                refine sW_goto 89 d_Mo_layCases_85 (by decide) ?_
                refine sW_go b_Mo_layCases_89 (st' := ([], [some (.ref 119), some (.ref a), some (.int (nI fr)), some (.int (-1)), some (.int (nI i)), some (.int (nI x)), some (.int (nI 1)), some (.int (nI 0)), none], mx_wr M3 131 (nI (L2 hs x) + nI 256).toNatClampNeg (nI 1))) (φ := (vp_in (nI (L2 hs x) + nI 256) (mx_len LAY true 131) ∧ ((nI 1) = 0 ∨ (nI 1) = 1)) ∧ True) rfl ⟨⟨(by simp (disch := omega) only [nI_add, ln_131]; exact vp_in_nI (by omega) (by decide)), (by first | exact tf_01 _ | decide)⟩, trivial⟩ ?_
                refine sW_eq (st' := ([], [some (.ref 119), some (.ref a), some (.int (nI fr)), some (.int (-1)), some (.int (nI i)), some (.int (nI x)), some (.int (nI 1)), some (.int (nI 0)), none], mx_wr M3 131 (L2 hs x + 256) (nI 1))) (by simp (disch := omega) only [nI_add, nI_clamp]) ?_
                exact go 1 _ (Or.inl ⟨rfl, c_56⟩) (by rw [cif_t c_56])
      · obtain rfl : i = (gat H).length := by omega
        refine sW_go b_Mo_layCases_28 (st' := ([.int (M3 119 22), .int (nI (gat H).length)], [some (.ref 119), some (.ref a), some (.int (nI fr)), some (.int (-1)), some (.int (nI (gat H).length)), none, none, none, none], M3)) (φ := mx_ocl LAY 119 = 10 ∧ True) rfl ⟨oc_119, trivial⟩ ?_
        refine sW_eq (st' := ([.int (nI (gat H).length), .int (nI (gat H).length)], [some (.ref 119), some (.ref a), some (.int (nI fr)), some (.int (-1)), some (.int (nI (gat H).length)), none, none, none, none], M3)) (by simp (disch := omega) only [e22]) ?_
        refine sW_ic_ge 165 d_Mo_layCases_34 (by decide) (fun c_34 => ?_) (fun c_34 => ?_)
        · skip
          simp (disch := omega) only [nI_leI] at c_34
          refine sW_go b_Mo_layCases_165 (st' := ([.ref 119], [some (.ref 119), some (.ref a), some (.int (nI fr)), some (.int (-1)), some (.int (nI (gat H).length)), none, none, none, none], M3)) (φ := True) rfl trivial ?_
          refine sW_callV 10 [] [] d_Mo_layCases_166 c_Mo_layCases_166 ⟨rfl, rfl, rfl, Nat.le_of_ble_eq_true rfl, rfl, rfl⟩ oc_119 (k_join G j2) ?_
          rintro _ M4 ⟨rfl, k1, k2⟩
          show sW G m_Mo_layCases 169 ([], [some (.ref 119), some (.ref a), some (.int (nI fr)), some (.int (-1)), some (.int (nI (gat H).length)), none, none, none, none], M4) _
          refine sW_retV d_Mo_layCases_169 rfl ?_
          refine ⟨rfl, (j1.mono (by decide) (by decide)).tr (k1.mono (by decide) (by decide)), k2.congr (fun v _ => Jn_congr (fun u => ?_))⟩
          unfold csA
          rw [ex_gat (P := fun x => u = L2 hs x + cif (bt x fr = 1) 256 0 ∨ csI hs (gat H) fr (fun _ => False) x (gat H).length u)]
          have e5 : ∀ x, csI hs (gat H) fr (fun _ => False) x (gat H).length u ↔ ∃ y, y ∈ gat H ∧ u = andn (L2 hs x) (R2 hs y) + cif (bt x fr = 1 ∧ (fun _ => False) y) 256 0 := fun x => ex_gat (P := fun y => u = andn (L2 hs x) (R2 hs y) + cif (bt x fr = 1 ∧ (fun _ => False) y) 256 0)
          constructor
          · rintro ⟨_, x, q1, q2⟩
            refine ⟨x, (hC.mem hw.1 x).mp q1, q2.imp id (fun z => ?_)⟩
            obtain ⟨y, y1, y2⟩ := (e5 x).mp z
            exact ⟨y, (hC.mem hw.1 y).mp y1, y2⟩
          · rintro ⟨x, q1, q2⟩
            refine ⟨?_, x, (hC.mem hw.1 x).mpr q1, q2.imp id (fun ⟨y, y1, y2⟩ => (e5 x).mpr ⟨y, (hC.mem hw.1 y).mpr y1, y2⟩)⟩
            have h1 := L2_lt hw.1 x
            have h3 : ∀ P : Prop, (cif P 256 0 : Nat) ≤ 256 := fun P => by unfold cif; split <;> omega
            rcases q2 with q2 | ⟨y, _, q2⟩
            · have := h3 (bt x fr = 1); omega
            · have h2 := andn_le (L2 hs x) (R2 hs y)
              have := h3 (bt x fr = 1 ∧ (fun _ => False) y); omega
        · skip
          simp (disch := omega) only [nI_leI] at c_34
          omega
    · skip
      exact absurd (by decide +kernel) c_8

