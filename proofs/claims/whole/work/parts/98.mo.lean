theorem HgtAt.eq {M M' : mx_M} {H : Nat → Nat} (h : HgtAt M H) (e : M' 128 = M 128) : HgtAt M' H := fun c hc => by rw [e]; exact h c hc
theorem SrtAt.eq {M M' : mx_M} {S : Nat → Nat} (h : SrtAt M S) (e : M' 129 = M 129) : SrtAt M' S := fun c hc => by rw [e]; exact h c hc
theorem GatAt.eq {M M' : mx_M} {L : List Nat} (h : GatAt M L) (e1 : M' 119 22 = M 119 22) (e : M' 130 = M 130) : GatAt M' L := ⟨e1.trans h.1, fun i hi => by rw [e]; exact h.2 i hi⟩
theorem Kx_lt {hs : Hs} (hw : HsOk hs) : ∀ {h c : Nat}, Kx hs h c → c < 256
  | 0, _, q => q.elim
  | h + 1, c, q => by
    rcases q with ⟨i, _, e⟩ | ⟨x, y, _, _, e⟩ | ⟨v, _, e⟩
    · rw [e]; exact constCell_lt hw i
    · rw [e]; exact cellOf_lt hw (Nat.lt_of_le_of_lt Nat.and_le_left (L1_lt hw x))
    · rw [e]; exact funC_lt hw v
theorem Kw_lt {hs : Hs} (hw : HsOk hs) {c : Nat} (h : Kw hs c) : c < 256 := by
  obtain ⟨n, hn⟩ := h
  exact Kx_lt hw hn
theorem pairC_lt {hs : Hs} (hw : HsOk hs) (x y : Nat) : pairC hs x y < 256 := cellOf_lt hw (Nat.lt_of_le_of_lt Nat.and_le_left (L1_lt hw x))
theorem CmI.old {H0 S0 H S : Nat → Nat} {h : Nat} {Q : Nat → Nat → Prop} (hC : CmI H0 S0 h Q H S) {c : Nat} (hc : c < 256) (h0 : H0 c ≠ 0) : H c = H0 c := by
  have := (hC c hc).1
  rw [if_pos h0] at this
  exact this
theorem CmI.le {H0 S0 H S : Nat → Nat} {h : Nat} {Q : Nat → Nat → Prop} (hC : CmI H0 S0 h Q H S) (hb : ∀ c, c < 256 → H0 c ≤ h) {c : Nat} (hc : c < 256) : H c ≤ h := by
  rw [(hC c hc).1]
  by_cases q : H0 c ≠ 0
  · rw [if_pos q]; exact hb c hc
  · rw [if_neg q]
    unfold cif
    split <;> omega
/-- pairs and cases from x with the first j cells -/
def goQ (hs : Hs) (H0 : Nat → Nat) (n x : Nat) (Q : Nat → Nat → Prop) (j w c : Nat) : Prop := Q w c ∨ (w = 1 ∧ ∃ i, i < j ∧ (H0 x = n ∨ H0 ((gat H0).getD i 0) = n) ∧ c = pairC hs x ((gat H0).getD i 0))
def goT (hs : Hs) (H0 : Nat → Nat) (n x : Nat) (T : Nat → Prop) (j u : Nat) : Prop := (T u ∨ (H0 x = n ∧ u = L2 hs x)) ∨ ∃ i, i < j ∧ (H0 x = n ∨ H0 ((gat H0).getD i 0) = n) ∧ u = andn (L2 hs x) (R2 hs ((gat H0).getD i 0))
def goP (hs : Hs) (n a : Nat) (H0 S0 : Nat → Nat) (x : Nat) (Q : Nat → Nat → Prop) (T : Nat → Prop) (M M' : mx_M) : Prop := MFr M M' [128, 129, 131] [] ∧ ∃ H' S', HgtAt M' H' ∧ SrtAt M' S' ∧ CmI H0 S0 (n + 1) (goQ hs H0 n x Q (gat H0).length) H' S' ∧ BolAt M' 131 (goT hs H0 n x T (gat H0).length)
theorem k_go39 (G : mx_G) {M M1 : mx_M} {a x n nw : Nat} {hs : Hs} {H0 S0 H S : Nat → Nat} {Q : Nat → Nat → Prop} {T : Nat → Prop} (hl : mx_len LAY false a = 26) (ha : a = 123 ∨ a = 125) (hR : RowAt M a 0 hs) (hw : WHs hs) (hG : GatAt M (gat H0)) (hb : ∀ c, c < 256 → H0 c ≤ n) (hn : n ≤ 300) (hx : x ∈ gat H0) (hnw : nw = if H0 x = n then 1 else 0)
  (f1 : MFr M M1 [128, 129, 131] []) (hH : HgtAt M1 H) (hS : SrtAt M1 S) (hC : CmI H0 S0 (n + 1) Q H S) (hT : BolAt M1 131 (fun u => T u ∨ (H0 x = n ∧ u = L2 hs x))) :
  sW G m_Mo_goOn 39 ([], [some (.ref 119), some (.ref a), some (.int (nI x)), some (.int (nI (n + 1))), some (.int (nI nw)), some (.int (nI 0)), none], M1) (fun r M' => r = none ∧ goP hs n a H0 S0 x Q T M M') := by
  have hlen := gat_len H0
  have hx2 := mem_gat.mp hx
  have hnw1 : nw ≤ 1 := by rw [hnw]; split <;> omega
  refine mx_ind (α := Nat × mx_M × (Nat → Nat) × (Nat → Nat)) (fun q => (gat H0).length - q.1) (fun q => q.1 ≤ (gat H0).length → MFr M q.2.1 [128, 129, 131] [] → HgtAt q.2.1 q.2.2.1 → SrtAt q.2.1 q.2.2.2 → CmI H0 S0 (n + 1) (goQ hs H0 n x Q q.1) q.2.2.1 q.2.2.2 → BolAt q.2.1 131 (goT hs H0 n x T q.1) → sW G m_Mo_goOn 39 ([], [some (.ref 119), some (.ref a), some (.int (nI x)), some (.int (nI (n + 1))), some (.int (nI nw)), some (.int (nI q.1)), none], q.2.1) _) ?_ (0, M1, H, S) (Nat.zero_le _) f1 hH hS (hC.congr (fun w c _ _ => ⟨Or.inl, fun q => q.elim id (fun ⟨_, i, hi, _⟩ => absurd hi (Nat.not_lt_zero i))⟩)) (hT.congr (fun u _ => ⟨Or.inl, fun q => q.elim id (fun ⟨i, hi, _⟩ => absurd hi (Nat.not_lt_zero i))⟩))
  rintro ⟨j, M2, H2, S2⟩ ih hj i1 i2 i3 i4 i5
  dsimp only at ih hj i1 i2 i3 i4 i5 ⊢
  have e22 : M2 119 22 = nI (gat H0).length := (i1.2 22 (by decide)).trans hG.1
  by_cases hjn : j < (gat H0).length
  · have hy := gat_at hjn
    have ey : M2 130 j = nI ((gat H0).getD j 0) := by rw [i1.1 130 (by decide) (by decide)]; exact hG.2 j hjn
    obtain ⟨y, hyy⟩ : ∃ y, (gat H0).getD j 0 = y := ⟨_, rfl⟩
    rw [hyy] at hy ey
    have eh : M2 128 y = nI (H0 y) := by rw [i2 y hy.1, i4.old hy.1 hy.2]
    have hby := hb y hy.1
    have s1 : nI (n + 1) - nI 1 = nI n := sub_1 n
    have hR2 : RowAt M2 a 0 hs := hR.eq (i1.1 a (by omega) (by rcases ha with rfl | rfl <;> decide))
    have hpc := pairC_lt hw.1 x y
    have hbr : andn (L2 hs x) (R2 hs y) < 512 := by
      have h1 := andn_le (L2 hs x) (R2 hs y)
      have h2 := L2_lt hw.1 x
      omega
    have hle : H2 (pairC hs x y) ≤ n + 1 := i4.le (fun c hc => by have := hb c hc; omega) hpc
    have yes : (H0 x = n ∨ H0 y = n) → ∀ M4 : mx_M, MFr M2 M4 [128, 129] [] → HgtAt M4 (updN H2 (pairC hs x y) (if H2 (pairC hs x y) = 0 then n + 1 else H2 (pairC hs x y))) → SrtAt M4 (updN S2 (pairC hs x y) (S2 (pairC hs x y) ||| 2)) → sW G m_Mo_goOn 39 ([], [some (.ref 119), some (.ref a), some (.int (nI x)), some (.int (nI (n + 1))), some (.int (nI nw)), some (.int (nI (j + 1))), none], mx_wr M4 131 (andn (L2 hs x) (R2 hs y)) (nI 1)) (fun r M' => r = none ∧ goP hs n a H0 S0 x Q T M M') := fun hel M4 k1 k2 k3 => by
      refine ih (j + 1, mx_wr M4 131 (andn (L2 hs x) (R2 hs y)) (nI 1), updN H2 (pairC hs x y) (if H2 (pairC hs x y) = 0 then n + 1 else H2 (pairC hs x y)), updN S2 (pairC hs x y) (S2 (pairC hs x y) ||| 2)) (by dsimp only; omega) (by dsimp only; omega) ((i1.tr (k1.mono (by decide) (by decide))).wr (by decide) (by decide)) (by dsimp only; exact k2.eq (mx_wr_n _ _ _ (by decide))) (by dsimp only; exact k3.eq (mx_wr_n _ _ _ (by decide))) ((i4.add hpc (w0 := 1) (by decide) (by omega)).congr (fun w c hw' hc => ?_)) (((i5.eq (k1.1 131 (by decide) (by decide))).set _).congr (fun u _ => ?_))
      · unfold goQ
        constructor
        · rintro ((q | ⟨q1, i, q2, q3⟩) | ⟨q1, q2⟩)
          · exact Or.inl q
          · exact Or.inr ⟨q1, i, by dsimp only; omega, q3⟩
          · exact Or.inr ⟨q1, j, by dsimp only; omega, by rw [hyy]; exact hel, by rw [hyy]; exact q2⟩
        · rintro (q | ⟨q1, i, q2, q3⟩)
          · exact Or.inl (Or.inl q)
          · dsimp only at q2
            by_cases hxi : i = j
            · subst hxi
              rw [hyy] at q3
              exact Or.inr ⟨q1, q3.2⟩
            · exact Or.inl (Or.inr ⟨q1, i, by omega, q3⟩)
      · unfold goT
        constructor
        · rintro ((q | ⟨i, q2, q3⟩) | q)
          · exact Or.inl q
          · exact Or.inr ⟨i, by dsimp only; omega, q3⟩
          · exact Or.inr ⟨j, by dsimp only; omega, by rw [hyy]; exact hel, by rw [hyy]; exact q⟩
        · rintro (q | ⟨i, q2, q3⟩)
          · exact Or.inl (Or.inl q)
          · dsimp only at q2
            by_cases hxi : i = j
            · subst hxi
              rw [hyy] at q3
              exact Or.inr q3.2
            · exact Or.inl (Or.inr ⟨i, by omega, q3⟩)
    have nox : nw ≠ 0 ↔ H0 x = n := by
      rw [hnw]
      by_cases q : H0 x = n
      · rw [if_pos q]; exact ⟨fun _ => q, fun _ => by decide⟩
      · rw [if_neg q]; exact ⟨fun z => absurd rfl z, fun z => absurd z q⟩
    refine sW_go b_Mo_goOn_39 (st' := ([.int (M2 119 22), .int (nI j)], [some (.ref 119), some (.ref a), some (.int (nI x)), some (.int (nI (n + 1))), some (.int (nI nw)), some (.int (nI j)), none], M2)) (φ := mx_ocl LAY 119 = 10 ∧ True) rfl ⟨oc_119, trivial⟩ ?_
    refine sW_eq (st' := ([.int (nI (gat H0).length), .int (nI j)], [some (.ref 119), some (.ref a), some (.int (nI x)), some (.int (nI (n + 1))), some (.int (nI nw)), some (.int (nI j)), none], M2)) (by simp (disch := omega) only [e22]) ?_
    refine sW_ic_ge 107 d_Mo_goOn_45 (by decide) (fun c_45 => ?_) (fun c_45 => ?_)
    · skip
      simp (disch := omega) only [nI_leI] at c_45
      omega
    · skip
      simp (disch := omega) only [nI_leI] at c_45
      refine sW_go b_Mo_goOn_48 (st' := ([.int (nI nw)], [some (.ref 119), some (.ref a), some (.int (nI x)), some (.int (nI (n + 1))), some (.int (nI nw)), some (.int (nI j)), some (.int (M2 130 (nI j).toNatClampNeg))], M2)) (φ := mx_ocl LAY 119 = 10 ∧ vp_in (nI j) (mx_len LAY false 130) ∧ True) rfl ⟨oc_119, (by simp (disch := omega) only [ln_130]; exact vp_in_nI (by omega) (by decide)), trivial⟩ ?_
      refine sW_eq (st' := ([.int (nI nw)], [some (.ref 119), some (.ref a), some (.int (nI x)), some (.int (nI (n + 1))), some (.int (nI nw)), some (.int (nI j)), some (.int (nI y))], M2)) (by simp (disch := omega) only [ey, nI_clamp]) ?_
      refine sW_if_ne 75 d_Mo_goOn_59 (by decide) (fun c_59 => ?_) (fun c_59 => ?_)
      · skip
        simp (disch := omega) only [nI_z] at c_59
        refine sW_go b_Mo_goOn_75 (st' := ([.int (nI y), .int (nI x), .ref a, .ref 119], [some (.ref 119), some (.ref a), some (.int (nI x)), some (.int (nI (n + 1))), some (.int (nI nw)), some (.int (nI j)), some (.int (nI y))], M2)) (φ := True) rfl trivial ?_
        refine sW_callS [.ref a, .int (nI x), .int (nI y)] [.ref 119] d_Mo_goOn_80 c_Mo_goOn_80 ⟨rfl, rfl, Nat.le_of_ble_eq_true rfl, rfl, rfl⟩ (k_mpair G hl hR2 hw hx2.1 hy.1) ?_
        rintro _ M₁ ⟨rfl, h₁⟩
        rw [h₁]
        show sW G m_Mo_goOn 83 ([.int (nI (pairC hs x y)), .ref 119], [some (.ref 119), some (.ref a), some (.int (nI x)), some (.int (nI (n + 1))), some (.int (nI nw)), some (.int (nI j)), some (.int (nI y))], M2) _
        refine sW_go b_Mo_goOn_83 (st' := ([.int (nI (n + 1)), .int (nI 2), .int (nI (pairC hs x y)), .ref 119], [some (.ref 119), some (.ref a), some (.int (nI x)), some (.int (nI (n + 1))), some (.int (nI nw)), some (.int (nI j)), some (.int (nI y))], M2)) (φ := True) rfl trivial ?_
        refine sW_callV 10 [.int (nI (pairC hs x y)), .int (nI 2), .int (nI (n + 1))] [] d_Mo_goOn_85 c_Mo_goOn_85 ⟨rfl, rfl, rfl, Nat.le_of_ble_eq_true rfl, rfl, rfl⟩ oc_119 (k_comes G i2 i3 hpc (by omega)) ?_
        rintro _ M4 ⟨rfl, k1, k2, k3⟩
        have hR4 : RowAt M4 a 0 hs := hR2.eq (k1.1 a (by omega) (by rcases ha with rfl | rfl <;> decide))
        show sW G m_Mo_goOn 88 ([], [some (.ref 119), some (.ref a), some (.int (nI x)), some (.int (nI (n + 1))), some (.int (nI nw)), some (.int (nI j)), some (.int (nI y))], M4) _
        refine sW_go b_Mo_goOn_88 (st' := ([.int (nI y), .int (nI x), .ref a, .ref 131], [some (.ref 119), some (.ref a), some (.int (nI x)), some (.int (nI (n + 1))), some (.int (nI nw)), some (.int (nI j)), some (.int (nI y))], M4)) (φ := mx_ocl LAY 119 = 10 ∧ True) rfl ⟨oc_119, trivial⟩ ?_
        refine sW_callS [.ref a, .int (nI x), .int (nI y)] [.ref 131] d_Mo_goOn_96 c_Mo_goOn_96 ⟨rfl, rfl, Nat.le_of_ble_eq_true rfl, rfl, rfl⟩ (k_breaks G hl hR4 hw hx2.1 hy.1) ?_
        rintro _ M₁ ⟨rfl, h₁⟩
        rw [h₁]
        show sW G m_Mo_goOn 99 ([.int (nI (andn (L2 hs x) (R2 hs y))), .ref 131], [some (.ref 119), some (.ref a), some (.int (nI x)), some (.int (nI (n + 1))), some (.int (nI nw)), some (.int (nI j)), some (.int (nI y))], M4) _
        refine sW_go b_Mo_goOn_99 (st' := ([], [some (.ref 119), some (.ref a), some (.int (nI x)), some (.int (nI (n + 1))), some (.int (nI nw)), some (.int (nI j)), some (.int (nI y))], mx_wr M4 131 (nI (andn (L2 hs x) (R2 hs y))).toNatClampNeg (nI 1))) (φ := (vp_in (nI (andn (L2 hs x) (R2 hs y))) (mx_len LAY true 131) ∧ ((nI 1) = 0 ∨ (nI 1) = 1)) ∧ True) rfl ⟨⟨(by simp (disch := omega) only [ln_131]; exact vp_in_nI (by omega) (by decide)), (by first | exact tf_01 _ | decide)⟩, trivial⟩ ?_
        refine sW_eq (st' := ([], [some (.ref 119), some (.ref a), some (.int (nI x)), some (.int (nI (n + 1))), some (.int (nI nw)), some (.int (nI j)), some (.int (nI y))], mx_wr M4 131 (andn (L2 hs x) (R2 hs y)) (nI 1))) (by simp (disch := omega) only [nI_clamp]) ?_
        refine sW_go b_Mo_goOn_101 (st' := ([], [some (.ref 119), some (.ref a), some (.int (nI x)), some (.int (nI (n + 1))), some (.int (nI nw)), some (.int (nI j + nI 1)), some (.int (nI y))], mx_wr M4 131 (andn (L2 hs x) (R2 hs y)) (nI 1))) (φ := True) rfl trivial ?_
        refine sW_eq (st' := ([], [some (.ref 119), some (.ref a), some (.int (nI x)), some (.int (nI (n + 1))), some (.int (nI nw)), some (.int (nI (j + 1))), some (.int (nI y))], mx_wr M4 131 (andn (L2 hs x) (R2 hs y)) (nI 1))) (by simp (disch := omega) only [nI_add]) ?_
        refine sW_goto 39 d_Mo_goOn_104 (by decide) ?_
        refine sW_fg [false, false, false, false, false, false, true] ?_
        show sW G m_Mo_goOn 39 ([], [some (.ref 119), some (.ref a), some (.int (nI x)), some (.int (nI (n + 1))), some (.int (nI nw)), some (.int (nI (j + 1))), none], mx_wr M4 131 (andn (L2 hs x) (R2 hs y)) (nI 1)) _
        exact yes (Or.inl (nox.mp c_59)) M4 k1 k2 k3
      · skip
        simp (disch := omega) only [nI_z] at c_59
        refine sW_go b_Mo_goOn_62 (st' := ([.int (nI (n + 1) - nI 1), .int (M2 128 (nI y).toNatClampNeg)], [some (.ref 119), some (.ref a), some (.int (nI x)), some (.int (nI (n + 1))), some (.int (nI nw)), some (.int (nI j)), some (.int (nI y))], M2)) (φ := mx_ocl LAY 119 = 10 ∧ vp_in (nI y) (mx_len LAY false 128) ∧ True) rfl ⟨oc_119, (by simp (disch := omega) only [ln_128]; exact vp_in_nI (by omega) (by decide)), trivial⟩ ?_
        refine sW_eq (st' := ([.int (nI n), .int (nI (H0 y))], [some (.ref 119), some (.ref a), some (.int (nI x)), some (.int (nI (n + 1))), some (.int (nI nw)), some (.int (nI j)), some (.int (nI y))], M2)) (by simp (disch := omega) only [eh, nI_clamp, s1]) ?_
        refine sW_ic_ne 101 d_Mo_goOn_72 (by decide) (fun c_72 => ?_) (fun c_72 => ?_)
        · skip
          simp (disch := omega) only [nI_eq] at c_72
          refine sW_go b_Mo_goOn_101 (st' := ([], [some (.ref 119), some (.ref a), some (.int (nI x)), some (.int (nI (n + 1))), some (.int (nI nw)), some (.int (nI j + nI 1)), some (.int (nI y))], M2)) (φ := True) rfl trivial ?_
          refine sW_eq (st' := ([], [some (.ref 119), some (.ref a), some (.int (nI x)), some (.int (nI (n + 1))), some (.int (nI nw)), some (.int (nI (j + 1))), some (.int (nI y))], M2)) (by simp (disch := omega) only [nI_add]) ?_
          refine sW_goto 39 d_Mo_goOn_104 (by decide) ?_
          refine sW_fg [false, false, false, false, false, false, true] ?_
          show sW G m_Mo_goOn 39 ([], [some (.ref 119), some (.ref a), some (.int (nI x)), some (.int (nI (n + 1))), some (.int (nI nw)), some (.int (nI (j + 1))), none], M2) _
          have hnel : ¬ (H0 x = n ∨ H0 y = n) := fun q => q.elim (fun z => nox.mpr z c_59) c_72
          refine ih (j + 1, M2, H2, S2) (by dsimp only; omega) (by dsimp only; omega) i1 i2 i3 (i4.congr (fun w c hw' hc => ?_)) (i5.congr (fun u _ => ?_))
          · unfold goQ
            refine ⟨fun q => q.imp id (fun ⟨q1, i, q2, q3⟩ => ⟨q1, i, by dsimp only; omega, q3⟩), fun q => q.imp id (fun ⟨q1, i, q2, q3⟩ => ⟨q1, i, ?_, q3⟩)⟩
            dsimp only at q2
            by_cases hxi : i = j
            · subst hxi
              rw [hyy] at q3
              exact absurd q3.1 hnel
            · omega
          · unfold goT
            refine ⟨fun q => q.imp id (fun ⟨i, q2, q3⟩ => ⟨i, by dsimp only; omega, q3⟩), fun q => q.imp id (fun ⟨i, q2, q3⟩ => ⟨i, ?_, q3⟩)⟩
            dsimp only at q2
            by_cases hxi : i = j
            · subst hxi
              rw [hyy] at q3
              exact absurd q3.1 hnel
            · omega
        · skip
          simp (disch := omega) only [nI_eq] at c_72
          refine sW_go b_Mo_goOn_75 (st' := ([.int (nI y), .int (nI x), .ref a, .ref 119], [some (.ref 119), some (.ref a), some (.int (nI x)), some (.int (nI (n + 1))), some (.int (nI nw)), some (.int (nI j)), some (.int (nI y))], M2)) (φ := True) rfl trivial ?_
          refine sW_callS [.ref a, .int (nI x), .int (nI y)] [.ref 119] d_Mo_goOn_80 c_Mo_goOn_80 ⟨rfl, rfl, Nat.le_of_ble_eq_true rfl, rfl, rfl⟩ (k_mpair G hl hR2 hw hx2.1 hy.1) ?_
          rintro _ M₁ ⟨rfl, h₁⟩
          rw [h₁]
          show sW G m_Mo_goOn 83 ([.int (nI (pairC hs x y)), .ref 119], [some (.ref 119), some (.ref a), some (.int (nI x)), some (.int (nI (n + 1))), some (.int (nI nw)), some (.int (nI j)), some (.int (nI y))], M2) _
          refine sW_go b_Mo_goOn_83 (st' := ([.int (nI (n + 1)), .int (nI 2), .int (nI (pairC hs x y)), .ref 119], [some (.ref 119), some (.ref a), some (.int (nI x)), some (.int (nI (n + 1))), some (.int (nI nw)), some (.int (nI j)), some (.int (nI y))], M2)) (φ := True) rfl trivial ?_
          refine sW_callV 10 [.int (nI (pairC hs x y)), .int (nI 2), .int (nI (n + 1))] [] d_Mo_goOn_85 c_Mo_goOn_85 ⟨rfl, rfl, rfl, Nat.le_of_ble_eq_true rfl, rfl, rfl⟩ oc_119 (k_comes G i2 i3 hpc (by omega)) ?_
          rintro _ M4 ⟨rfl, k1, k2, k3⟩
          have hR4 : RowAt M4 a 0 hs := hR2.eq (k1.1 a (by omega) (by rcases ha with rfl | rfl <;> decide))
          show sW G m_Mo_goOn 88 ([], [some (.ref 119), some (.ref a), some (.int (nI x)), some (.int (nI (n + 1))), some (.int (nI nw)), some (.int (nI j)), some (.int (nI y))], M4) _
          refine sW_go b_Mo_goOn_88 (st' := ([.int (nI y), .int (nI x), .ref a, .ref 131], [some (.ref 119), some (.ref a), some (.int (nI x)), some (.int (nI (n + 1))), some (.int (nI nw)), some (.int (nI j)), some (.int (nI y))], M4)) (φ := mx_ocl LAY 119 = 10 ∧ True) rfl ⟨oc_119, trivial⟩ ?_
          refine sW_callS [.ref a, .int (nI x), .int (nI y)] [.ref 131] d_Mo_goOn_96 c_Mo_goOn_96 ⟨rfl, rfl, Nat.le_of_ble_eq_true rfl, rfl, rfl⟩ (k_breaks G hl hR4 hw hx2.1 hy.1) ?_
          rintro _ M₁ ⟨rfl, h₁⟩
          rw [h₁]
          show sW G m_Mo_goOn 99 ([.int (nI (andn (L2 hs x) (R2 hs y))), .ref 131], [some (.ref 119), some (.ref a), some (.int (nI x)), some (.int (nI (n + 1))), some (.int (nI nw)), some (.int (nI j)), some (.int (nI y))], M4) _
          refine sW_go b_Mo_goOn_99 (st' := ([], [some (.ref 119), some (.ref a), some (.int (nI x)), some (.int (nI (n + 1))), some (.int (nI nw)), some (.int (nI j)), some (.int (nI y))], mx_wr M4 131 (nI (andn (L2 hs x) (R2 hs y))).toNatClampNeg (nI 1))) (φ := (vp_in (nI (andn (L2 hs x) (R2 hs y))) (mx_len LAY true 131) ∧ ((nI 1) = 0 ∨ (nI 1) = 1)) ∧ True) rfl ⟨⟨(by simp (disch := omega) only [ln_131]; exact vp_in_nI (by omega) (by decide)), (by first | exact tf_01 _ | decide)⟩, trivial⟩ ?_
          refine sW_eq (st' := ([], [some (.ref 119), some (.ref a), some (.int (nI x)), some (.int (nI (n + 1))), some (.int (nI nw)), some (.int (nI j)), some (.int (nI y))], mx_wr M4 131 (andn (L2 hs x) (R2 hs y)) (nI 1))) (by simp (disch := omega) only [nI_clamp]) ?_
          refine sW_go b_Mo_goOn_101 (st' := ([], [some (.ref 119), some (.ref a), some (.int (nI x)), some (.int (nI (n + 1))), some (.int (nI nw)), some (.int (nI j + nI 1)), some (.int (nI y))], mx_wr M4 131 (andn (L2 hs x) (R2 hs y)) (nI 1))) (φ := True) rfl trivial ?_
          refine sW_eq (st' := ([], [some (.ref 119), some (.ref a), some (.int (nI x)), some (.int (nI (n + 1))), some (.int (nI nw)), some (.int (nI (j + 1))), some (.int (nI y))], mx_wr M4 131 (andn (L2 hs x) (R2 hs y)) (nI 1))) (by simp (disch := omega) only [nI_add]) ?_
          refine sW_goto 39 d_Mo_goOn_104 (by decide) ?_
          refine sW_fg [false, false, false, false, false, false, true] ?_
          show sW G m_Mo_goOn 39 ([], [some (.ref 119), some (.ref a), some (.int (nI x)), some (.int (nI (n + 1))), some (.int (nI nw)), some (.int (nI (j + 1))), none], mx_wr M4 131 (andn (L2 hs x) (R2 hs y)) (nI 1)) _
          exact yes (Or.inr c_72) M4 k1 k2 k3
  · obtain rfl : j = (gat H0).length := by omega
    refine sW_go b_Mo_goOn_39 (st' := ([.int (M2 119 22), .int (nI (gat H0).length)], [some (.ref 119), some (.ref a), some (.int (nI x)), some (.int (nI (n + 1))), some (.int (nI nw)), some (.int (nI (gat H0).length)), none], M2)) (φ := mx_ocl LAY 119 = 10 ∧ True) rfl ⟨oc_119, trivial⟩ ?_
    refine sW_eq (st' := ([.int (nI (gat H0).length), .int (nI (gat H0).length)], [some (.ref 119), some (.ref a), some (.int (nI x)), some (.int (nI (n + 1))), some (.int (nI nw)), some (.int (nI (gat H0).length)), none], M2)) (by simp (disch := omega) only [e22]) ?_
    refine sW_ic_ge 107 d_Mo_goOn_45 (by decide) (fun c_45 => ?_) (fun c_45 => ?_)
    · skip
      simp (disch := omega) only [nI_leI] at c_45
      refine sW_retV d_Mo_goOn_107 rfl ?_
      exact ⟨rfl, i1, H2, S2, i2, i3, i4, i5⟩
    · skip
      simp (disch := omega) only [nI_leI] at c_45
      omega
theorem k_goOn (G : mx_G) {M : mx_M} {a x n : Nat} {hs : Hs} {H0 S0 H S : Nat → Nat} {Q : Nat → Nat → Prop} {T : Nat → Prop} (hl : mx_len LAY false a = 26) (ha : a = 123 ∨ a = 125) (hR : RowAt M a 0 hs) (hw : WHs hs) (hG : GatAt M (gat H0)) (hb : ∀ c, c < 256 → H0 c ≤ n) (hn : n ≤ 300) (hx : x ∈ gat H0)
  (hH : HgtAt M H) (hS : SrtAt M S) (hC : CmI H0 S0 (n + 1) Q H S) (hT : BolAt M 131 T) :
  sOk G m_Mo_goOn [.ref 119, .ref a, .int (nI x), .int (nI (n + 1))] M (fun r M' => r = none ∧ goP hs n a H0 S0 x Q T M M') := by
  have hx2 := mem_gat.mp hx
  have eh : M 128 x = nI (H0 x) := by rw [hH x hx2.1, hC.old hx2.1 hx2.2]
  have hbx := hb x hx2.1
  have s1 : nI (n + 1) - nI 1 = nI n := sub_1 n
  have hl2 := L2_lt hw.1 x
  refine sOk_of ⟨by decide +kernel, by decide +kernel, Nat.le_of_ble_eq_true rfl⟩ ?_
  show sW G m_Mo_goOn 0 ([], [some (.ref 119), some (.ref a), some (.int (nI x)), some (.int (nI (n + 1))), none, none, none], M) _
  refine sW_go b_Mo_goOn_0 (st' := ([.int (nI (n + 1) - nI 1), .int (M 128 (nI x).toNatClampNeg)], [some (.ref 119), some (.ref a), some (.int (nI x)), some (.int (nI (n + 1))), none, none, none], M)) (φ := mx_ocl LAY 119 = 10 ∧ vp_in (nI x) (mx_len LAY false 128) ∧ True) rfl ⟨oc_119, (by simp (disch := omega) only [ln_128]; exact vp_in_nI (by omega) (by decide)), trivial⟩ ?_
  refine sW_eq (st' := ([.int (nI n), .int (nI (H0 x))], [some (.ref 119), some (.ref a), some (.int (nI x)), some (.int (nI (n + 1))), none, none, none], M)) (by simp (disch := omega) only [eh, nI_clamp, s1]) ?_
  refine sW_ic_ne 16 d_Mo_goOn_9 (by decide) (fun c_9 => ?_) (fun c_9 => ?_)
  · skip
    simp (disch := omega) only [nI_eq] at c_9
    refine sW_go b_Mo_goOn_16 (st' := ([.int (nI 0)], [some (.ref 119), some (.ref a), some (.int (nI x)), some (.int (nI (n + 1))), none, none, none], M)) (φ := True) rfl trivial ?_
    refine sW_go b_Mo_goOn_17 (st' := ([.int (nI 0)], [some (.ref 119), some (.ref a), some (.int (nI x)), some (.int (nI (n + 1))), some (.int (nI 0)), none, none], M)) (φ := True) rfl trivial ?_
    refine sW_if_eq 36 d_Mo_goOn_21 (by decide) (fun c_21 => ?_) (fun c_21 => ?_)
    · skip
      simp (disch := omega) only [nI_z] at c_21
      refine sW_go b_Mo_goOn_36 (st' := ([], [some (.ref 119), some (.ref a), some (.int (nI x)), some (.int (nI (n + 1))), some (.int (nI 0)), some (.int (nI 0)), none], M)) (φ := True) rfl trivial ?_
      exact k_go39 G hl ha hR hw hG hb hn hx (by rw [if_neg c_9]) MFr.rf hH hS hC (hT.congr (fun u _ => ⟨Or.inl, fun q => q.elim id (fun z => absurd z.1 c_9)⟩))
    · skip
      exact absurd (by decide +kernel) c_21
  · skip
    simp (disch := omega) only [nI_eq] at c_9
    refine sW_go b_Mo_goOn_12 (st' := ([.int (nI 1)], [some (.ref 119), some (.ref a), some (.int (nI x)), some (.int (nI (n + 1))), none, none, none], M)) (φ := True) rfl trivial ?_
    refine sW_goto 17 d_Mo_goOn_13 (by decide) ?_
    refine sW_go b_Mo_goOn_17 (st' := ([.int (nI 1)], [some (.ref 119), some (.ref a), some (.int (nI x)), some (.int (nI (n + 1))), some (.int (nI 1)), none, none], M)) (φ := True) rfl trivial ?_
    refine sW_if_eq 36 d_Mo_goOn_21 (by decide) (fun c_21 => ?_) (fun c_21 => ?_)
    · skip
      exact absurd c_21 (by decide +kernel)
    · skip
      simp (disch := omega) only [nI_z] at c_21
      refine sW_go b_Mo_goOn_24 (st' := ([.int (-1), .int (nI x), .ref a, .ref 131], [some (.ref 119), some (.ref a), some (.int (nI x)), some (.int (nI (n + 1))), some (.int (nI 1)), none, none], M)) (φ := mx_ocl LAY 119 = 10 ∧ True) rfl ⟨oc_119, trivial⟩ ?_
      refine sW_callS [.ref a, .int (nI x), .int (-1)] [.ref 131] d_Mo_goOn_31 c_Mo_goOn_31 ⟨rfl, rfl, Nat.le_of_ble_eq_true rfl, rfl, rfl⟩ (k_breaks0 G hl hR hw hx2.1) ?_
      rintro _ M₁ ⟨rfl, h₁⟩
      rw [h₁]
      show sW G m_Mo_goOn 34 ([.int (nI (L2 hs x)), .ref 131], [some (.ref 119), some (.ref a), some (.int (nI x)), some (.int (nI (n + 1))), some (.int (nI 1)), none, none], M) _
      refine sW_go b_Mo_goOn_34 (st' := ([], [some (.ref 119), some (.ref a), some (.int (nI x)), some (.int (nI (n + 1))), some (.int (nI 1)), none, none], mx_wr M 131 (nI (L2 hs x)).toNatClampNeg (nI 1))) (φ := (vp_in (nI (L2 hs x)) (mx_len LAY true 131) ∧ ((nI 1) = 0 ∨ (nI 1) = 1)) ∧ True) rfl ⟨⟨(by simp (disch := omega) only [ln_131]; exact vp_in_nI (by omega) (by decide)), (by first | exact tf_01 _ | decide)⟩, trivial⟩ ?_
      refine sW_eq (st' := ([], [some (.ref 119), some (.ref a), some (.int (nI x)), some (.int (nI (n + 1))), some (.int (nI 1)), none, none], mx_wr M 131 (L2 hs x) (nI 1))) (by simp (disch := omega) only [nI_clamp]) ?_
      refine sW_go b_Mo_goOn_36 (st' := ([], [some (.ref 119), some (.ref a), some (.int (nI x)), some (.int (nI (n + 1))), some (.int (nI 1)), some (.int (nI 0)), none], mx_wr M 131 (L2 hs x) (nI 1))) (φ := True) rfl trivial ?_
      exact k_go39 G hl ha hR hw hG hb hn hx (by rw [if_pos c_9]) (MFr.rf.wr (by decide) (by decide)) (hH.eq (mx_wr_n _ _ _ (by decide))) (hS.eq (mx_wr_n _ _ _ (by decide))) hC ((hT.set _).congr (fun u _ => ⟨fun q => q.imp id (fun z => ⟨c_9, z⟩), fun q => q.imp id (fun z => z.2)⟩))

