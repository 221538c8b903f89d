/-- the state ahead of round m + 2 -/
def RkI (hs : Hs) (M : mx_M) (m : Nat) (H S : Nat → Nat) : Prop := HgtAt M H ∧ SrtAt M S ∧ GatAt M (gat H) ∧ HOk hs (m + 1) H ∧ SOk hs (Kx hs m) S ∧ BolAt M 131 (Tk hs (Kx hs m))
abbrev rkL : List Nat := [128, 129, 130, 131, 132]
theorem k_rk153 (G : mx_G) {M M4 : mx_M} {a m had : Nat} {hs : Hs} {H S : Nat → Nat} (hl : mx_len LAY false a = 26) (ha : a = 123 ∨ a = 125) (hR : RowAt M a 0 hs) (hw : WHs hs) (hm : m ≤ 298) (hH : HOk hs (m + 1) H) (hS : SOk hs (Kx hs m) S) {H1 S1 : Nat → Nat} {Q : Nat → Nat → Prop}
  (f4 : MFr M M4 rkL [22]) (g1 : HgtAt M4 H1) (g2 : SrtAt M4 S1) (g3 : CmI H S (m + 2) Q H1 S1) (hQ : ∀ w c, w < 3 → (Q w c ↔ (w = 1 ∧ ∃ x y, x ∈ gat H ∧ y ∈ gat H ∧ (H x = m + 1 ∨ H y = m + 1) ∧ c = pairC hs x y))) (g5 : BolAt M4 131 (Tk hs (Kx hs (m + 1)))) (g6 : BolAt M4 132 (Jn (Tk hs (Kx hs (m + 1))))) {QQ : Option Value → mx_M → Prop}
  (nx : ∀ M6 H' S', MFr M M6 rkL [22] → RkI hs M6 (m + 1) H' S' → sW G m_Mo_reckon 105 ([], [some (.ref 119), some (.ref a), some (.int (nI had)), some (.int (nI (m + 3))), none], M6) QQ) :
  sW G m_Mo_reckon 153 ([], [some (.ref 119), some (.ref a), some (.int (nI had)), some (.int (nI (m + 2))), some (.int (nI 0))], M4) QQ := by
  have hb : ∀ c, c < 256 → H c ≤ m + 2 := fun c hc => by have := (hH c hc).2.2; omega
  refine mx_ind (α := Nat × mx_M × (Nat → Nat) × (Nat → Nat)) (fun q => 256 - q.1) (fun q => q.1 ≤ 256 → MFr M q.2.1 rkL [22] → HgtAt q.2.1 q.2.2.1 → SrtAt q.2.1 q.2.2.2 → CmI H S (m + 2) (fun w c => Q w c ∨ (w = 2 ∧ ∃ v, v < q.1 ∧ Jn (Tk hs (Kx hs (m + 1))) v ∧ c = funC hs v)) q.2.2.1 q.2.2.2 → BolAt q.2.1 131 (Tk hs (Kx hs (m + 1))) → BolAt q.2.1 132 (Jn (Tk hs (Kx hs (m + 1)))) → sW G m_Mo_reckon 153 ([], [some (.ref 119), some (.ref a), some (.int (nI had)), some (.int (nI (m + 2))), some (.int (nI q.1))], q.2.1) _) ?_ (0, M4, H1, S1) (Nat.zero_le _) f4 g1 g2 (g3.congr (fun w c _ _ => ⟨Or.inl, fun q => q.elim id (fun ⟨_, v, hv, _⟩ => absurd hv (Nat.not_lt_zero v))⟩)) g5 g6
  rintro ⟨v, M5, H2, S2⟩ ih hv i1 i2 i3 i4 i5 i6
  dsimp only at ih hv i1 i2 i3 i4 i5 i6 ⊢
  by_cases hvn : v < 256
  · have e1 := i6 v (by omega)
    have hR5 : RowAt M5 a 0 hs := hR.eq (i1.1 a (by omega) (by rcases ha with rfl | rfl <;> decide))
    have hfc := funC_lt hw.1 v
    have hle : H2 (funC hs v) ≤ m + 2 := i4.le hb hfc
    refine sW_go b_Mo_reckon_153 (st' := ([.int (nI 256), .int (nI v)], [some (.ref 119), some (.ref a), some (.int (nI had)), some (.int (nI (m + 2))), some (.int (nI v))], M5)) (φ := True) rfl trivial ?_
    refine sW_ic_ge 189 d_Mo_reckon_158 (by decide) (fun c_158 => ?_) (fun c_158 => ?_)
    · skip
      simp (disch := omega) only [nI_leI] at c_158
      omega
    · skip
      simp (disch := omega) only [nI_leI] at c_158
      refine sW_go b_Mo_reckon_161 (st' := ([.int (M5 132 (nI v).toNatClampNeg)], [some (.ref 119), some (.ref a), some (.int (nI had)), some (.int (nI (m + 2))), some (.int (nI v))], M5)) (φ := mx_ocl LAY 119 = 10 ∧ vp_in (nI v) (mx_len LAY true 132) ∧ True) rfl ⟨oc_119, (by simp (disch := omega) only [ln_132]; exact vp_in_nI (by omega) (by decide)), trivial⟩ ?_
      refine sW_eq (st' := ([.int (tf (Jn (Tk hs (Kx hs (m + 1))) v))], [some (.ref 119), some (.ref a), some (.int (nI had)), some (.int (nI (m + 2))), some (.int (nI v))], M5)) (by simp (disch := omega) only [e1, nI_clamp]) ?_
      refine sW_if_eq 183 d_Mo_reckon_168 (by decide) (fun c_168 => ?_) (fun c_168 => ?_)
      · skip
        replace c_168 := tf_z.mp c_168
        refine sW_go b_Mo_reckon_183 (st' := ([], [some (.ref 119), some (.ref a), some (.int (nI had)), some (.int (nI (m + 2))), some (.int (nI v + nI 1))], M5)) (φ := True) rfl trivial ?_
        refine sW_eq (st' := ([], [some (.ref 119), some (.ref a), some (.int (nI had)), some (.int (nI (m + 2))), some (.int (nI (v + 1)))], M5)) (by simp (disch := omega) only [nI_add]) ?_
        refine sW_goto 153 d_Mo_reckon_186 (by decide) ?_
        refine ih (v + 1, M5, H2, S2) (by dsimp only; omega) (by dsimp only; omega) i1 i2 i3 (i4.congr (fun w c _ _ => ?_)) i5 i6
        dsimp only
        refine ⟨fun q => q.imp id (fun ⟨q1, u, q2, q3⟩ => ⟨q1, u, by omega, q3⟩), fun q => q.imp id (fun ⟨q1, u, q2, q3⟩ => ⟨q1, u, ?_, q3⟩)⟩
        by_cases hx : u = v
        · exact absurd (hx ▸ q3.1) c_168
        · omega
      · skip
        replace c_168 := tf_nz.mp c_168
        refine sW_go b_Mo_reckon_171 (st' := ([.int (nI v), .ref a, .ref 119], [some (.ref 119), some (.ref a), some (.int (nI had)), some (.int (nI (m + 2))), some (.int (nI v))], M5)) (φ := True) rfl trivial ?_
        refine sW_callS [.ref a, .int (nI v)] [.ref 119] d_Mo_reckon_175 c_Mo_reckon_175 ⟨rfl, rfl, Nat.le_of_ble_eq_true rfl, rfl, rfl⟩ (k_mfun G hl hR5 hw hvn) ?_
        rintro _ M₁ ⟨rfl, h₁⟩
        rw [h₁]
        show sW G m_Mo_reckon 178 ([.int (nI (funC hs v)), .ref 119], [some (.ref 119), some (.ref a), some (.int (nI had)), some (.int (nI (m + 2))), some (.int (nI v))], M5) _
        refine sW_go b_Mo_reckon_178 (st' := ([.int (nI (m + 2)), .int (nI 4), .int (nI (funC hs v)), .ref 119], [some (.ref 119), some (.ref a), some (.int (nI had)), some (.int (nI (m + 2))), some (.int (nI v))], M5)) (φ := True) rfl trivial ?_
        refine sW_callV 10 [.int (nI (funC hs v)), .int (nI 4), .int (nI (m + 2))] [] d_Mo_reckon_180 c_Mo_reckon_180 ⟨rfl, rfl, rfl, Nat.le_of_ble_eq_true rfl, rfl, rfl⟩ oc_119 (k_comes G i2 i3 hfc (by omega)) ?_
        rintro _ M6 ⟨rfl, k1, k2, k3⟩
        show sW G m_Mo_reckon 183 ([], [some (.ref 119), some (.ref a), some (.int (nI had)), some (.int (nI (m + 2))), some (.int (nI v))], M6) _
        refine sW_go b_Mo_reckon_183 (st' := ([], [some (.ref 119), some (.ref a), some (.int (nI had)), some (.int (nI (m + 2))), some (.int (nI v + nI 1))], M6)) (φ := True) rfl trivial ?_
        refine sW_eq (st' := ([], [some (.ref 119), some (.ref a), some (.int (nI had)), some (.int (nI (m + 2))), some (.int (nI (v + 1)))], M6)) (by simp (disch := omega) only [nI_add]) ?_
        refine sW_goto 153 d_Mo_reckon_186 (by decide) ?_
        refine ih (v + 1, M6, updN H2 (funC hs v) (if H2 (funC hs v) = 0 then m + 2 else H2 (funC hs v)), updN S2 (funC hs v) (S2 (funC hs v) ||| 4)) (by dsimp only; omega) (by dsimp only; omega) (i1.tr (k1.mono (by decide) (by decide))) k2 k3 ((i4.add hfc (w0 := 2) (by decide) (by omega)).congr (fun w c _ _ => ?_)) (i5.eq (k1.1 131 (by decide) (by decide))) (i6.eq (k1.1 132 (by decide) (by decide)))
        dsimp only
        constructor
        · rintro ((q | ⟨q1, u, q2, q3⟩) | ⟨q1, q2⟩)
          · exact Or.inl q
          · exact Or.inr ⟨q1, u, by omega, q3⟩
          · exact Or.inr ⟨q1, v, by omega, c_168, q2⟩
        · rintro (q | ⟨q1, u, q2, q3⟩)
          · exact Or.inl (Or.inl q)
          · by_cases hx : u = v
            · exact Or.inr ⟨q1, hx ▸ q3.2⟩
            · exact Or.inl (Or.inr ⟨q1, u, by omega, q3⟩)
  · obtain rfl : v = 256 := by omega
    have hC : CmI H S (m + 2) (rkQ hs H m (Tk hs (Kx hs (m + 1)))) H2 S2 := i4.congr (fun w c hw' _ => by
      unfold rkQ
      rw [hQ w c hw'])
    obtain ⟨s1, s2⟩ := rk_step hw.1 hH hS hC
    have hb2 : ∀ c, c < 256 → H2 c < 2 ^ 31 := fun c hc => by have := (s1 c hc).2.2; omega
    refine sW_go b_Mo_reckon_153 (st' := ([.int (nI 256), .int (nI 256)], [some (.ref 119), some (.ref a), some (.int (nI had)), some (.int (nI (m + 2))), some (.int (nI 256))], M5)) (φ := True) rfl trivial ?_
    refine sW_ic_ge 189 d_Mo_reckon_158 (by decide) (fun c_158 => ?_) (fun c_158 => ?_)
    · skip
      simp (disch := omega) only [nI_leI] at c_158
      refine sW_go b_Mo_reckon_189 (st' := ([.ref 119], [some (.ref 119), some (.ref a), some (.int (nI had)), some (.int (nI (m + 2))), some (.int (nI 256))], M5)) (φ := True) rfl trivial ?_
      refine sW_callV 10 [] [] d_Mo_reckon_190 c_Mo_reckon_190 ⟨rfl, rfl, rfl, Nat.le_of_ble_eq_true rfl, rfl, rfl⟩ oc_119 (k_gather G i2 hb2) ?_
      rintro _ M6 ⟨rfl, k1, k2⟩
      show sW G m_Mo_reckon 193 ([], [some (.ref 119), some (.ref a), some (.int (nI had)), some (.int (nI (m + 2))), some (.int (nI 256))], M6) _
      refine sW_go b_Mo_reckon_193 (st' := ([], [some (.ref 119), some (.ref a), some (.int (nI had)), some (.int (nI (m + 2) + nI 1)), some (.int (nI 256))], M6)) (φ := True) rfl trivial ?_
      refine sW_eq (st' := ([], [some (.ref 119), some (.ref a), some (.int (nI had)), some (.int (nI (m + 2 + 1))), some (.int (nI 256))], M6)) (by simp (disch := omega) only [nI_add]) ?_
      refine sW_goto 105 d_Mo_reckon_196 (by decide) ?_
      refine sW_fg [false, false, false, false, true] ?_
      show sW G m_Mo_reckon 105 ([], [some (.ref 119), some (.ref a), some (.int (nI had)), some (.int (nI (m + 2 + 1))), none], M6) _
      exact nx M6 H2 S2 (i1.tr (k1.mono (by decide) (by decide))) ⟨i2.eq (k1.1 128 (by decide) (by decide)), i3.eq (k1.1 129 (by decide) (by decide)), k2, s1, s2, i5.eq (k1.1 131 (by decide) (by decide))⟩
    · skip
      exact absurd (by decide +kernel) c_158
def goA (hs : Hs) (H : Nat → Nat) (m i w c : Nat) : Prop := w = 1 ∧ ∃ j, j < i ∧ ∃ y, y ∈ gat H ∧ (H ((gat H).getD j 0) = m + 1 ∨ H y = m + 1) ∧ c = pairC hs ((gat H).getD j 0) y
def goB (hs : Hs) (H : Nat → Nat) (m i u : Nat) : Prop := Tk hs (Kx hs m) u ∨ ∃ j, j < i ∧ ((H ((gat H).getD j 0) = m + 1 ∧ u = L2 hs ((gat H).getD j 0)) ∨ ∃ y, y ∈ gat H ∧ (H ((gat H).getD j 0) = m + 1 ∨ H y = m + 1) ∧ u = andn (L2 hs ((gat H).getD j 0)) (R2 hs y))
theorem ex_gat {H : Nat → Nat} {P : Nat → Prop} : (∃ i, i < (gat H).length ∧ P ((gat H).getD i 0)) ↔ ∃ y, y ∈ gat H ∧ P y := ⟨fun ⟨i, a, b⟩ => ⟨_, getD_mem a, b⟩, fun ⟨y, a, b⟩ => by
  obtain ⟨i, h1, h2⟩ := mem_at a
  exact ⟨i, h1, by rw [h2]; exact b⟩⟩
theorem k_rk113 (G : mx_G) {M M2 : mx_M} {a m : Nat} {hs : Hs} {H S : Nat → Nat} (hl : mx_len LAY false a = 26) (ha : a = 123 ∨ a = 125) (hR : RowAt M a 0 hs) (hw : WHs hs) (hm : m ≤ 298) (f2 : MFr M M2 rkL [22]) (hI : RkI hs M2 m H S) {o : Nat} {QQ : Option Value → mx_M → Prop}
  (nx : ∀ M6 H' S', MFr M M6 rkL [22] → RkI hs M6 (m + 1) H' S' → sW G m_Mo_reckon 105 ([], [some (.ref 119), some (.ref a), some (.int (nI (gat H).length)), some (.int (nI (m + 3))), none], M6) QQ) :
  sW G m_Mo_reckon 113 ([], [some (.ref 119), some (.ref a), some (.int (nI o)), some (.int (nI (m + 2))), none], M2) QQ := by
  obtain ⟨a1, a2, a3, a4, a5, a6⟩ := hI
  have hlen := gat_len H
  have e22 := a3.1
  have hb : ∀ c, c < 256 → H c ≤ m + 1 := fun c hc => (a4 c hc).2.2
  refine sW_go b_Mo_reckon_113 (st' := ([], [some (.ref 119), some (.ref a), some (.int (M2 119 22)), some (.int (nI (m + 2))), some (.int (nI 0))], M2)) (φ := mx_ocl LAY 119 = 10 ∧ True) rfl ⟨oc_119, trivial⟩ ?_
  refine sW_eq (st' := ([], [some (.ref 119), some (.ref a), some (.int (nI (gat H).length)), some (.int (nI (m + 2))), some (.int (nI 0))], M2)) (by simp (disch := omega) only [e22]) ?_
  refine mx_ind (α := Nat × mx_M × (Nat → Nat) × (Nat → Nat)) (fun q => (gat H).length - q.1) (fun q => q.1 ≤ (gat H).length → MFr M2 q.2.1 [128, 129, 131] [] → HgtAt q.2.1 q.2.2.1 → SrtAt q.2.1 q.2.2.2 → CmI H S (m + 2) (goA hs H m q.1) q.2.2.1 q.2.2.2 → BolAt q.2.1 131 (goB hs H m q.1) → sW G m_Mo_reckon 121 ([], [some (.ref 119), some (.ref a), some (.int (nI (gat H).length)), some (.int (nI (m + 2))), some (.int (nI q.1))], q.2.1) _) ?_ (0, M2, H, S) (Nat.zero_le _) MFr.rf a1 a2 ((CmI.z (fun c hc => (a5 c hc).1)).congr (fun w c _ _ => ⟨False.elim, fun ⟨_, j, hj, _⟩ => absurd hj (Nat.not_lt_zero j)⟩)) (a6.congr (fun u _ => ⟨Or.inl, fun q => q.elim id (fun ⟨j, hj, _⟩ => absurd hj (Nat.not_lt_zero j))⟩))
  rintro ⟨i, M3, H3, S3⟩ ih hi i1 i2 i3 i4 i5
  dsimp only at ih hi i1 i2 i3 i4 i5 ⊢
  have hR3 : RowAt M3 a 0 hs := (hR.eq (f2.1 a (by omega) (by rcases ha with rfl | rfl <;> decide))).eq (i1.1 a (by omega) (by rcases ha with rfl | rfl <;> decide))
  have hG3 : GatAt M3 (gat H) := a3.eq (i1.2 22 (by decide)) (i1.1 130 (by decide) (by decide))
  by_cases hin : i < (gat H).length
  · have e3 := hG3.2 i hin
    have hx := getD_mem hin
    refine sW_go b_Mo_reckon_121 (st' := ([.int (nI (gat H).length), .int (nI i)], [some (.ref 119), some (.ref a), some (.int (nI (gat H).length)), some (.int (nI (m + 2))), some (.int (nI i))], M3)) (φ := True) rfl trivial ?_
    refine sW_ic_ge 146 d_Mo_reckon_124 (by decide) (fun c_124 => ?_) (fun c_124 => ?_)
    · skip
      simp (disch := omega) only [nI_leI] at c_124
      omega
    · skip
      simp (disch := omega) only [nI_leI] at c_124
      refine sW_go b_Mo_reckon_127 (st' := ([.int (nI (m + 2)), .int (M3 130 (nI i).toNatClampNeg), .ref a, .ref 119], [some (.ref 119), some (.ref a), some (.int (nI (gat H).length)), some (.int (nI (m + 2))), some (.int (nI i))], M3)) (φ := mx_ocl LAY 119 = 10 ∧ vp_in (nI i) (mx_len LAY false 130) ∧ True) rfl ⟨oc_119, (by simp (disch := omega) only [ln_130]; exact vp_in_nI (by omega) (by decide)), trivial⟩ ?_
      refine sW_eq (st' := ([.int (nI (m + 2)), .int (nI ((gat H).getD i 0)), .ref a, .ref 119], [some (.ref 119), some (.ref a), some (.int (nI (gat H).length)), some (.int (nI (m + 2))), some (.int (nI i))], M3)) (by simp (disch := omega) only [e3, nI_clamp]) ?_
      refine sW_callV 10 [.ref a, .int (nI ((gat H).getD i 0)), .int (nI (m + 2))] [] d_Mo_reckon_137 c_Mo_reckon_137 ⟨rfl, rfl, rfl, Nat.le_of_ble_eq_true rfl, rfl, rfl⟩ oc_119 (k_goOn (n := m + 1) G hl ha hR3 hw hG3 hb (by omega) hx i2 i3 i4 i5) ?_
      rintro _ M4 ⟨rfl, k1, H4, S4, k2, k3, k4, k5⟩
      show sW G m_Mo_reckon 140 ([], [some (.ref 119), some (.ref a), some (.int (nI (gat H).length)), some (.int (nI (m + 2))), some (.int (nI i))], M4) _
      refine sW_go b_Mo_reckon_140 (st' := ([], [some (.ref 119), some (.ref a), some (.int (nI (gat H).length)), some (.int (nI (m + 2))), some (.int (nI i + nI 1))], M4)) (φ := True) rfl trivial ?_
      refine sW_eq (st' := ([], [some (.ref 119), some (.ref a), some (.int (nI (gat H).length)), some (.int (nI (m + 2))), some (.int (nI (i + 1)))], M4)) (by simp (disch := omega) only [nI_add]) ?_
      refine sW_goto 121 d_Mo_reckon_143 (by decide) ?_
      refine ih (i + 1, M4, H4, S4) (by dsimp only; omega) (by dsimp only; omega) (i1.tr k1) k2 k3 (k4.congr (fun w c _ _ => ?_)) (k5.congr (fun u _ => ?_))
      · unfold goQ
        rw [ex_gat (P := fun y => (H ((gat H).getD i 0) = m + 1 ∨ H y = m + 1) ∧ c = pairC hs ((gat H).getD i 0) y)]
        unfold goA
        constructor
        · rintro (⟨q1, j, q2, q3⟩ | ⟨q1, q2⟩)
          · exact ⟨q1, j, by dsimp only; omega, q3⟩
          · exact ⟨q1, i, by dsimp only; omega, q2⟩
        · rintro ⟨q1, j, q2, q3⟩
          dsimp only at q2
          by_cases hxj : j = i
          · subst hxj; exact Or.inr ⟨q1, q3⟩
          · exact Or.inl ⟨q1, j, by omega, q3⟩
      · unfold goT
        rw [ex_gat (P := fun y => (H ((gat H).getD i 0) = m + 1 ∨ H y = m + 1) ∧ u = andn (L2 hs ((gat H).getD i 0)) (R2 hs y))]
        unfold goB
        constructor
        · rintro (((q | ⟨j, q2, q3⟩) | q) | q)
          · exact Or.inl q
          · exact Or.inr ⟨j, by dsimp only; omega, q3⟩
          · exact Or.inr ⟨i, by dsimp only; omega, Or.inl q⟩
          · exact Or.inr ⟨i, by dsimp only; omega, Or.inr q⟩
        · rintro (q | ⟨j, q2, q3⟩)
          · exact Or.inl (Or.inl (Or.inl q))
          · dsimp only at q2
            by_cases hxj : j = i
            · subst hxj
              rcases q3 with q3 | q3
              · exact Or.inl (Or.inr q3)
              · exact Or.inr q3
            · exact Or.inl (Or.inl (Or.inr ⟨j, by omega, q3⟩))
  · obtain rfl : i = (gat H).length := by omega
    have hT : BolAt M3 131 (Tk hs (Kx hs (m + 1))) := i5.congr (fun u _ => by
      unfold goB
      rw [ex_gat (P := fun x => (H x = m + 1 ∧ u = L2 hs x) ∨ ∃ y, y ∈ gat H ∧ (H x = m + 1 ∨ H y = m + 1) ∧ u = andn (L2 hs x) (R2 hs y))]
      exact tk_step hw.1 a4 u)
    refine sW_go b_Mo_reckon_121 (st' := ([.int (nI (gat H).length), .int (nI (gat H).length)], [some (.ref 119), some (.ref a), some (.int (nI (gat H).length)), some (.int (nI (m + 2))), some (.int (nI (gat H).length))], M3)) (φ := True) rfl trivial ?_
    refine sW_ic_ge 146 d_Mo_reckon_124 (by decide) (fun c_124 => ?_) (fun c_124 => ?_)
    · skip
      simp (disch := omega) only [nI_leI] at c_124
      refine sW_go b_Mo_reckon_146 (st' := ([.ref 119], [some (.ref 119), some (.ref a), some (.int (nI (gat H).length)), some (.int (nI (m + 2))), some (.int (nI (gat H).length))], M3)) (φ := True) rfl trivial ?_
      refine sW_callV 10 [] [] d_Mo_reckon_147 c_Mo_reckon_147 ⟨rfl, rfl, rfl, Nat.le_of_ble_eq_true rfl, rfl, rfl⟩ oc_119 (k_join G hT) ?_
      rintro _ M4 ⟨rfl, k1, k2⟩
      show sW G m_Mo_reckon 150 ([], [some (.ref 119), some (.ref a), some (.int (nI (gat H).length)), some (.int (nI (m + 2))), some (.int (nI (gat H).length))], M4) _
      refine sW_go b_Mo_reckon_150 (st' := ([], [some (.ref 119), some (.ref a), some (.int (nI (gat H).length)), some (.int (nI (m + 2))), some (.int (nI 0))], M4)) (φ := True) rfl trivial ?_
      have k3 : BolAt M4 132 (Jn (Tk hs (Kx hs (m + 1)))) := k2.congr (fun v _ => Jn_congr (fun u => ⟨fun q => q.2, fun q => ⟨by have := Tk_lt hw.1 q; omega, q⟩⟩))
      refine k_rk153 G hl ha hR hw hm a4 a5 ((f2.tr (i1.mono (by decide) (by decide))).tr (k1.mono (by decide) (by decide))) (i2.eq (k1.1 128 (by decide) (by decide))) (i3.eq (k1.1 129 (by decide) (by decide))) i4 (fun w c _ => ?_) (hT.eq (k1.1 131 (by decide) (by decide))) k3 nx
      unfold goA
      rw [ex_gat (P := fun x => ∃ y, y ∈ gat H ∧ (H x = m + 1 ∨ H y = m + 1) ∧ c = pairC hs x y)]
      exact ⟨fun ⟨q1, x, q2, y, q3⟩ => ⟨q1, x, y, q2, q3⟩, fun ⟨q1, x, y, q2, q3⟩ => ⟨q1, x, q2, y, q3⟩⟩
    · skip
      simp (disch := omega) only [nI_leI] at c_124
      omega
noncomputable def ckN (hs : Hs) (m : Nat) : Nat := cntK (Kx hs m) 256
theorem ckN_le (hs : Hs) (m : Nat) : ckN hs m ≤ 256 := cntK_le _ _
theorem ckN_sub (hs : Hs) (m : Nat) : ckN hs m ≤ ckN hs (m + 1) ∧ (ckN hs m = ckN hs (m + 1) → ∀ c, c < 256 → Kx hs (m + 1) c → Kx hs m c) := cnt_sub (K := Kx hs m) (K' := Kx hs (m + 1)) (fun c => Kx_up m) 256
theorem cntK_E {K : Nat → Prop} (h : ∀ c, ¬ K c) : ∀ m, cntK K m = 0
  | 0 => rfl
  | m + 1 => by
    show cntK K m + cif (K m) 1 0 = 0
    rw [cntK_E h m, cif_f (h m)]
theorem ckN_0 (hs : Hs) : ckN hs 0 = 0 := cntK_E (fun _ q => q) 256
/-- round by round, until there is no new cell -/
theorem k_rk105 (G : mx_G) {M : mx_M} {a : Nat} {hs : Hs} (hl : mx_len LAY false a = 26) (ha : a = 123 ∨ a = 125) (hR : RowAt M a 0 hs) (hw : WHs hs) : ∀ (f m : Nat) {M2 : mx_M} {H S : Nat → Nat}, MFr M M2 rkL [22] → RkI hs M2 m H S → m ≤ ckN hs m → 256 < ckN hs m + f → sW G m_Mo_reckon 105 ([], [some (.ref 119), some (.ref a), some (.int (nI (ckN hs m))), some (.int (nI (m + 2))), none], M2) (fun r M' => r = none ∧ MFr M M' rkL [22] ∧ MCells M' hs) := by
  intro f
  induction f with
  | zero =>
    intro m M2 H S _ _ _ hf
    have := ckN_le hs m
    omega
  | succ f ihf =>
    intro m M2 H S f2 hI hm hf
    obtain ⟨a1, a2, a3, a4, a5, a6⟩ := id hI
    have hc0 := ckN_le hs m
    have hlen := gat_len H
    have hcn : (gat H).length = ckN hs (m + 1) := gat_cnt (fun c hc => (a4 c hc).1)
    obtain ⟨c1, c2⟩ := ckN_sub hs m
    have e22 := a3.1
    refine sW_go b_Mo_reckon_105 (st' := ([.int (M2 119 22), .int (nI (ckN hs m))], [some (.ref 119), some (.ref a), some (.int (nI (ckN hs m))), some (.int (nI (m + 2))), none], M2)) (φ := mx_ocl LAY 119 = 10 ∧ True) rfl ⟨oc_119, trivial⟩ ?_
    refine sW_eq (st' := ([.int (nI (gat H).length), .int (nI (ckN hs m))], [some (.ref 119), some (.ref a), some (.int (nI (ckN hs m))), some (.int (nI (m + 2))), none], M2)) (by simp (disch := omega) only [e22]) ?_
    refine sW_ic_ge 199 d_Mo_reckon_110 (by decide) (fun c_110 => ?_) (fun c_110 => ?_)
    · skip
      simp (disch := omega) only [nI_leI] at c_110
      refine sW_retV d_Mo_reckon_199 rfl ?_
      have heq : ckN hs m = ckN hs (m + 1) := by omega
      have hfix : ∀ c, Kx hs (m + 1) c → Kx hs m c := fun c hk => c2 heq c (Kx_lt hw.1 hk) hk
      have hall : ∀ c, Kw hs c → Kx hs m c := fun c ⟨j, hj⟩ => Kx_fix hfix j c hj
      have hKK : Kx hs m = Kw hs := funext (fun c => propext ⟨fun q => ⟨m, q⟩, hall c⟩)
      rw [hKK] at a5
      exact ⟨rfl, f2, m + 1, H, S, by omega, a1, a2, a3, a4, a5, fun c q => Kx_up m (hall c q)⟩
    · skip
      simp (disch := omega) only [nI_leI] at c_110
      refine k_rk113 G hl ha hR hw (by omega) f2 hI (fun M6 H' S' k1 k2 => ?_)
      rw [hcn]
      exact ihf (m + 1) k1 k2 (by omega) (by omega)
theorem k_reckon (G : mx_G) {M : mx_M} {a : Nat} {hs : Hs} (hl : mx_len LAY false a = 26) (ha : a = 123 ∨ a = 125) (hR : RowAt M a 0 hs) (hw : WHs hs) (hK : MKn M) : sOk G m_Mo_reckon [.ref 119, .ref a] M (fun r M' => r = none ∧ MFr M M' [128, 129, 130, 131, 132, 133] [22] ∧ RowAt M' 133 0 hs ∧ (hs.1 ≠ 0 → MCells M' hs)) := by
  obtain ⟨K, hwK, hRK, hCK⟩ := hK
  have han : a ∉ [128, 129, 130, 131, 132, 133] := by rcases ha with rfl | rfl <;> decide
  refine sOk_of ⟨by decide +kernel, by decide +kernel, Nat.le_of_ble_eq_true rfl⟩ ?_
  show sW G m_Mo_reckon 0 ([], [some (.ref 119), some (.ref a), none, none, none], M) _
  refine sW_go b_Mo_reckon_0 (st' := ([.ref a, .ref 119], [some (.ref 119), some (.ref a), none, none, none], M)) (φ := True) rfl trivial ?_
  refine sW_callV 10 [.ref a] [] d_Mo_reckon_2 c_Mo_reckon_2 ⟨rfl, rfl, rfl, Nat.le_of_ble_eq_true rfl, rfl, rfl⟩ oc_119 (k_isKnown G hl ha hR hw hRK hwK) ?_
  rintro _ M1 ⟨rfl, f1, r1⟩
  show sW G m_Mo_reckon 5 ([.int (tf (K = hs))], [some (.ref 119), some (.ref a), none, none, none], M1) _
  refine sW_if_eq 9 d_Mo_reckon_5 (by decide) (fun c_5 => ?_) (fun c_5 => ?_)
  · skip
    replace c_5 := tf_z.mp c_5
    refine sW_go b_Mo_reckon_9 (st' := ([], [some (.ref 119), some (.ref a), some (.int (nI 0)), none, none], M1)) (φ := True) rfl trivial ?_
    have hR1 : RowAt M1 a 0 hs := hR.eq (f1.1 a (by omega) (by rcases ha with rfl | rfl <;> decide))
    have ec := hR1.c
    have h4 := hw.1.2.1
    refine mx_ind (α := Nat × mx_M) (fun q => 256 - q.1) (fun q => q.1 ≤ 256 → MFr M1 q.2 rkL [22] → (∀ c, c < q.1 → q.2 128 c = nI 0 ∧ q.2 129 c = nI 0) → sW G m_Mo_reckon 11 ([], [some (.ref 119), some (.ref a), some (.int (nI q.1)), none, none], q.2) _) ?_ (0, M1) (Nat.zero_le _) MFr.rf (fun i hi => absurd hi (Nat.not_lt_zero i))
    rintro ⟨q, M2⟩ ih hq i1 i2
    dsimp only at ih hq i1 i2 ⊢
    by_cases hqn : q < 256
    · skip
      refine sW_go b_Mo_reckon_11 (st' := ([.int (nI 256), .int (nI q)], [some (.ref 119), some (.ref a), some (.int (nI q)), none, none], M2)) (φ := True) rfl trivial ?_
      refine sW_ic_ge 38 d_Mo_reckon_15 (by decide) (fun c_15 => ?_) (fun c_15 => ?_)
      · skip
        simp (disch := omega) only [nI_leI] at c_15
        omega
      · skip
        simp (disch := omega) only [nI_leI] at c_15
        refine sW_go b_Mo_reckon_18 (st' := ([], [some (.ref 119), some (.ref a), some (.int (nI q + nI 1)), none, none], mx_wr (mx_wr M2 128 (nI q).toNatClampNeg (nI 0)) 129 (nI q).toNatClampNeg (nI 0))) (φ := mx_ocl LAY 119 = 10 ∧ vp_in (nI q) (mx_len LAY false 128) ∧ mx_ocl LAY 119 = 10 ∧ vp_in (nI q) (mx_len LAY false 129) ∧ True) rfl ⟨oc_119, (by simp (disch := omega) only [ln_128]; exact vp_in_nI (by omega) (by decide)), oc_119, (by simp (disch := omega) only [ln_129]; exact vp_in_nI (by omega) (by decide)), trivial⟩ ?_
        refine sW_eq (st' := ([], [some (.ref 119), some (.ref a), some (.int (nI (q + 1))), none, none], mx_wr (mx_wr M2 128 q (nI 0)) 129 q (nI 0))) (by simp (disch := omega) only [nI_add, nI_clamp]) ?_
        refine sW_goto 11 d_Mo_reckon_35 (by decide) ?_
        refine ih (q + 1, (mx_wr (mx_wr M2 128 q (nI 0)) 129 q (nI 0))) (by dsimp only; omega) (by dsimp only; omega) ((i1.wr (by decide) (by decide)).wr (by decide) (by decide)) (fun c hc => ?_)
        dsimp only at hc ⊢
        rw [mx_wr_n _ _ _ (show (128 : Nat) ≠ 129 by decide), mx_wr_s, mx_wr_s, mx_wr_n _ _ _ (show (129 : Nat) ≠ 128 by decide)]
        by_cases hx : c = q
        · rw [hx, pk_us, pk_us]; exact ⟨rfl, rfl⟩
        · rw [pk_un hx, pk_un hx]; exact i2 c (by omega)
    · obtain rfl : q = 256 := by omega
      refine sW_go b_Mo_reckon_11 (st' := ([.int (nI 256), .int (nI 256)], [some (.ref 119), some (.ref a), some (.int (nI 256)), none, none], M2)) (φ := True) rfl trivial ?_
      refine sW_ic_ge 38 d_Mo_reckon_15 (by decide) (fun c_15 => ?_) (fun c_15 => ?_)
      · skip
        simp (disch := omega) only [nI_leI] at c_15
        refine sW_go b_Mo_reckon_38 (st' := ([], [some (.ref 119), some (.ref a), some (.int (nI 0)), none, none], M2)) (φ := True) rfl trivial ?_
        refine mx_ind (α := Nat × mx_M) (fun q => 512 - q.1) (fun q => q.1 ≤ 512 → MFr M2 q.2 [131] [] → (∀ c, c < q.1 → q.2 131 c = nI 0) → sW G m_Mo_reckon 40 ([], [some (.ref 119), some (.ref a), some (.int (nI q.1)), none, none], q.2) _) ?_ (0, M2) (Nat.zero_le _) MFr.rf (fun i hi => absurd hi (Nat.not_lt_zero i))
        rintro ⟨q, M3⟩ ih3 hq3 j1 j2
        dsimp only at ih3 hq3 j1 j2 ⊢
        by_cases hqn3 : q < 512
        · skip
          refine sW_go b_Mo_reckon_40 (st' := ([.int (nI 512), .int (nI q)], [some (.ref 119), some (.ref a), some (.int (nI q)), none, none], M3)) (φ := True) rfl trivial ?_
          refine sW_ic_ge 60 d_Mo_reckon_44 (by decide) (fun c_44 => ?_) (fun c_44 => ?_)
          · skip
            simp (disch := omega) only [nI_leI] at c_44
            omega
          · skip
            simp (disch := omega) only [nI_leI] at c_44
            refine sW_go b_Mo_reckon_47 (st' := ([], [some (.ref 119), some (.ref a), some (.int (nI q + nI 1)), none, none], mx_wr M3 131 (nI q).toNatClampNeg (nI 0))) (φ := mx_ocl LAY 119 = 10 ∧ (vp_in (nI q) (mx_len LAY true 131) ∧ ((nI 0) = 0 ∨ (nI 0) = 1)) ∧ True) rfl ⟨oc_119, ⟨(by simp (disch := omega) only [ln_131]; exact vp_in_nI (by omega) (by decide)), (by first | exact tf_01 _ | decide)⟩, trivial⟩ ?_
            refine sW_eq (st' := ([], [some (.ref 119), some (.ref a), some (.int (nI (q + 1))), none, none], mx_wr M3 131 q (nI 0))) (by simp (disch := omega) only [nI_add, nI_clamp]) ?_
            refine sW_goto 40 d_Mo_reckon_57 (by decide) ?_
            refine ih3 (q + 1, (mx_wr M3 131 q (nI 0))) (by dsimp only; omega) (by dsimp only; omega) (j1.wr (by decide) (by decide)) (fun c hc => ?_)
            dsimp only at hc ⊢
            rw [mx_wr_s]
            by_cases hx : c = q
            · rw [hx, pk_us]
            · rw [pk_un hx]; exact j2 c (by omega)
        · obtain rfl : q = 512 := by omega
          have g1 : HgtAt M3 (fun _ => 0) := fun c hc => by rw [j1.1 128 (by decide) (by decide)]; exact (i2 c hc).1
          have g2 : SrtAt M3 (fun _ => 0) := fun c hc => by rw [j1.1 129 (by decide) (by decide)]; exact (i2 c hc).2
          have g3 : BolAt M3 131 (Tk hs (Kx hs 0)) := fun v hv => by rw [j2 v hv, tf_f (Tk_E v)]
          have f3 : MFr M1 M3 rkL [22] := i1.tr (j1.mono (by decide) (by decide))
          refine sW_go b_Mo_reckon_40 (st' := ([.int (nI 512), .int (nI 512)], [some (.ref 119), some (.ref a), some (.int (nI 512)), none, none], M3)) (φ := True) rfl trivial ?_
          refine sW_ic_ge 60 d_Mo_reckon_44 (by decide) (fun c_44 => ?_) (fun c_44 => ?_)
          · skip
            simp (disch := omega) only [nI_leI] at c_44
            refine sW_go b_Mo_reckon_60 (st' := ([], [some (.ref 119), some (.ref a), some (.int (nI 0)), none, none], M3)) (φ := True) rfl trivial ?_
            refine mx_ind (α := Nat × mx_M × (Nat → Nat) × (Nat → Nat)) (fun q => hs.2.1 - q.1) (fun q => q.1 ≤ hs.2.1 → MFr M1 q.2.1 rkL [22] → HgtAt q.2.1 q.2.2.1 → SrtAt q.2.1 q.2.2.2 → CmI (fun _ => 0) (fun _ => 0) 1 (fun w c => w = 0 ∧ ∃ i, i < q.1 ∧ c = constCell hs i) q.2.2.1 q.2.2.2 → BolAt q.2.1 131 (Tk hs (Kx hs 0)) → sW G m_Mo_reckon 62 ([], [some (.ref 119), some (.ref a), some (.int (nI q.1)), none, none], q.2.1) _) ?_ (0, M3, (fun _ => 0), (fun _ => 0)) (Nat.zero_le _) f3 g1 g2 ((CmI.z (fun _ _ => by decide)).congr (fun w c _ _ => ⟨False.elim, fun ⟨_, i, hi, _⟩ => absurd hi (Nat.not_lt_zero i)⟩)) g3
            rintro ⟨i, M4, H4, S4⟩ ih4 hi4 l1 l2 l3 l4 l5
            dsimp only at ih4 hi4 l1 l2 l3 l4 l5 ⊢
            have hR4 : RowAt M4 a 0 hs := hR1.eq (l1.1 a (by omega) (by rcases ha with rfl | rfl <;> decide))
            have ec4 := hR4.c
            have hle : ∀ c, c < 256 → H4 c ≤ 1 := fun c hc => l4.le (fun _ _ => Nat.zero_le _) hc
            by_cases hin : i < hs.2.1
            · have hcc := constCell_lt hw.1 i
              have hl1 := hle _ hcc
              refine sW_go b_Mo_reckon_62 (st' := ([.int (M4 a (nI 1).toNatClampNeg), .int (nI i)], [some (.ref 119), some (.ref a), some (.int (nI i)), none, none], M4)) (φ := vp_in (nI 1) (mx_len LAY false a) ∧ True) rfl ⟨(by simp (disch := omega) only [hl]; exact vp_in_nI (by omega) (by decide)), trivial⟩ ?_
              refine sW_eq (st' := ([.int (nI hs.2.1), .int (nI i)], [some (.ref 119), some (.ref a), some (.int (nI i)), none, none], M4)) (by simp (disch := omega) only [ec4, nI_clamp]) ?_
              refine sW_ic_ge 86 d_Mo_reckon_66 (by decide) (fun c_66 => ?_) (fun c_66 => ?_)
              · skip
                simp (disch := omega) only [nI_leI] at c_66
                omega
              · skip
                simp (disch := omega) only [nI_leI] at c_66
                refine sW_go b_Mo_reckon_69 (st' := ([.int (nI i), .ref a, .ref 119], [some (.ref 119), some (.ref a), some (.int (nI i)), none, none], M4)) (φ := True) rfl trivial ?_
                refine sW_callS [.ref a, .int (nI i)] [.ref 119] d_Mo_reckon_72 c_Mo_reckon_72 ⟨rfl, rfl, Nat.le_of_ble_eq_true rfl, rfl, rfl⟩ (k_mconst G hl hR4 hw (by omega)) ?_
                rintro _ M₁ ⟨rfl, h₁⟩
                rw [h₁]
                show sW G m_Mo_reckon 75 ([.int (nI (constCell hs i)), .ref 119], [some (.ref 119), some (.ref a), some (.int (nI i)), none, none], M4) _
                refine sW_go b_Mo_reckon_75 (st' := ([.int (nI 1), .int (nI 1), .int (nI (constCell hs i)), .ref 119], [some (.ref 119), some (.ref a), some (.int (nI i)), none, none], M4)) (φ := True) rfl trivial ?_
                refine sW_callV 10 [.int (nI (constCell hs i)), .int (nI 1), .int (nI 1)] [] d_Mo_reckon_77 c_Mo_reckon_77 ⟨rfl, rfl, rfl, Nat.le_of_ble_eq_true rfl, rfl, rfl⟩ oc_119 (k_comes G l2 l3 hcc (by omega)) ?_
                rintro _ M5 ⟨rfl, k1, k2, k3⟩
                show sW G m_Mo_reckon 80 ([], [some (.ref 119), some (.ref a), some (.int (nI i)), none, none], M5) _
                refine sW_go b_Mo_reckon_80 (st' := ([], [some (.ref 119), some (.ref a), some (.int (nI i + nI 1)), none, none], M5)) (φ := True) rfl trivial ?_
                refine sW_eq (st' := ([], [some (.ref 119), some (.ref a), some (.int (nI (i + 1))), none, none], M5)) (by simp (disch := omega) only [nI_add]) ?_
                refine sW_goto 62 d_Mo_reckon_83 (by decide) ?_
                refine ih4 (i + 1, M5, updN H4 (constCell hs i) (if H4 (constCell hs i) = 0 then 1 else H4 (constCell hs i)), updN S4 (constCell hs i) (S4 (constCell hs i) ||| 1)) (by dsimp only; omega) (by dsimp only; omega) (l1.tr (k1.mono (by decide) (by decide))) k2 k3 ((l4.add hcc (w0 := 0) (by decide) (by decide)).congr (fun w c _ _ => ?_)) (l5.eq (k1.1 131 (by decide) (by decide)))
                dsimp only
                constructor
                · rintro (⟨q1, u, q2, q3⟩ | ⟨q1, q2⟩)
                  · exact ⟨q1, u, by omega, q3⟩
                  · exact ⟨q1, i, by omega, q2⟩
                · rintro ⟨q1, u, q2, q3⟩
                  by_cases hx : u = i
                  · exact Or.inr ⟨q1, hx ▸ q3⟩
                  · exact Or.inl ⟨q1, u, by omega, q3⟩
            · obtain rfl : i = hs.2.1 := by omega
              have hfc := funC_lt hw.1 0
              have hl1 := hle _ hfc
              refine sW_go b_Mo_reckon_62 (st' := ([.int (M4 a (nI 1).toNatClampNeg), .int (nI hs.2.1)], [some (.ref 119), some (.ref a), some (.int (nI hs.2.1)), none, none], M4)) (φ := vp_in (nI 1) (mx_len LAY false a) ∧ True) rfl ⟨(by simp (disch := omega) only [hl]; exact vp_in_nI (by omega) (by decide)), trivial⟩ ?_
              refine sW_eq (st' := ([.int (nI hs.2.1), .int (nI hs.2.1)], [some (.ref 119), some (.ref a), some (.int (nI hs.2.1)), none, none], M4)) (by simp (disch := omega) only [ec4, nI_clamp]) ?_
              refine sW_ic_ge 86 d_Mo_reckon_66 (by decide) (fun c_66 => ?_) (fun c_66 => ?_)
              · skip
                simp (disch := omega) only [nI_leI] at c_66
                refine sW_go b_Mo_reckon_86 (st' := ([.int (nI 0), .ref a, .ref 119], [some (.ref 119), some (.ref a), some (.int (nI hs.2.1)), none, none], M4)) (φ := True) rfl trivial ?_
                refine sW_callS [.ref a, .int (nI 0)] [.ref 119] d_Mo_reckon_89 c_Mo_reckon_89 ⟨rfl, rfl, Nat.le_of_ble_eq_true rfl, rfl, rfl⟩ (k_mfun G hl hR4 hw (by decide)) ?_
                rintro _ M₁ ⟨rfl, h₁⟩
                rw [h₁]
                show sW G m_Mo_reckon 92 ([.int (nI (funC hs 0)), .ref 119], [some (.ref 119), some (.ref a), some (.int (nI hs.2.1)), none, none], M4) _
                refine sW_go b_Mo_reckon_92 (st' := ([.int (nI 1), .int (nI 4), .int (nI (funC hs 0)), .ref 119], [some (.ref 119), some (.ref a), some (.int (nI hs.2.1)), none, none], M4)) (φ := True) rfl trivial ?_
                refine sW_callV 10 [.int (nI (funC hs 0)), .int (nI 4), .int (nI 1)] [] d_Mo_reckon_94 c_Mo_reckon_94 ⟨rfl, rfl, rfl, Nat.le_of_ble_eq_true rfl, rfl, rfl⟩ oc_119 (k_comes G l2 l3 hfc (by omega)) ?_
                rintro _ M5 ⟨rfl, k1, k2, k3⟩
                obtain ⟨s1, s2⟩ := rk_start (hs := hs) ((l4.add hfc (w0 := 2) (by decide) (by decide)).congr (fun w c _ _ => Iff.rfl))
                have hb5 := fun c (hc : c < 256) => (show _ < 2 ^ 31 from Nat.lt_of_le_of_lt (s1 c hc).2.2 (by decide))
                show sW G m_Mo_reckon 97 ([], [some (.ref 119), some (.ref a), some (.int (nI hs.2.1)), none, none], M5) _
                refine sW_go b_Mo_reckon_97 (st' := ([.ref 119], [some (.ref 119), some (.ref a), some (.int (nI 0)), none, none], M5)) (φ := True) rfl trivial ?_
                refine sW_callV 10 [] [] d_Mo_reckon_100 c_Mo_reckon_100 ⟨rfl, rfl, rfl, Nat.le_of_ble_eq_true rfl, rfl, rfl⟩ oc_119 (k_gather G k2 hb5) ?_
                rintro _ M6 ⟨rfl, k4, k5⟩
                show sW G m_Mo_reckon 103 ([], [some (.ref 119), some (.ref a), some (.int (nI 0)), none, none], M6) _
                refine sW_go b_Mo_reckon_103 (st' := ([], [some (.ref 119), some (.ref a), some (.int (nI 0)), some (.int (nI 2)), none], M6)) (φ := True) rfl trivial ?_
                have f6 : MFr M1 M6 rkL [22] := (l1.tr (k1.mono (by decide) (by decide))).tr (k4.mono (by decide) (by decide))
                have hI : RkI hs M6 0 _ _ := ⟨k2.eq (k4.1 128 (by decide) (by decide)), k3.eq (k4.1 129 (by decide) (by decide)), k5, s1, s2, (l5.eq (k1.1 131 (by decide) (by decide))).eq (k4.1 131 (by decide) (by decide))⟩
                have z0 := ckN_0 hs
                have kk := k_rk105 G hl ha hR1 hw 257 0 f6 hI (Nat.zero_le _) (by rw [z0]; decide)
                rw [z0] at kk
                refine sW_mono kk ?_
                rintro r M' ⟨x1, x2, x3⟩
                refine ⟨x1, (f1.mono (by decide) (by decide)).tr (x2.mono (by decide) (by decide)), r1.eq (x2.1 133 (by decide) (by decide)), fun _ => x3⟩
              · skip
                simp (disch := omega) only [nI_leI] at c_66
                omega
          · skip
            exact absurd (by decide +kernel) c_44
      · skip
        exact absurd (by decide +kernel) c_15
  · skip
    replace c_5 := tf_nz.mp c_5
    refine sW_retV d_Mo_reckon_8 rfl ?_
    have eK : K = hs := c_5
    subst eK
    exact ⟨rfl, f1.mono (by decide) (by decide), r1, fun q => (hCK q).eq (f1.2 22 (by decide)) (f1.1 128 (by decide) (by decide)) (f1.1 129 (by decide) (by decide)) (f1.1 130 (by decide) (by decide))⟩

