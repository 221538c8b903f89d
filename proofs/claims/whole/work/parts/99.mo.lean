/-! ===== the model: the cells are reckoned ===== -/
theorem k_isKnown (G : mx_G) {M : mx_M} {a : Nat} {hs K : Hs} (hl : mx_len LAY false a = 26) (ha : a = 123 ∨ a = 125) (hR : RowAt M a 0 hs) (hw : WHs hs) (hK : RowAt M 133 0 K) (hwK : WHs K) : sOk G m_Mo_isKnown [.ref 119, .ref a] M (fun r M' => r = some (.int (tf (K = hs))) ∧ MFr M M' [133] [] ∧ RowAt M' 133 0 hs) := by
  have ha3 : a ≠ 133 := by omega
  refine sOk_of ⟨by decide +kernel, by decide +kernel, Nat.le_of_ble_eq_true rfl⟩ ?_
  show sW G m_Mo_isKnown 0 ([], [some (.ref 119), some (.ref a), none, none], M) _
  refine sW_go b_Mo_isKnown_0 (st' := ([], [some (.ref 119), some (.ref a), some (.int (nI 1)), some (.int (nI 0))], M)) (φ := True) rfl trivial ?_
  rw [show nI 1 = tf (∀ i, i < 0 → enc K i = enc hs i) by rw [tf_t (fun i hi => absurd hi (Nat.not_lt_zero i))]]
  refine mx_ind (α := Nat × mx_M) (fun q => 26 - q.1) (fun q => q.1 ≤ 26 → CpI M q.2 a 0 133 0 q.1 → (∀ j, q.1 ≤ j → q.2 133 j = M 133 j) → sW G m_Mo_isKnown 4 ([], [some (.ref 119), some (.ref a), some (.int (tf (∀ i, i < q.1 → enc K i = enc hs i))), some (.int (nI q.1))], q.2) _) ?_ (0, M) (Nat.zero_le _) CpI.z (fun _ _ => rfl)
  rintro ⟨q, M2⟩ ih hq i1 i3
  dsimp only at ih hq i1 i3 ⊢
  by_cases hqn : q < 26
  · have e1 : M2 133 q = nI (enc K q) := by
      rw [i3 q (Nat.le_refl _)]
      have := hK q hqn
      rw [Nat.zero_add] at this
      exact this
    have e2 : M2 a q = nI (enc hs q) := by
      rw [i1.1 a ha3]
      have := hR q hqn
      rw [Nat.zero_add] at this
      exact this
    have l1 := enc_lt hwK q
    have l2 := enc_lt hw q
    have i2 := i1.s hqn
    have e3 : M a (0 + q) = nI (enc hs q) := hR q hqn
    rw [e3, Nat.zero_add] at i2
    have i4 : ∀ j, q + 1 ≤ j → mx_wr M2 133 q (nI (enc hs q)) 133 j = M 133 j := fun j hj => by rw [rd_n (by omega)]; exact i3 j (by omega)
    have st : ∀ v : Int32, v = tf (∀ i, i < q + 1 → enc K i = enc hs i) → sW G m_Mo_isKnown 4 ([], [some (.ref 119), some (.ref a), some (.int v), some (.int (nI (q + 1)))], mx_wr M2 133 q (nI (enc hs q))) (fun r M' => r = some (.int (tf (K = hs))) ∧ MFr M M' [133] [] ∧ RowAt M' 133 0 hs) := fun v hv => by
      rw [hv]
      exact ih (q + 1, mx_wr M2 133 q (nI (enc hs q))) (by dsimp only; omega) (by dsimp only; omega) i2 i4
    refine sW_go b_Mo_isKnown_4 (st' := ([.int (nI 26), .int (nI q)], [some (.ref 119), some (.ref a), some (.int (tf (∀ i, i < q → enc K i = enc hs i))), some (.int (nI q))], M2)) (φ := True) rfl trivial ?_
    refine sW_ic_ge 47 d_Mo_isKnown_7 (by decide) (fun c_7 => ?_) (fun c_7 => ?_)
    · skip
      simp (disch := omega) only [nI_leI] at c_7
      omega
    · skip
      simp (disch := omega) only [nI_leI] at c_7
      refine sW_go b_Mo_isKnown_10 (st' := ([.int (tf (∀ i, i < q → enc K i = enc hs i))], [some (.ref 119), some (.ref a), some (.int (tf (∀ i, i < q → enc K i = enc hs i))), some (.int (nI q))], M2)) (φ := True) rfl trivial ?_
      refine sW_if_eq 30 d_Mo_isKnown_11 (by decide) (fun c_11 => ?_) (fun c_11 => ?_)
      · skip
        replace c_11 := tf_z.mp c_11
        refine sW_go b_Mo_isKnown_30 (st' := ([.int (nI 0)], [some (.ref 119), some (.ref a), some (.int (tf (∀ i, i < q → enc K i = enc hs i))), some (.int (nI q))], M2)) (φ := True) rfl trivial ?_
        refine sW_go b_Mo_isKnown_31 (st' := ([], [some (.ref 119), some (.ref a), some (.int (nI 0)), some (.int (nI q + nI 1))], mx_wr M2 133 (nI q).toNatClampNeg (M2 a (nI q).toNatClampNeg))) (φ := mx_ocl LAY 119 = 10 ∧ vp_in (nI q) (mx_len LAY false a) ∧ vp_in (nI q) (mx_len LAY false 133) ∧ True) rfl ⟨oc_119, (by simp (disch := omega) only [hl]; exact vp_in_nI (by omega) (by decide)), (by simp (disch := omega) only [ln_133]; exact vp_in_nI (by omega) (by decide)), trivial⟩ ?_
        refine sW_eq (st' := ([], [some (.ref 119), some (.ref a), some (.int (nI 0)), some (.int (nI (q + 1)))], mx_wr M2 133 q (nI (enc hs q)))) (by simp (disch := omega) only [e2, nI_add, nI_clamp]) ?_
        refine sW_goto 4 d_Mo_isKnown_44 (by decide) ?_
        exact st _ (by rw [tf_f (fun w => c_11 (fun i hi => w i (by omega)))])
      · skip
        replace c_11 := tf_nz.mp c_11
        refine sW_go b_Mo_isKnown_14 (st' := ([.int (M2 a (nI q).toNatClampNeg), .int (M2 133 (nI q).toNatClampNeg)], [some (.ref 119), some (.ref a), some (.int (tf (∀ i, i < q → enc K i = enc hs i))), some (.int (nI q))], M2)) (φ := mx_ocl LAY 119 = 10 ∧ vp_in (nI q) (mx_len LAY false 133) ∧ vp_in (nI q) (mx_len LAY false a) ∧ True) rfl ⟨oc_119, (by simp (disch := omega) only [ln_133]; exact vp_in_nI (by omega) (by decide)), (by simp (disch := omega) only [hl]; exact vp_in_nI (by omega) (by decide)), trivial⟩ ?_
        refine sW_eq (st' := ([.int (nI (enc hs q)), .int (nI (enc K q))], [some (.ref 119), some (.ref a), some (.int (tf (∀ i, i < q → enc K i = enc hs i))), some (.int (nI q))], M2)) (by simp (disch := omega) only [e1, e2, nI_clamp]) ?_
        refine sW_ic_ne 30 d_Mo_isKnown_23 (by decide) (fun c_23 => ?_) (fun c_23 => ?_)
        · skip
          simp (disch := omega) only [nI_eq] at c_23
          refine sW_go b_Mo_isKnown_30 (st' := ([.int (nI 0)], [some (.ref 119), some (.ref a), some (.int (tf (∀ i, i < q → enc K i = enc hs i))), some (.int (nI q))], M2)) (φ := True) rfl trivial ?_
          refine sW_go b_Mo_isKnown_31 (st' := ([], [some (.ref 119), some (.ref a), some (.int (nI 0)), some (.int (nI q + nI 1))], mx_wr M2 133 (nI q).toNatClampNeg (M2 a (nI q).toNatClampNeg))) (φ := mx_ocl LAY 119 = 10 ∧ vp_in (nI q) (mx_len LAY false a) ∧ vp_in (nI q) (mx_len LAY false 133) ∧ True) rfl ⟨oc_119, (by simp (disch := omega) only [hl]; exact vp_in_nI (by omega) (by decide)), (by simp (disch := omega) only [ln_133]; exact vp_in_nI (by omega) (by decide)), trivial⟩ ?_
          refine sW_eq (st' := ([], [some (.ref 119), some (.ref a), some (.int (nI 0)), some (.int (nI (q + 1)))], mx_wr M2 133 q (nI (enc hs q)))) (by simp (disch := omega) only [e2, nI_add, nI_clamp]) ?_
          refine sW_goto 4 d_Mo_isKnown_44 (by decide) ?_
          exact st _ (by rw [tf_f (fun w => c_23 (w q (by omega)))])
        · skip
          simp (disch := omega) only [nI_eq] at c_23
          refine sW_go b_Mo_isKnown_26 (st' := ([.int (nI 1)], [some (.ref 119), some (.ref a), some (.int (tf (∀ i, i < q → enc K i = enc hs i))), some (.int (nI q))], M2)) (φ := True) rfl trivial ?_
          refine sW_goto 31 d_Mo_isKnown_27 (by decide) ?_
          refine sW_go b_Mo_isKnown_31 (st' := ([], [some (.ref 119), some (.ref a), some (.int (nI 1)), some (.int (nI q + nI 1))], mx_wr M2 133 (nI q).toNatClampNeg (M2 a (nI q).toNatClampNeg))) (φ := mx_ocl LAY 119 = 10 ∧ vp_in (nI q) (mx_len LAY false a) ∧ vp_in (nI q) (mx_len LAY false 133) ∧ True) rfl ⟨oc_119, (by simp (disch := omega) only [hl]; exact vp_in_nI (by omega) (by decide)), (by simp (disch := omega) only [ln_133]; exact vp_in_nI (by omega) (by decide)), trivial⟩ ?_
          refine sW_eq (st' := ([], [some (.ref 119), some (.ref a), some (.int (nI 1)), some (.int (nI (q + 1)))], mx_wr M2 133 q (nI (enc hs q)))) (by simp (disch := omega) only [e2, nI_add, nI_clamp]) ?_
          refine sW_goto 4 d_Mo_isKnown_44 (by decide) ?_
          have nx : ∀ i, i < q + 1 → enc K i = enc hs i := fun i hi => by
            by_cases hx : i = q
            · rw [hx]; exact c_23
            · exact c_11 i (by omega)
          exact st _ (by rw [tf_t nx])
  · obtain rfl : q = 26 := by omega
    refine sW_go b_Mo_isKnown_4 (st' := ([.int (nI 26), .int (nI 26)], [some (.ref 119), some (.ref a), some (.int (tf (∀ i, i < 26 → enc K i = enc hs i))), some (.int (nI 26))], M2)) (φ := True) rfl trivial ?_
    refine sW_ic_ge 47 d_Mo_isKnown_7 (by decide) (fun c_7 => ?_) (fun c_7 => ?_)
    · skip
      simp (disch := omega) only [nI_leI] at c_7
      refine sW_go b_Mo_isKnown_47 (st' := ([.int (tf (∀ i, i < 26 → enc K i = enc hs i))], [some (.ref 119), some (.ref a), some (.int (tf (∀ i, i < 26 → enc K i = enc hs i))), some (.int (nI 26))], M2)) (φ := True) rfl trivial ?_
      refine sW_retI d_Mo_isKnown_48 rfl (tf_b _) ?_
      refine ⟨?_, i1.fr (by decide) (by decide), i1.row hR⟩
      rw [tf_iff ⟨fun w => enc_inj hwK hw w, fun w i _ => by rw [w]⟩]
    · skip
      exact absurd (by decide +kernel) c_7
theorem cnt_sub {K K' : Nat → Prop} (h : ∀ c, K c → K' c) : ∀ m, cntK K m ≤ cntK K' m ∧ (cntK K m = cntK K' m → ∀ c, c < m → K' c → K c)
  | 0 => ⟨Nat.le_refl _, fun _ c hc => absurd hc (Nat.not_lt_zero c)⟩
  | m + 1 => by
    obtain ⟨h1, h2⟩ := cnt_sub h m
    have e : ∀ J : Nat → Prop, cntK J (m + 1) = cntK J m + cif (J m) 1 0 := fun J => rfl
    rw [e, e]
    by_cases q : K m
    · rw [cif_t q, cif_t (h m q)]
      refine ⟨by omega, fun w c hc hk => ?_⟩
      by_cases hx : c = m
      · rw [hx]; exact q
      · exact h2 (by omega) c (by omega) hk
    · rw [cif_f q]
      by_cases q' : K' m
      · rw [cif_t q']
        exact ⟨by omega, fun w => absurd w (by omega)⟩
      · rw [cif_f q']
        refine ⟨by omega, fun w c hc hk => ?_⟩
        by_cases hx : c = m
        · rw [hx] at hk; exact absurd hk q'
        · exact h2 (by omega) c (by omega) hk
theorem gat_nd (H : Nat → Nat) : (gat H).Nodup := List.Pairwise.filter _ List.nodup_range
theorem gat_cnt {H : Nat → Nat} {K : Nat → Prop} (h : ∀ c, c < 256 → (H c ≠ 0 ↔ K c)) : (gat H).length = cntK K 256 := nd_cnt 256 (gat H) (gat_nd H) (fun x => by
  rw [mem_gat]
  exact ⟨fun q => ⟨q.1, (h x q.1).mp q.2⟩, fun q => ⟨q.1, (h x q.1).mpr q.2⟩⟩)
/-- what a round adds -/
def rkQ (hs : Hs) (H : Nat → Nat) (m : Nat) (T : Nat → Prop) (w c : Nat) : Prop := (w = 1 ∧ ∃ x y, x ∈ gat H ∧ y ∈ gat H ∧ (H x = m + 1 ∨ H y = m + 1) ∧ c = pairC hs x y) ∨ (w = 2 ∧ ∃ v, v < 256 ∧ Jn T v ∧ c = funC hs v)
theorem HOk.mem {hs : Hs} {n : Nat} {H : Nat → Nat} (hw : HsOk hs) (h : HOk hs n H) (c : Nat) : c ∈ gat H ↔ Kx hs n c := by
  rw [mem_gat]
  exact ⟨fun q => (h c q.1).1.mp q.2, fun q => ⟨Kx_lt hw q, (h c (Kx_lt hw q)).1.mpr q⟩⟩
theorem HOk.new {hs : Hs} {m : Nat} {H : Nat → Nat} (hw : HsOk hs) (h : HOk hs (m + 1) H) {c : Nat} (hc : Kx hs (m + 1) c) : H c = m + 1 ↔ ¬ Kx hs m c := by
  have c256 := Kx_lt hw hc
  obtain ⟨a1, a2, a3⟩ := h c c256
  obtain ⟨b1, b2⟩ := a2 (a1.mpr hc)
  refine ⟨fun q => b2 m (by omega), fun q => ?_⟩
  by_cases hle : H c ≤ m
  · exact absurd (Kx_mono hle b1) q
  · omega
theorem Jn_lt {hs : Hs} (hw : HsOk hs) {K : Nat → Prop} {v : Nat} (h : Jn (Tk hs K) v) : v < 256 := sub_lt (Jn_sub h) (AR_lt hw)
theorem Tk_lt {hs : Hs} (hw : HsOk hs) {K : Nat → Prop} {v : Nat} (h : Tk hs K v) : v < 256 := Jn_lt hw (Jn_1 h)
theorem rk_step {hs : Hs} {m : Nat} {H S H' S' : Nat → Nat} (hw : HsOk hs) (hH : HOk hs (m + 1) H) (hS : SOk hs (Kx hs m) S) (hC : CmI H S (m + 2) (rkQ hs H m (Tk hs (Kx hs (m + 1)))) H' S') : HOk hs (m + 2) H' ∧ SOk hs (Kx hs (m + 1)) S' := by
  have key : ∀ c, c < 256 → ((H c ≠ 0 ∨ ∃ w, w < 3 ∧ rkQ hs H m (Tk hs (Kx hs (m + 1))) w c) ↔ Kx hs (m + 2) c) := fun c hc => by
    constructor
    · rintro (q | ⟨w, _, ⟨_, x, y, q1, q2, q3, q4⟩ | ⟨_, v, q1, q2, q3⟩⟩)
      · exact Kx_up (m + 1) ((hH c hc).1.mp q)
      · exact Or.inr (Or.inl ⟨x, y, (hH.mem hw x).mp q1, (hH.mem hw y).mp q2, q4⟩)
      · exact Or.inr (Or.inr ⟨v, q2, q3⟩)
    · rintro (⟨i, q1, q2⟩ | ⟨x, y, q1, q2, q3⟩ | ⟨v, q1, q2⟩)
      · exact Or.inl ((hH c hc).1.mpr (Or.inl ⟨i, q1, q2⟩))
      · by_cases e1 : Kx hs m x ∧ Kx hs m y
        · exact Or.inl ((hH c hc).1.mpr (Or.inr (Or.inl ⟨x, y, e1.1, e1.2, q3⟩)))
        · refine Or.inr ⟨1, by decide, Or.inl ⟨rfl, x, y, (hH.mem hw x).mpr q1, (hH.mem hw y).mpr q2, ?_, q3⟩⟩
          by_cases e2 : Kx hs m x
          · exact Or.inr ((hH.new hw q2).mpr (fun z => e1 ⟨e2, z⟩))
          · exact Or.inl ((hH.new hw q1).mpr e2)
      · exact Or.inr ⟨2, by decide, Or.inr ⟨rfl, v, Jn_lt hw q1, q1, q2⟩⟩
  refine ⟨fun c hc => ?_, fun c hc => ?_⟩
  · obtain ⟨a1, a2, a3⟩ := hC c hc
    obtain ⟨b1, b2, b3⟩ := hH c hc
    have kc := key c hc
    by_cases q : H c ≠ 0
    · rw [if_pos q] at a1
      rw [a1]
      exact ⟨⟨fun _ => kc.mp (Or.inl q), fun _ => q⟩, fun _ => b2 q, by omega⟩
    · rw [if_neg q] at a1
      by_cases q2 : ∃ w, w < 3 ∧ rkQ hs H m (Tk hs (Kx hs (m + 1))) w c
      · rw [cif_t q2] at a1
        rw [a1]
        refine ⟨⟨fun _ => kc.mp (Or.inr q2), fun _ => by omega⟩, fun _ => ⟨kc.mp (Or.inr q2), fun j hj z => q (b1.mpr (Kx_mono (by omega) z))⟩, Nat.le_refl _⟩
      · rw [cif_f q2] at a1
        rw [a1]
        exact ⟨⟨fun z => absurd rfl z, fun z => absurd (kc.mpr z) (fun y => y.elim q q2)⟩, fun z => absurd rfl z, Nat.zero_le _⟩
  · obtain ⟨a1, a2, a3⟩ := hC c hc
    obtain ⟨b1, b2, b3, b4⟩ := hS c hc
    refine ⟨a2, ?_, ?_, ?_⟩
    · rw [a3 0 (by decide), b2]
      exact ⟨fun z => z.elim id (fun y => by rcases y with ⟨y, _⟩ | ⟨y, _⟩ <;> exact absurd y (by decide)), Or.inl⟩
    · rw [a3 1 (by decide), b3]
      constructor
      · rintro (⟨x, y, q1, q2, q3⟩ | ⟨_, x, y, q1, q2, _, q4⟩ | ⟨q, _⟩)
        · exact ⟨x, y, Kx_up m q1, Kx_up m q2, q3⟩
        · exact ⟨x, y, (hH.mem hw x).mp q1, (hH.mem hw y).mp q2, q4⟩
        · exact absurd q (by decide)
      · rintro ⟨x, y, q1, q2, q3⟩
        by_cases e1 : Kx hs m x ∧ Kx hs m y
        · exact Or.inl ⟨x, y, e1.1, e1.2, q3⟩
        · refine Or.inr (Or.inl ⟨rfl, x, y, (hH.mem hw x).mpr q1, (hH.mem hw y).mpr q2, ?_, q3⟩)
          by_cases e2 : Kx hs m x
          · exact Or.inr ((hH.new hw q2).mpr (fun z => e1 ⟨e2, z⟩))
          · exact Or.inl ((hH.new hw q1).mpr e2)
    · rw [a3 2 (by decide), b4]
      constructor
      · rintro (⟨v, q1, q2⟩ | ⟨q, _⟩ | ⟨_, v, _, q2, q3⟩)
        · exact ⟨v, Jn_mono (fun t => Tk_mono (fun x => Kx_up m)) q1, q2⟩
        · exact absurd q (by decide)
        · exact ⟨v, q2, q3⟩
      · rintro ⟨v, q1, q2⟩
        exact Or.inr (Or.inr ⟨rfl, v, Jn_lt hw q1, q1, q2⟩)
theorem tk_step {hs : Hs} {m : Nat} {H : Nat → Nat} (hw : HsOk hs) (hH : HOk hs (m + 1) H) (u : Nat) : (Tk hs (Kx hs m) u ∨ ∃ x, x ∈ gat H ∧ ((H x = m + 1 ∧ u = L2 hs x) ∨ ∃ y, y ∈ gat H ∧ (H x = m + 1 ∨ H y = m + 1) ∧ u = andn (L2 hs x) (R2 hs y))) ↔ Tk hs (Kx hs (m + 1)) u := by
  constructor
  · rintro (q | ⟨x, q1, ⟨q2, q3⟩ | ⟨y, q2, _, q3⟩⟩)
    · exact Tk_mono (fun x => Kx_up m) q
    · exact ⟨x, (hH.mem hw x).mp q1, Or.inl q3⟩
    · exact ⟨x, (hH.mem hw x).mp q1, Or.inr ⟨y, (hH.mem hw y).mp q2, q3⟩⟩
  · rintro ⟨x, q1, q2 | ⟨y, q2, q3⟩⟩
    · by_cases e : Kx hs m x
      · exact Or.inl ⟨x, e, Or.inl q2⟩
      · exact Or.inr ⟨x, (hH.mem hw x).mpr q1, Or.inl ⟨(hH.new hw q1).mpr e, q2⟩⟩
    · by_cases e1 : Kx hs m x ∧ Kx hs m y
      · exact Or.inl ⟨x, e1.1, Or.inr ⟨y, e1.2, q3⟩⟩
      · refine Or.inr ⟨x, (hH.mem hw x).mpr q1, Or.inr ⟨y, (hH.mem hw y).mpr q2, ?_, q3⟩⟩
        by_cases e2 : Kx hs m x
        · exact Or.inr ((hH.new hw q2).mpr (fun z => e1 ⟨e2, z⟩))
        · exact Or.inl ((hH.new hw q1).mpr e2)
theorem Jn_E {T : Nat → Prop} (h : ∀ t, ¬ T t) (v : Nat) : Jn T v ↔ v = 0 := ⟨fun ⟨l, a, b⟩ => by
    match l, a, b with
    | [], _, b => exact b
    | x :: l, a, _ => exact absurd (a x List.mem_cons_self) (h x), fun q => by rw [q]; exact Jn_0⟩
theorem Tk_E {hs : Hs} (t : Nat) : ¬ Tk hs (Kx hs 0) t := fun ⟨_, q, _⟩ => q
/-- the first round -/
theorem rk_start {hs : Hs} {H S : Nat → Nat} (hC : CmI (fun _ => 0) (fun _ => 0) 1 (fun w c => (w = 0 ∧ ∃ i, i < hs.2.1 ∧ c = constCell hs i) ∨ (w = 2 ∧ c = funC hs 0)) H S) : HOk hs 1 H ∧ SOk hs (Kx hs 0) S := by
  have key : ∀ c, (∃ w, w < 3 ∧ ((w = 0 ∧ ∃ i, i < hs.2.1 ∧ c = constCell hs i) ∨ (w = 2 ∧ c = funC hs 0))) ↔ Kx hs 1 c := fun c => by
    constructor
    · rintro ⟨w, _, ⟨_, q⟩ | ⟨_, q⟩⟩
      · exact Or.inl q
      · exact Or.inr (Or.inr ⟨0, Jn_0, q⟩)
    · rintro (q | ⟨x, y, q, _⟩ | ⟨v, q1, q2⟩)
      · exact ⟨0, by decide, Or.inl ⟨rfl, q⟩⟩
      · exact q.elim
      · exact ⟨2, by decide, Or.inr ⟨rfl, by rw [(Jn_E Tk_E v).mp q1] at q2; exact q2⟩⟩
  have z0 : ∀ w, ¬ bt 0 w = 1 := bt_zz
  refine ⟨fun c hc => ?_, fun c hc => ?_⟩
  · obtain ⟨a1, a2, a3⟩ := hC c hc
    rw [if_neg (fun q => q rfl)] at a1
    by_cases q : Kx hs 1 c
    · rw [cif_t ((key c).mpr q)] at a1
      rw [a1]
      exact ⟨⟨fun _ => q, fun _ => by decide⟩, fun _ => ⟨q, fun j hj z => by obtain rfl : j = 0 := (by omega); exact z⟩, Nat.le_refl _⟩
    · rw [cif_f (fun z => q ((key c).mp z))] at a1
      rw [a1]
      exact ⟨⟨fun z => absurd rfl z, fun z => absurd z q⟩, fun z => absurd rfl z, Nat.zero_le _⟩
  · obtain ⟨a1, a2, a3⟩ := hC c hc
    refine ⟨a2, ?_, ?_, ?_⟩
    · rw [a3 0 (by decide)]
      exact ⟨fun z => z.elim (fun y => absurd y (z0 0)) (fun y => y.elim (fun x => x.2) (fun x => absurd x.1 (by decide))), fun z => Or.inr (Or.inl ⟨rfl, z⟩)⟩
    · rw [a3 1 (by decide)]
      exact ⟨fun z => z.elim (fun y => absurd y (z0 1)) (fun y => y.elim (fun x => absurd x.1 (by decide)) (fun x => absurd x.1 (by decide))), fun ⟨x, y, q, _⟩ => q.elim⟩
    · rw [a3 2 (by decide)]
      exact ⟨fun z => z.elim (fun y => absurd y (z0 2)) (fun y => y.elim (fun x => absurd x.1 (by decide)) (fun x => ⟨0, Jn_0, x.2⟩)), fun ⟨v, q1, q2⟩ => Or.inr (Or.inr ⟨rfl, by rw [(Jn_E Tk_E v).mp q1] at q2; exact q2⟩)⟩

