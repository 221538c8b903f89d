/-! ===== the model: queries ===== -/
theorem Kw_iff {hs : Hs} (c : Nat) : Kw hs c ↔ (∃ i, i < hs.2.1 ∧ c = constCell hs i) ∨ (∃ x y, Kw hs x ∧ Kw hs y ∧ c = pairC hs x y) ∨ ∃ v, Jn (Tk hs (Kw hs)) v ∧ c = funC hs v := by
  constructor
  · rintro ⟨n, hn⟩
    match n, hn with
    | 0, hn => exact hn.elim
    | n + 1, Or.inl q => exact Or.inl q
    | n + 1, Or.inr (Or.inl ⟨x, y, a, b, e⟩) => exact Or.inr (Or.inl ⟨x, y, ⟨n, a⟩, ⟨n, b⟩, e⟩)
    | n + 1, Or.inr (Or.inr ⟨v, a, e⟩) => exact Or.inr (Or.inr ⟨v, Jn_mono (fun t => Tk_mono (fun x q => ⟨n, q⟩)) a, e⟩)
  · rintro (q | ⟨x, y, ⟨i, a⟩, ⟨j, b⟩, e⟩ | ⟨v, ⟨l, a, b⟩, e⟩)
    · exact ⟨1, Or.inl q⟩
    · exact ⟨i + j + 1, Or.inr (Or.inl ⟨x, y, Kx_mono (by omega) a, Kx_mono (by omega) b, e⟩)⟩
    · have key : ∀ l : List Nat, (∀ t, t ∈ l → Tk hs (Kw hs) t) → ∃ n, ∀ t, t ∈ l → Tk hs (Kx hs n) t := fun l => by
        induction l with
        | nil => exact fun _ => ⟨0, fun t ht => by simp at ht⟩
        | cons x l ih =>
          intro hl
          obtain ⟨n, hn⟩ := ih (fun t ht => hl t (List.mem_cons_of_mem _ ht))
          have hx : ∃ m, Tk hs (Kx hs m) x := by
            obtain ⟨z, ⟨i, a⟩, b | ⟨y, ⟨j, b⟩, e⟩⟩ := hl x List.mem_cons_self
            · exact ⟨i, z, a, Or.inl b⟩
            · exact ⟨i + j, z, Kx_mono (by omega) a, Or.inr ⟨y, Kx_mono (by omega) b, e⟩⟩
          obtain ⟨m, hm⟩ := hx
          refine ⟨n + m, fun t ht => ?_⟩
          rcases List.mem_cons.mp ht with rfl | ht
          · exact Tk_mono (fun x q => Kx_mono (by omega) q) hm
          · exact Tk_mono (fun x q => Kx_mono (by omega) q) (hn t ht)
      obtain ⟨n, hn⟩ := key l a
      exact ⟨n + 1, Or.inr (Or.inr ⟨v, ⟨l, hn, b⟩, e⟩)⟩
theorem HasV_iff {hs : Hs} (k : Nat) : HasV hs k ↔ HasC hs k ∨ HasP hs k ∨ HasF hs k := by
  unfold HasV HasC HasP HasF
  constructor
  · rintro ⟨s, h1, h2⟩
    rcases (Kw_iff s).mp h1 with ⟨i, a, rfl⟩ | ⟨x, y, a, b, rfl⟩ | ⟨v, a, rfl⟩
    · exact Or.inl ⟨i, a, h2⟩
    · exact Or.inr (Or.inl ⟨x, y, a, b, h2⟩)
    · exact Or.inr (Or.inr ⟨v, a, h2⟩)
  · rintro (⟨i, a, b⟩ | ⟨x, y, a, b, c⟩ | ⟨v, a, b⟩)
    · exact ⟨_, (Kw_iff _).mpr (Or.inl ⟨i, a, rfl⟩), b⟩
    · exact ⟨_, (Kw_iff _).mpr (Or.inr (Or.inl ⟨x, y, a, b, rfl⟩)), c⟩
    · exact ⟨_, (Kw_iff _).mpr (Or.inr (Or.inr ⟨v, a, rfl⟩)), b⟩
/-- the cells, in order, and all that is known of them -/
def MC (M : mx_M) (hs : Hs) (n : Nat) (H S : Nat → Nat) : Prop := n ≤ 300 ∧ HgtAt M H ∧ SrtAt M S ∧ GatAt M (gat H) ∧ HOk hs n H ∧ SOk hs (Kw hs) S ∧ ∀ c, Kw hs c → Kx hs n c
theorem MC.mem {M : mx_M} {hs : Hs} {n : Nat} {H S : Nat → Nat} (hw : HsOk hs) (h : MC M hs n H S) (c : Nat) : c ∈ gat H ↔ Kw hs c := by
  rw [h.2.2.2.2.1.mem hw]
  exact ⟨fun q => ⟨n, q⟩, h.2.2.2.2.2.2 c⟩
theorem cif_T {α : Type} {a b : α} : cif True a b = a := cif_t trivial
theorem cif_F {α : Type} {a b : α} : cif False a b = b := cif_f id
noncomputable def srtV (hs : Hs) (k : Nat) : Nat := (cif (HasC hs k) 1 0) + (cif (HasP hs k) 2 0) + cif (HasF hs k) 4 0
theorem srtV_bt (hs : Hs) (k : Nat) : (bt (srtV hs k) 0 = 1 ↔ HasC hs k) ∧ (bt (srtV hs k) 1 = 1 ↔ HasP hs k) ∧ (bt (srtV hs k) 2 = 1 ↔ HasF hs k) ∧ srtV hs k < 8 := by
  unfold srtV
  by_cases h1 : HasC hs k <;> by_cases h2 : HasP hs k <;> by_cases h3 : HasF hs k <;> simp only [cif_T, cif_F, h1, h2, h3] <;> decide
theorem bt8_hi {a k : Nat} (ha : a < 8) (hk : 3 ≤ k) : ¬ bt a k = 1 := by
  unfold bt
  have h2 : 2 ^ 3 ≤ 2 ^ k := Nat.pow_le_pow_right (by decide) hk
  rw [Nat.div_eq_of_lt (by omega)]
  decide
theorem srtV_eq {hs : Hs} {k s : Nat} (h8 : s < 8) (h : (bt s 0 = 1 ↔ HasC hs k) ∧ (bt s 1 = 1 ↔ HasP hs k) ∧ (bt s 2 = 1 ↔ HasF hs k)) : s = srtV hs k := by
  obtain ⟨a, b, c, d⟩ := srtV_bt hs k
  refine bt_ext (fun i => ?_)
  by_cases hi : 3 ≤ i
  · exact ⟨fun q => absurd q (bt8_hi h8 hi), fun q => absurd q (bt8_hi d hi)⟩
  · rcases (by omega : i = 0 ∨ i = 1 ∨ i = 2) with rfl | rfl | rfl
    · rw [h.1, a]
    · rw [h.2.1, b]
    · rw [h.2.2, c]
theorem srtV_0 (hs : Hs) (k : Nat) : srtV hs k = 0 ↔ ¬ HasV hs k := by
  rw [HasV_iff]
  unfold srtV
  by_cases h1 : HasC hs k <;> by_cases h2 : HasP hs k <;> by_cases h3 : HasF hs k <;> simp only [cif_T, cif_F, h1, h2, h3] <;> decide
theorem srtV_4 (hs : Hs) (k : Nat) : srtV hs k = 4 ↔ (¬ HasC hs k ∧ ¬ HasP hs k) ∧ HasF hs k := by
  unfold srtV
  by_cases h1 : HasC hs k <;> by_cases h2 : HasP hs k <;> by_cases h3 : HasF hs k <;> simp only [cif_T, cif_F, h1, h2, h3] <;> decide
theorem srtV_2 (hs : Hs) (k : Nat) : srtV hs k = 2 ↔ (¬ HasC hs k ∧ ¬ HasF hs k) ∧ HasP hs k := by
  unfold srtV
  by_cases h1 : HasC hs k <;> by_cases h2 : HasP hs k <;> by_cases h3 : HasF hs k <;> simp only [cif_T, cif_F, h1, h2, h3] <;> decide
theorem k_sortsOf (G : mx_G) {M : mx_M} {hs : Hs} {n k : Nat} {H S : Nat → Nat} (hw : HsOk hs) (hC : MC M hs n H S) (hk : k < 8) : sOk G m_Mo_sortsOf [.ref 119, .int (nI k)] M (fun r M' => r = some (.int (nI (srtV hs k))) ∧ M' = M) := by
  obtain ⟨hn, c1, c2, c3, c4, c5, c6⟩ := id hC
  have hlen := gat_len H
  have e22 := c3.1
  refine sOk_of ⟨by decide +kernel, by decide +kernel, Nat.le_of_ble_eq_true rfl⟩ ?_
  show sW G m_Mo_sortsOf 0 ([], [some (.ref 119), some (.int (nI k)), none, none], M) _
  refine sW_go b_Mo_sortsOf_0 (st' := ([], [some (.ref 119), some (.int (nI k)), some (.int (nI 0)), some (.int (nI 0))], M)) (φ := True) rfl trivial ?_
  refine mx_ind (α := Nat × Nat) (fun q => (gat H).length - q.1) (fun q => q.1 ≤ (gat H).length → q.2 < 8 → (∀ w, w < 3 → (bt q.2 w = 1 ↔ ∃ i, i < q.1 ∧ bt ((gat H).getD i 0) k = 1 ∧ bt (S ((gat H).getD i 0)) w = 1)) → sW G m_Mo_sortsOf 4 ([], [some (.ref 119), some (.int (nI k)), some (.int (nI q.2)), some (.int (nI q.1))], M) _) ?_ (0, 0) (Nat.zero_le _) (by decide) (fun w _ => ⟨fun q => absurd q (bt_zz w), fun ⟨i, hi, _⟩ => absurd hi (Nat.not_lt_zero i)⟩)
  rintro ⟨i, s⟩ ih hi hs8 hb
  dsimp only at ih hi hs8 hb ⊢
  by_cases hin : i < (gat H).length
  · have e1 := c3.2 i hin
    have hx := gat_at hin
    obtain ⟨x, hxx⟩ : ∃ x, (gat H).getD i 0 = x := ⟨_, rfl⟩
    rw [hxx] at e1 hx
    have e2 := c2 x hx.1
    have hS8 := (c5 x hx.1).1
    refine sW_go b_Mo_sortsOf_4 (st' := ([.int (M 119 22), .int (nI i)], [some (.ref 119), some (.int (nI k)), some (.int (nI s)), some (.int (nI i))], M)) (φ := mx_ocl LAY 119 = 10 ∧ True) rfl ⟨oc_119, trivial⟩ ?_
    refine sW_eq (st' := ([.int (nI (gat H).length), .int (nI i)], [some (.ref 119), some (.int (nI k)), some (.int (nI s)), some (.int (nI i))], M)) (by simp (disch := omega) only [e22]) ?_
    refine sW_ic_ge 49 d_Mo_sortsOf_9 (by decide) (fun c_9 => ?_) (fun c_9 => ?_)
    · skip
      simp (disch := omega) only [nI_leI] at c_9
      omega
    · skip
      simp (disch := omega) only [nI_leI] at c_9
      refine sW_go b_Mo_sortsOf_12 (st' := ([.int (nI k), .int (M 130 (nI i).toNatClampNeg), .int (nI s)], [some (.ref 119), some (.int (nI k)), some (.int (nI s)), some (.int (nI i))], M)) (φ := mx_ocl LAY 119 = 10 ∧ vp_in (nI i) (mx_len LAY false 130) ∧ True) rfl ⟨oc_119, (by simp (disch := omega) only [ln_130]; exact vp_in_nI (by omega) (by decide)), trivial⟩ ?_
      refine sW_eq (st' := ([.int (nI k), .int (nI x), .int (nI s)], [some (.ref 119), some (.int (nI k)), some (.int (nI s)), some (.int (nI i))], M)) (by simp (disch := omega) only [e1, nI_clamp]) ?_
      refine sW_callS [.int (nI x), .int (nI k)] [.int (nI s)] d_Mo_sortsOf_20 c_Mo_sortsOf_20 ⟨rfl, rfl, Nat.le_of_ble_eq_true rfl, rfl, rfl⟩ (k_has G (by omega) (by omega)) ?_
      rintro _ M₁ ⟨rfl, h₁⟩
      rw [h₁]
      show sW G m_Mo_sortsOf 23 ([.int (tf (bt x k = 1)), .int (nI s)], [some (.ref 119), some (.int (nI k)), some (.int (nI s)), some (.int (nI i))], M) _
      refine sW_if_eq 40 d_Mo_sortsOf_23 (by decide) (fun c_23 => ?_) (fun c_23 => ?_)
      · skip
        replace c_23 := tf_z.mp c_23
        refine sW_go b_Mo_sortsOf_40 (st' := ([.int (nI 0), .int (nI s)], [some (.ref 119), some (.int (nI k)), some (.int (nI s)), some (.int (nI i))], M)) (φ := True) rfl trivial ?_
        refine sW_go b_Mo_sortsOf_41 (st' := ([], [some (.ref 119), some (.int (nI k)), some (.int (nI s ||| nI 0)), some (.int (nI i + nI 1))], M)) (φ := True) rfl trivial ?_
        refine sW_eq (st' := ([], [some (.ref 119), some (.int (nI k)), some (.int (nI (s ||| 0))), some (.int (nI (i + 1)))], M)) (by simp (disch := omega) only [nI_add, nx_or]) ?_
        refine sW_goto 4 d_Mo_sortsOf_46 (by decide) ?_
        refine ih (i + 1, s ||| 0) (by dsimp only; omega) (by dsimp only; omega) (by dsimp only; rw [Nat.or_zero]; exact hs8) (fun w hw' => ?_)
        dsimp only
        rw [Nat.or_zero, hb w hw']
        refine ⟨fun ⟨j, a, b⟩ => ⟨j, by omega, b⟩, fun ⟨j, a, b⟩ => ⟨j, ?_, b⟩⟩
        by_cases hj : j = i
        · subst hj; rw [hxx] at b; exact absurd b.1 c_23
        · omega
      · skip
        replace c_23 := tf_nz.mp c_23
        refine sW_go b_Mo_sortsOf_26 (st' := ([.int (M 129 (M 130 (nI i).toNatClampNeg).toNatClampNeg), .int (nI s)], [some (.ref 119), some (.int (nI k)), some (.int (nI s)), some (.int (nI i))], M)) (φ := mx_ocl LAY 119 = 10 ∧ mx_ocl LAY 119 = 10 ∧ vp_in (nI i) (mx_len LAY false 130) ∧ vp_in (M 130 (nI i).toNatClampNeg) (mx_len LAY false 129) ∧ True) rfl ⟨oc_119, oc_119, (by simp (disch := omega) only [ln_130]; exact vp_in_nI (by omega) (by decide)), (by simp (disch := omega) only [e1, nI_clamp, ln_129]; exact vp_in_nI (by omega) (by decide)), trivial⟩ ?_
        refine sW_eq (st' := ([.int (nI (S x)), .int (nI s)], [some (.ref 119), some (.int (nI k)), some (.int (nI s)), some (.int (nI i))], M)) (by simp (disch := omega) only [e1, e2, nI_clamp]) ?_
        refine sW_goto 41 d_Mo_sortsOf_37 (by decide) ?_
        refine sW_go b_Mo_sortsOf_41 (st' := ([], [some (.ref 119), some (.int (nI k)), some (.int (nI s ||| nI (S x))), some (.int (nI i + nI 1))], M)) (φ := True) rfl trivial ?_
        refine sW_eq (st' := ([], [some (.ref 119), some (.int (nI k)), some (.int (nI (s ||| S x))), some (.int (nI (i + 1)))], M)) (by simp (disch := omega) only [nI_add, nx_or]) ?_
        refine sW_goto 4 d_Mo_sortsOf_46 (by decide) ?_
        refine ih (i + 1, s ||| S x) (by dsimp only; omega) (by dsimp only; omega) (or8 hs8 hS8) (fun w hw' => ?_)
        dsimp only
        rw [bt_or, hb w hw']
        constructor
        · rintro (⟨j, a, b⟩ | q)
          · exact ⟨j, by omega, b⟩
          · exact ⟨i, by omega, by rw [hxx]; exact ⟨c_23, q⟩⟩
        · rintro ⟨j, a, b⟩
          by_cases hj : j = i
          · subst hj; rw [hxx] at b; exact Or.inr b.2
          · exact Or.inl ⟨j, by omega, b⟩
  · obtain rfl : i = (gat H).length := by omega
    have hb2 : ∀ w, w < 3 → (bt s w = 1 ↔ ∃ c, c ∈ gat H ∧ bt c k = 1 ∧ bt (S c) w = 1) := fun w hw' => (hb w hw').trans (ex_gat (P := fun c => bt c k = 1 ∧ bt (S c) w = 1))
    have e : s = srtV hs k := srtV_eq hs8 ⟨by
        rw [hb2 0 (by decide)]
        constructor
        · rintro ⟨c, a, b, d⟩
          obtain ⟨i, u, v⟩ := (c5 c (mem_gat.mp a).1).2.1.mp d
          exact ⟨i, u, v ▸ b⟩
        · rintro ⟨i, u, v⟩
          have hm : constCell hs i ∈ gat H := (hC.mem hw _).mpr ((Kw_iff _).mpr (Or.inl ⟨i, u, rfl⟩))
          exact ⟨_, hm, v, (c5 _ (mem_gat.mp hm).1).2.1.mpr ⟨i, u, rfl⟩⟩, by
        rw [hb2 1 (by decide)]
        constructor
        · rintro ⟨c, a, b, d⟩
          obtain ⟨x, y, u, v, z⟩ := (c5 c (mem_gat.mp a).1).2.2.1.mp d
          exact ⟨x, y, u, v, z ▸ b⟩
        · rintro ⟨x, y, u, v, z⟩
          have hm : pairC hs x y ∈ gat H := (hC.mem hw _).mpr ((Kw_iff _).mpr (Or.inr (Or.inl ⟨x, y, u, v, rfl⟩)))
          exact ⟨_, hm, z, (c5 _ (mem_gat.mp hm).1).2.2.1.mpr ⟨x, y, u, v, rfl⟩⟩, by
        rw [hb2 2 (by decide)]
        constructor
        · rintro ⟨c, a, b, d⟩
          obtain ⟨x, u, v⟩ := (c5 c (mem_gat.mp a).1).2.2.2.mp d
          exact ⟨x, u, v ▸ b⟩
        · rintro ⟨x, u, v⟩
          have hm : funC hs x ∈ gat H := (hC.mem hw _).mpr ((Kw_iff _).mpr (Or.inr (Or.inr ⟨x, u, rfl⟩)))
          exact ⟨_, hm, v, (c5 _ (mem_gat.mp hm).1).2.2.2.mpr ⟨x, u, rfl⟩⟩⟩
    refine sW_go b_Mo_sortsOf_4 (st' := ([.int (M 119 22), .int (nI (gat H).length)], [some (.ref 119), some (.int (nI k)), some (.int (nI s)), some (.int (nI (gat H).length))], M)) (φ := mx_ocl LAY 119 = 10 ∧ True) rfl ⟨oc_119, trivial⟩ ?_
    refine sW_eq (st' := ([.int (nI (gat H).length), .int (nI (gat H).length)], [some (.ref 119), some (.int (nI k)), some (.int (nI s)), some (.int (nI (gat H).length))], M)) (by simp (disch := omega) only [e22]) ?_
    refine sW_ic_ge 49 d_Mo_sortsOf_9 (by decide) (fun c_9 => ?_) (fun c_9 => ?_)
    · skip
      simp (disch := omega) only [nI_leI] at c_9
      refine sW_go b_Mo_sortsOf_49 (st' := ([.int (nI s)], [some (.ref 119), some (.int (nI k)), some (.int (nI s)), some (.int (nI (gat H).length))], M)) (φ := True) rfl trivial ?_
      refine sW_retI d_Mo_sortsOf_50 rfl (vp_nar_int _) ?_
      exact ⟨by rw [e], rfl⟩
    · skip
      simp (disch := omega) only [nI_leI] at c_9
      omega
theorem k_isEmpty (G : mx_G) {M : mx_M} {hs : Hs} {n k : Nat} {H S : Nat → Nat} (hw : HsOk hs) (hC : MC M hs n H S) (hk : k < 8) : sOk G m_Mo_isEmpty [.ref 119, .int (nI k)] M (fun r M' => r = some (.int (tf (¬ HasV hs k))) ∧ M' = M) := by
  have h8 := (srtV_bt hs k).2.2.2
  refine sOk_of ⟨by decide +kernel, by decide +kernel, Nat.le_of_ble_eq_true rfl⟩ ?_
  show sW G m_Mo_isEmpty 0 ([], [some (.ref 119), some (.int (nI k))], M) _
  refine sW_go b_Mo_isEmpty_0 (st' := ([.int (nI k), .ref 119], [some (.ref 119), some (.int (nI k))], M)) (φ := True) rfl trivial ?_
  refine sW_callV 10 [.int (nI k)] [] d_Mo_isEmpty_2 c_Mo_isEmpty_2 ⟨rfl, rfl, rfl, Nat.le_of_ble_eq_true rfl, rfl, rfl⟩ oc_119 (k_sortsOf G hw hC hk) ?_
  rintro _ M₁ ⟨rfl, h₁⟩
  rw [h₁]
  show sW G m_Mo_isEmpty 5 ([.int (nI (srtV hs k))], [some (.ref 119), some (.int (nI k))], M) _
  refine sW_if_ne 12 d_Mo_isEmpty_5 (by decide) (fun c_5 => ?_) (fun c_5 => ?_)
  · skip
    simp (disch := omega) only [nI_z] at c_5
    refine sW_go b_Mo_isEmpty_12 (st' := ([.int (nI 0)], [some (.ref 119), some (.int (nI k))], M)) (φ := True) rfl trivial ?_
    refine sW_retI d_Mo_isEmpty_13 rfl nb_0 ?_
    exact ⟨by rw [tf_f (fun q => c_5 ((srtV_0 hs k).mpr q))], rfl⟩
  · skip
    simp (disch := omega) only [nI_z] at c_5
    refine sW_go b_Mo_isEmpty_8 (st' := ([.int (nI 1)], [some (.ref 119), some (.int (nI k))], M)) (φ := True) rfl trivial ?_
    refine sW_goto 13 d_Mo_isEmpty_9 (by decide) ?_
    refine sW_retI d_Mo_isEmpty_13 rfl nb_1 ?_
    exact ⟨by rw [tf_t ((srtV_0 hs k).mp c_5)], rfl⟩
theorem k_liesIn (G : mx_G) {M : mx_M} {hs : Hs} {n a b : Nat} {H S : Nat → Nat} (hw : HsOk hs) (hC : MC M hs n H S) (ha : a < 8) (hb : b < 8) : sOk G m_Mo_liesIn [.ref 119, .int (nI a), .int (nI b)] M (fun r M' => r = some (.int (tf (LiesIn hs a b))) ∧ M' = M) := by
  obtain ⟨hn, c1, c2, c3, c4, c5, c6⟩ := id hC
  have hlen := gat_len H
  have e22 := c3.1
  refine sOk_of ⟨by decide +kernel, by decide +kernel, Nat.le_of_ble_eq_true rfl⟩ ?_
  show sW G m_Mo_liesIn 0 ([], [some (.ref 119), some (.int (nI a)), some (.int (nI b)), none], M) _
  refine sW_go b_Mo_liesIn_0 (st' := ([], [some (.ref 119), some (.int (nI a)), some (.int (nI b)), some (.int (nI 0))], M)) (φ := True) rfl trivial ?_
  refine mx_ind (α := Nat) (fun i => (gat H).length - i) (fun i => i ≤ (gat H).length → (∀ j, j < i → bt ((gat H).getD j 0) a = 1 → bt ((gat H).getD j 0) b = 1) → sW G m_Mo_liesIn 2 ([], [some (.ref 119), some (.int (nI a)), some (.int (nI b)), some (.int (nI i))], M) _) ?_ 0 (Nat.zero_le _) (fun j hj => absurd hj (Nat.not_lt_zero j))
  intro i ih hi hj
  by_cases hin : i < (gat H).length
  · have e1 := c3.2 i hin
    have hx := gat_at hin
    have hxm := getD_mem hin
    obtain ⟨x, hxx⟩ : ∃ x, (gat H).getD i 0 = x := ⟨_, rfl⟩
    rw [hxx] at e1 hx hxm
    have nx : (bt x a = 1 → bt x b = 1) → ∀ j, j < i + 1 → bt ((gat H).getD j 0) a = 1 → bt ((gat H).getD j 0) b = 1 := fun q j hj' => by
      by_cases he : j = i
      · rw [he, hxx]; exact q
      · exact hj j (by omega)
    refine sW_go b_Mo_liesIn_2 (st' := ([.int (M 119 22), .int (nI i)], [some (.ref 119), some (.int (nI a)), some (.int (nI b)), some (.int (nI i))], M)) (φ := mx_ocl LAY 119 = 10 ∧ True) rfl ⟨oc_119, trivial⟩ ?_
    refine sW_eq (st' := ([.int (nI (gat H).length), .int (nI i)], [some (.ref 119), some (.int (nI a)), some (.int (nI b)), some (.int (nI i))], M)) (by simp (disch := omega) only [e22]) ?_
    refine sW_ic_ge 44 d_Mo_liesIn_7 (by decide) (fun c_7 => ?_) (fun c_7 => ?_)
    · skip
      simp (disch := omega) only [nI_leI] at c_7
      omega
    · skip
      simp (disch := omega) only [nI_leI] at c_7
      refine sW_go b_Mo_liesIn_10 (st' := ([.int (nI a), .int (M 130 (nI i).toNatClampNeg)], [some (.ref 119), some (.int (nI a)), some (.int (nI b)), some (.int (nI i))], M)) (φ := mx_ocl LAY 119 = 10 ∧ vp_in (nI i) (mx_len LAY false 130) ∧ True) rfl ⟨oc_119, (by simp (disch := omega) only [ln_130]; exact vp_in_nI (by omega) (by decide)), trivial⟩ ?_
      refine sW_eq (st' := ([.int (nI a), .int (nI x)], [some (.ref 119), some (.int (nI a)), some (.int (nI b)), some (.int (nI i))], M)) (by simp (disch := omega) only [e1, nI_clamp]) ?_
      refine sW_callS [.int (nI x), .int (nI a)] [] d_Mo_liesIn_17 c_Mo_liesIn_17 ⟨rfl, rfl, Nat.le_of_ble_eq_true rfl, rfl, rfl⟩ (k_has G (by omega) (by omega)) ?_
      rintro _ M₁ ⟨rfl, h₁⟩
      rw [h₁]
      show sW G m_Mo_liesIn 20 ([.int (tf (bt x a = 1))], [some (.ref 119), some (.int (nI a)), some (.int (nI b)), some (.int (nI i))], M) _
      refine sW_if_eq 38 d_Mo_liesIn_20 (by decide) (fun c_20 => ?_) (fun c_20 => ?_)
      · skip
        replace c_20 := tf_z.mp c_20
        refine sW_go b_Mo_liesIn_38 (st' := ([], [some (.ref 119), some (.int (nI a)), some (.int (nI b)), some (.int (nI i + nI 1))], M)) (φ := True) rfl trivial ?_
        refine sW_eq (st' := ([], [some (.ref 119), some (.int (nI a)), some (.int (nI b)), some (.int (nI (i + 1)))], M)) (by simp (disch := omega) only [nI_add]) ?_
        refine sW_goto 2 d_Mo_liesIn_41 (by decide) ?_
        exact ih (i + 1) (by omega) (by omega) (nx (fun q => absurd q c_20))
      · skip
        replace c_20 := tf_nz.mp c_20
        refine sW_go b_Mo_liesIn_23 (st' := ([.int (nI b), .int (M 130 (nI i).toNatClampNeg)], [some (.ref 119), some (.int (nI a)), some (.int (nI b)), some (.int (nI i))], M)) (φ := mx_ocl LAY 119 = 10 ∧ vp_in (nI i) (mx_len LAY false 130) ∧ True) rfl ⟨oc_119, (by simp (disch := omega) only [ln_130]; exact vp_in_nI (by omega) (by decide)), trivial⟩ ?_
        refine sW_eq (st' := ([.int (nI b), .int (nI x)], [some (.ref 119), some (.int (nI a)), some (.int (nI b)), some (.int (nI i))], M)) (by simp (disch := omega) only [e1, nI_clamp]) ?_
        refine sW_callS [.int (nI x), .int (nI b)] [] d_Mo_liesIn_30 c_Mo_liesIn_30 ⟨rfl, rfl, Nat.le_of_ble_eq_true rfl, rfl, rfl⟩ (k_has G (by omega) (by omega)) ?_
        rintro _ M₁ ⟨rfl, h₁⟩
        rw [h₁]
        show sW G m_Mo_liesIn 33 ([.int (tf (bt x b = 1))], [some (.ref 119), some (.int (nI a)), some (.int (nI b)), some (.int (nI i))], M) _
        refine sW_if_ne 38 d_Mo_liesIn_33 (by decide) (fun c_33 => ?_) (fun c_33 => ?_)
        · skip
          replace c_33 := tf_nz.mp c_33
          refine sW_go b_Mo_liesIn_38 (st' := ([], [some (.ref 119), some (.int (nI a)), some (.int (nI b)), some (.int (nI i + nI 1))], M)) (φ := True) rfl trivial ?_
          refine sW_eq (st' := ([], [some (.ref 119), some (.int (nI a)), some (.int (nI b)), some (.int (nI (i + 1)))], M)) (by simp (disch := omega) only [nI_add]) ?_
          refine sW_goto 2 d_Mo_liesIn_41 (by decide) ?_
          exact ih (i + 1) (by omega) (by omega) (nx (fun _ => c_33))
        · skip
          replace c_33 := tf_z.mp c_33
          refine sW_go b_Mo_liesIn_36 (st' := ([.int (nI 0)], [some (.ref 119), some (.int (nI a)), some (.int (nI b)), some (.int (nI i))], M)) (φ := True) rfl trivial ?_
          refine sW_retI d_Mo_liesIn_37 rfl nb_0 ?_
          exact ⟨by rw [tf_f (fun q => c_33 (q x ((hC.mem hw x).mp hxm) c_20))], rfl⟩
  · obtain rfl : i = (gat H).length := by omega
    refine sW_go b_Mo_liesIn_2 (st' := ([.int (M 119 22), .int (nI (gat H).length)], [some (.ref 119), some (.int (nI a)), some (.int (nI b)), some (.int (nI (gat H).length))], M)) (φ := mx_ocl LAY 119 = 10 ∧ True) rfl ⟨oc_119, trivial⟩ ?_
    refine sW_eq (st' := ([.int (nI (gat H).length), .int (nI (gat H).length)], [some (.ref 119), some (.int (nI a)), some (.int (nI b)), some (.int (nI (gat H).length))], M)) (by simp (disch := omega) only [e22]) ?_
    refine sW_ic_ge 44 d_Mo_liesIn_7 (by decide) (fun c_7 => ?_) (fun c_7 => ?_)
    · skip
      simp (disch := omega) only [nI_leI] at c_7
      refine sW_go b_Mo_liesIn_44 (st' := ([.int (nI 1)], [some (.ref 119), some (.int (nI a)), some (.int (nI b)), some (.int (nI (gat H).length))], M)) (φ := True) rfl trivial ?_
      refine sW_retI d_Mo_liesIn_45 rfl nb_1 ?_
      have key : LiesIn hs a b := fun s hs1 => by
        obtain ⟨j, j1, j2⟩ := mem_at ((hC.mem hw s).mpr hs1)
        rw [← j2]
        exact hj j j1
      exact ⟨by rw [tf_t key], rfl⟩
    · skip
      simp (disch := omega) only [nI_leI] at c_7
      omega
theorem k_areApart (G : mx_G) {M : mx_M} {hs : Hs} {n a b : Nat} {H S : Nat → Nat} (hw : HsOk hs) (hC : MC M hs n H S) (ha : a < 8) (hb : b < 8) : sOk G m_Mo_areApart [.ref 119, .int (nI a), .int (nI b)] M (fun r M' => r = some (.int (tf (¬ Meets hs a b))) ∧ M' = M) := by
  obtain ⟨hn, c1, c2, c3, c4, c5, c6⟩ := id hC
  have hlen := gat_len H
  have e22 := c3.1
  refine sOk_of ⟨by decide +kernel, by decide +kernel, Nat.le_of_ble_eq_true rfl⟩ ?_
  show sW G m_Mo_areApart 0 ([], [some (.ref 119), some (.int (nI a)), some (.int (nI b)), none], M) _
  refine sW_go b_Mo_areApart_0 (st' := ([], [some (.ref 119), some (.int (nI a)), some (.int (nI b)), some (.int (nI 0))], M)) (φ := True) rfl trivial ?_
  refine mx_ind (α := Nat) (fun i => (gat H).length - i) (fun i => i ≤ (gat H).length → (∀ j, j < i → ¬ (bt ((gat H).getD j 0) a = 1 ∧ bt ((gat H).getD j 0) b = 1)) → sW G m_Mo_areApart 2 ([], [some (.ref 119), some (.int (nI a)), some (.int (nI b)), some (.int (nI i))], M) _) ?_ 0 (Nat.zero_le _) (fun j hj => absurd hj (Nat.not_lt_zero j))
  intro i ih hi hj
  by_cases hin : i < (gat H).length
  · have e1 := c3.2 i hin
    have hx := gat_at hin
    have hxm := getD_mem hin
    obtain ⟨x, hxx⟩ : ∃ x, (gat H).getD i 0 = x := ⟨_, rfl⟩
    rw [hxx] at e1 hx hxm
    have nx : ¬ (bt x a = 1 ∧ bt x b = 1) → ∀ j, j < i + 1 → ¬ (bt ((gat H).getD j 0) a = 1 ∧ bt ((gat H).getD j 0) b = 1) := fun q j hj' => by
      by_cases he : j = i
      · rw [he, hxx]; exact q
      · exact hj j (by omega)
    refine sW_go b_Mo_areApart_2 (st' := ([.int (M 119 22), .int (nI i)], [some (.ref 119), some (.int (nI a)), some (.int (nI b)), some (.int (nI i))], M)) (φ := mx_ocl LAY 119 = 10 ∧ True) rfl ⟨oc_119, trivial⟩ ?_
    refine sW_eq (st' := ([.int (nI (gat H).length), .int (nI i)], [some (.ref 119), some (.int (nI a)), some (.int (nI b)), some (.int (nI i))], M)) (by simp (disch := omega) only [e22]) ?_
    refine sW_ic_ge 44 d_Mo_areApart_7 (by decide) (fun c_7 => ?_) (fun c_7 => ?_)
    · skip
      simp (disch := omega) only [nI_leI] at c_7
      omega
    · skip
      simp (disch := omega) only [nI_leI] at c_7
      refine sW_go b_Mo_areApart_10 (st' := ([.int (nI a), .int (M 130 (nI i).toNatClampNeg)], [some (.ref 119), some (.int (nI a)), some (.int (nI b)), some (.int (nI i))], M)) (φ := mx_ocl LAY 119 = 10 ∧ vp_in (nI i) (mx_len LAY false 130) ∧ True) rfl ⟨oc_119, (by simp (disch := omega) only [ln_130]; exact vp_in_nI (by omega) (by decide)), trivial⟩ ?_
      refine sW_eq (st' := ([.int (nI a), .int (nI x)], [some (.ref 119), some (.int (nI a)), some (.int (nI b)), some (.int (nI i))], M)) (by simp (disch := omega) only [e1, nI_clamp]) ?_
      refine sW_callS [.int (nI x), .int (nI a)] [] d_Mo_areApart_17 c_Mo_areApart_17 ⟨rfl, rfl, Nat.le_of_ble_eq_true rfl, rfl, rfl⟩ (k_has G (by omega) (by omega)) ?_
      rintro _ M₁ ⟨rfl, h₁⟩
      rw [h₁]
      show sW G m_Mo_areApart 20 ([.int (tf (bt x a = 1))], [some (.ref 119), some (.int (nI a)), some (.int (nI b)), some (.int (nI i))], M) _
      refine sW_if_eq 38 d_Mo_areApart_20 (by decide) (fun c_20 => ?_) (fun c_20 => ?_)
      · skip
        replace c_20 := tf_z.mp c_20
        refine sW_go b_Mo_areApart_38 (st' := ([], [some (.ref 119), some (.int (nI a)), some (.int (nI b)), some (.int (nI i + nI 1))], M)) (φ := True) rfl trivial ?_
        refine sW_eq (st' := ([], [some (.ref 119), some (.int (nI a)), some (.int (nI b)), some (.int (nI (i + 1)))], M)) (by simp (disch := omega) only [nI_add]) ?_
        refine sW_goto 2 d_Mo_areApart_41 (by decide) ?_
        exact ih (i + 1) (by omega) (by omega) (nx (fun q => c_20 q.1))
      · skip
        replace c_20 := tf_nz.mp c_20
        refine sW_go b_Mo_areApart_23 (st' := ([.int (nI b), .int (M 130 (nI i).toNatClampNeg)], [some (.ref 119), some (.int (nI a)), some (.int (nI b)), some (.int (nI i))], M)) (φ := mx_ocl LAY 119 = 10 ∧ vp_in (nI i) (mx_len LAY false 130) ∧ True) rfl ⟨oc_119, (by simp (disch := omega) only [ln_130]; exact vp_in_nI (by omega) (by decide)), trivial⟩ ?_
        refine sW_eq (st' := ([.int (nI b), .int (nI x)], [some (.ref 119), some (.int (nI a)), some (.int (nI b)), some (.int (nI i))], M)) (by simp (disch := omega) only [e1, nI_clamp]) ?_
        refine sW_callS [.int (nI x), .int (nI b)] [] d_Mo_areApart_30 c_Mo_areApart_30 ⟨rfl, rfl, Nat.le_of_ble_eq_true rfl, rfl, rfl⟩ (k_has G (by omega) (by omega)) ?_
        rintro _ M₁ ⟨rfl, h₁⟩
        rw [h₁]
        show sW G m_Mo_areApart 33 ([.int (tf (bt x b = 1))], [some (.ref 119), some (.int (nI a)), some (.int (nI b)), some (.int (nI i))], M) _
        refine sW_if_eq 38 d_Mo_areApart_33 (by decide) (fun c_33 => ?_) (fun c_33 => ?_)
        · skip
          replace c_33 := tf_z.mp c_33
          refine sW_go b_Mo_areApart_38 (st' := ([], [some (.ref 119), some (.int (nI a)), some (.int (nI b)), some (.int (nI i + nI 1))], M)) (φ := True) rfl trivial ?_
          refine sW_eq (st' := ([], [some (.ref 119), some (.int (nI a)), some (.int (nI b)), some (.int (nI (i + 1)))], M)) (by simp (disch := omega) only [nI_add]) ?_
          refine sW_goto 2 d_Mo_areApart_41 (by decide) ?_
          exact ih (i + 1) (by omega) (by omega) (nx (fun q => c_33 q.2))
        · skip
          replace c_33 := tf_nz.mp c_33
          refine sW_go b_Mo_areApart_36 (st' := ([.int (nI 0)], [some (.ref 119), some (.int (nI a)), some (.int (nI b)), some (.int (nI i))], M)) (φ := True) rfl trivial ?_
          refine sW_retI d_Mo_areApart_37 rfl nb_0 ?_
          exact ⟨by rw [tf_f (fun q => q ⟨x, (hC.mem hw x).mp hxm, c_20, c_33⟩)], rfl⟩
  · obtain rfl : i = (gat H).length := by omega
    refine sW_go b_Mo_areApart_2 (st' := ([.int (M 119 22), .int (nI (gat H).length)], [some (.ref 119), some (.int (nI a)), some (.int (nI b)), some (.int (nI (gat H).length))], M)) (φ := mx_ocl LAY 119 = 10 ∧ True) rfl ⟨oc_119, trivial⟩ ?_
    refine sW_eq (st' := ([.int (nI (gat H).length), .int (nI (gat H).length)], [some (.ref 119), some (.int (nI a)), some (.int (nI b)), some (.int (nI (gat H).length))], M)) (by simp (disch := omega) only [e22]) ?_
    refine sW_ic_ge 44 d_Mo_areApart_7 (by decide) (fun c_7 => ?_) (fun c_7 => ?_)
    · skip
      simp (disch := omega) only [nI_leI] at c_7
      refine sW_go b_Mo_areApart_44 (st' := ([.int (nI 1)], [some (.ref 119), some (.int (nI a)), some (.int (nI b)), some (.int (nI (gat H).length))], M)) (φ := True) rfl trivial ?_
      refine sW_retI d_Mo_areApart_45 rfl nb_1 ?_
      have key : ¬ Meets hs a b := fun ⟨s, h1, h2⟩ => by
        obtain ⟨j, j1, j2⟩ := mem_at ((hC.mem hw s).mpr h1)
        exact hj j j1 (by rw [j2]; exact h2)
      exact ⟨by rw [tf_t key], rfl⟩
    · skip
      simp (disch := omega) only [nI_leI] at c_7
      omega
theorem k_emptySet (G : mx_G) {M : mx_M} {hs : Hs} {a : Nat} (hl : mx_len LAY false a = 26) (hR : RowAt M a 0 hs) (hw : HsOk hs) (hC : hs.1 ≠ 0 → MCells M hs) : sOk G m_Mo_emptySet [.ref 119, .ref a] M (fun r M' => r = some (.int (nI (empM hs))) ∧ M' = M) := by
  have e0 := hR.n
  have w1 := hw.1
  refine sOk_of ⟨by decide +kernel, by decide +kernel, Nat.le_of_ble_eq_true rfl⟩ ?_
  show sW G m_Mo_emptySet 0 ([], [some (.ref 119), some (.ref a), none, none], M) _
  refine sW_go b_Mo_emptySet_0 (st' := ([], [some (.ref 119), some (.ref a), some (.int (nI 0)), some (.int (nI 0))], M)) (φ := True) rfl trivial ?_
  refine mx_ind (α := Nat) (fun k => hs.1 - k) (fun k => k ≤ hs.1 → sW G m_Mo_emptySet 4 ([], [some (.ref 119), some (.ref a), some (.int (nI (mkN (fun k => ¬ HasV hs k) k))), some (.int (nI k))], M) _) ?_ 0 (Nat.zero_le _)
  intro k ih hk
  have hlt := mkN_lt (fun k => ¬ HasV hs k) (n := k) (by omega)
  by_cases hkn : k < hs.1
  · obtain ⟨n, H, S, hM⟩ := hC (by omega)
    have hM : MC M hs n H S := hM
    have k8 : k < 8 := by omega
    have q1 : nI 1 <<< (nI k &&& 31) = nI (1 * 2 ^ k) := sh_1 k8
    refine sW_go b_Mo_emptySet_4 (st' := ([.int (M a (nI 0).toNatClampNeg), .int (nI k)], [some (.ref 119), some (.ref a), some (.int (nI (mkN (fun k => ¬ HasV hs k) k))), some (.int (nI k))], M)) (φ := vp_in (nI 0) (mx_len LAY false a) ∧ True) rfl ⟨(by simp (disch := omega) only [hl]; exact vp_in_nI (by omega) (by decide)), trivial⟩ ?_
    refine sW_eq (st' := ([.int (nI hs.1), .int (nI k)], [some (.ref 119), some (.ref a), some (.int (nI (mkN (fun k => ¬ HasV hs k) k))), some (.int (nI k))], M)) (by simp (disch := omega) only [e0, nI_clamp]) ?_
    refine sW_ic_ge 35 d_Mo_emptySet_8 (by decide) (fun c_8 => ?_) (fun c_8 => ?_)
    · skip
      simp (disch := omega) only [nI_leI] at c_8
      omega
    · skip
      simp (disch := omega) only [nI_leI] at c_8
      refine sW_go b_Mo_emptySet_11 (st' := ([.int (nI k), .ref 119, .int (nI (mkN (fun k => ¬ HasV hs k) k))], [some (.ref 119), some (.ref a), some (.int (nI (mkN (fun k => ¬ HasV hs k) k))), some (.int (nI k))], M)) (φ := True) rfl trivial ?_
      refine sW_callV 10 [.int (nI k)] [.int (nI (mkN (fun k => ¬ HasV hs k) k))] d_Mo_emptySet_14 c_Mo_emptySet_14 ⟨rfl, rfl, rfl, Nat.le_of_ble_eq_true rfl, rfl, rfl⟩ oc_119 (k_isEmpty G hw hM k8) ?_
      rintro _ M₁ ⟨rfl, h₁⟩
      rw [h₁]
      show sW G m_Mo_emptySet 17 ([.int (tf (¬ HasV hs k)), .int (nI (mkN (fun k => ¬ HasV hs k) k))], [some (.ref 119), some (.ref a), some (.int (nI (mkN (fun k => ¬ HasV hs k) k))), some (.int (nI k))], M) _
      refine sW_if_eq 26 d_Mo_emptySet_17 (by decide) (fun c_17 => ?_) (fun c_17 => ?_)
      · skip
        replace c_17 := tf_z.mp c_17
        refine sW_go b_Mo_emptySet_26 (st' := ([.int (nI 0), .int (nI (mkN (fun k => ¬ HasV hs k) k))], [some (.ref 119), some (.ref a), some (.int (nI (mkN (fun k => ¬ HasV hs k) k))), some (.int (nI k))], M)) (φ := True) rfl trivial ?_
        refine sW_go b_Mo_emptySet_27 (st' := ([], [some (.ref 119), some (.ref a), some (.int (nI (mkN (fun k => ¬ HasV hs k) k) ||| nI 0)), some (.int (nI k + nI 1))], M)) (φ := True) rfl trivial ?_
        refine sW_eq (st' := ([], [some (.ref 119), some (.ref a), some (.int (nI (mkN (fun k => ¬ HasV hs k) k ||| 0))), some (.int (nI (k + 1)))], M)) (by simp (disch := omega) only [nI_add, nx_or]) ?_
        refine sW_goto 4 d_Mo_emptySet_32 (by decide) ?_
        rw [mkN_0 (P := fun k => ¬ HasV hs k) c_17]; exact ih (k + 1) (by omega) (by omega)
      · skip
        replace c_17 := tf_nz.mp c_17
        refine sW_go b_Mo_emptySet_20 (st' := ([.int (nI 1 <<< (nI k &&& 31)), .int (nI (mkN (fun k => ¬ HasV hs k) k))], [some (.ref 119), some (.ref a), some (.int (nI (mkN (fun k => ¬ HasV hs k) k))), some (.int (nI k))], M)) (φ := True) rfl trivial ?_
        refine sW_eq (st' := ([.int (nI (1 * 2 ^ k)), .int (nI (mkN (fun k => ¬ HasV hs k) k))], [some (.ref 119), some (.ref a), some (.int (nI (mkN (fun k => ¬ HasV hs k) k))), some (.int (nI k))], M)) (by simp (disch := omega) only [q1]) ?_
        refine sW_goto 27 d_Mo_emptySet_23 (by decide) ?_
        refine sW_go b_Mo_emptySet_27 (st' := ([], [some (.ref 119), some (.ref a), some (.int (nI (mkN (fun k => ¬ HasV hs k) k) ||| nI (1 * 2 ^ k))), some (.int (nI k + nI 1))], M)) (φ := True) rfl trivial ?_
        refine sW_eq (st' := ([], [some (.ref 119), some (.ref a), some (.int (nI (mkN (fun k => ¬ HasV hs k) k ||| (1 * 2 ^ k)))), some (.int (nI (k + 1)))], M)) (by simp (disch := omega) only [nI_add, nx_or]) ?_
        refine sW_goto 4 d_Mo_emptySet_32 (by decide) ?_
        rw [mkN_1 (P := fun k => ¬ HasV hs k) c_17]; exact ih (k + 1) (by omega) (by omega)
  · have hke : k = hs.1 := by omega
    subst hke
    refine sW_go b_Mo_emptySet_4 (st' := ([.int (M a (nI 0).toNatClampNeg), .int (nI hs.1)], [some (.ref 119), some (.ref a), some (.int (nI (mkN (fun k => ¬ HasV hs k) hs.1))), some (.int (nI hs.1))], M)) (φ := vp_in (nI 0) (mx_len LAY false a) ∧ True) rfl ⟨(by simp (disch := omega) only [hl]; exact vp_in_nI (by omega) (by decide)), trivial⟩ ?_
    refine sW_eq (st' := ([.int (nI hs.1), .int (nI hs.1)], [some (.ref 119), some (.ref a), some (.int (nI (mkN (fun k => ¬ HasV hs k) hs.1))), some (.int (nI hs.1))], M)) (by simp (disch := omega) only [e0, nI_clamp]) ?_
    refine sW_ic_ge 35 d_Mo_emptySet_8 (by decide) (fun c_8 => ?_) (fun c_8 => ?_)
    · skip
      simp (disch := omega) only [nI_leI] at c_8
      refine sW_go b_Mo_emptySet_35 (st' := ([.int (nI (mkN (fun k => ¬ HasV hs k) hs.1))], [some (.ref 119), some (.ref a), some (.int (nI (mkN (fun k => ¬ HasV hs k) hs.1))), some (.int (nI hs.1))], M)) (φ := True) rfl trivial ?_
      refine sW_retI d_Mo_emptySet_36 rfl (vp_nar_int _) ?_
      exact ⟨by rw [mkN_8 w1]; rfl, rfl⟩
    · skip
      simp (disch := omega) only [nI_leI] at c_8
      omega

