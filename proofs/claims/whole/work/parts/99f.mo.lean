/-! ===== the model: answers, askable, ends ===== -/
theorem k_isMarked (G : mx_G) {M : mx_M} {hs : Hs} {f : Nat} {J : Nat → Prop} (hR : RowAt M 123 0 hs) (hw : WHs hs) (hJ : BolAt M 132 J) (hf : f < 8) : sOk G m_Mo_isMarked [.ref 119, .int (nI f)] M (fun r M' => r = some (.int (tf (∃ v, v < 256 ∧ J (v + 256) ∧ bt (funC hs v) f = 1))) ∧ M' = M) := by
  refine sOk_of ⟨by decide +kernel, by decide +kernel, Nat.le_of_ble_eq_true rfl⟩ ?_
  show sW G m_Mo_isMarked 0 ([], [some (.ref 119), some (.int (nI f)), none], M) _
  refine sW_go b_Mo_isMarked_0 (st' := ([], [some (.ref 119), some (.int (nI f)), some (.int (nI 0))], M)) (φ := True) rfl trivial ?_
  refine mx_ind (α := Nat) (fun v => 256 - v) (fun v => v ≤ 256 → (∀ u, u < v → ¬ (J (u + 256) ∧ bt (funC hs u) f = 1)) → sW G m_Mo_isMarked 2 ([], [some (.ref 119), some (.int (nI f)), some (.int (nI v))], M) _) ?_ 0 (Nat.zero_le _) (fun u hu => absurd hu (Nat.not_lt_zero u))
  intro v ih hv hn
  by_cases hvn : v < 256
  · have e1 := hJ (v + 256) (by omega)
    have hfc := funC_lt hw.1 v
    have nx : ¬ (J (v + 256) ∧ bt (funC hs v) f = 1) → ∀ u, u < v + 1 → ¬ (J (u + 256) ∧ bt (funC hs u) f = 1) := fun q u hu => by
      by_cases hx : u = v
      · rw [hx]; exact q
      · exact hn u (by omega)
    refine sW_go b_Mo_isMarked_2 (st' := ([.int (nI 256), .int (nI v)], [some (.ref 119), some (.int (nI f)), some (.int (nI v))], M)) (φ := True) rfl trivial ?_
    refine sW_ic_ge 45 d_Mo_isMarked_6 (by decide) (fun c_6 => ?_) (fun c_6 => ?_)
    · skip
      simp (disch := omega) only [nI_leI] at c_6
      omega
    · skip
      simp (disch := omega) only [nI_leI] at c_6
      refine sW_go b_Mo_isMarked_9 (st' := ([.int (M 132 (nI v + nI 256).toNatClampNeg)], [some (.ref 119), some (.int (nI f)), some (.int (nI v))], M)) (φ := mx_ocl LAY 119 = 10 ∧ vp_in (nI v + nI 256) (mx_len LAY true 132) ∧ True) rfl ⟨oc_119, (by simp (disch := omega) only [nI_add, ln_132]; exact vp_in_nI (by omega) (by decide)), trivial⟩ ?_
      refine sW_eq (st' := ([.int (tf (J (v + 256)))], [some (.ref 119), some (.int (nI f)), some (.int (nI v))], M)) (by simp (disch := omega) only [e1, nI_add, nI_clamp]) ?_
      refine sW_if_eq 39 d_Mo_isMarked_19 (by decide) (fun c_19 => ?_) (fun c_19 => ?_)
      · skip
        replace c_19 := tf_z.mp c_19
        refine sW_go b_Mo_isMarked_39 (st' := ([], [some (.ref 119), some (.int (nI f)), some (.int (nI v + nI 1))], M)) (φ := True) rfl trivial ?_
        refine sW_eq (st' := ([], [some (.ref 119), some (.int (nI f)), some (.int (nI (v + 1)))], M)) (by simp (disch := omega) only [nI_add]) ?_
        refine sW_goto 2 d_Mo_isMarked_42 (by decide) ?_
        exact ih (v + 1) (by omega) (by omega) (nx (fun q => c_19 q.1))
      · skip
        replace c_19 := tf_nz.mp c_19
        refine sW_go b_Mo_isMarked_22 (st' := ([.int (nI v), .ref 123], [some (.ref 119), some (.int (nI f)), some (.int (nI v))], M)) (φ := mx_ocl LAY 119 = 10 ∧ True) rfl ⟨oc_119, trivial⟩ ?_
        refine sW_callS [.ref 123, .int (nI v)] [] d_Mo_isMarked_27 c_Mo_isMarked_27 ⟨rfl, rfl, Nat.le_of_ble_eq_true rfl, rfl, rfl⟩ (k_mfun G ln_123 hR hw hvn) ?_
        rintro _ M₁ ⟨rfl, h₁⟩
        rw [h₁]
        show sW G m_Mo_isMarked 30 ([.int (nI (funC hs v))], [some (.ref 119), some (.int (nI f)), some (.int (nI v))], M) _
        refine sW_go b_Mo_isMarked_30 (st' := ([.int (nI f), .int (nI (funC hs v))], [some (.ref 119), some (.int (nI f)), some (.int (nI v))], M)) (φ := True) rfl trivial ?_
        refine sW_callS [.int (nI (funC hs v)), .int (nI f)] [] d_Mo_isMarked_31 c_Mo_isMarked_31 ⟨rfl, rfl, Nat.le_of_ble_eq_true rfl, rfl, rfl⟩ (k_has G (by omega) (by omega)) ?_
        rintro _ M₁ ⟨rfl, h₁⟩
        rw [h₁]
        show sW G m_Mo_isMarked 34 ([.int (tf (bt (funC hs v) f = 1))], [some (.ref 119), some (.int (nI f)), some (.int (nI v))], M) _
        refine sW_if_eq 39 d_Mo_isMarked_34 (by decide) (fun c_34 => ?_) (fun c_34 => ?_)
        · skip
          replace c_34 := tf_z.mp c_34
          refine sW_go b_Mo_isMarked_39 (st' := ([], [some (.ref 119), some (.int (nI f)), some (.int (nI v + nI 1))], M)) (φ := True) rfl trivial ?_
          refine sW_eq (st' := ([], [some (.ref 119), some (.int (nI f)), some (.int (nI (v + 1)))], M)) (by simp (disch := omega) only [nI_add]) ?_
          refine sW_goto 2 d_Mo_isMarked_42 (by decide) ?_
          exact ih (v + 1) (by omega) (by omega) (nx (fun q => c_34 q.2))
        · skip
          replace c_34 := tf_nz.mp c_34
          refine sW_go b_Mo_isMarked_37 (st' := ([.int (nI 1)], [some (.ref 119), some (.int (nI f)), some (.int (nI v))], M)) (φ := True) rfl trivial ?_
          refine sW_retI d_Mo_isMarked_38 rfl nb_1 ?_
          exact ⟨by rw [tf_t ⟨v, hvn, c_19, c_34⟩], rfl⟩
  · obtain rfl : v = 256 := by omega
    refine sW_go b_Mo_isMarked_2 (st' := ([.int (nI 256), .int (nI 256)], [some (.ref 119), some (.int (nI f)), some (.int (nI 256))], M)) (φ := True) rfl trivial ?_
    refine sW_ic_ge 45 d_Mo_isMarked_6 (by decide) (fun c_6 => ?_) (fun c_6 => ?_)
    · skip
      simp (disch := omega) only [nI_leI] at c_6
      refine sW_go b_Mo_isMarked_45 (st' := ([.int (nI 0)], [some (.ref 119), some (.int (nI f)), some (.int (nI 256))], M)) (φ := True) rfl trivial ?_
      refine sW_retI d_Mo_isMarked_46 rfl nb_0 ?_
      exact ⟨by rw [tf_f (fun ⟨u, h1, h2⟩ => hn u h1 h2)], rfl⟩
    · skip
      exact absurd (by decide +kernel) c_6
theorem joinl_bt (k : Nat) : ∀ l : List Nat, bt (joinl l) k = 1 ↔ ∃ t, t ∈ l ∧ bt t k = 1
  | [] => ⟨fun q => absurd q (bt_zz k), fun ⟨t, h, _⟩ => by simp at h⟩
  | a :: l => by
    show bt (a ||| joinl l) k = 1 ↔ _
    rw [bt_or, joinl_bt k l]
    constructor
    · rintro (q | ⟨t, q1, q2⟩)
      · exact ⟨a, List.mem_cons_self, q⟩
      · exact ⟨t, List.mem_cons_of_mem _ q1, q2⟩
    · rintro ⟨t, q1, q2⟩
      rcases List.mem_cons.mp q1 with rfl | q1
      · exact Or.inl q2
      · exact Or.inr ⟨t, q1, q2⟩
theorem bt_add {v k : Nat} (hv : v < 256) : bt (v + 256) k = 1 ↔ bt v k = 1 ∨ k = 8 := by
  have e : v + 256 = v ||| 2 ^ 8 := by
    rw [Nat.or_comm, ← Nat.two_pow_add_eq_or_of_lt (i := 8) (by omega) 1]
    omega
  rw [e, bt_or, bt_2p]
theorem bt_mod (t k : Nat) : bt (t % 256) k = 1 ↔ k < 8 ∧ bt t k = 1 := by
  have h : (t % 2 ^ 8).testBit k = (decide (k < 8) && t.testBit k) := Nat.testBit_mod_two_pow t 8 k
  rw [bt_tb, bt_tb] at h
  have h2 : (256 : Nat) = 2 ^ 8 := rfl
  rw [h2]
  by_cases hk : k < 8
  · rw [decide_eq_true hk, Bool.true_and] at h
    have := decide_eq_decide.mp h
    exact ⟨fun q => ⟨hk, this.mp q⟩, fun q => this.mpr q.2⟩
  · rw [decide_eq_false hk, Bool.false_and] at h
    have := of_decide_eq_false h
    exact ⟨fun q => absurd q this, fun q => absurd q.1 hk⟩
theorem cif256 (P : Prop) : (cif P 256 0 : Nat) = 256 ∧ P ∨ (cif P 256 0 : Nat) = 0 ∧ ¬ P := by
  by_cases h : P
  · exact Or.inl ⟨cif_t h, h⟩
  · exact Or.inr ⟨cif_f h, h⟩
/-- a case, and whether it is marked -/
theorem cs_el {hs : Hs} (hw : HsOk hs) {fr : Nat} {mk : Nat → Prop} {u : Nat} (h : csT hs fr mk u) : Tk hs (Kw hs) (u % 256) ∧ (bt u 8 = 1 → ∃ x, Kw hs x ∧ bt x fr = 1 ∧ (u % 256 = L2 hs x ∨ ∃ y, Kw hs y ∧ mk y ∧ u % 256 = andn (L2 hs x) (R2 hs y))) ∧ u < 512 := by
  obtain ⟨x, hx, hu⟩ := h
  have h1 := L2_lt hw x
  rcases hu with rfl | ⟨y, hy, rfl⟩
  · rcases cif256 (bt x fr = 1) with ⟨e, q⟩ | ⟨e, q⟩
    · rw [e, Nat.add_mod_right, Nat.mod_eq_of_lt h1]
      exact ⟨⟨x, hx, Or.inl rfl⟩, fun _ => ⟨x, hx, q, Or.inl rfl⟩, by omega⟩
    · rw [e, Nat.add_zero, Nat.mod_eq_of_lt h1]
      exact ⟨⟨x, hx, Or.inl rfl⟩, fun z => absurd z (bt_hi h1 (Nat.le_refl _)), by omega⟩
  · have h2 : andn (L2 hs x) (R2 hs y) < 256 := Nat.lt_of_le_of_lt (andn_le _ _) h1
    rcases cif256 (bt x fr = 1 ∧ mk y) with ⟨e, q⟩ | ⟨e, q⟩
    · rw [e, Nat.add_mod_right, Nat.mod_eq_of_lt h2]
      exact ⟨⟨x, hx, Or.inr ⟨y, hy, rfl⟩⟩, fun _ => ⟨x, hx, q.1, Or.inr ⟨y, hy, q.2, rfl⟩⟩, by omega⟩
    · rw [e, Nat.add_zero, Nat.mod_eq_of_lt h2]
      exact ⟨⟨x, hx, Or.inr ⟨y, hy, rfl⟩⟩, fun z => absurd z (bt_hi h2 (Nat.le_refl _)), by omega⟩
theorem or_mod (a b : Nat) : (a ||| b) % 256 = a % 256 ||| b % 256 := bt_ext (fun k => by
  rw [bt_mod, bt_or, bt_or, bt_mod, bt_mod]
  exact ⟨fun q => q.2.imp (fun z => ⟨q.1, z⟩) (fun z => ⟨q.1, z⟩), fun q => q.elim (fun z => ⟨z.1, Or.inl z.2⟩) (fun z => ⟨z.1, Or.inr z.2⟩)⟩)
theorem cs_lift {hs : Hs} (hw : HsOk hs) {fr : Nat} {mk : Nat → Prop} {v : Nat} (h : Jn (Tk hs (Kw hs)) v) : ∃ v', Jn (csT hs fr mk) v' ∧ v' % 256 = v ∧ v' < 512 := by
  obtain ⟨l, h1, rfl⟩ := h
  induction l with
  | nil => exact ⟨0, Jn_0, rfl, by decide⟩
  | cons t l ih =>
    obtain ⟨v', a1, a2, a3⟩ := ih (fun u hu => h1 u (List.mem_cons_of_mem _ hu))
    have ht : ∃ u, csT hs fr mk u ∧ u % 256 = t ∧ u < 512 := by
      obtain ⟨x, hx, e | ⟨y, hy, e⟩⟩ := h1 t List.mem_cons_self
      · have h2 := L2_lt hw x
        refine ⟨_, ⟨x, hx, Or.inl rfl⟩, ?_, ?_⟩ <;> rcases cif256 (bt x fr = 1) with ⟨e2, q⟩ | ⟨e2, q⟩ <;> rw [e2] <;> omega
      · have h2 : andn (L2 hs x) (R2 hs y) < 256 := Nat.lt_of_le_of_lt (andn_le _ _) (L2_lt hw x)
        refine ⟨_, ⟨x, hx, Or.inr ⟨y, hy, rfl⟩⟩, ?_, ?_⟩ <;> rcases cif256 (bt x fr = 1 ∧ mk y) with ⟨e2, q⟩ | ⟨e2, q⟩ <;> rw [e2] <;> omega
    obtain ⟨u, b1, b2, b3⟩ := ht
    exact ⟨u ||| v', Jn_or (Jn_1 b1) a1, by rw [or_mod, a2, b2]; rfl, or512 b3 a3⟩
/-- some function of f has a marked case -/
theorem mark_iff {hs : Hs} (hw : HsOk hs) {fr f : Nat} {mk : Nat → Prop} : (∃ v, v < 256 ∧ Jn (csT hs fr mk) (v + 256) ∧ bt (funC hs v) f = 1) ↔ ∃ x, Kw hs x ∧ bt x fr = 1 ∧ (Open hs f (L2 hs x) ∨ ∃ y, Kw hs y ∧ mk y ∧ Open hs f (andn (L2 hs x) (R2 hs y))) := by
  constructor
  · rintro ⟨v, hv, ⟨l, h1, h2⟩, h3⟩
    have hjv : Jn (Tk hs (Kw hs)) v := by
      refine ⟨l.map (fun t => t % 256), fun t ht => ?_, bt_ext (fun k => ?_)⟩
      · obtain ⟨u, a, b⟩ := List.mem_map.mp ht
        rw [← b]
        exact (cs_el hw (h1 u a)).1
      · rw [joinl_bt]
        constructor
        · intro q
          have hk : k < 8 := Classical.byContradiction (fun z => bt_hi hv (by omega) q)
          have q2 : bt (v + 256) k = 1 := (bt_add hv).mpr (Or.inl q)
          rw [h2, joinl_bt] at q2
          obtain ⟨t, a, b⟩ := q2
          exact ⟨t % 256, List.mem_map.mpr ⟨t, a, rfl⟩, (bt_mod t k).mpr ⟨hk, b⟩⟩
        · rintro ⟨t, a, b⟩
          obtain ⟨u, c, d⟩ := List.mem_map.mp a
          rw [← d, bt_mod] at b
          have q2 : bt (v + 256) k = 1 := by rw [h2, joinl_bt]; exact ⟨u, c, b.2⟩
          exact ((bt_add hv).mp q2).elim id (fun z => absurd z (by omega))
    have h8 : bt (v + 256) 8 = 1 := (bt_add hv).mpr (Or.inr rfl)
    rw [h2, joinl_bt] at h8
    obtain ⟨u, a, b⟩ := h8
    obtain ⟨_, c2, _⟩ := cs_el hw (h1 u a)
    obtain ⟨x, d1, d2, d3⟩ := c2 b
    have hsub : sub (u % 256) v := fun i hi => by
      rw [bt_mod] at hi
      have q2 : bt (v + 256) i = 1 := by rw [h2, joinl_bt]; exact ⟨u, a, hi.2⟩
      exact ((bt_add hv).mp q2).elim id (fun z => absurd z (by omega))
    have hop : Open hs f (u % 256) := ⟨v, hjv, h3, hsub⟩
    refine ⟨x, d1, d2, ?_⟩
    rcases d3 with e | ⟨y, e1, e2, e3⟩
    · exact Or.inl (e ▸ hop)
    · exact Or.inr ⟨y, e1, e2, e3 ▸ hop⟩
  · rintro ⟨x, h1, h2, h3⟩
    have key : ∀ w, w < 256 → csT hs fr mk (w + 256) → Open hs f w → ∃ v, v < 256 ∧ Jn (csT hs fr mk) (v + 256) ∧ bt (funC hs v) f = 1 := fun w hw1 hcs ⟨v, a1, a2, a3⟩ => by
      obtain ⟨v', b1, b2, b3⟩ := cs_lift hw (fr := fr) (mk := mk) a1
      have hv := Jn_lt hw a1
      refine ⟨v, hv, ?_, a2⟩
      have e : v + 256 = v' ||| (w + 256) := by
        have e1 : (v' ||| (w + 256)) % 256 = v := by
          rw [or_mod, b2, Nat.add_mod_right, Nat.mod_eq_of_lt hw1, Nat.or_comm]
          exact sub_or a3
        have e2 := or512 b3 (show w + 256 < 512 by omega)
        have e3 : w + 256 ≤ v' ||| (w + 256) := Nat.right_le_or
        omega
      rw [e]
      exact Jn_or b1 (Jn_1 hcs)
    rcases h3 with h3 | ⟨y, y1, y2, y3⟩
    · exact key (L2 hs x) (L2_lt hw x) ⟨x, h1, Or.inl (by rw [cif_t h2])⟩ h3
    · exact key (andn (L2 hs x) (R2 hs y)) (Nat.lt_of_le_of_lt (andn_le _ _) (L2_lt hw x)) ⟨x, h1, Or.inr ⟨y, y1, by rw [cif_t ⟨h2, y2⟩]⟩⟩ y3
theorem Open_F {hs : Hs} {f s : Nat} (h : Open hs f s) : HasF hs f := by
  obtain ⟨v, a, b, _⟩ := h
  exact ⟨v, a, b⟩
theorem all8 {n : Nat} (hn : n ≤ 8) : 2 ^ n - 1 < 256 := by
  have := p8 hn
  omega
theorem answ_e {hs : Hs} (hw : HsOk hs) {f a : Nat} (h : ¬ HasV hs f) : 2 ^ hs.1 - 1 = answM hs f a := by
  rw [HasV_iff] at h
  refine mk8_of (all8 hw.1) (fun t _ => ?_)
  rw [bt_all]
  refine ⟨fun q => ⟨q, fun z => h (Or.inl z), fun z => h (Or.inr (Or.inl z)), fun x _ _ => ?_⟩, fun q => q.1⟩
  unfold fromM
  rw [mk8_bt]
  exact ⟨by have := hw.1; omega, q, fun z => h (Or.inr (Or.inr (Open_F z))), fun y _ z => absurd (Open_F z) (fun z => h (Or.inr (Or.inr z)))⟩
theorem ask_e {hs : Hs} (hw : HsOk hs) {f : Nat} (h : ¬ HasV hs f) : 2 ^ hs.1 - 1 = askM hs f := by
  rw [HasV_iff] at h
  refine mk8_of (all8 hw.1) (fun t _ => ?_)
  rw [bt_all]
  exact ⟨fun q => ⟨q, fun z => h (Or.inl z), fun z => h (Or.inr (Or.inl z)), fun x _ _ z => h (Or.inr (Or.inr (Open_F z)))⟩, fun q => q.1⟩
theorem end_e {hs : Hs} (hw : HsOk hs) {f sd : Nat} (h : ¬ HasV hs f) : 2 ^ hs.1 - 1 = endM hs f sd := by
  rw [HasV_iff] at h
  refine mk8_of (all8 hw.1) (fun t _ => ?_)
  rw [bt_all]
  exact ⟨fun q => ⟨q, fun z => h (Or.inl z), fun z => h (Or.inr (Or.inr z)), fun x y h1 h2 h3 => absurd (⟨x, y, h1, h2, h3⟩ : HasP hs f) (fun z => h (Or.inr (Or.inl z)))⟩, fun q => q.1⟩
theorem mk8_0 {P : Nat → Prop} (h : ∀ k, ¬ P k) : mk8 P = 0 := (mk8_of (by decide) (fun k _ => ⟨fun q => absurd q (bt_zz k), fun q => absurd q (h k)⟩)).symm
def answP (hs : Hs) (f a t : Nat) : Prop := ¬ ∃ v, v < 256 ∧ Jn (csT hs a (fun y => ¬ bt y t = 1)) (v + 256) ∧ bt (funC hs v) f = 1
def askP (hs : Hs) (f a : Nat) : Prop := ¬ ∃ v, v < 256 ∧ Jn (csT hs a (fun _ => False)) (v + 256) ∧ bt (funC hs v) f = 1
theorem answ_4 {hs : Hs} (hw : HsOk hs) {f a : Nat} (h1 : ¬ HasC hs f) (h2 : ¬ HasP hs f) : mkN (answP hs f a) hs.1 = answM hs f a := by
  rw [mkN_8 hw.1]
  refine mk8_congr (fun t ht => ?_)
  unfold answP
  rw [mark_iff hw]
  constructor
  · rintro ⟨q1, q2⟩
    refine ⟨q1, h1, h2, fun x hx hxa => ?_⟩
    unfold fromM
    rw [mk8_bt]
    exact ⟨ht, q1, fun z => q2 ⟨x, hx, hxa, Or.inl z⟩, fun y hy z => Classical.byContradiction (fun w => q2 ⟨x, hx, hxa, Or.inr ⟨y, hy, w, z⟩⟩)⟩
  · rintro ⟨q1, _, _, q2⟩
    refine ⟨q1, fun ⟨x, hx, hxa, q3⟩ => ?_⟩
    have q4 := q2 x hx hxa
    unfold fromM at q4
    rw [mk8_bt] at q4
    rcases q3 with q3 | ⟨y, y1, y2, y3⟩
    · exact q4.2.2.1 q3
    · exact y2 (q4.2.2.2 y y1 y3)
theorem ask_4 {hs : Hs} (hw : HsOk hs) {f : Nat} (h1 : ¬ HasC hs f) (h2 : ¬ HasP hs f) : mkN (askP hs f) hs.1 = askM hs f := by
  rw [mkN_8 hw.1]
  refine mk8_congr (fun t ht => ?_)
  unfold askP
  rw [mark_iff hw]
  constructor
  · rintro ⟨q1, q2⟩
    exact ⟨q1, h1, h2, fun x hx hxa z => q2 ⟨x, hx, hxa, Or.inl z⟩⟩
  · rintro ⟨q1, _, _, q2⟩
    refine ⟨q1, fun ⟨x, hx, hxa, q3⟩ => ?_⟩
    rcases q3 with q3 | ⟨y, _, y2, _⟩
    · exact q2 x hx hxa q3
    · exact y2
theorem MC.cs {M M' : mx_M} {hs : Hs} {n : Nat} {H S : Nat → Nat} (h : MC M hs n H S) (f : MFr M M' [131, 132] []) : MC M' hs n H S := ⟨h.1, h.2.1.eq (f.1 128 (by decide) (by decide)), h.2.2.1.eq (f.1 129 (by decide) (by decide)), h.2.2.2.1.eq (f.2 22 (by decide)) (f.1 130 (by decide) (by decide)), h.2.2.2.2⟩

