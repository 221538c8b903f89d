/-! ===== the steady machine: all cells are made ===== -/
def sQ (Q : Option Value → mx_M → Prop) : mx_Q := fun r Λ M => Λ = LAY ∧ Q r M
def sW (G : mx_G) (m : MR) (pc : Nat) (st : mx_St) (Q : Option Value → mx_M → Prop) : Prop := mx_W G m pc st LAY 0 0 (sQ Q)
def sOk (G : mx_G) (m : MR) (as : List Value) (M : mx_M) (Q : Option Value → mx_M → Prop) : Prop := mx_Ok G m as LAY M (sQ Q)
section SW
variable {m : MR} {G : mx_G} {pc : Nat} {s : List Value} {l : List (Option Value)} {M : mx_M} {st : mx_St} {Q : Option Value → mx_M → Prop}
theorem sW_go {ops : List mx_Op} {pc' : Nat} (hck : mx_ck m pc ops = some pc') {st' : mx_St} {φ : Prop} (hb : mx_blk (mx_L G) LAY ops st = some (st', φ)) (hφ : φ) (k : sW G m pc' st' Q) : sW G m pc st Q := mx_go hck hb hφ k
theorem sW_eq {st' : mx_St} (h : st = st') (k : sW G m pc st' Q) : sW G m pc st Q := h ▸ k
theorem sOk_of {as : List Value} (hp : plainName m.1.cls = true ∧ m.1.cls ≠ "TypeSetsLaw" ∧ (mx_lay as).length ≤ m.2.2.1) (h : sW G m 0 ([], mx_entry as m.2.2.1, M) Q) : sOk G m as M Q := mx_ok_of hp.1 hp.2.1 hp.2.2 h
theorem sOk_mono {as : List Value} {Q' : Option Value → mx_M → Prop} (h : sOk G m as M Q') (hq : ∀ r M', Q' r M' → Q r M') : sOk G m as M Q := by
  intro l p e ha hc hk s0 mid args below hf hh hP hK
  obtain ⟨k, o, h1, h2, h3, ⟨⟨r, Λ', M', ho, ⟨hΛ, hQ⟩, hR⟩, hF⟩, hL⟩ := h l p e ha hc hk s0 mid args below hf hh hP hK
  exact ⟨k, o, h1, h2, h3, ⟨⟨r, Λ', M', ho, ⟨hΛ, hq r M' hQ⟩, hR⟩, hF⟩, hL⟩
theorem sW_if_eq {x : Int32} {off : Int} (tgt : Nat) (hd : decode m.2.1 pc = .ok (.ifCond .eq off, 3)) (ht : (pc : Int) + off = (tgt : Int)) (kt : x = 0 → sW G m tgt (s, l, M) Q) (kf : ¬ x = 0 → sW G m (pc + 3) (s, l, M) Q) : sW G m pc (.int x :: s, l, M) Q := mx_if_eq hd ht kt kf
theorem sW_ic_eq {x y : Int32} {off : Int} (tgt : Nat) (hd : decode m.2.1 pc = .ok (.if_icmp .eq off, 3)) (ht : (pc : Int) + off = (tgt : Int)) (kt : x = y → sW G m tgt (s, l, M) Q) (kf : ¬ x = y → sW G m (pc + 3) (s, l, M) Q) : sW G m pc (.int y :: .int x :: s, l, M) Q := mx_ic_eq hd ht kt kf
theorem sW_if_ne {x : Int32} {off : Int} (tgt : Nat) (hd : decode m.2.1 pc = .ok (.ifCond .ne off, 3)) (ht : (pc : Int) + off = (tgt : Int)) (kt : ¬ x = 0 → sW G m tgt (s, l, M) Q) (kf : x = 0 → sW G m (pc + 3) (s, l, M) Q) : sW G m pc (.int x :: s, l, M) Q := mx_if_ne hd ht kt kf
theorem sW_ic_ne {x y : Int32} {off : Int} (tgt : Nat) (hd : decode m.2.1 pc = .ok (.if_icmp .ne off, 3)) (ht : (pc : Int) + off = (tgt : Int)) (kt : ¬ x = y → sW G m tgt (s, l, M) Q) (kf : x = y → sW G m (pc + 3) (s, l, M) Q) : sW G m pc (.int y :: .int x :: s, l, M) Q := mx_ic_ne hd ht kt kf
theorem sW_if_lt {x : Int32} {off : Int} (tgt : Nat) (hd : decode m.2.1 pc = .ok (.ifCond .lt off, 3)) (ht : (pc : Int) + off = (tgt : Int)) (kt : x < 0 → sW G m tgt (s, l, M) Q) (kf : ¬ x < 0 → sW G m (pc + 3) (s, l, M) Q) : sW G m pc (.int x :: s, l, M) Q := mx_if_lt hd ht kt kf
theorem sW_ic_lt {x y : Int32} {off : Int} (tgt : Nat) (hd : decode m.2.1 pc = .ok (.if_icmp .lt off, 3)) (ht : (pc : Int) + off = (tgt : Int)) (kt : x < y → sW G m tgt (s, l, M) Q) (kf : ¬ x < y → sW G m (pc + 3) (s, l, M) Q) : sW G m pc (.int y :: .int x :: s, l, M) Q := mx_ic_lt hd ht kt kf
theorem sW_if_ge {x : Int32} {off : Int} (tgt : Nat) (hd : decode m.2.1 pc = .ok (.ifCond .ge off, 3)) (ht : (pc : Int) + off = (tgt : Int)) (kt : 0 ≤ x → sW G m tgt (s, l, M) Q) (kf : ¬ 0 ≤ x → sW G m (pc + 3) (s, l, M) Q) : sW G m pc (.int x :: s, l, M) Q := mx_if_ge hd ht kt kf
theorem sW_ic_ge {x y : Int32} {off : Int} (tgt : Nat) (hd : decode m.2.1 pc = .ok (.if_icmp .ge off, 3)) (ht : (pc : Int) + off = (tgt : Int)) (kt : y ≤ x → sW G m tgt (s, l, M) Q) (kf : ¬ y ≤ x → sW G m (pc + 3) (s, l, M) Q) : sW G m pc (.int y :: .int x :: s, l, M) Q := mx_ic_ge hd ht kt kf
theorem sW_if_gt {x : Int32} {off : Int} (tgt : Nat) (hd : decode m.2.1 pc = .ok (.ifCond .gt off, 3)) (ht : (pc : Int) + off = (tgt : Int)) (kt : 0 < x → sW G m tgt (s, l, M) Q) (kf : ¬ 0 < x → sW G m (pc + 3) (s, l, M) Q) : sW G m pc (.int x :: s, l, M) Q := mx_if_gt hd ht kt kf
theorem sW_ic_gt {x y : Int32} {off : Int} (tgt : Nat) (hd : decode m.2.1 pc = .ok (.if_icmp .gt off, 3)) (ht : (pc : Int) + off = (tgt : Int)) (kt : y < x → sW G m tgt (s, l, M) Q) (kf : ¬ y < x → sW G m (pc + 3) (s, l, M) Q) : sW G m pc (.int y :: .int x :: s, l, M) Q := mx_ic_gt hd ht kt kf
theorem sW_if_le {x : Int32} {off : Int} (tgt : Nat) (hd : decode m.2.1 pc = .ok (.ifCond .le off, 3)) (ht : (pc : Int) + off = (tgt : Int)) (kt : x ≤ 0 → sW G m tgt (s, l, M) Q) (kf : ¬ x ≤ 0 → sW G m (pc + 3) (s, l, M) Q) : sW G m pc (.int x :: s, l, M) Q := mx_if_le hd ht kt kf
theorem sW_ic_le {x y : Int32} {off : Int} (tgt : Nat) (hd : decode m.2.1 pc = .ok (.if_icmp .le off, 3)) (ht : (pc : Int) + off = (tgt : Int)) (kt : x ≤ y → sW G m tgt (s, l, M) Q) (kf : ¬ x ≤ y → sW G m (pc + 3) (s, l, M) Q) : sW G m pc (.int y :: .int x :: s, l, M) Q := mx_ic_le hd ht kt kf
theorem sW_goto {off : Int} (tgt : Nat) (hd : decode m.2.1 pc = .ok (.goto off, 3)) (ht : (pc : Int) + off = (tgt : Int)) (k : sW G m tgt st Q) : sW G m pc st Q := mx_goto hd ht k
def sW_tc (G : mx_G) (m : MR) (st : mx_St) (Q : Option Value → mx_M → Prop) (x : Int32) : List Nat → Nat → Prop
  | [], _ => True
  | t :: ts, lo => (x = nI lo → sW G m t st Q) ∧ sW_tc G m st Q x ts (lo + 1)
theorem sW_tc_of {x : Int32} : ∀ (tg : List Nat) (lo : Nat), sW_tc G m st Q x tg lo → mx_tc G m st LAY 0 0 (sQ Q) x tg lo
  | [], _, _ => trivial
  | _ :: ts, lo, h => ⟨h.1, sW_tc_of ts (lo + 1) h.2⟩
theorem sW_tsw {x : Int32} {d lo hi : Int} {offs : Array Int} {n : Nat} (lo' dt : Nat) (tg : List Nat) (hd : decode m.2.1 pc = .ok (.tableswitch d lo hi offs, n)) (hdt : (pc : Int) + d = (dt : Int))
    (htg : offs.toList.map (fun o => (pc : Int) + o) = tg.map (fun t : Nat => (t : Int)) ∧ lo = (lo' : Int) ∧ hi < 2 ^ 31 ∧ (hi - lo).toNat < offs.size) (kd : x.toInt < lo ∨ hi < x.toInt → sW G m dt (s, l, M) Q) (kc : sW_tc G m (s, l, M) Q x tg lo') : sW G m pc (.int x :: s, l, M) Q := mx_tsw hd hdt htg kd (sW_tc_of tg lo' kc)
theorem sW_lsw {x : Int32} {d : Int} {ps : Array (Int × Int)} {n : Nat} (t : Nat) (hd : decode m.2.1 pc = .ok (.lookupswitch d ps, n)) (hp : (ps.toList.zip (ps.toList.drop 1)).all (fun (a, next) => a.1 < next.1) = true) (ht : (pc : Int) + Op.lookupswitch.offset ps.toList d x.toInt = (t : Int)) (k : sW G m t (s, l, M) Q) : sW G m pc (.int x :: s, l, M) Q := mx_lsw hd hp ht k
theorem sW_retI {v : Int32} {ty : FieldType} (hd : decode m.2.1 pc = .ok (.ireturn, 1)) (hr : m.2.2.2.1 = some ty) (hn : narrow ty (.int v) = .int v) (hQ : Q (some (.int v)) M) : sW G m pc ([.int v], l, M) Q := mx_retI hd hr hn ⟨Nat.zero_le _, Nat.zero_le _⟩ ⟨rfl, hQ⟩
theorem sW_retA {k : Nat} {C : String} (hd : decode m.2.1 pc = .ok (.areturn, 1)) (hr : m.2.2.2.1 = some (.object C)) (hQ : Q (some (.ref k)) M) : sW G m pc ([.ref k], l, M) Q := mx_retA hd hr ⟨Nat.zero_le _, Nat.zero_le _⟩ ⟨rfl, hQ⟩
theorem sW_retV (hd : decode m.2.1 pc = .ok (.return_, 1)) (hr : m.2.2.2.1 = none) (hQ : Q none M) : sW G m pc ([], l, M) Q := mx_retV hd hr ⟨Nat.zero_le _, Nat.zero_le _⟩ ⟨rfl, hQ⟩
theorem sW_callV {mc : MR} {idx n h : Nat} (ci : Nat) {ps : List Nat} (as : List Value) (s : List Value) {Q' : Option Value → mx_M → Prop} (hd : decode m.2.1 pc = .ok (.invokevirtual idx, 3)) (hck : mx_cv m mc idx n ps = true) (hz : (vwCl[ci]?.map (fun q => q.1) = some mc.1.cls) ∧ as.length = n ∧ l.length = m.2.2.1 ∧ (s.map fun v => v.category).sum ≤ 8 ∧ mc.2.2.2.2.cells = 0 ∧ mc.2.2.2.2.slots = 0) (hoc : mx_ocl LAY h = ci)
    (hOk : sOk G mc (.ref h :: as) M Q') (k : ∀ r M', Q' r M' → sW G m (pc + 3) (r.toList ++ s, l, M') Q) : sW G m pc (as.reverse ++ .ref h :: s, l, M) Q := by
  obtain ⟨z1, z2, z3, z4, z5, z6⟩ := hz
  refine mx_callV hd hck z1 hoc z2 z3 z4 ⟨by rw [z5]; exact Nat.zero_le _, by rw [z6]; exact Nat.zero_le _⟩ hOk ?_
  rintro r Λ' M' ⟨rfl, hQ⟩
  rw [z5, z6]
  exact k r M' hQ
theorem sW_callS {mc : MR} {idx n : Nat} {ps : List Nat} (as : List Value) (s : List Value) {Q' : Option Value → mx_M → Prop} (hd : decode m.2.1 pc = .ok (.invokestatic idx, 3)) (hck : mx_cs m mc idx n ps = true) (hz : as.length = n ∧ l.length = m.2.2.1 ∧ (s.map fun v => v.category).sum ≤ 8 ∧ mc.2.2.2.2.cells = 0 ∧ mc.2.2.2.2.slots = 0)
    (hOk : sOk G mc as M Q') (k : ∀ r M', Q' r M' → sW G m (pc + 3) (r.toList ++ s, l, M') Q) : sW G m pc (as.reverse ++ s, l, M) Q := by
  obtain ⟨z2, z3, z4, z5, z6⟩ := hz
  refine mx_callS hd hck z2 z3 z4 ⟨by rw [z5]; exact Nat.zero_le _, by rw [z6]; exact Nat.zero_le _⟩ hOk ?_
  rintro r Λ' M' ⟨rfl, hQ⟩
  rw [z5, z6]
  exact k r M' hQ
theorem sW_copy {idx a0 a1 : Nat} {ps : List Nat} {sp dp n : Int32} (hd : decode m.2.1 pc = .ok (.invokestatic idx, 3)) (hck : mx_ca m idx ps = true) (hz : l.length = m.2.2.1 ∧ (s.map fun v => v.category).sum ≤ 8)
    (z0 : mx_len LAY false a0 ≠ 0) (z1 : mx_len LAY false a1 ≠ 0) (h1 : ¬ sp < 0) (h2 : ¬ dp < 0) (h3 : ¬ n < 0) (h4 : sp.toNatClampNeg + n.toNatClampNeg ≤ mx_len LAY false a0) (h5 : dp.toNatClampNeg + n.toNatClampNeg ≤ mx_len LAY false a1)
    (k : sW G m (pc + 3) (s, l, mx_cp M a0 a1 sp.toNatClampNeg dp.toNatClampNeg n.toNatClampNeg) Q) : sW G m pc (.int n :: .int dp :: .ref a1 :: .int sp :: .ref a0 :: s, l, M) Q := mx_copy (by decide +kernel) hd hck hz.1 hz.2 z0 z1 h1 h2 h3 h4 h5 k
/-- a local is known no more -/
def mx_dr : List (Option Value) → List Bool → List (Option Value)
  | v :: l, b :: bs => (if b then none else v) :: mx_dr l bs
  | l, _ => l
theorem mx_dr_at : ∀ (l : List (Option Value)) (bs : List Bool) (i : Nat) (v : Value), (mx_dr l bs)[i]? = some (some v) → l[i]? = some (some v)
  | [], bs, i, v, h => by cases bs <;> simp [mx_dr] at h
  | x :: l, [], i, v, h => by simpa [mx_dr] using h
  | x :: l, b :: bs, i, v, h => by
    cases i with
    | zero => cases b <;> simp [mx_dr] at h ⊢; exact h
    | succ i => simpa using mx_dr_at l bs i v (by simpa [mx_dr] using h)
theorem mx_dr_len : ∀ (l : List (Option Value)) (bs : List Bool), (mx_dr l bs).length = l.length
  | [], bs => by cases bs <;> rfl
  | x :: l, [] => rfl
  | x :: l, b :: bs => by simp [mx_dr, mx_dr_len l bs]
theorem sW_fg (bs : List Bool) (k : sW G m pc (s, mx_dr l bs, M) Q) : sW G m pc (s, l, M) Q := by
  intro p l0 e s0 mid args below meth c Z hC hZ H locs ls hR hS hl
  exact k p l0 e s0 mid args below meth c Z hC hZ H locs ls hR hS ⟨hl.1.trans (mx_dr_len l bs).symm, hl.2.1, fun i v h => hl.2.2 i v (mx_dr_at l bs i v h)⟩
theorem mx_ind {α : Type} (μ : α → Nat) (P : α → Prop) (h : ∀ a, (∀ b, μ b < μ a → P b) → P a) : ∀ a, P a := by
  have key : ∀ n a, μ a < n → P a := by
    intro n
    induction n with
    | zero => intro a ha; omega
    | succ n ih => intro a ha; exact h a (fun b hb => ih b (by omega))
  exact fun a => key (μ a + 1) a (Nat.lt_succ_self _)
end SW
/-- 1 or 0 -/
noncomputable def tf (c : Prop) : Int32 := @ite _ c (Classical.propDecidable c) (nI 1) (nI 0)
theorem tf_t {c : Prop} (h : c) : tf c = nI 1 := if_pos h
theorem tf_f {c : Prop} (h : ¬ c) : tf c = nI 0 := if_neg h
theorem tf_z {c : Prop} : tf c = 0 ↔ ¬ c := by
  by_cases h : c
  · rw [tf_t h]; exact ⟨fun q => absurd q (by decide), fun q => absurd h q⟩
  · rw [tf_f h]; exact ⟨fun _ => h, fun _ => by decide⟩
theorem tf_nz {c : Prop} : ¬ tf c = 0 ↔ c := by rw [tf_z]; exact Classical.not_not
theorem tf_b (c : Prop) : narrow .boolean (.int (tf c)) = .int (tf c) := by
  by_cases h : c
  · rw [tf_t h]; decide +kernel
  · rw [tf_f h]; decide +kernel
theorem tf_01 (c : Prop) : tf c = 0 ∨ tf c = 1 := by
  by_cases h : c
  · exact Or.inr (tf_t h)
  · exact Or.inl (tf_f h)
theorem tf_iff {c d : Prop} (h : c ↔ d) : tf c = tf d := by rw [propext h]
theorem nb_0 : narrow .boolean (.int (nI 0)) = .int (nI 0) := by decide +kernel
theorem nb_1 : narrow .boolean (.int (nI 1)) = .int (nI 1) := by decide +kernel
