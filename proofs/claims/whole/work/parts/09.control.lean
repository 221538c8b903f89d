section MXB
variable {m : MR} {G : mx_G} {Λ : List mx_K} {pc : Nat} {s : List Value} {l : List (Option Value)} {M : mx_M} {cl sl : Nat} {Q : mx_Q}
theorem mx_if_eq {x : Int32} {off : Int} {tgt : Nat} (hd : decode m.2.1 pc = .ok (.ifCond .eq off, 3)) (ht : (pc : Int) + off = (tgt : Int)) (kt : x = 0 → mx_W G m tgt (s, l, M) Λ cl sl Q) (kf : ¬ x = 0 → mx_W G m (pc + 3) (s, l, M) Λ cl sl Q) : mx_W G m pc (.int x :: s, l, M) Λ cl sl Q := by
  intro p l0 e s0 mid args below meth c Z hC hZ H locs ls hR hS hl
  exact lv_if_eq hC.1 hC.2.1 hd ht (fun h => kt h p l0 e s0 mid args below meth c Z hC hZ H locs ls hR hS hl) (fun h => kf h p l0 e s0 mid args below meth c Z hC hZ H locs ls hR hS hl)
theorem mx_ic_eq {x y : Int32} {off : Int} {tgt : Nat} (hd : decode m.2.1 pc = .ok (.if_icmp .eq off, 3)) (ht : (pc : Int) + off = (tgt : Int)) (kt : x = y → mx_W G m tgt (s, l, M) Λ cl sl Q) (kf : ¬ x = y → mx_W G m (pc + 3) (s, l, M) Λ cl sl Q) : mx_W G m pc (.int y :: .int x :: s, l, M) Λ cl sl Q := by
  intro p l0 e s0 mid args below meth c Z hC hZ H locs ls hR hS hl
  exact lv_icmp_eq hC.1 hC.2.1 hd ht (fun h => kt h p l0 e s0 mid args below meth c Z hC hZ H locs ls hR hS hl) (fun h => kf h p l0 e s0 mid args below meth c Z hC hZ H locs ls hR hS hl)
theorem mx_if_ne {x : Int32} {off : Int} {tgt : Nat} (hd : decode m.2.1 pc = .ok (.ifCond .ne off, 3)) (ht : (pc : Int) + off = (tgt : Int)) (kt : ¬ x = 0 → mx_W G m tgt (s, l, M) Λ cl sl Q) (kf : x = 0 → mx_W G m (pc + 3) (s, l, M) Λ cl sl Q) : mx_W G m pc (.int x :: s, l, M) Λ cl sl Q := by
  intro p l0 e s0 mid args below meth c Z hC hZ H locs ls hR hS hl
  exact lv_if_ne hC.1 hC.2.1 hd ht (fun h => kt h p l0 e s0 mid args below meth c Z hC hZ H locs ls hR hS hl) (fun h => kf h p l0 e s0 mid args below meth c Z hC hZ H locs ls hR hS hl)
theorem mx_ic_ne {x y : Int32} {off : Int} {tgt : Nat} (hd : decode m.2.1 pc = .ok (.if_icmp .ne off, 3)) (ht : (pc : Int) + off = (tgt : Int)) (kt : ¬ x = y → mx_W G m tgt (s, l, M) Λ cl sl Q) (kf : x = y → mx_W G m (pc + 3) (s, l, M) Λ cl sl Q) : mx_W G m pc (.int y :: .int x :: s, l, M) Λ cl sl Q := by
  intro p l0 e s0 mid args below meth c Z hC hZ H locs ls hR hS hl
  exact lv_icmp_ne hC.1 hC.2.1 hd ht (fun h => kt h p l0 e s0 mid args below meth c Z hC hZ H locs ls hR hS hl) (fun h => kf h p l0 e s0 mid args below meth c Z hC hZ H locs ls hR hS hl)
theorem mx_if_lt {x : Int32} {off : Int} {tgt : Nat} (hd : decode m.2.1 pc = .ok (.ifCond .lt off, 3)) (ht : (pc : Int) + off = (tgt : Int)) (kt : x < 0 → mx_W G m tgt (s, l, M) Λ cl sl Q) (kf : ¬ x < 0 → mx_W G m (pc + 3) (s, l, M) Λ cl sl Q) : mx_W G m pc (.int x :: s, l, M) Λ cl sl Q := by
  intro p l0 e s0 mid args below meth c Z hC hZ H locs ls hR hS hl
  exact lv_if_lt hC.1 hC.2.1 hd ht (fun h => kt h p l0 e s0 mid args below meth c Z hC hZ H locs ls hR hS hl) (fun h => kf h p l0 e s0 mid args below meth c Z hC hZ H locs ls hR hS hl)
theorem mx_ic_lt {x y : Int32} {off : Int} {tgt : Nat} (hd : decode m.2.1 pc = .ok (.if_icmp .lt off, 3)) (ht : (pc : Int) + off = (tgt : Int)) (kt : x < y → mx_W G m tgt (s, l, M) Λ cl sl Q) (kf : ¬ x < y → mx_W G m (pc + 3) (s, l, M) Λ cl sl Q) : mx_W G m pc (.int y :: .int x :: s, l, M) Λ cl sl Q := by
  intro p l0 e s0 mid args below meth c Z hC hZ H locs ls hR hS hl
  exact lv_icmp_lt hC.1 hC.2.1 hd ht (fun h => kt h p l0 e s0 mid args below meth c Z hC hZ H locs ls hR hS hl) (fun h => kf h p l0 e s0 mid args below meth c Z hC hZ H locs ls hR hS hl)
theorem mx_if_ge {x : Int32} {off : Int} {tgt : Nat} (hd : decode m.2.1 pc = .ok (.ifCond .ge off, 3)) (ht : (pc : Int) + off = (tgt : Int)) (kt : 0 ≤ x → mx_W G m tgt (s, l, M) Λ cl sl Q) (kf : ¬ 0 ≤ x → mx_W G m (pc + 3) (s, l, M) Λ cl sl Q) : mx_W G m pc (.int x :: s, l, M) Λ cl sl Q := by
  intro p l0 e s0 mid args below meth c Z hC hZ H locs ls hR hS hl
  exact lv_if_ge hC.1 hC.2.1 hd ht (fun h => kt h p l0 e s0 mid args below meth c Z hC hZ H locs ls hR hS hl) (fun h => kf h p l0 e s0 mid args below meth c Z hC hZ H locs ls hR hS hl)
theorem mx_ic_ge {x y : Int32} {off : Int} {tgt : Nat} (hd : decode m.2.1 pc = .ok (.if_icmp .ge off, 3)) (ht : (pc : Int) + off = (tgt : Int)) (kt : y ≤ x → mx_W G m tgt (s, l, M) Λ cl sl Q) (kf : ¬ y ≤ x → mx_W G m (pc + 3) (s, l, M) Λ cl sl Q) : mx_W G m pc (.int y :: .int x :: s, l, M) Λ cl sl Q := by
  intro p l0 e s0 mid args below meth c Z hC hZ H locs ls hR hS hl
  exact lv_icmp_ge hC.1 hC.2.1 hd ht (fun h => kt h p l0 e s0 mid args below meth c Z hC hZ H locs ls hR hS hl) (fun h => kf h p l0 e s0 mid args below meth c Z hC hZ H locs ls hR hS hl)
theorem mx_if_gt {x : Int32} {off : Int} {tgt : Nat} (hd : decode m.2.1 pc = .ok (.ifCond .gt off, 3)) (ht : (pc : Int) + off = (tgt : Int)) (kt : 0 < x → mx_W G m tgt (s, l, M) Λ cl sl Q) (kf : ¬ 0 < x → mx_W G m (pc + 3) (s, l, M) Λ cl sl Q) : mx_W G m pc (.int x :: s, l, M) Λ cl sl Q := by
  intro p l0 e s0 mid args below meth c Z hC hZ H locs ls hR hS hl
  exact lv_if_gt hC.1 hC.2.1 hd ht (fun h => kt h p l0 e s0 mid args below meth c Z hC hZ H locs ls hR hS hl) (fun h => kf h p l0 e s0 mid args below meth c Z hC hZ H locs ls hR hS hl)
theorem mx_ic_gt {x y : Int32} {off : Int} {tgt : Nat} (hd : decode m.2.1 pc = .ok (.if_icmp .gt off, 3)) (ht : (pc : Int) + off = (tgt : Int)) (kt : y < x → mx_W G m tgt (s, l, M) Λ cl sl Q) (kf : ¬ y < x → mx_W G m (pc + 3) (s, l, M) Λ cl sl Q) : mx_W G m pc (.int y :: .int x :: s, l, M) Λ cl sl Q := by
  intro p l0 e s0 mid args below meth c Z hC hZ H locs ls hR hS hl
  exact lv_icmp_gt hC.1 hC.2.1 hd ht (fun h => kt h p l0 e s0 mid args below meth c Z hC hZ H locs ls hR hS hl) (fun h => kf h p l0 e s0 mid args below meth c Z hC hZ H locs ls hR hS hl)
theorem mx_if_le {x : Int32} {off : Int} {tgt : Nat} (hd : decode m.2.1 pc = .ok (.ifCond .le off, 3)) (ht : (pc : Int) + off = (tgt : Int)) (kt : x ≤ 0 → mx_W G m tgt (s, l, M) Λ cl sl Q) (kf : ¬ x ≤ 0 → mx_W G m (pc + 3) (s, l, M) Λ cl sl Q) : mx_W G m pc (.int x :: s, l, M) Λ cl sl Q := by
  intro p l0 e s0 mid args below meth c Z hC hZ H locs ls hR hS hl
  exact lv_if_le hC.1 hC.2.1 hd ht (fun h => kt h p l0 e s0 mid args below meth c Z hC hZ H locs ls hR hS hl) (fun h => kf h p l0 e s0 mid args below meth c Z hC hZ H locs ls hR hS hl)
theorem mx_ic_le {x y : Int32} {off : Int} {tgt : Nat} (hd : decode m.2.1 pc = .ok (.if_icmp .le off, 3)) (ht : (pc : Int) + off = (tgt : Int)) (kt : x ≤ y → mx_W G m tgt (s, l, M) Λ cl sl Q) (kf : ¬ x ≤ y → mx_W G m (pc + 3) (s, l, M) Λ cl sl Q) : mx_W G m pc (.int y :: .int x :: s, l, M) Λ cl sl Q := by
  intro p l0 e s0 mid args below meth c Z hC hZ H locs ls hR hS hl
  exact lv_icmp_le hC.1 hC.2.1 hd ht (fun h => kt h p l0 e s0 mid args below meth c Z hC hZ H locs ls hR hS hl) (fun h => kf h p l0 e s0 mid args below meth c Z hC hZ H locs ls hR hS hl)
theorem mx_goto {off : Int} {tgt : Nat} {st : mx_St} (hd : decode m.2.1 pc = .ok (.goto off, 3)) (ht : (pc : Int) + off = (tgt : Int)) (k : mx_W G m tgt st Λ cl sl Q) : mx_W G m pc st Λ cl sl Q := by
  intro p l0 e s0 mid args below meth c Z hC hZ H locs ls hR hS hl
  exact lv_goto hC.1 hC.2.1 hd ht (k p l0 e s0 mid args below meth c Z hC hZ H locs ls hR hS hl)
theorem mx_nI_of {x : Int32} {n : Nat} (hn : n < 2 ^ 31) (h : x.toInt = (n : Int)) : x = nI n := Int32.toInt_inj.mp (by rw [h, nI_toInt hn])
/-- the cases of a table switch, from lo on -/
def mx_tc (G : mx_G) (m : MR) (st : mx_St) (Λ : List mx_K) (cl sl : Nat) (Q : mx_Q) (x : Int32) : List Nat → Nat → Prop
  | [], _ => True
  | t :: ts, lo => (x = nI lo → mx_W G m t st Λ cl sl Q) ∧ mx_tc G m st Λ cl sl Q x ts (lo + 1)
theorem mx_tc_at {st : mx_St} {x : Int32} : ∀ (tg : List Nat) (lo j t : Nat), mx_tc G m st Λ cl sl Q x tg lo → tg[j]? = some t → x = nI (lo + j) → mx_W G m t st Λ cl sl Q
  | [], _, j, t, _, ht, _ => by simp at ht
  | t0 :: ts, lo, j, t, h, ht, hx => by
    cases j with
    | zero =>
      simp only [List.getElem?_cons_zero, Option.some.injEq] at ht
      subst ht
      exact h.1 hx
    | succ j => exact mx_tc_at ts (lo + 1) j t h.2 (by simpa using ht) (by rw [hx]; congr 1; omega)
theorem mx_tsw {x : Int32} {d lo hi : Int} {offs : Array Int} {n lo' dt : Nat} {tg : List Nat} (hd : decode m.2.1 pc = .ok (.tableswitch d lo hi offs, n)) (hdt : (pc : Int) + d = (dt : Int))
    (htg : offs.toList.map (fun o => (pc : Int) + o) = tg.map (fun t : Nat => (t : Int)) ∧ lo = (lo' : Int) ∧ hi < 2 ^ 31 ∧ (hi - lo).toNat < offs.size) (kd : x.toInt < lo ∨ hi < x.toInt → mx_W G m dt (s, l, M) Λ cl sl Q) (kc : mx_tc G m (s, l, M) Λ cl sl Q x tg lo') : mx_W G m pc (.int x :: s, l, M) Λ cl sl Q := by
  obtain ⟨h1, h2, h3, h4⟩ := htg
  intro p l0 e s0 mid args below meth c Z hC hZ H locs ls hR hS hl
  by_cases hout : x.toInt < lo ∨ hi < x.toInt
  · exact lv_tableOut hC.1 hC.2.1 hd hout hdt (kd hout p l0 e s0 mid args below meth c Z hC hZ H locs ls hR hS hl)
  · have a1 : ¬ x.toInt < lo := fun h => hout (Or.inl h)
    have a2 : ¬ hi < x.toInt := fun h => hout (Or.inr h)
    have hlt : (x.toInt - lo).toNat < offs.size := by omega
    have ho : offs[(x.toInt - lo).toNat]? = some offs[(x.toInt - lo).toNat] := Array.getElem?_eq_getElem hlt
    have hm : (offs.toList.map (fun o => (pc : Int) + o))[(x.toInt - lo).toNat]? = some ((pc : Int) + offs[(x.toInt - lo).toNat]) := by
      rw [List.getElem?_map, Array.getElem?_toList, ho]
      rfl
    rw [h1, List.getElem?_map] at hm
    cases ht : tg[(x.toInt - lo).toNat]? with
    | none => rw [ht] at hm; cases hm
    | some t =>
      rw [ht] at hm
      simp only [Option.map_some, Option.some.injEq] at hm
      refine lv_tableIn hC.1 hC.2.1 hd a1 a2 ho hm.symm (mx_tc_at tg lo' _ t kc ht (mx_nI_of (by omega) ?_) p l0 e s0 mid args below meth c Z hC hZ H locs ls hR hS hl)
      omega
theorem mx_lsw {x : Int32} {d : Int} {ps : Array (Int × Int)} {n t : Nat} (hd : decode m.2.1 pc = .ok (.lookupswitch d ps, n)) (hp : (ps.toList.zip (ps.toList.drop 1)).all (fun (a, next) => a.1 < next.1) = true) (ht : (pc : Int) + Op.lookupswitch.offset ps.toList d x.toInt = (t : Int)) (k : mx_W G m t (s, l, M) Λ cl sl Q) : mx_W G m pc (.int x :: s, l, M) Λ cl sl Q := by
  intro p l0 e s0 mid args below meth c Z hC hZ H locs ls hR hS hl
  exact lv_lookup hC.1 hC.2.1 hd hp rfl ht (k p l0 e s0 mid args below meth c Z hC hZ H locs ls hR hS hl)
theorem mx_retI {v : Int32} {ty : FieldType} (hd : decode m.2.1 pc = .ok (.ireturn, 1)) (hr : m.2.2.2.1 = some ty) (hn : narrow ty (.int v) = .int v) (hcl : cl ≤ m.2.2.2.2.cells ∧ sl ≤ m.2.2.2.2.slots) (hQ : Q (some (.int v)) Λ M) : mx_W G m pc ([.int v], l, M) Λ cl sl Q := by
  intro p l0 e s0 mid args below meth c Z hC hZ H locs ls hR hS hl
  exact W.widen hcl.1 hcl.2 (hZ (some (.int v)) Λ M H locs pc ls hQ hR hS (Or.inr (Or.inl ⟨v, ty, rfl, hr, hn, hd⟩)))
theorem mx_retA {k : Nat} {C : String} (hd : decode m.2.1 pc = .ok (.areturn, 1)) (hr : m.2.2.2.1 = some (.object C)) (hcl : cl ≤ m.2.2.2.2.cells ∧ sl ≤ m.2.2.2.2.slots) (hQ : Q (some (.ref k)) Λ M) : mx_W G m pc ([.ref k], l, M) Λ cl sl Q := by
  intro p l0 e s0 mid args below meth c Z hC hZ H locs ls hR hS hl
  exact W.widen hcl.1 hcl.2 (hZ (some (.ref k)) Λ M H locs pc ls hQ hR hS (Or.inr (Or.inr ⟨k, C, rfl, hr, hd⟩)))
theorem mx_retV (hd : decode m.2.1 pc = .ok (.return_, 1)) (hr : m.2.2.2.1 = none) (hcl : cl ≤ m.2.2.2.2.cells ∧ sl ≤ m.2.2.2.2.slots) (hQ : Q none Λ M) : mx_W G m pc ([], l, M) Λ cl sl Q := by
  intro p l0 e s0 mid args below meth c Z hC hZ H locs ls hR hS hl
  exact W.widen hcl.1 hcl.2 (hZ none Λ M H locs pc ls hQ hR hS (Or.inl ⟨rfl, hr, hd⟩))
/-! calls -/
def mx_Pc (G : mx_G) (as : List Value) (Λ : List mx_K) (M : mx_M) : Array Value → State → Prop := fun v U => v = (as.map (mx_ph G)).toArray ∧ mx_R G Λ M U.heap ∧ mx_S G U
def mx_Qc (G : mx_G) (Q : mx_Q) : Array Value → State → Outcome → State → Prop := fun _ st oc t => (∃ r Λ' M', oc = .returned (r.map (mx_ph G)) ∧ Q r Λ' M' ∧ mx_R G Λ' M' t.heap) ∧ va_F (mx_A G) st t
theorem mx_blind (as : List Value) : FrameBlind (mx_Pc G as Λ M) := fun _ U g mk h => ⟨h.1, h.2.1, mx_S.same h.2.2 rfl⟩
theorem mx_after {p : Program} {l0 : Launch} {e : Env} {R : Room} {s0 : State} {mid : MethodId} {args : Array Value} {below : List Frame} {meth : Method} {c : Code} {H : Heap} {locs : List Loc} {mc ms : Nat} {Z : State → Prop} {ls : Array Slot} {st0 rest : List Value} {Q' : mx_Q} {a : Array Value}
    (hr : va_Run p l0 e R s0 mid args below meth c H locs cl sl mc ms (F0 mid pc ls st0) rest (mx_Qc G Q' a) (mx_A G)) (hS : va_S (mx_A G) s0.heap H locs)
    (kk : ∀ (r : Option Value) (Λ' : List mx_K) (M' : mx_M) (H1 : Heap) (locs1 : List Loc), Q' r Λ' M' → mx_R G Λ' M' H1 → va_S (mx_A G) s0.heap H1 locs1 → W p l0 e R s0 mid args below meth c H1 locs1 (cl + mc) (sl + ms) Z (F0 mid (pc + 3) ls (r.toList.map (mx_ph G) ++ rest))) : W p l0 e R s0 mid args below meth c H locs cl sl Z (F0 mid pc ls st0) := by
  intro T hT X
  obtain ⟨v, st₀, t, T', L, h0, X', hL, e1, e2, hq, st⟩ := hr T hT X
  obtain ⟨⟨r, Λ', M', hv, hQ, hR⟩, hF⟩ := hq
  cases hv
  have hS1 : va_S (mx_A G) s0.heap t.heap (locs ++ L) := by
    refine ⟨Nat.le_trans hS.1 (by rw [← h0]; exact hF.1), fun q h1 h2 => ?_, fun q hq => ?_⟩
    · rw [hF.2 q (by rw [h0]; exact Nat.lt_of_lt_of_le h1 hS.1) h2, h0]
      exact hS.2.1 q h1 h2
    · rcases List.mem_append.mp hq with h | h
      · exact hS.2.2 q h
      · exact hL q h
  obtain ⟨t2, a1, b1⟩ := kk r Λ' M' t.heap (locs ++ L) hQ hR hS1 T' e1 X'
  refine ⟨t2, st t2 ?_, b1⟩
  have ev : (r.map (mx_ph G)).toList ++ rest = r.toList.map (mx_ph G) ++ rest := by cases r <;> rfl
  rw [ev]
  exact a1
/-- what the tables must say of a call -/
def mx_cb (m mc : MR) (n : Nat) : Bool := decide (mc.1.cls ≠ "java/lang/invoke/MethodHandle") && decide (mc.1.cls ≠ "java/lang/invoke/VarHandle") && decide ((parseMethodDescriptor mc.1.desc).map (fun d => d.parameters.length) = some n) && decide (mc.2.2.2.2.frames + 1 ≤ m.2.2.2.2.frames) && decide (8 + (mc.2.2.1 + 11) + mc.2.2.2.2.locals ≤ m.2.2.2.2.locals)
def mx_cv (m mc : MR) (idx n : Nat) (ps : List Nat) : Bool := mx_cb m mc n && inTT (ps.getD 0 0) (.methodLink m.1.cls idx mc.1) && inTT (ps.getD 1 0) (.instanceMethod mc.1) && inTT (ps.getD 2 0) (.selects mc.1.cls mc.1 mc.1) && inTT (ps.getD 3 0) (.initialized mc.1.cls) && inTT (ps.getD 4 0) (.code mc.1 mc.2.1 mc.2.2.1 mc.2.2.2.1)
def mx_cs (m mc : MR) (idx n : Nat) (ps : List Nat) : Bool := mx_cb m mc n && inTT (ps.getD 0 0) (.methodLink m.1.cls idx mc.1) && inTT (ps.getD 1 0) (.static mc.1) && inTT (ps.getD 2 0) (.initialized mc.1.cls) && inTT (ps.getD 3 0) (.code mc.1 mc.2.1 mc.2.2.1 mc.2.2.2.1)
theorem mx_cats (s : List Value) : ((s.map (mx_ph G)).map fun v => v.category) = s.map fun v => v.category := by
  simp [Function.comp_def, mx_ph_cat]
theorem mx_callV {mc : MR} {idx n h ci : Nat} {ps : List Nat} {as : List Value} {Q' : mx_Q} (hd : decode m.2.1 pc = .ok (.invokevirtual idx, 3)) (hck : mx_cv m mc idx n ps = true) (hci : (vwCl[ci]?.map (fun q => q.1) = some mc.1.cls)) (hoc : mx_ocl Λ h = ci) (hn : as.length = n) (hll : l.length = m.2.2.1) (hw : (s.map fun v => v.category).sum ≤ 8)
    (hcl : cl + mc.2.2.2.2.cells ≤ m.2.2.2.2.cells ∧ sl + mc.2.2.2.2.slots ≤ m.2.2.2.2.slots) (hOk : mx_Ok G mc (.ref h :: as) Λ M Q') (k : ∀ r Λ' M', Q' r Λ' M' → mx_W G m (pc + 3) (r.toList ++ s, l, M') Λ' (cl + mc.2.2.2.2.cells) (sl + mc.2.2.2.2.slots) Q) : mx_W G m pc (as.reverse ++ .ref h :: s, l, M) Λ cl sl Q := by
  intro p l0 e s0 mid args below meth c Z hC hZ H locs ls hR hS hl
  simp only [mx_cv, mx_cb, Bool.and_eq_true, decide_eq_true_eq] at hck
  obtain ⟨⟨⟨⟨⟨⟨⟨⟨⟨c1, c2⟩, c3⟩, c4⟩, c5⟩, w1⟩, w2⟩, w3⟩, w4⟩, w5⟩ := hck
  cases hq : vwCl[ci]? with
  | none => rw [hq] at hci; cases hci
  | some q =>
    obtain ⟨C, T, N⟩ := q
    rw [hq] at hci
    simp only [Option.map_some, Option.some.injEq] at hci
    have hL := mx_ocl_at (mx_cl_11 hq) hoc
    have hK := hC.2.2.2.2.2.2.2.2.1.1
    have hts := hC.2.2.2.2.1
    have hg : GoodIn TT (wsV m.1.cls idx mc.1.cls mc.1 (mx_ws mc)) := by
      refine mx_good (fun w h => h) (fun w hw => ?_)
      rcases List.mem_append.mp hw with h | h
      · simp only [List.mem_cons, List.not_mem_nil, or_false] at h
        rcases h with rfl | rfl | rfl | rfl
        · exact inTT_mem w1
        · exact inTT_mem w2
        · exact inTT_mem w3
        · exact inTT_mem w4
      · exact mx_ws_sub (inTT_mem w5) w h
    have hrcv := va_recv hK hR.1 hq (mx_w_at (G := G) (M := M) hL)
    dsimp only at hrcv
    rw [hci] at hrcv
    have hsz : ls.size = m.2.2.1 := hl.1.trans hll
    have hr := va_runV (As := as.map (mx_ph G)) (rest := s.map (mx_ph G)) (b := mx_B G + h) (g := F0 mid pc ls ((as.reverse ++ .ref h :: s).map (mx_ph G))) (nL := m.2.2.1) (cells := cl) (slots := sl) (locs := locs) (H := H) (below := below) (meth := meth) (e := e) ⟨hC.1, hC.2.1, hC.2.2.1, hC.2.2.2.1, hts⟩ (hOk l0) (cwV (R := m.2.2.2.2) n hts hg rfl rfl rfl ⟨rfl, c1, c2, c3⟩ ⟨c4, c5⟩) ⟨mx_blind _, hrcv, fun U hU hW => ⟨by simp [mx_ph_ref hR hL], by rw [hU]; exact hR, hC.2.2.2.2.2.2.2.2.1.warm hW⟩⟩ rfl (by simp [hn]) hsz (by simp [mx_ph_ref hR hL]) (lv_room (by rw [mx_cats]; exact hw)) hd hcl
    refine mx_after (Q' := Q') (a := #[]) hr hS (fun r Λ' M' H1 locs1 hQ hR1 hS1 => ?_)
    have h2 := k r Λ' M' hQ p l0 e s0 mid args below meth c Z hC hZ H1 locs1 ls hR1 hS1 hl
    simpa using h2
theorem mx_callS {mc : MR} {idx n : Nat} {ps : List Nat} {as : List Value} {Q' : mx_Q} (hd : decode m.2.1 pc = .ok (.invokestatic idx, 3)) (hck : mx_cs m mc idx n ps = true) (hn : as.length = n) (hll : l.length = m.2.2.1) (hw : (s.map fun v => v.category).sum ≤ 8)
    (hcl : cl + mc.2.2.2.2.cells ≤ m.2.2.2.2.cells ∧ sl + mc.2.2.2.2.slots ≤ m.2.2.2.2.slots) (hOk : mx_Ok G mc as Λ M Q') (k : ∀ r Λ' M', Q' r Λ' M' → mx_W G m (pc + 3) (r.toList ++ s, l, M') Λ' (cl + mc.2.2.2.2.cells) (sl + mc.2.2.2.2.slots) Q) : mx_W G m pc (as.reverse ++ s, l, M) Λ cl sl Q := by
  intro p l0 e s0 mid args below meth c Z hC hZ H locs ls hR hS hl
  simp only [mx_cs, mx_cb, Bool.and_eq_true, decide_eq_true_eq] at hck
  obtain ⟨⟨⟨⟨⟨⟨⟨⟨c1, c2⟩, c3⟩, c4⟩, c5⟩, w1⟩, w2⟩, w3⟩, w4⟩ := hck
  have hts := hC.2.2.2.2.1
  have hg : GoodIn TT (va_wsS m.1.cls idx mc.1 (mx_ws mc)) := by
    refine mx_good (fun w h => h) (fun w hw => ?_)
    rcases List.mem_append.mp hw with h | h
    · simp only [List.mem_cons, List.not_mem_nil, or_false] at h
      rcases h with rfl | rfl | rfl
      · exact inTT_mem w1
      · exact inTT_mem w2
      · exact inTT_mem w3
    · exact mx_ws_sub (inTT_mem w4) w h
  have hsz : ls.size = m.2.2.1 := hl.1.trans hll
  have hr := va_runS (As := as.map (mx_ph G)) (rest := s.map (mx_ph G)) (g := F0 mid pc ls ((as.reverse ++ s).map (mx_ph G))) (nL := m.2.2.1) (cells := cl) (slots := sl) (locs := locs) (H := H) (below := below) (meth := meth) (e := e) ⟨hC.1, hC.2.1, hC.2.2.1, hC.2.2.2.1, hts⟩ (hOk l0) (va_cwS (R := m.2.2.2.2) n hts hg rfl rfl rfl ⟨c1, c2, c3⟩ ⟨c4, c5⟩) ⟨mx_blind _, fun U hU hW => ⟨rfl, by rw [hU]; exact hR, hC.2.2.2.2.2.2.2.2.1.warm hW⟩⟩ rfl (by simp [hn]) hsz (by simp) (lv_room (by rw [mx_cats]; exact hw)) hd hcl
  refine mx_after (Q' := Q') (a := #[]) hr hS (fun r Λ' M' H1 locs1 hQ hR1 hS1 => ?_)
  have h2 := k r Λ' M' hQ p l0 e s0 mid args below meth c Z hC hZ H1 locs1 ls hR1 hS1 hl
  simpa using h2
/-- System.arraycopy between arrays of ints -/
def mx_cp (M : mx_M) (a0 a1 sp dp n : Nat) : mx_M := fun a => if a = a1 then va_cpy (M a0) (M a1) sp dp n else M a
theorem mx_cp_s (M : mx_M) (a0 a1 sp dp n : Nat) : mx_cp M a0 a1 sp dp n a1 = va_cpy (M a0) (M a1) sp dp n := if_pos rfl
theorem mx_cp_n (M : mx_M) {a a1 : Nat} (a0 sp dp n : Nat) (h : a ≠ a1) : mx_cp M a0 a1 sp dp n a = M a := if_neg h
def mx_ca (m : MR) (idx : Nat) (ps : List Nat) : Bool := inTT (ps.getD 0 0) (.methodLink m.1.cls idx arraycopyName) && inTT (ps.getD 1 0) (.native arraycopyName) && inTT (ps.getD 2 0) (.static arraycopyName) && inTT (ps.getD 3 0) (.initialized "java/lang/System") && decide (1 ≤ m.2.2.2.2.frames) && decide (26 ≤ m.2.2.2.2.locals)
theorem mx_copy {idx a0 a1 : Nat} {ps : List Nat} {sp dp n : Int32} (h139 : Λ.length = 139) (hd : decode m.2.1 pc = .ok (.invokestatic idx, 3)) (hck : mx_ca m idx ps = true) (hll : l.length = m.2.2.1) (hw : (s.map fun v => v.category).sum ≤ 8)
    (z0 : mx_len Λ false a0 ≠ 0) (z1 : mx_len Λ false a1 ≠ 0) (h1 : ¬ sp < 0) (h2 : ¬ dp < 0) (h3 : ¬ n < 0) (h4 : sp.toNatClampNeg + n.toNatClampNeg ≤ mx_len Λ false a0) (h5 : dp.toNatClampNeg + n.toNatClampNeg ≤ mx_len Λ false a1)
    (k : mx_W G m (pc + 3) (s, l, mx_cp M a0 a1 sp.toNatClampNeg dp.toNatClampNeg n.toNatClampNeg) Λ cl sl Q) : mx_W G m pc (.int n :: .int dp :: .ref a1 :: .int sp :: .ref a0 :: s, l, M) Λ cl sl Q := by
  intro p l0 e s0 mid args below meth c Z hC hZ H locs ls hR hS hl
  simp only [mx_ca, Bool.and_eq_true, decide_eq_true_eq] at hck
  obtain ⟨⟨⟨⟨⟨w1, w2⟩, w3⟩, w4⟩, c1⟩, c2⟩ := hck
  have hts := hC.2.2.2.2.1
  have hK := hC.2.2.2.2.2.2.2.2.1.1
  have hL0 := mx_len_at0 z0
  have hL1 := mx_len_at0 z1
  show W p l0 e m.2.2.2.2 s0 mid args below meth c H locs cl sl Z (F0 mid pc ls (.int n :: .int dp :: mx_ph G (.ref a1) :: .int sp :: mx_ph G (.ref a0) :: s.map (mx_ph G)))
  rw [mx_ph_ref hR hL0, mx_ph_ref hR hL1]
  refine va_copyi hC.1 hC.2.1 (by rw [hC.2.2.1, hl.1, hll]) hC.2.2.2.1 (hts _ (inTT_mem w1)) (hts _ (inTT_mem w2)) (hts _ (inTT_mem w3)) (hts _ (inTT_mem w4)) hK hR.1 (mx_w_D G Λ M) hS a0 a1 0 0 (mx_w_at hL0) (mx_w_at hL1) rfl rfl rfl h1 h2 h3 h4 h5 (fun _ _ => rfl) c1 ?_ hd (fun H1 locs1 hP1 hD1 hS1 => ?_)
  · rw [mx_cats]
    have : nativeFrameWords "java/lang/System" "arraycopy" 5 = 7 := by decide +kernel
    omega
  · have e4 : mx_w G Λ (mx_cp M a0 a1 sp.toNatClampNeg dp.toNatClampNeg n.toNatClampNeg) = (mx_w G Λ M).set a1 (mx_B G + a1, .inl (mx_cI G, mx_len Λ false a1, .inl (va_cpy (M a0) (M a1) sp.toNatClampNeg dp.toNatClampNeg n.toNatClampNeg))) := by
      rw [mx_w_set hL1 (fun b hb => mx_cp_n M _ _ _ _ hb)]
      simp [mx_e, mx_cp_s]
    have hlt := (hR.lt hL1).1
    refine k p l0 e s0 mid args below meth c Z hC hZ H1 locs1 ls ⟨by rw [e4]; exact hP1, fun h => by omega, hR.2.2.1, fun q hq hq2 i => ?_, ?_⟩ hS1 hl
    · show mx_cp M _ _ _ _ _ q i = 0
      rw [mx_cp_n M _ _ _ _ (by omega)]
      exact hR.2.2.2.1 q hq hq2 i
    · have := hR.2.2.1
      show mx_cp M _ _ _ _ _ 1000 = mx_xs G
      rw [mx_cp_n M _ _ _ _ (by omega)]
      exact hR.2.2.2.2
end MXB
