/-! ===== the words that all methods share ===== -/
def TT : List Cond := lw_tbl.filter goodWord
def inTT (i : Nat) (w : Cond) : Bool := decide (lw_tbl[i]? = some w) && goodWord w
theorem inTT_mem {i : Nat} {w : Cond} (h : inTT i w = true) : w ∈ TT := by
  simp only [inTT, Bool.and_eq_true, decide_eq_true_eq] at h
  exact List.mem_filter.mpr ⟨List.mem_of_getElem? h.1, h.2⟩
def mx_ws (m : MR) : List Cond := .code m.1 m.2.1 m.2.2.1 m.2.2.2.1 :: TT
theorem mx_good {big ws : List Cond} (h : ∀ w ∈ TT, w ∈ big) (hw : ∀ w ∈ ws, w ∈ TT) : GoodIn big ws := fun w q => ⟨h w (hw w q), good_of_word (List.mem_filter.mp (hw w q)).2⟩
theorem mx_ws_sub {m : MR} (h : Cond.code m.1 m.2.1 m.2.2.1 m.2.2.2.1 ∈ TT) : ∀ w ∈ mx_ws m, w ∈ TT := fun w q => by
  rcases List.mem_cons.mp q with rfl | q
  · exact h
  · exact q
/-- the fields of a class lie where the tables say -/
def mx_lays (C : String) (T : u_T) (ps : List Nat) : Bool := (List.range ps.length).all fun k => inTT (ps.getD k 0) (u_lay C T k)
theorem mx_lays_in {C : String} {T : u_T} {ps : List Nat} (h : mx_lays C T ps = true) : ∀ w ∈ u_ws C T ps.length, w ∈ TT := by
  intro w hw
  obtain ⟨k, hk, rfl⟩ := List.mem_map.mp hw
  exact inTT_mem (List.all_eq_true.mp h k hk)
def mx_cok (ci : Nat) (C : String) (T : u_T) (N : Nat) (ty : Nat → FieldType) : Prop :=
  (∀ w ∈ u_ws C T N, w ∈ TT) ∧ (∀ k, k < N → parseFieldDescriptor (T k).2.2.1 = some (ty k)) ∧ (∀ a, a < N → ∀ b, b < N → a ≠ b → (T a).2.1 ≠ (T b).2.1)
def mx_ty : Nat → Nat → FieldType := fun ci => match ci with
  | 0 => tyX0 | 1 => tyX1 | 2 => tyX2 | 3 => tyX3 | 4 => tyX4 | 5 => tyX5 | 6 => tyX6 | 7 => tyX7 | 8 => tyX8 | 9 => tyX9 | _ => tyX10
theorem mx_l0 : mx_lays RX0 TX0 mx_lp0 = true := by decide +kernel
theorem mx_l1 : mx_lays RX1 TX1 mx_lp1 = true := by decide +kernel
theorem mx_l2 : mx_lays RX2 TX2 mx_lp2 = true := by decide +kernel
theorem mx_l3 : mx_lays RX3 TX3 mx_lp3 = true := by decide +kernel
theorem mx_l4 : mx_lays RX4 TX4 mx_lp4 = true := by decide +kernel
theorem mx_l5 : mx_lays RX5 TX5 mx_lp5 = true := by decide +kernel
theorem mx_l6 : mx_lays RX6 TX6 mx_lp6 = true := by decide +kernel
theorem mx_l7 : mx_lays RX7 TX7 mx_lp7 = true := by decide +kernel
theorem mx_l8 : mx_lays RX8 TX8 mx_lp8 = true := by decide +kernel
theorem mx_l9 : mx_lays RX9 TX9 mx_lp9 = true := by decide +kernel
theorem mx_l10 : mx_lays RX10 TX10 mx_lp10 = true := by decide +kernel
theorem mx_cls : ∀ (ci : Nat) (C : String) (T : u_T) (N : Nat), vwCl[ci]? = some (C, T, N) → mx_cok ci C T N (mx_ty ci) := by
  intro ci C T N h
  match ci, h with
  | 0, h => cases h; exact ⟨mx_lays_in mx_l0, tyX0_ok, nmX0⟩
  | 1, h => cases h; exact ⟨mx_lays_in mx_l1, tyX1_ok, nmX1⟩
  | 2, h => cases h; exact ⟨mx_lays_in mx_l2, tyX2_ok, nmX2⟩
  | 3, h => cases h; exact ⟨mx_lays_in mx_l3, tyX3_ok, nmX3⟩
  | 4, h => cases h; exact ⟨mx_lays_in mx_l4, tyX4_ok, nmX4⟩
  | 5, h => cases h; exact ⟨mx_lays_in mx_l5, tyX5_ok, nmX5⟩
  | 6, h => cases h; exact ⟨mx_lays_in mx_l6, tyX6_ok, nmX6⟩
  | 7, h => cases h; exact ⟨mx_lays_in mx_l7, tyX7_ok, nmX7⟩
  | 8, h => cases h; exact ⟨mx_lays_in mx_l8, tyX8_ok, nmX8⟩
  | 9, h => cases h; exact ⟨mx_lays_in mx_l9, tyX9_ok, nmX9⟩
  | 10, h => cases h; exact ⟨mx_lays_in mx_l10, tyX10_ok, nmX10⟩
  | k + 11, h => simp [vwCl] at h
/-! ===== the abstract machine: its references are numbers of cells, 0 on; 1000 is the script ===== -/
/-- D; the classes of int[] and boolean[]; script's address, first new address, the script's length; the script -/
abbrev mx_G : Type := va_G × (ClassId × ClassId) × (Nat × Nat × Nat) × (Nat → Int32)
abbrev mx_cI (G : mx_G) : ClassId := G.2.1.1
abbrev mx_cZ (G : mx_G) : ClassId := G.2.1.2
abbrev mx_b (G : mx_G) : Nat := G.2.2.1.1
abbrev mx_B (G : mx_G) : Nat := G.2.2.1.2.1
abbrev mx_L (G : mx_G) : Nat := G.2.2.1.2.2
abbrev mx_xs (G : mx_G) : Nat → Int32 := G.2.2.2
def mx_ad (G : mx_G) (k : Nat) : Nat := if k < 1000 then mx_B G + k else mx_b G
def mx_ph (G : mx_G) (v : Value) : Value := match v with
  | .ref k => .ref (mx_ad G k)
  | w => w
abbrev mx_M : Type := Nat → Nat → Int32
def mx_fv (G : mx_G) (M : mx_M) (k j : Nat) (f : Option (Option Nat)) : Value := match f with
  | none => .int (M k j)
  | some none => .null
  | some (some r) => .ref (mx_ad G r)
def mx_e (G : mx_G) (M : mx_M) (k : Nat) (kd : mx_K) : va_E := match kd with
  | .inl (ci, fs) => .inr (ci, fs.mapIdx (mx_fv G M k))
  | .inr (z, n) => .inl (if z then mx_cZ G else mx_cI G, n, .inl (M k))
def mx_w (G : mx_G) (Λ : List mx_K) (M : mx_M) : va_W := Λ.mapIdx (fun k kd => (mx_B G + k, mx_e G M k kd))
def mx_A (G : mx_G) : Nat → Prop := fun q => mx_B G ≤ q
/-- the heap holds the cells -/
def mx_R (G : mx_G) (Λ : List mx_K) (M : mx_M) (H : Heap) : Prop := va_P G.1 vwCl (mx_w G Λ M) H ∧ (Λ.length < 139 → H.size = mx_B G + Λ.length) ∧ Λ.length ≤ 999 ∧ (∀ k, Λ.length ≤ k → k < 1000 → ∀ j, M k j = 0) ∧ M 1000 = mx_xs G
def mx_isN (w : Cond) : Bool := match w with
  | .methodLinkNest _ _ _ _ => true
  | _ => false
def mx_nest : List Cond := lw_tbl.filter mx_isN
abbrev mx_tys (G : mx_G) : List (ClassId × FieldType) := [(mx_cI G, .int), (mx_cZ G, .boolean)]
/-- what a state's tables say -/
def mx_S (G : mx_G) (U : State) : Prop := va_K G.1 vwCl (mx_tys G) U ∧ ∀ w ∈ mx_nest, va_Nw w U
theorem mx_S.warm {G : mx_G} {s U : State} (h : mx_S G s) (hW : s.WarmedH U.vm) : mx_S G U := by
  refine ⟨va_K.moved hW.alike h.1, fun w hw => ?_⟩
  have h1 := (List.mem_filter.mp hw).2
  have h2 := h.2 w hw
  cases w with
  | methodLinkNest a i x q => exact va_Nw.warmM hW h2
  | _ => cases h1
theorem mx_S.same {G : mx_G} {s U : State} (h : mx_S G s) (hv : s.vm = U.vm) : mx_S G U := by
  refine ⟨va_K.moved (by rw [hv]; exact Vm.Alike.refl _) h.1, fun w hw => ?_⟩
  have h1 := (List.mem_filter.mp hw).2
  have h2 := h.2 w hw
  cases w with
  | methodLinkNest a i x q => exact va_Nw.same rfl hv h2
  | _ => cases h1
/-- the method's surroundings -/
def mx_C (G : mx_G) (m : MR) (p : Program) (s : State) (mid : MethodId) (args : Array Value) (meth : Method) (c : Code) : Prop :=
  p.tables.exec = Jvm.exec ∧ c.code = m.2.1 ∧ c.maxLocals = m.2.2.1 ∧ s.vm.findClass m.1.cls = some mid.cls ∧ (∀ w ∈ TT, w.before args s = true) ∧ meth.sig.returnType = m.2.2.2.1 ∧ meth.locks = false ∧ meth.name = m.1.name ∧ mx_S G s ∧ mx_B G ≤ s.heap.size ∧
  (m.1.cls = "TypeSetsLaw" → va_X (mx_b G) (mx_L G) (mx_xs G) s s.heap ∧ mx_b G < mx_B G)
def mx_has (G : mx_G) (ls : Array Slot) (l : List (Option Value)) : Prop := ls.size = l.length ∧ lv_wf ls ∧ ∀ (i : Nat) (v : Value), l[i]? = some (some v) → ls[i]? = some (.val (mx_ph G v))
def mx_ret (m : MR) (pc : Nat) (r : Option Value) : Prop :=
  (r = none ∧ m.2.2.2.1 = none ∧ decode m.2.1 pc = .ok (.return_, 1)) ∨
  (∃ v ty, r = some (.int v) ∧ m.2.2.2.1 = some ty ∧ narrow ty (.int v) = .int v ∧ decode m.2.1 pc = .ok (.ireturn, 1)) ∨
  (∃ k C, r = some (.ref k) ∧ m.2.2.2.1 = some (.object C) ∧ decode m.2.1 pc = .ok (.areturn, 1))
abbrev mx_Q : Type := Option Value → List mx_K → mx_M → Prop
def mx_Ret (G : mx_G) (m : MR) (p : Program) (l : Launch) (e : Env) (s : State) (mid : MethodId) (args : Array Value) (below : List Frame) (meth : Method) (c : Code) (Q : mx_Q) (Z : State → Prop) : Prop :=
  ∀ (r : Option Value) (Λ : List mx_K) (M : mx_M) (H : Heap) (locs : List Loc) (pc : Nat) (ls : Array Slot), Q r Λ M → mx_R G Λ M H → va_S (mx_A G) s.heap H locs → mx_ret m pc r →
    W p l e m.2.2.2.2 s mid args below meth c H locs m.2.2.2.2.cells m.2.2.2.2.slots Z (F0 mid pc ls (r.toList.map (mx_ph G)))
/-- operand stack, locals, memory -/
abbrev mx_St : Type := List Value × List (Option Value) × mx_M
/-- from here the method comes to its end, with Q -/
def mx_W (G : mx_G) (m : MR) (pc : Nat) (st : mx_St) (Λ : List mx_K) (cl sl : Nat) (Q : mx_Q) : Prop :=
  ∀ (p : Program) (l : Launch) (e : Env) (s : State) (mid : MethodId) (args : Array Value) (below : List Frame) (meth : Method) (c : Code) (Z : State → Prop),
    mx_C G m p s mid args meth c → mx_Ret G m p l e s mid args below meth c Q Z →
    ∀ (H : Heap) (locs : List Loc) (ls : Array Slot), mx_R G Λ st.2.2 H → va_S (mx_A G) s.heap H locs → mx_has G ls st.2.1 →
      W p l e m.2.2.2.2 s mid args below meth c H locs cl sl Z (F0 mid pc ls (st.1.map (mx_ph G)))
/-- the contract of a method at these arguments, in this memory -/
def mx_Ok (G : mx_G) (m : MR) (as : List Value) (Λ : List mx_K) (M : mx_M) (Q : mx_Q) : Prop :=
  ∀ l : Launch, Met l m.1 (mx_ws m) m.2.2.2.2 (fun v U => v = (as.map (mx_ph G)).toArray ∧ mx_R G Λ M U.heap ∧ mx_S G U)
    (fun _ st oc t => (∃ r Λ' M', oc = .returned (r.map (mx_ph G)) ∧ Q r Λ' M' ∧ mx_R G Λ' M' t.heap) ∧ va_F (mx_A G) st t) m.2.2.2.2.cells m.2.2.2.2.slots (mx_A G)
theorem mx_ph_cat (G : mx_G) (v : Value) : (mx_ph G v).category = v.category := by cases v <;> rfl
def mx_lay : List Value → List (Option Value)
  | [] => []
  | v :: vs => some v :: (match v with | .long _ => none :: mx_lay vs | .double _ => none :: mx_lay vs | _ => mx_lay vs)
def mx_entry (as : List Value) (n : Nat) : List (Option Value) := mx_lay as ++ List.replicate (n - (mx_lay as).length) none
theorem mx_lay_len (G : mx_G) (vs : List Value) : (lg_sl (vs.map (mx_ph G))).length = (mx_lay vs).length := by
  induction vs with
  | nil => rfl
  | cons v vs ih =>
    simp only [List.map_cons, lg_sl, List.flatMap_cons, List.length_append, mx_ph_cat] at ih ⊢
    rw [ih]
    cases v <;> simp [mx_lay, Value.category] <;> omega
theorem mx_lay_at (G : mx_G) : ∀ (vs : List Value) (o i : Nat) (v : Value), (mx_lay vs)[i]? = some (some v) → (o + i, mx_ph G v) ∈ lv_args o (vs.map (mx_ph G))
  | [], _, i, v, h => by simp [mx_lay] at h
  | w :: vs, o, i, v, h => by
    cases i with
    | zero =>
      simp only [mx_lay, List.getElem?_cons_zero, Option.some.injEq] at h
      subst h
      exact List.mem_cons_self
    | succ i =>
      simp only [mx_lay, List.getElem?_cons_succ] at h
      refine List.mem_cons_of_mem _ ?_
      rw [mx_ph_cat]
      cases w with
      | long x =>
        cases i with
        | zero => simp at h
        | succ i =>
          simp only [List.getElem?_cons_succ] at h
          have := mx_lay_at G vs (o + 2) i v h
          rw [show o + (i + 1 + 1) = o + 2 + i by omega]
          exact this
      | double x =>
        cases i with
        | zero => simp at h
        | succ i =>
          simp only [List.getElem?_cons_succ] at h
          have := mx_lay_at G vs (o + 2) i v h
          rw [show o + (i + 1 + 1) = o + 2 + i by omega]
          exact this
      | _ =>
        have := mx_lay_at G vs (o + 1) i v h
        rw [show o + (i + 1) = o + 1 + i by omega]
        exact this
theorem mx_entry_has (G : mx_G) (as : List Value) (n : Nat) (h : (mx_lay as).length ≤ n) : mx_has G ((lg_sl (as.map (mx_ph G)) ++ List.replicate (n - (lg_sl (as.map (mx_ph G))).length) Slot.unset).toArray) (mx_entry as n) := by
  have hl := lv_entry (as.map (mx_ph G)) (n := n) (by rw [mx_lay_len]; exact h)
  refine ⟨?_, hl.2.1, fun i v hi => ?_⟩
  · rw [hl.1]
    simp [mx_entry]
    omega
  · have h1 : (mx_lay as)[i]? = some (some v) := by
      unfold mx_entry at hi
      by_cases hlt : i < (mx_lay as).length
      · rw [List.getElem?_append_left hlt] at hi
        exact hi
      · rw [List.getElem?_append_right (by omega), List.getElem?_replicate] at hi
        split at hi <;> simp at hi
    have h2 := mx_lay_at G as 0 i v h1
    rw [Nat.zero_add] at h2
    exact hl.2.2 _ h2
theorem mx_R.ge {G : mx_G} {Λ : List mx_K} {M : mx_M} {H : Heap} (h : mx_R G Λ M H) : mx_B G ≤ H.size := by
  cases Λ with
  | nil => rw [h.2.1 (by decide)]; exact Nat.le_add_right _ _
  | cons kd t =>
    have h1 := (h.1 0 (mx_B G + 0, mx_e G M 0 kd) (by simp [mx_w])).lt
    exact Nat.le_of_lt h1
theorem mx_ok_of {G : mx_G} {m : MR} {as : List Value} {Λ : List mx_K} {M : mx_M} {Q : mx_Q} (hp : plainName m.1.cls = true) (hlaw : m.1.cls ≠ "TypeSetsLaw") (hn : (mx_lay as).length ≤ m.2.2.1) (h : mx_W G m 0 ([], mx_entry as m.2.2.1, M) Λ 0 0 Q) : mx_Ok G m as Λ M Q := by
  intro l
  refine Met.ofW (cc := m.2.1) (maxL := m.2.2.1) (ret := m.2.2.2.1) hp rfl ?_
  intro p e s mid args below meth c s₁ B hml hv
  obtain ⟨rfl, hR, hS⟩ := hv
  have hts := atoms_spec (ws := mx_ws m) B.pre
  have hC : mx_C G m p s mid (as.map (mx_ph G)).toArray meth c := ⟨B.exec, B.bytes, hml, findClass_of_methodNamed B.named, fun w hw => hts w (List.mem_cons_of_mem _ hw), B.returns, B.notSynchronized, (name_of_methodNamed B.named B.method).1, hS, hR.ge, fun q => absurd q hlaw⟩
  have hlocks := B.notSynchronized
  rw [lg_entry_eq]
  refine h p l e s mid _ below meth c _ hC ?_ s.heap [] _ hR va_S.rf (mx_entry_has G as m.2.2.1 hn)
  intro r Λ' M' H locs pc ls hQ hR' hS' hret
  have hq : ∀ (v : Option Value) (t : State), v = r.map (mx_ph G) → t.heap = H → (fun (_ : Array Value) (st : State) (oc : Outcome) (t : State) => (∃ r Λ' M', oc = .returned (r.map (mx_ph G)) ∧ Q r Λ' M' ∧ mx_R G Λ' M' t.heap) ∧ va_F (mx_A G) st t) (as.map (mx_ph G)).toArray s (.returned v) t := by
    intro v t hv ht
    subst hv
    exact ⟨⟨r, Λ', M', rfl, hQ, by rw [ht]; exact hR'⟩, hS'.F ht⟩
  rcases hret with ⟨rfl, hr, hd⟩ | ⟨v, ty, rfl, hr, hnar, hd⟩ | ⟨k, C, rfl, hr, hd⟩
  · exact W.vret B.exec B.bytes (B.returns.trans hr) (fun t ht _ => hq _ t rfl ht) hS'.2.2 hd
  · exact W.zret B.exec B.bytes (B.returns.trans hr) hnar (fun t ht _ => hq _ t rfl ht) hS'.2.2 hd
  · exact W.aret B.exec B.bytes (B.returns.trans hr) (Or.inl ⟨C, rfl⟩) (Or.inr ⟨_, rfl⟩) (fun t ht _ => hq _ t rfl ht) hS'.2.2 hd
