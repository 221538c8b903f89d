/-! THE CLAIM OUT OF ONE WALK OF THE LAW'S BODY. Your part is whole_start (and what it stands on); all else here is the same for every law, but numbers. -/
def R_law : String := "TypeSetsLaw"
def lw_P (b : Addr) (xs : List Int32) (args : Array Value) (s : State) : Prop := args = #[.ref b] ∧ s.IntsAt b xs ∧ xs.length ≤ 3072 ∧ (Jvm.Cond.and given_1 narrow_1).before args s = true
def lw_Q (_ : Array Value) (s : State) (o : Outcome) (t : State) : Prop := o = .returned (some (.int 1)) ∧ Framed s o t [] 139 17263
def lw_Z (below : List Frame) (a : Array Value) (s : State) : State → Prop := fun t => ∃ o, t.status = .running ∧ Ended t below o ∧ lw_Q a s o t
/-- the law's own end, with 1 on the stack, nothing written that was there before, its room as the claim has it -/
theorem lw_ret {p : Program} {l : Launch} {e : Env} {s : State} {m : MethodId} {below : List Frame} {meth : Method} {c : Code} {b : Nat} (hx : p.tables.exec = Jvm.exec) (hb : c.code = code) (hr : meth.sig.returnType = ret) (hlocks : meth.locks = false) {pc : Nat} {H : Heap} {ls : Array Slot} (hdg : decode code pc = .ok (.ireturn, 1)) : W p l e room_1 s m #[Value.ref b] below meth c H [] 139 17263 (lw_Z below #[Value.ref b] s) (F0 m pc ls [.int 1]) := by
  intro T hT X
  obtain ⟨fs, hret, hrun, hended, hW, hframe⟩ := X.leave (v := some (.int 1)) (hlocks := hlocks) (fun h => by rw [hr] at h; cases h)
  have hmeth' : T.vm.method? m = some meth := X.method'
  refine ⟨T.setFrames fs, ?_, .returned (some (.int 1)), hrun, hended, rfl, ⟨_, rfl⟩, hW, hframe⟩
  jvm_step X.here [X.here.top, hx, hb, hdg, hmeth', hr, ret, narrow_b1]
  (try refine ⟨rfl, ?_⟩); (try refine ⟨rfl, ?_⟩)
  first | (intro acts; rw [hret _ acts rfl rfl rfl]) | rw [hret _ _ rfl rfl rfl]
  exact Steps.refl _
/-- what holds at the law's entry: the machine, the code, the tables' words (any of lw_tbl by 'hts w (by decide +kernel)'), the script of L ints xs at the cell b, what the Statement gives of the start (any of its parts by flat_of_before) -/
def lw_At (p : Program) (s : State) (m : MethodId) (meth : Method) (c : Code) (b L : Nat) (xs : Nat → Int32) : Prop :=
  p.tables.exec = Jvm.exec ∧ c.code = code ∧ meth.sig.returnType = ret ∧ c.maxLocals = 4 ∧ s.vm.findClass R_law = some m.cls ∧ (∀ w ∈ lw_tbl, w.before #[Value.ref b] s = true) ∧ va_X b L xs s s.heap ∧ b < s.heap.size ∧ meth.locks = false ∧ (Jvm.Cond.and given_1 narrow_1).before #[Value.ref b] s = true
theorem whole_start {p : Program} {e : Env} {s : State} {m : MethodId} {below : List Frame} {meth : Method} {c : Code} (l : Launch) {b L : Nat} {xs : Nat → Int32} (hL : L ≤ 3072) (hname : meth.name = "law") (C0 : lw_At p s m meth c b L xs) : W p l e room_1 s m #[Value.ref b] below meth c s.heap [] 0 0 (lw_Z below #[Value.ref b] s) (entryFrame m ([Value.ref b] : List Value).toArray 4) := by
  obtain ⟨hx, hb, hr, hml, hown, hts, hX, hbl, hlocks, hgv⟩ := C0
  have hTT : ∀ w ∈ TT, w.before #[Value.ref b] s = true := fun w hw => hts w (List.mem_filter.mp hw).1
  obtain ⟨cI, kI, pI, i1, i2, i3⟩ := Cond.arrayClass_spec (hTT (.arrayClass .int) (inTT_mem (i := 120) (by decide +kernel)))
  obtain ⟨cZ, kZ, pZ, j1, j2, j3⟩ := Cond.arrayClass_spec (hTT (.arrayClass .boolean) (inTT_mem (i := 1037) (by decide +kernel)))
  have hcls : ∀ ci : Nat, ∃ (cC : ClassId) (iS : Nat → Nat), ∀ q : vw_C, vwCl[ci]? = some q → u_Kn s q.1 q.2.1 q.2.2 cC iS := by
    intro ci
    match ci with
    | 0 => obtain ⟨u, v, h⟩ := u_known (C := RX0) (T := TX0) (N := 5) (n := 5) hTT (mx_cls 0 _ _ _ rfl).1 (hTT _ (inTT_mem (i := 191) (by decide +kernel))); exact ⟨u, v, fun q hq => by cases hq; exact h⟩
    | 1 => obtain ⟨u, v, h⟩ := u_known (C := RX1) (T := TX1) (N := 6) (n := 6) hTT (mx_cls 1 _ _ _ rfl).1 (hTT _ (inTT_mem (i := 349) (by decide +kernel))); exact ⟨u, v, fun q hq => by cases hq; exact h⟩
    | 2 => obtain ⟨u, v, h⟩ := u_known (C := RX2) (T := TX2) (N := 16) (n := 16) hTT (mx_cls 2 _ _ _ rfl).1 (hTT _ (inTT_mem (i := 214) (by decide +kernel))); exact ⟨u, v, fun q hq => by cases hq; exact h⟩
    | 3 => obtain ⟨u, v, h⟩ := u_known (C := RX3) (T := TX3) (N := 5) (n := 5) hTT (mx_cls 3 _ _ _ rfl).1 (hTT _ (inTT_mem (i := 153) (by decide +kernel))); exact ⟨u, v, fun q hq => by cases hq; exact h⟩
    | 4 => obtain ⟨u, v, h⟩ := u_known (C := RX4) (T := TX4) (N := 6) (n := 6) hTT (mx_cls 4 _ _ _ rfl).1 (hTT _ (inTT_mem (i := 322) (by decide +kernel))); exact ⟨u, v, fun q hq => by cases hq; exact h⟩
    | 5 => obtain ⟨u, v, h⟩ := u_known (C := RX5) (T := TX5) (N := 3) (n := 3) hTT (mx_cls 5 _ _ _ rfl).1 (hTT _ (inTT_mem (i := 102) (by decide +kernel))); exact ⟨u, v, fun q hq => by cases hq; exact h⟩
    | 6 => obtain ⟨u, v, h⟩ := u_known (C := RX6) (T := TX6) (N := 3) (n := 3) hTT (mx_cls 6 _ _ _ rfl).1 (hTT _ (inTT_mem (i := 222) (by decide +kernel))); exact ⟨u, v, fun q hq => by cases hq; exact h⟩
    | 7 => obtain ⟨u, v, h⟩ := u_known (C := RX7) (T := TX7) (N := 4) (n := 4) hTT (mx_cls 7 _ _ _ rfl).1 (hTT _ (inTT_mem (i := 245) (by decide +kernel))); exact ⟨u, v, fun q hq => by cases hq; exact h⟩
    | 8 => obtain ⟨u, v, h⟩ := u_known (C := RX8) (T := TX8) (N := 7) (n := 7) hTT (mx_cls 8 _ _ _ rfl).1 (hTT _ (inTT_mem (i := 122) (by decide +kernel))); exact ⟨u, v, fun q hq => by cases hq; exact h⟩
    | 9 => obtain ⟨u, v, h⟩ := u_known (C := RX9) (T := TX9) (N := 14) (n := 14) hTT (mx_cls 9 _ _ _ rfl).1 (hTT _ (inTT_mem (i := 94) (by decide +kernel))); exact ⟨u, v, fun q hq => by cases hq; exact h⟩
    | 10 => obtain ⟨u, v, h⟩ := u_known (C := RX10) (T := TX10) (N := 32) (n := 32) hTT (mx_cls 10 _ _ _ rfl).1 (hTT _ (inTT_mem (i := 935) (by decide +kernel))); exact ⟨u, v, fun q hq => by cases hq; exact h⟩
    | k + 11 => exact ⟨cI, fun _ => 0, fun q hq => by simp [vwCl] at hq⟩
  obtain ⟨D, hD⟩ : ∃ D : va_G, ∀ (ci : Nat) (q : vw_C), vwCl[ci]? = some q → u_Kn s q.1 q.2.1 q.2.2 (D.1 ci) (D.2 ci) := ⟨(fun ci => (hcls ci).choose, fun ci => (hcls ci).choose_spec.choose), fun ci q hq => (hcls ci).choose_spec.choose_spec q hq⟩
  obtain ⟨G, hG⟩ : ∃ G : mx_G, G = (D, (cI, cZ), (b, s.heap.size, L), xs) := ⟨_, rfl⟩
  have hS : mx_S G s := by
    subst hG
    refine ⟨⟨hD, fun k q hq => ?_⟩, fun w hw => ?_⟩
    · match k, hq with
      | 0, hq => cases hq; exact ⟨fun n z => ⟨fun k h => (by cases h), kI, i2, pI, i3⟩, i1⟩
      | 1, hq => cases hq; exact ⟨fun n z => ⟨fun k h => (by cases h), kZ, j2, pZ, j3⟩, j1⟩
      | k + 2, hq => simp at hq
    · have h1 := List.mem_filter.mp hw
      have h2 := hts w h1.1
      have h3 := h1.2
      cases w with
      | methodLinkNest a i x q => exact va_Nw.of rfl h2
      | _ => cases h3
  have hB : mx_B G = s.heap.size := by rw [hG]
  have hC : mx_C G m_law p s m #[Value.ref b] meth c := ⟨hx, hb, hml, hown, hTT, hr, hlocks, hname, hS, Nat.le_of_eq hB, fun _ => by
    subst hG
    exact ⟨hX, hbl⟩⟩
  have hR : mx_R G [] (fun a j => if a = 1000 then xs j else 0) s.heap := ⟨fun k q h => by simp [mx_w] at h, fun _ => hB.symm, Nat.zero_le _, fun k _ hk j => if_neg (Nat.ne_of_lt hk), by
    rw [hG]
    exact funext (fun j => if_pos rfl)⟩
  have hph : mx_ph G (.ref 1000) = .ref b := by
    rw [hG]
    rfl
  have hent := mx_entry_has G [.ref 1000] 4 (Nat.le_of_ble_eq_true rfl)
  rw [List.map_cons, List.map_nil, hph] at hent
  have hlaw := law_all G (by rw [hG]; show L < 2 ^ 31; omega) (fun a j => if a = 1000 then xs j else 0) (by rw [hG]; exact funext (fun j => if_pos rfl)) (fun a ha j => if_neg (Nat.ne_of_lt ha))
  rw [lg_entry_eq]
  refine hlaw p l e s m _ below meth c _ hC ?_ s.heap [] _ hR va_S.rf hent
  intro r Λ M H locs pc ls hQ hR' hS' hret
  obtain ⟨-, rfl⟩ := hQ
  refine va_forget (fun q hq => by rw [← hB]; exact hS'.2.2 q hq) ?_
  rcases hret with ⟨h1, -, -⟩ | ⟨v, ty, -, -, -, hd⟩ | ⟨k, C, h1, -, -⟩
  · cases h1
  · exact lw_ret hx hb hr hlocks hd
  · cases h1
set_option maxHeartbeats 4000000 in
theorem lw_walk (l : Launch) (hflags : l.flags = flags0) (b : Addr) (xs : List Int32) : MetFree l x (headSpec (Jvm.Cond.code x code maxLocals ret :: tables_1) room_1) (lw_P b xs) (fun _ _ _ _ _ => True) lw_Q := by
  refine MetFree.of_bodyS (code := code) (maxLocals := maxLocals) (ret := ret) (by decide) ?_ ?_
  · intro args s m h hn
    obtain ⟨meth, c, h1, h2, h3, h4, h5, h6, -, -⟩ := Cond.code_spec hn (atoms_spec (ws := Jvm.Cond.code x code maxLocals ret :: tables_1) h _ List.mem_cons_self)
    exact ⟨meth, c, h1, h2, h3, h4, h5, h6⟩
  · intro p e s m args below meth c s₁ B hml0 hP _
    obtain ⟨rfl, hx, hbd, hgv⟩ := hP
    obtain ⟨scr, harrAt, hlist, hof, hsmall⟩ := hx
    obtain ⟨hcb, hkn, -, -⟩ := State.arrayAt?_spec harrAt
    have hown : s.vm.findClass R_law = some m.cls := findClass_of_methodNamed B.named
    have hts0 : ∀ c ∈ (Jvm.Cond.code x code maxLocals ret :: tables_1), c.before #[Value.ref b] s = true := atoms_spec (ws := Jvm.Cond.code x code maxLocals ret :: tables_1) B.pre
    have hts : ∀ w ∈ lw_tbl, w.before #[Value.ref b] s = true := k2_hts_sels lw_privs (fun w hw => hts0 w (List.mem_cons_of_mem _ hw)) lw_privs_ok
    have hml : c.maxLocals = 4 := B.maxLocals_eq (hts0 _ List.mem_cons_self)
    have X₀ : Stand p l e room_1 s m #[Value.ref b] below meth c s₁ [] 0 0 := Stand.of_body B
    have hh0 : s₁.heap = s.heap := by rw [B.state]; rfl
    have hsz : scr.slots.size = xs.length := by rw [← Array.length_toList, hlist, List.length_map]
    have hval : ∀ j : Nat, j < xs.length → scr.slots[j]? = some (.int (xs.getD j 0)) := fun j hj => by
      rw [← Array.getElem?_toList, hlist]
      simp [hj]
    have hbl : b < s.heap.size := (Array.getElem?_eq_some_iff.mp hcb).1
    have hX : va_X b xs.length (fun j => xs.getD j 0) s s.heap := ⟨scr, hcb, hof, hkn, hsz, hval⟩
    have K : W p l e room_1 s m #[Value.ref b] below meth c s₁.heap [] 0 0 (lw_Z below #[Value.ref b] s) (entryFrame m ([Value.ref b] : List Value).toArray 4) := by
      rw [hh0]
      exact whole_start l hbd (name_of_methodNamed B.named B.method).1 ⟨B.exec, B.bytes, B.returns, hml, hown, hts, hX, hbl, B.notSynchronized, hgv⟩
    obtain ⟨t, a1, o, b1, b2, b3⟩ := K s₁ rfl X₀
    exact ⟨t, o, a1, b1, b2, b3⟩
theorem lw_pre_spec {args : Array Value} {s : State} (h : (Jvm.Cond.and given_1 narrow_1).before args s = true) (hr : rest_1_c.before args s = true) : ∃ (b : Addr) (xs : List Int32), lw_P b xs args s := by
  have hs := flat_of_before _ h
  have hq := flat_of_before _ hr
  have hc : (Cond.count 1).before args s = true := hs _ (by decide +kernel)
  have harr : (Cond.arrayOf (.arg 0) .int).before args s = true := hs _ (by decide +kernel)
  have hle : (Cond.le (.length (.arg 0)) (.int 3072)).before args s = true := hs _ (by decide +kernel)
  have hlen : (Cond.isInt (.length (.arg 0))).before args s = true := hq _ (by decide +kernel)
  have hall : (Cond.all (.arg 0) (.isInt (.elem (.arg 0) (.index 0)))).before args s = true := hq _ (by decide +kernel)
  obtain ⟨b, xs, hb, hx⟩ := State.ints_of_pre rfl harr hlen hall
  have hsm : xs.length < 2 ^ 31 := hx.choose_spec.2.2.2
  have hev : (Term.length (.arg 0)).eval args s none [] s = some (.int xs.length.toInt32) := hx.length_eval hb
  have hv := Cond.le_ints hev (show (Term.int 3072).eval args s none [] s = some (.int 3072) from rfl)
  have hd : xs.length.toInt32 ≤ 3072 := by
    simpa [Cond.before, Cond.holds, hv] using hle
  have hN : xs.length ≤ 3072 := (Int32.ofNat_le_ofNat hsm (by decide)).mp (show Int32.ofNat xs.length ≤ Int32.ofNat 3072 from hd)
  exact ⟨b, xs, Cond.one_arg hc (show args[0]? = some (.ref b) from hb), hx, hN, h⟩
theorem lw_comes (l : Launch) (hflags : l.flags = flags0) : Comes l x (Jvm.Cond.code x code maxLocals ret :: tables_1) room_1 (fun tb e args s => Calls_1 tb e args s ∧ rest_1 tb e args s ∧ Pre_1 tb e args s)
    (fun _ _ args s o t => lw_Q args s o t) := by
  intro p e ha hc hk s m args below hf hfit hheap happ hpre
  obtain ⟨b, xs, hP⟩ := lw_pre_spec hpre.2.2 hpre.2.1
  obtain ⟨k, o, h1, h2, h3, hQ⟩ := lw_walk l hflags b xs p e ha hc hk s m args below hf ((Spec.applies_iff_loose hf).mp happ).1 hP trivial
  exact ⟨k, o, h1, h2, h3, hQ⟩
theorem lw_frame {s t : State} {o : Outcome} {args : Array Value} (h : Framed s o t [] 139 17263) :
    Framed s o t (fieldLocs frame_1_writes args s ++ arrayLocs frame_1_arrays args s ++ staticLocs frame_1_statics s) 139 17263 := h
theorem lw_limb (L : Cond) (hL : ∀ (args : Array Value) (s t : State), L.after args s (.returned (some (.int 1))) t = true) :
    ArmFor flags0 classFile x code maxLocals ret World_1 tables_1 room_1 Calls_1 rest_1 Pre_1
      (fun tb e a s o t => postC L tb e a s o t ∧ Framed s o t (fieldLocs frame_1_writes a s ++ arrayLocs frame_1_arrays a s ++ staticLocs frame_1_statics s) 139 17263) := by
  intro l hflags _ _ p e ha hc hk s m args below hf hfit hheap happ hpre
  obtain ⟨k, o, h1, h2, h3, rfl, hF⟩ := lw_comes l hflags p e ha hc hk s m args below hf hfit hheap happ hpre
  exact ⟨k, _, h1, h2, h3, hL args s _, lw_frame hF⟩
theorem i_vc : Claimed_1_1 ∧ Claimed_1_2 := ⟨lw_limb limb_1_1 (fun args s t => by simp [limb_1_1, Cond.after, Cond.holds, Cond.value]), lw_limb limb_1_2 (fun args s t => Cond.after_iff.mpr (by
  first | (rw [show limb_1_2 = Cond.eq .result (.int 1) from rfl, Cond.eq_ints (x := 1) (y := 1) rfl rfl]; simp; done) | (simp [limb_1_2, Cond.value, Term.eval]; done)))⟩

