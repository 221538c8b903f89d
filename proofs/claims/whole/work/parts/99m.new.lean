/-! ===== making: objects, arrays, constructors ===== -/
def mx_nul (ci : Nat) : List (Option (Option Nat)) := (mx_off.getD ci []).map (fun o => o.map (fun _ => none))
def mx_dv (ci : Nat) : List Value := (mx_off.getD ci []).map (fun o => match o with | none => Value.int 0 | some _ => Value.null)
theorem mx_w_app (G : mx_G) (Λ : List mx_K) (kd : mx_K) (M : mx_M) : mx_w G (Λ ++ [kd]) M = mx_w G Λ M ++ [(mx_B G + Λ.length, mx_e G M Λ.length kd)] := by
  unfold mx_w
  rw [List.mapIdx_concat]
theorem mx_w_setK (G : mx_G) (Λ : List mx_K) (h : Nat) (kd : mx_K) (M : mx_M) : mx_w G (Λ.set h kd) M = (mx_w G Λ M).set h (mx_B G + h, mx_e G M h kd) := by
  unfold mx_w
  rw [List.mapIdx_set]
theorem mx_nul_v {G : mx_G} {M : mx_M} {k : Nat} (ci : Nat) (hM : ∀ j, M k j = 0) : (mx_nul ci).mapIdx (mx_fv G M k) = mx_dv ci := by
  unfold mx_nul mx_dv
  apply List.ext_getElem?
  intro j
  rw [List.getElem?_mapIdx, List.getElem?_map, List.getElem?_map]
  cases (mx_off.getD ci [])[j]? with
  | none => rfl
  | some o => cases o with
    | none => show some (Value.int (M k j)) = some (Value.int 0); rw [hM]
    | some q => rfl
section MXN
variable {m : MR} {G : mx_G} {Λ : List mx_K} {pc : Nat} {s : List Value} {l : List (Option Value)} {M : mx_M} {cl sl : Nat} {Q : mx_Q}
theorem mx_R_push {kd : mx_K} {H H1 : Heap} (hR : mx_R G Λ M H) (hΛ : Λ.length < 139) (hat : va_at G.1 vwCl (mx_B G + Λ.length, mx_e G M Λ.length kd) H1) (hk : ∀ q, q < H.size → H1[q]? = H[q]?) (hz : H1.size = H.size + 1) : mx_R G (Λ ++ [kd]) M H1 := by
  obtain ⟨h1, h2, h3, h4, h5⟩ := hR
  have hl : (Λ ++ [kd]).length = Λ.length + 1 := by rw [List.length_append]; rfl
  refine ⟨?_, fun _ => ?_, ?_, fun k a b => ?_, h5⟩
  · rw [mx_w_app]
    refine (h1.kept (fun k q hq => hk _ ((h1 k q hq).lt))).app (fun k q hq => ?_)
    have hz : k < 1 := (List.getElem?_eq_some_iff.mp hq).1
    rw [show k = 0 by omega] at hq
    cases hq
    exact hat
  · rw [hz, h2 hΛ, hl]; omega
  · rw [hl]; omega
  · rw [hl] at a; exact h4 k (by omega) b
theorem mx_newI {n pl : Nat} (hΛ : Λ.length < 139) (harr : inTT pl (.arrayClass .int) = true) (hn : n ≤ 1000) (hcl : cl + 1 ≤ m.2.2.2.2.cells ∧ sl + n ≤ m.2.2.2.2.slots) (hd : decode m.2.1 pc = .ok (.newarray .int, 2)) (k : mx_W G m (pc + 2) (.ref Λ.length :: s, l, M) (Λ ++ [.inr (false, n)]) (cl + 1) (sl + n) Q) : mx_W G m pc (.int (nI n) :: s, l, M) Λ cl sl Q := by
  intro p l0 e s0 mid args below meth c Z hC hZ H locs ls hR hS hl
  have hts := hC.2.2.2.2.1
  have hK := hC.2.2.2.2.2.2.2.2.1.1
  have hsz := hR.2.1 hΛ
  refine va_newaK (atype := .int) hC.1 hC.2.1 (hts _ (inTT_mem harr)) (g := F0 mid pc ls (.int (nI n) :: s.map (mx_ph G))) rfl hd rfl (nI_nn (by omega)) (nI_clamp (by omega)) (by
    have : componentBytes (newarray.typeOf .int) = 4 := rfl
    rw [this]; omega) hcl.1 hcl.2 hsz (fun H1 cA e1 z1 o1 hAr hNm => ?_)
  have hcA : cA = mx_cI G := Option.some.inj (hNm.symm.trans (hK.2 0 _ rfl).2)
  subst hcA
  have hv : (fun j => Value.int (M Λ.length j)) = fun _ => defaultValue (newarray.typeOf .int) := funext (fun j => by
    have hM0 : M Λ.length j = 0 := hR.2.2.2.1 Λ.length (Nat.le_refl _) (by omega) j
    rw [hM0]; rfl)
  have hR1 : mx_R G (Λ ++ [.inr (false, n)]) M H1 := mx_R_push hR hΛ (by
    show H1[mx_B G + Λ.length]? = some (vp_cell (mx_cI G) (n, .inl (M Λ.length)))
    rw [vp_cell_i, hv]
    exact e1) (fun q hq => o1 q (by omega)) (by omega)
  have h2 := k p l0 e s0 mid args below meth c Z hC hZ H1 locs ls hR1 ⟨Nat.le_trans hS.1 (by omega), fun x h1 h2 => (o1 x (by have := hS.1; omega)).trans (hS.2.1 x h1 h2), hS.2.2⟩ hl
  have he : mx_ph G (.ref Λ.length) = .ref (mx_B G + Λ.length) := by simp [mx_ph, mx_ad_at (show Λ.length < 1000 by omega)]
  rw [List.map_cons, he] at h2
  exact h2
theorem mx_newZ {n pl : Nat} (hΛ : Λ.length < 139) (harr : inTT pl (.arrayClass .boolean) = true) (hn : n ≤ 1000) (hcl : cl + 1 ≤ m.2.2.2.2.cells ∧ sl + n ≤ m.2.2.2.2.slots) (hd : decode m.2.1 pc = .ok (.newarray .boolean, 2)) (k : mx_W G m (pc + 2) (.ref Λ.length :: s, l, M) (Λ ++ [.inr (true, n)]) (cl + 1) (sl + n) Q) : mx_W G m pc (.int (nI n) :: s, l, M) Λ cl sl Q := by
  intro p l0 e s0 mid args below meth c Z hC hZ H locs ls hR hS hl
  have hts := hC.2.2.2.2.1
  have hK := hC.2.2.2.2.2.2.2.2.1.1
  have hsz := hR.2.1 hΛ
  refine va_newaK (atype := .boolean) hC.1 hC.2.1 (hts _ (inTT_mem harr)) (g := F0 mid pc ls (.int (nI n) :: s.map (mx_ph G))) rfl hd rfl (nI_nn (by omega)) (nI_clamp (by omega)) (by
    have : componentBytes (newarray.typeOf .boolean) = 1 := rfl
    rw [this]; omega) hcl.1 hcl.2 hsz (fun H1 cA e1 z1 o1 hAr hNm => ?_)
  have hcA : cA = mx_cZ G := Option.some.inj (hNm.symm.trans (hK.2 1 _ rfl).2)
  subst hcA
  have hv : (fun j => Value.int (M Λ.length j)) = fun _ => defaultValue (newarray.typeOf .boolean) := funext (fun j => by
    have hM0 : M Λ.length j = 0 := hR.2.2.2.1 Λ.length (Nat.le_refl _) (by omega) j
    rw [hM0]; rfl)
  have hR1 : mx_R G (Λ ++ [.inr (true, n)]) M H1 := mx_R_push hR hΛ (by
    show H1[mx_B G + Λ.length]? = some (vp_cell (mx_cZ G) (n, .inl (M Λ.length)))
    rw [vp_cell_i, hv]
    exact e1) (fun q hq => o1 q (by omega)) (by omega)
  have h2 := k p l0 e s0 mid args below meth c Z hC hZ H1 locs ls hR1 ⟨Nat.le_trans hS.1 (by omega), fun x h1 h2 => (o1 x (by have := hS.1; omega)).trans (hS.2.1 x h1 h2), hS.2.2⟩ hl
  have he : mx_ph G (.ref Λ.length) = .ref (mx_B G + Λ.length) := by simp [mx_ph, mx_ad_at (show Λ.length < 1000 by omega)]
  rw [List.map_cons, he] at h2
  exact h2
theorem mx_newO {idx ci N p1 p2 p3 : Nat} {C : String} {T : u_T} (hΛ : Λ.length < 139) (hc : vwCl[ci]? = some (C, T, N)) (hw : (inTT p1 (.classLink m.1.cls idx C) && inTT p2 (.instantiable C N) && inTT p3 (.initialized C)) = true) (hfs : ∀ j, j < N → defaultValue (mx_ty ci j) = vp_V (mx_dv ci) j) (hcl : cl + 1 ≤ m.2.2.2.2.cells ∧ sl + N ≤ m.2.2.2.2.slots) (hd : decode m.2.1 pc = .ok (.new idx, 3)) (k : mx_W G m (pc + 3) (.ref Λ.length :: s, l, M) (Λ ++ [.inl (ci, mx_nul ci)]) (cl + 1) (sl + N) Q) : mx_W G m pc (s, l, M) Λ cl sl Q := by
  intro p l0 e s0 mid args below meth c Z hC hZ H locs ls hR hS hl
  have hts := hC.2.2.2.2.1
  have hK := hC.2.2.2.2.2.2.2.2.1.1
  have hsz := hR.2.1 hΛ
  simp only [Bool.and_eq_true] at hw
  obtain ⟨⟨w1, w2⟩, w3⟩ := hw
  obtain ⟨hin, hty, hnm⟩ := mx_cls ci C T N hc
  have hKn := hK.1 ci _ hc
  refine W.newcK hC.1 hC.2.1 (g := F0 mid pc ls (s.map (mx_ph G))) hC.2.2.2.1 (hts _ (inTT_mem w1)) (hts _ (inTT_mem w2)) (hts _ (inTT_mem w3)) rfl hd hcl.1 hcl.2 hKn.2.1 hsz (fun H1 kC hkC e1 z1 o1 => ?_)
  have hR1 : mx_R G (Λ ++ [.inl (ci, mx_nul ci)]) M H1 := mx_R_push hR hΛ (by
    show va_at G.1 vwCl (mx_B G + Λ.length, .inr (ci, (mx_nul ci).mapIdx (mx_fv G M Λ.length))) H1
    rw [mx_nul_v ci (fun j => hR.2.2.2.1 Λ.length (Nat.le_refl _) (by omega) j)]
    exact ⟨_, hc, (u_born (mx_ty ci) hts hin hKn hkC e1 hty).to hfs⟩) (fun q hq => o1 q (by omega)) (by omega)
  have h2 := k p l0 e s0 mid args below meth c Z hC hZ H1 locs ls hR1 ⟨Nat.le_trans hS.1 (by omega), fun x h1 h2 => (o1 x (by have := hS.1; omega)).trans (hS.2.1 x h1 h2), hS.2.2⟩ hl
  have he : mx_ph G (.ref Λ.length) = .ref (mx_B G + Λ.length) := by simp [mx_ph, mx_ad_at (show Λ.length < 1000 by omega)]
  rw [List.map_cons, he] at h2
  exact h2
theorem mx_putR {idx ci k h r N p1 : Nat} {C : String} {T : u_T} {fs : List (Option (Option Nat))} {kr : mx_K} (hc : vwCl[ci]? = some (C, T, N)) (hk : k < N) (hb : (T k).1 = C ∧ C = m.1.cls ∧ m.1.name = "<init>" ∧ (T k).2.2.2 = true) (hw : inTT p1 (.fieldLink m.1.cls idx C (T k).2.1 (T k).2.2.1) = true) (hty0 : ∀ a, narrow (mx_ty ci k) (.ref a) = .ref a ∧ fits (mx_ty ci k) (.ref a) = true) (hL : Λ[h]? = some (.inl (ci, fs))) (hkl : k < fs.length) (hr : Λ[r]? = some kr) (hd : decode m.2.1 pc = .ok (.putfield idx, 3)) (kk : mx_W G m (pc + 3) (s, l, M) (Λ.set h (.inl (ci, fs.set k (some (some r))))) cl sl Q) : mx_W G m pc (.ref r :: .ref h :: s, l, M) Λ cl sl Q := by
  intro p l0 e s0 mid args below meth c Z hC hZ H locs ls hR hS hl
  have hts := hC.2.2.2.2.1
  have hK := hC.2.2.2.2.2.2.2.2.1.1
  obtain ⟨hb1, hb2, hb3, hb4⟩ := hb
  have hown := hC.2.2.2.1
  have hname : meth.name = "<init>" := by rw [hC.2.2.2.2.2.2.2.1]; exact hb3
  have hr1 := hR.lt hr
  have hh1 := hR.lt hL
  show W p l0 e m.2.2.2.2 s0 mid args below meth c H locs cl sl Z (F0 mid pc ls (mx_ph G (.ref r) :: mx_ph G (.ref h) :: s.map (mx_ph G)))
  rw [mx_ph_ref hR hr, mx_ph_ref hR hL]
  have he := mx_w_at (G := G) (M := M) hL
  obtain ⟨hin, hty, hnm⟩ := mx_cls ci C T N hc
  have hap := va_apart (own := m.1.cls) hts hin (mx_ty ci) hty hnm hK hc
  obtain ⟨r0, h1, cell, q1, q2, q3, q4⟩ := hR.1 h _ he
  have hr0 : r0 = (C, T, N) := Option.some.inj (h1.symm.trans hc)
  subst hr0
  obtain ⟨hSl, hfc, kC, hkC, hkind⟩ := hK.1 ci _ hc
  obtain ⟨cf, kf, fi, f, hi, hsl⟩ := hSl k hk
  have hlay := hts _ (hin _ (u_in_lay hk))
  unfold u_lay at hlay
  rw [if_pos hb4] at hlay
  have hst := (u_facts hfc hkC (u_lays hts hin hk) hi).1
  have hcf : mid.cls = cf := by
    obtain ⟨_, _, c', _, _, _, -, -, hf', -, -, -, hown2, -⟩ := Cond.laysFinal_spec hlay
    have e1 : c' = cf := by have := hi.symm.trans hf'; simp at this; exact this.1.symm
    rw [hb1, hb2] at hown2
    rw [← e1]; exact Option.some.inj (hown.symm.trans hown2)
  have h6 := u_fits hfc hkC hkind (Or.inr hlay) hi (hty k hk) (hty0 (mx_B G + r)).1 (hty0 (mx_B G + r)).2
  refine W.putFinK hC.1 hC.2.1 hown (hts _ (inTT_mem hw)) (by rw [← hb1]; exact hi) hst hcf hname (by rw [q2]; exact h6) q1 q3 (by rw [hsl]; exact k2_hasslot (q4 k hk)) rfl rfl hd fun H' e1 e2 e3 => ?_
  rw [hsl] at e1 ⊢
  have hlk : k < (fs.mapIdx (mx_fv G M h)).length := by simpa using hkl
  have hP1 := hR.1.set (mx_w_D G Λ M) he (e := .inr (ci, (fs.mapIdx (mx_fv G M h)).set k (.ref (mx_B G + r)))) ⟨_, hc, t_OB.to (V := updV (vp_V _) k (.ref (mx_B G + r))) ⟨_, e1, q2, q3, t_set q4 hap hk (.ref (mx_B G + r))⟩ (fun j _ => vp_updV_set hlk (.ref (mx_B G + r)) j)⟩ e3
  have e4 : mx_w G (Λ.set h (.inl (ci, fs.set k (some (some r))))) M = (mx_w G Λ M).set h (mx_B G + h, .inr (ci, (fs.mapIdx (mx_fv G M h)).set k (.ref (mx_B G + r)))) := by
    rw [mx_w_setK]
    have e5 : mx_e G M h (.inl (ci, fs.set k (some (some r)))) = .inr (ci, (fs.mapIdx (mx_fv G M h)).set k (.ref (mx_B G + r))) := by
      show Sum.inr (ci, (fs.set k (some (some r))).mapIdx (mx_fv G M h)) = _
      rw [List.mapIdx_set]
      have : mx_fv G M h k (some (some r)) = .ref (mx_B G + r) := by
        show Value.ref (mx_ad G r) = _
        rw [mx_ad_at hr1.2]
      rw [this]
    rw [e5]
  obtain ⟨g1, g2, g3, g4, g5⟩ := hR
  have hls : (Λ.set h (.inl (ci, fs.set k (some (some r))))).length = Λ.length := List.length_set
  exact kk p l0 e s0 mid args below meth c Z hC hZ H' _ ls ⟨by rw [e4]; exact hP1, fun q => by rw [hls] at q ⊢; rw [e2]; exact g2 q, by rw [hls]; exact g3, fun q a b => g4 q (by rw [hls] at a; exact a) b, g5⟩ (hS.put e2 e3 (show mx_B G ≤ mx_B G + h by omega)) hl
theorem mx_objI {idx h p1 : Nat} (hw : (inTT p1 (.methodLink m.1.cls idx Lib.objectInit) && inTT 99 (.instanceMethod Lib.objectInit) && inTT 100 (.code Lib.objectInit ⟨#[0xb1]⟩ 1 none)) = true) (hll : l.length = m.2.2.1) (hrm : 1 ≤ m.2.2.2.2.frames ∧ 20 ≤ m.2.2.2.2.locals) (hs0 : (s.map fun v => v.category).sum ≤ 8) {kd : mx_K} (hL : Λ[h]? = some kd) (hd : decode m.2.1 pc = .ok (.invokespecial idx, 3)) (k : mx_W G m (pc + 3) (s, l, M) Λ cl sl Q) : mx_W G m pc (.ref h :: s, l, M) Λ cl sl Q := by
  intro p l0 e s0 mid args below meth c Z hC hZ H locs ls hR hS hl
  have hts := hC.2.2.2.2.1
  simp only [Bool.and_eq_true] at hw
  obtain ⟨⟨w1, w2⟩, w3⟩ := hw
  show W p l0 e m.2.2.2.2 s0 mid args below meth c H locs cl sl Z (F0 mid pc ls (mx_ph G (.ref h) :: s.map (mx_ph G)))
  rw [mx_ph_ref hR hL]
  have hm8 := lv_room (m := mid) (pc := pc) (ls := ls) (rest := (.ref (mx_B G + h) :: s.map (mx_ph G))) (st := s.map (mx_ph G)) (by rw [mx_cats]; exact hs0)
  exact W.objInit hC.1 hC.2.1 hC.2.2.2.1 (hts _ (inTT_mem w1)) (hts _ (inTT_mem w2)) (hts _ (inTT_mem w3)) rfl (by show ls.size = c.maxLocals; rw [hC.2.2.1, hl.1, hll]) rfl hd hrm.1 (by have := hrm.2; omega) (k p l0 e s0 mid args below meth c Z hC hZ H locs ls hR hS hl)
/-- what the tables must say of a constructor's call: by its own link, or a nest mate's -/
def mx_ci (m mc : MR) (idx : Nat) (ps : List Nat) : Bool := mx_cb m mc 0 && inTT (ps.getD 0 0) (.methodLink m.1.cls idx mc.1) && inTT (ps.getD 1 0) (.instanceMethod mc.1) && inTT (ps.getD 2 0) (.initialized mc.1.cls) && inTT (ps.getD 3 0) (.code mc.1 mc.2.1 mc.2.2.1 mc.2.2.2.1) && decide (mc.1.name = "<init>") && decide (mc.2.2.2.1 = none)
def mx_cn (m mc : MR) (idx : Nat) (host : String) (ps : List Nat) : Bool := mx_cb m mc 0 && decide (lw_tbl[ps.getD 0 0]? = some (.methodLinkNest m.1.cls idx mc.1 host)) && inTT (ps.getD 1 0) (.instanceMethod mc.1) && inTT (ps.getD 2 0) (.initialized mc.1.cls) && inTT (ps.getD 3 0) (.code mc.1 mc.2.1 mc.2.2.1 mc.2.2.2.1) && decide (mc.1.name = "<init>") && decide (mc.2.2.2.1 = none)
theorem mx_callI {mc : MR} {idx h : Nat} {ps : List Nat} {kd : mx_K} {Q' : mx_Q} (hd : decode m.2.1 pc = .ok (.invokespecial idx, 3)) (hck : mx_ci m mc idx ps = true) (hL : Λ[h]? = some kd) (hll : l.length = m.2.2.1) (hw : (s.map fun v => v.category).sum ≤ 8)
    (hcl : cl + mc.2.2.2.2.cells ≤ m.2.2.2.2.cells ∧ sl + mc.2.2.2.2.slots ≤ m.2.2.2.2.slots) (hOk : mx_Ok G mc [.ref h] Λ M Q') (k : ∀ r Λ' M', Q' r Λ' M' → mx_W G m (pc + 3) (r.toList ++ s, l, M') Λ' (cl + mc.2.2.2.2.cells) (sl + mc.2.2.2.2.slots) Q) : mx_W G m pc (.ref h :: s, l, M) Λ cl sl Q := by
  intro p l0 e s0 mid args below meth c Z hC hZ H locs ls hR hS hl
  simp only [mx_ci, mx_cb, Bool.and_eq_true, decide_eq_true_eq] at hck
  obtain ⟨⟨⟨⟨⟨⟨⟨⟨⟨⟨c1, c2⟩, c3⟩, c4⟩, c5⟩, w1⟩, w2⟩, w3⟩, w4⟩, c6⟩, c7⟩ := hck
  have hts := hC.2.2.2.2.1
  have hg : GoodIn TT (mx_ws mc) := mx_good (fun w h => h) (fun w hw => mx_ws_sub (inTT_mem w4) w hw)
  have hsz : ls.size = m.2.2.1 := hl.1.trans hll
  have hr := va_runI (As := []) (rest := s.map (mx_ph G)) (b := mx_B G + h) (g := F0 mid pc ls ((.ref h :: s).map (mx_ph G))) (nL := m.2.2.1) (cells := cl) (slots := sl) (locs := locs) (H := H) (below := below) (meth := meth) (e := e) ⟨hC.1, hC.2.1, hC.2.2.1, hC.2.2.2.1, hts⟩ (hOk l0) (cwI (R := m.2.2.2.2) 0 hts hg (by unfold mx_ws; rw [c7]) rfl rfl (hts _ (inTT_mem w3)) (hts _ (inTT_mem w1)) (hts _ (inTT_mem w2)) c6 ⟨c1, c2, c3⟩ ⟨c4, c5⟩) ⟨mx_blind _, fun U hU hW => ⟨by simp [mx_ph_ref hR hL], by rw [hU]; exact hR, hC.2.2.2.2.2.2.2.2.1.warm hW⟩⟩ rfl rfl hsz (by simp [mx_ph_ref hR hL]) (lv_room (by rw [mx_cats]; exact hw)) hd hcl
  refine mx_after (Q' := Q') (a := #[]) hr hS (fun r Λ' M' H1 locs1 hQ hR1 hS1 => ?_)
  have h2 := k r Λ' M' hQ p l0 e s0 mid args below meth c Z hC hZ H1 locs1 ls hR1 hS1 hl
  simpa using h2
theorem mx_callN {mc : MR} {idx h : Nat} {host : String} {ps : List Nat} {kd : mx_K} {Q' : mx_Q} (hd : decode m.2.1 pc = .ok (.invokespecial idx, 3)) (hck : mx_cn m mc idx host ps = true) (hL : Λ[h]? = some kd) (hll : l.length = m.2.2.1) (hw : (s.map fun v => v.category).sum ≤ 8)
    (hcl : cl + mc.2.2.2.2.cells ≤ m.2.2.2.2.cells ∧ sl + mc.2.2.2.2.slots ≤ m.2.2.2.2.slots) (hOk : mx_Ok G mc [.ref h] Λ M Q') (k : ∀ r Λ' M', Q' r Λ' M' → mx_W G m (pc + 3) (r.toList ++ s, l, M') Λ' (cl + mc.2.2.2.2.cells) (sl + mc.2.2.2.2.slots) Q) : mx_W G m pc (.ref h :: s, l, M) Λ cl sl Q := by
  intro p l0 e s0 mid args below meth c Z hC hZ H locs ls hR hS hl
  simp only [mx_cn, mx_cb, Bool.and_eq_true, decide_eq_true_eq] at hck
  obtain ⟨⟨⟨⟨⟨⟨⟨⟨⟨⟨c1, c2⟩, c3⟩, c4⟩, c5⟩, w1⟩, w2⟩, w3⟩, w4⟩, c6⟩, c7⟩ := hck
  have hts := hC.2.2.2.2.1
  have hg : GoodIn TT (mx_ws mc) := mx_good (fun w h => h) (fun w hw => mx_ws_sub (inTT_mem w4) w hw)
  have hsz : ls.size = m.2.2.1 := hl.1.trans hll
  have hnw : va_Nw (.methodLinkNest m.1.cls idx mc.1 host) s0 := hC.2.2.2.2.2.2.2.2.1.2 _ (List.mem_filter.mpr ⟨List.mem_of_getElem? w1, rfl⟩)
  have hr := va_runIN (As := []) (rest := s.map (mx_ph G)) (b := mx_B G + h) (g := F0 mid pc ls ((.ref h :: s).map (mx_ph G))) (nL := m.2.2.1) (cells := cl) (slots := sl) (locs := locs) (H := H) (below := below) (meth := meth) (e := e) ⟨hC.1, hC.2.1, hC.2.2.1, hC.2.2.2.1, hts⟩ (hOk l0) ⟨va_cnB (R := m.2.2.2.2) 0 hts hg (by unfold mx_ws; rw [c7]) rfl rfl hnw (hts _ (inTT_mem w3)) ⟨c1, c2, c3⟩ ⟨c4, c5⟩, c6, hts _ (inTT_mem w2)⟩ ⟨mx_blind _, fun U hU hW => ⟨by simp [mx_ph_ref hR hL], by rw [hU]; exact hR, hC.2.2.2.2.2.2.2.2.1.warm hW⟩⟩ rfl rfl hsz (by simp [mx_ph_ref hR hL]) (lv_room (by rw [mx_cats]; exact hw)) hd hcl
  refine mx_after (Q' := Q') (a := #[]) hr hS (fun r Λ' M' H1 locs1 hQ hR1 hS1 => ?_)
  have h2 := k r Λ' M' hQ p l0 e s0 mid args below meth c Z hC hZ H1 locs1 ls hR1 hS1 hl
  simpa using h2
/-- may a final field of references be set here -/
def mx_okR (m : MR) (idx ci k p1 : Nat) : Bool := match vwCl[ci]? with
  | some (C, T, N) => decide (k < N) && decide ((T k).1 = C) && decide (C = m.1.cls) && decide (m.1.name = "<init>") && (T k).2.2.2 && inTT p1 (.fieldLink m.1.cls idx C (T k).2.1 (T k).2.2.1)
  | none => false
theorem mx_okR_spec {idx ci k p1 : Nat} (h : mx_okR m idx ci k p1 = true) : ∃ C T N, vwCl[ci]? = some (C, T, N) ∧ k < N ∧ ((T k).1 = C ∧ C = m.1.cls ∧ m.1.name = "<init>" ∧ (T k).2.2.2 = true) ∧ inTT p1 (.fieldLink m.1.cls idx C (T k).2.1 (T k).2.2.1) = true := by
  unfold mx_okR at h
  split at h
  · rename_i C T N hc
    simp only [Bool.and_eq_true, decide_eq_true_eq] at h
    obtain ⟨⟨⟨⟨⟨h1, h2⟩, h3⟩, h4⟩, h5⟩, h6⟩ := h
    exact ⟨C, T, N, hc, h1, ⟨h2, h3, h4, h5⟩, h6⟩
  · cases h
/-- a field of the object that is made, the last but for what it has made itself -/
theorem in_put {Λ0 Tl : List mx_K} {h r k idx ci p1 : Nat} {fs : List (Option (Option Nat))} {kr : mx_K} (hh : Λ0.length = h) (hck : mx_okR m idx ci k p1 = true) (hty0 : ∀ a, narrow (mx_ty ci k) (.ref a) = .ref a ∧ fits (mx_ty ci k) (.ref a) = true) (hkl : k < fs.length) (hr : (Λ0 ++ .inl (ci, fs) :: Tl)[r]? = some kr) (hd : decode m.2.1 pc = .ok (.putfield idx, 3))
    (kk : mx_W G m (pc + 3) (s, l, M) (Λ0 ++ .inl (ci, fs.set k (some (some r))) :: Tl) cl sl Q) : mx_W G m pc (.ref r :: .ref h :: s, l, M) (Λ0 ++ .inl (ci, fs) :: Tl) cl sl Q := by
  obtain ⟨C, T, N, h1, h2, h3, h4⟩ := mx_okR_spec hck
  subst hh
  refine mx_putR h1 h2 h3 h4 hty0 (fs := fs) (by simp) hkl hr hd ?_
  have e : (Λ0 ++ .inl (ci, fs) :: Tl).set Λ0.length (.inl (ci, fs.set k (some (some r)))) = Λ0 ++ .inl (ci, fs.set k (some (some r))) :: Tl := by
    rw [List.set_append_right _ _ (Nat.le_refl _), Nat.sub_self]
    rfl
  rw [e]
  exact kk
theorem in_stepA {Λ0 Tl : List mx_K} {ops : List mx_Op} {h r n k idx ci p1 pc1 : Nat} {fs : List (Option (Option Nat))} (hh : Λ0.length = h) (hr : h + 1 + Tl.length = r) (h139 : r < 139) (hck : mx_ck m pc ops = some pc1) (hb : ∀ Λ, mx_blk (mx_L G) Λ ops ([], [some (.ref h)], M) = some (([.int (nI n), .ref h], [some (.ref h)], M), True)) (hn : n ≤ 1000) (hcl : cl + 1 ≤ m.2.2.2.2.cells ∧ sl + n ≤ m.2.2.2.2.slots) (d1 : decode m.2.1 pc1 = .ok (.newarray .int, 2)) (hok : mx_okR m idx ci k p1 = true) (hty0 : ∀ a, narrow (mx_ty ci k) (.ref a) = .ref a ∧ fits (mx_ty ci k) (.ref a) = true) (hkl : k < fs.length) (d2 : decode m.2.1 (pc1 + 2) = .ok (.putfield idx, 3))
    (kk : mx_W G m (pc1 + 2 + 3) ([], [some (.ref h)], M) (Λ0 ++ .inl (ci, fs.set k (some (some r))) :: (Tl ++ [.inr (false, n)])) (cl + 1) (sl + n) Q) : mx_W G m pc ([], [some (.ref h)], M) (Λ0 ++ .inl (ci, fs) :: Tl) cl sl Q := by
  have hlen : (Λ0 ++ .inl (ci, fs) :: Tl).length = r := by rw [List.length_append, List.length_cons, hh, ← hr]; omega
  refine mx_go hck (hb _) trivial ?_
  refine mx_newI (pl := 120) (by omega) (by decide +kernel) hn hcl d1 ?_
  rw [hlen, List.append_assoc, List.cons_append]
  refine in_put (kr := .inr (false, n)) hh hok hty0 hkl ?_ d2 kk
  have e : Λ0 ++ .inl (ci, fs) :: (Tl ++ [.inr (false, n)]) = (Λ0 ++ .inl (ci, fs) :: Tl) ++ [.inr (false, n)] := by rw [List.append_assoc, List.cons_append]
  rw [e, ← hlen, List.getElem?_append_right (Nat.le_refl _), Nat.sub_self]
  rfl
theorem in_stepZ {Λ0 Tl : List mx_K} {ops : List mx_Op} {h r n k idx ci p1 pc1 : Nat} {fs : List (Option (Option Nat))} (hh : Λ0.length = h) (hr : h + 1 + Tl.length = r) (h139 : r < 139) (hck : mx_ck m pc ops = some pc1) (hb : ∀ Λ, mx_blk (mx_L G) Λ ops ([], [some (.ref h)], M) = some (([.int (nI n), .ref h], [some (.ref h)], M), True)) (hn : n ≤ 1000) (hcl : cl + 1 ≤ m.2.2.2.2.cells ∧ sl + n ≤ m.2.2.2.2.slots) (d1 : decode m.2.1 pc1 = .ok (.newarray .boolean, 2)) (hok : mx_okR m idx ci k p1 = true) (hty0 : ∀ a, narrow (mx_ty ci k) (.ref a) = .ref a ∧ fits (mx_ty ci k) (.ref a) = true) (hkl : k < fs.length) (d2 : decode m.2.1 (pc1 + 2) = .ok (.putfield idx, 3))
    (kk : mx_W G m (pc1 + 2 + 3) ([], [some (.ref h)], M) (Λ0 ++ .inl (ci, fs.set k (some (some r))) :: (Tl ++ [.inr (true, n)])) (cl + 1) (sl + n) Q) : mx_W G m pc ([], [some (.ref h)], M) (Λ0 ++ .inl (ci, fs) :: Tl) cl sl Q := by
  have hlen : (Λ0 ++ .inl (ci, fs) :: Tl).length = r := by rw [List.length_append, List.length_cons, hh, ← hr]; omega
  refine mx_go hck (hb _) trivial ?_
  refine mx_newZ (pl := 1037) (by omega) (by decide +kernel) hn hcl d1 ?_
  rw [hlen, List.append_assoc, List.cons_append]
  refine in_put (kr := .inr (true, n)) hh hok hty0 hkl ?_ d2 kk
  have e : Λ0 ++ .inl (ci, fs) :: (Tl ++ [.inr (true, n)]) = (Λ0 ++ .inl (ci, fs) :: Tl) ++ [.inr (true, n)] := by rw [List.append_assoc, List.cons_append]
  rw [e, ← hlen, List.getElem?_append_right (Nat.le_refl _), Nat.sub_self]
  rfl
/-- the contract of a constructor: the object, last of what is made, and all that belongs to it behind it -/
def in_Ok (G : mx_G) (mc : MR) (cj sz : Nat) (LC : Nat → List mx_K) (RM : Nat → mx_M → mx_M → Prop) : Prop := ∀ (Λ : List mx_K) (h : Nat) (M : mx_M), Λ.length = h → h + sz ≤ 139 → mx_Ok G mc [.ref h] (Λ ++ [.inl (cj, mx_nul cj)]) M (fun r Λ' M' => r = none ∧ Λ' = Λ ++ LC h ∧ RM h M M')
def in_call (m mc : MR) (idx : Nat) (host : String) (ps : List Nat) : Bool := mx_ci m mc idx ps || mx_cn m mc idx host ps
theorem in_stepO {Λ0 Tl : List mx_K} {mc : MR} {o1 o2 : List mx_Op} {h r k idx idx0 idx1 ci cj Nj sz p1 pc1 q1 q2 q3 : Nat} {host : String} {ps : List Nat} {fs : List (Option (Option Nat))} {Cj : String} {Tj : u_T} {LC : Nat → List mx_K} {RM : Nat → mx_M → mx_M → Prop} (hOk : in_Ok G mc cj sz LC RM) (hLC : ∀ h, ∃ x t, LC h = x :: t) (hh : Λ0.length = h) (hr : h + 1 + Tl.length = r) (h139 : r + sz ≤ 139 ∧ 1 ≤ sz) (hck1 : mx_ck m pc o1 = some pc1) (hb1 : ∀ Λ, mx_blk (mx_L G) Λ o1 ([], [some (.ref h)], M) = some (([.ref h], [some (.ref h)], M), True)) (hck2 : mx_ck m (pc1 + 3) o2 = some (pc1 + 4)) (hb2 : ∀ Λ, mx_blk (mx_L G) Λ o2 ([.ref r, .ref h], [some (.ref h)], M) = some (([.ref r, .ref r, .ref h], [some (.ref h)], M), True))
    (hcj : vwCl[cj]? = some (Cj, Tj, Nj)) (hwj : (inTT q1 (.classLink m.1.cls idx0 Cj) && inTT q2 (.instantiable Cj Nj) && inTT q3 (.initialized Cj)) = true) (hfs : ∀ j, j < Nj → defaultValue (mx_ty cj j) = vp_V (mx_dv cj) j) (hcl : cl + 1 + mc.2.2.2.2.cells ≤ m.2.2.2.2.cells ∧ sl + Nj + mc.2.2.2.2.slots ≤ m.2.2.2.2.slots) (d1 : decode m.2.1 pc1 = .ok (.new idx0, 3)) (hll : 1 = m.2.2.1) (hcall : in_call m mc idx1 host ps = true) (d2 : decode m.2.1 (pc1 + 4) = .ok (.invokespecial idx1, 3))
    (hok : mx_okR m idx ci k p1 = true) (hty0 : ∀ a, narrow (mx_ty ci k) (.ref a) = .ref a ∧ fits (mx_ty ci k) (.ref a) = true) (hkl : k < fs.length) (d3 : decode m.2.1 (pc1 + 4 + 3) = .ok (.putfield idx, 3))
    (kk : ∀ M', RM r M M' → mx_W G m (pc1 + 4 + 3 + 3) ([], [some (.ref h)], M') (Λ0 ++ .inl (ci, fs.set k (some (some r))) :: (Tl ++ LC r)) (cl + 1 + mc.2.2.2.2.cells) (sl + Nj + mc.2.2.2.2.slots) Q) : mx_W G m pc ([], [some (.ref h)], M) (Λ0 ++ .inl (ci, fs) :: Tl) cl sl Q := by
  have hlen : (Λ0 ++ .inl (ci, fs) :: Tl).length = r := by rw [List.length_append, List.length_cons, hh, ← hr]; omega
  refine mx_go hck1 (hb1 _) trivial ?_
  refine mx_newO (by omega) hcj hwj hfs (by omega) d1 ?_
  rw [hlen]
  refine mx_go hck2 (hb2 _) trivial ?_
  have hL : ((Λ0 ++ .inl (ci, fs) :: Tl) ++ [.inl (cj, mx_nul cj)])[r]? = some (.inl (cj, mx_nul cj)) := by
    rw [← hlen, List.getElem?_append_right (Nat.le_refl _), Nat.sub_self]
    rfl
  have hO := hOk (Λ0 ++ .inl (ci, fs) :: Tl) r M hlen (by omega)
  have fin : ∀ (r' : Option Value) (Λ' : List mx_K) (M' : mx_M), (r' = none ∧ Λ' = (Λ0 ++ .inl (ci, fs) :: Tl) ++ LC r ∧ RM r M M') → mx_W G m (pc1 + 4 + 3) (r'.toList ++ [.ref r, .ref h], [some (.ref h)], M') Λ' (cl + 1 + mc.2.2.2.2.cells) (sl + Nj + mc.2.2.2.2.slots) Q := fun r' Λ' M' ⟨x1, x2, x3⟩ => by
    subst x1
    subst x2
    obtain ⟨x, t, ex⟩ := hLC r
    have eL : (Λ0 ++ .inl (ci, fs) :: Tl) ++ LC r = Λ0 ++ .inl (ci, fs) :: (Tl ++ LC r) := by rw [List.append_assoc, List.cons_append]
    rw [eL]
    refine in_put (kr := x) hh hok hty0 hkl ?_ d3 (kk M' x3)
    rw [← eL, ← hlen, List.getElem?_append_right (Nat.le_refl _), Nat.sub_self, hlen, ex]
    rfl
  unfold in_call at hcall
  rcases (Bool.or_eq_true _ _).mp hcall with hc | hc
  · exact mx_callI (s := [.ref r, .ref h]) d2 hc hL hll (Nat.le_of_ble_eq_true rfl) hcl hO fin
  · exact mx_callN (s := [.ref r, .ref h]) d2 hc hL hll (Nat.le_of_ble_eq_true rfl) hcl hO fin
/-- a constructor begins -/
theorem in_begin {Λ0 : List mx_K} {o1 : List mx_Op} {h idx ci p1 : Nat} {Q : mx_Q} (hh : Λ0.length = h) (hp : plainName m.1.cls = true ∧ m.1.cls ≠ "TypeSetsLaw") (h1 : m.2.2.1 = 1) (hck : mx_ck m 0 o1 = some 1) (hb : ∀ Λ, mx_blk (mx_L G) Λ o1 ([], [some (.ref h)], M) = some (([.ref h], [some (.ref h)], M), True)) (hw : (inTT p1 (.methodLink m.1.cls idx Lib.objectInit) && inTT 99 (.instanceMethod Lib.objectInit) && inTT 100 (.code Lib.objectInit ⟨#[0xb1]⟩ 1 none)) = true) (hrm : 1 ≤ m.2.2.2.2.frames ∧ 20 ≤ m.2.2.2.2.locals) (hd : decode m.2.1 1 = .ok (.invokespecial idx, 3)) (k : mx_W G m 4 ([], [some (.ref h)], M) (Λ0 ++ [.inl (ci, mx_nul ci)]) 0 0 Q) : mx_Ok G m [.ref h] (Λ0 ++ [.inl (ci, mx_nul ci)]) M Q := by
  refine mx_ok_of hp.1 hp.2 (by rw [h1]; exact Nat.le_refl 1) ?_
  rw [h1]
  refine mx_go hck (hb _) trivial ?_
  exact mx_objI hw (by rw [h1]; rfl) hrm (Nat.le_of_ble_eq_true rfl) (kd := .inl (ci, mx_nul ci)) (by rw [← hh, List.getElem?_append_right (Nat.le_refl _), Nat.sub_self]; rfl) hd k
end MXN

