/-! ===== fields and arrays ===== -/
theorem mx_okF_spec {m : MR} {idx ci k pl : Nat} (h : mx_okF m idx ci k pl = true) : ∃ C T N, vwCl[ci]? = some (C, T, N) ∧ k < N ∧ (T k).1 = C ∧ Cond.fieldLink m.1.cls idx C (T k).2.1 (T k).2.2.1 ∈ TT := by
  unfold mx_okF at h
  split at h
  · rename_i C T N hc
    simp only [Bool.and_eq_true, decide_eq_true_eq] at h
    exact ⟨C, T, N, hc, h.1.1, h.1.2, inTT_mem h.2⟩
  · cases h
theorem mx_cl_11 {ci : Nat} {q : vw_C} (h : vwCl[ci]? = some q) : ci ≠ 99 := by
  have := (List.getElem?_eq_some_iff.mp h).1
  simp [vwCl] at this
  omega
theorem mx_refs_at {ci h k : Nat} {o : Option Nat} (ho : (mx_off.getD ci [])[k]? = some o) : (mx_refs ci h)[k]? = some (o.map (fun q => some (h + q))) := by
  unfold mx_refs
  rw [List.getElem?_map, ho]
  rfl
theorem mx_g_getfield {m : MR} {G : mx_G} {Λ : List mx_K} {pc : Nat} {st : mx_St} {idx : Nat} {as : List Nat} (hok : mx_okG m idx as = true) (hd : decode m.2.1 pc = .ok (.getfield idx, 3)) : mx_Go m G Λ pc 3 st (mx_getf Λ as st) := by
  obtain ⟨s0, l0, M⟩ := st
  intro st' φ hr hφ cl sl Q kk p l e s mid args below meth c Z hC hZ H locs ls hR hS hl
  unfold mx_okG at hok
  split at hok
  · rename_i ci k r pl
    simp only [Bool.and_eq_true, decide_eq_true_eq] at hok
    obtain ⟨hF, ho⟩ := hok
    obtain ⟨C, T, N, hc, hk, hT, hlink⟩ := mx_okF_spec hF
    cases s0 with
    | nil => simp [mx_getf] at hr
    | cons v0 rest =>
      cases v0 with
      | ref h =>
        simp only [mx_getf, Option.some.injEq, Prod.mk.injEq] at hr
        obtain ⟨hst, hph⟩ := hr
        subst hph
        have hoc : mx_ocl Λ h = ci := hφ
        have hL := mx_ocl_at (mx_cl_11 hc) hoc
        have hwa := mx_w_at (G := G) (M := M) hL
        have hat := mx_refs_at (h := h) ho
        obtain ⟨hin, hty, hnm⟩ := mx_cls ci C T N hc
        have he : mx_ph G (.ref h) = .ref (mx_B G + h) := by simp [mx_ph, mx_ad_at (hR.lt hL).2]
        show W p l e m.2.2.2.2 s mid args below meth c H locs cl sl Z (F0 mid pc ls (mx_ph G (.ref h) :: rest.map (mx_ph G)))
        rw [he]
        have hg : ∀ v : Value, ((mx_refs ci h).mapIdx (mx_fv G M h))[k]? = some (mx_ph G v) → st' = (v :: rest, l0, M) → W p l e m.2.2.2.2 s mid args below meth c H locs cl sl Z (F0 mid pc ls (.ref (mx_B G + h) :: rest.map (mx_ph G))) := by
          intro v hv hst
          subst hst
          exact va_get (D := G.1) (ci := ci) (C := C) (T := T) (N := N) hC.1 hC.2.1 hC.2.2.2.2.1 hin hC.2.2.2.1 hC.2.2.2.2.2.2.2.2.1.1 hR.1 h hwa hc k hk (hC.2.2.2.2.1 _ hlink) (fun x hx => by rw [← hT]; exact hx) hv hd (kk p l e s mid args below meth c Z hC hZ H locs ls hR hS hl)
        cases r with
        | zero => exact hg _ (by rw [List.getElem?_mapIdx, hat]; rfl) hst.symm
        | succ o => exact hg _ (by rw [List.getElem?_mapIdx, hat]; rfl) hst.symm
      | _ => simp [mx_getf] at hr
  · cases hok
section MXP
variable {G : mx_G} {Λ : List mx_K} {M : mx_M} {p : Program} {l : Launch} {e : Env} {R : Room} {s : State} {mid : MethodId} {args : Array Value} {below : List Frame} {meth : Method} {c : Code} {H : Heap} {locs : List Loc} {cells slots : Nat} {Z : State → Prop}
variable {m : MR} {idx ci k h pc : Nat} {ls : Array Slot} {rest : List Value} {v : Int32} {C : String} {T : u_T} {N : Nat}
theorem mx_putv (hC : mx_C G m p s mid args meth c) (hc : vwCl[ci]? = some (C, T, N)) (hk : k < N) (hT : (T k).1 = C) (hlink : Cond.fieldLink m.1.cls idx C (T k).2.1 (T k).2.2.1 ∈ TT)
    (hfin : (T k).2.2.2 = false) (ho : (mx_off.getD ci [])[k]? = some none) {ty : FieldType} (hty0 : mx_ty ci k = ty) (hn : narrow ty (.int v) = .int v) (hfit : fits ty (.int v) = true) (hoc : mx_ocl Λ h = ci) (hR : mx_R G Λ M H) (hS : va_S (mx_A G) s.heap H locs) (hd : decode m.2.1 pc = .ok (.putfield idx, 3))
    (kk : ∀ (H1 : Heap) (locs1 : List Loc), mx_R G Λ (mx_wr M h k v) H1 → va_S (mx_A G) s.heap H1 locs1 → W p l e R s mid args below meth c H1 locs1 cells slots Z (F0 mid (pc + 3) ls rest)) :
    W p l e R s mid args below meth c H locs cells slots Z (F0 mid pc ls (.int v :: .ref (mx_B G + h) :: rest)) := by
  have hL := mx_ocl_at (mx_cl_11 hc) hoc
  have he := mx_w_at (G := G) (M := M) hL
  have hat := mx_refs_at (h := h) ho
  obtain ⟨hin, hty, hnm⟩ := mx_cls ci C T N hc
  have hlk : k < ((mx_refs ci h).mapIdx (mx_fv G M h)).length := by
    have := (List.getElem?_eq_some_iff.mp hat).1
    simpa using this
  have hts := hC.2.2.2.2.1
  have hK := hC.2.2.2.2.2.2.2.2.1.1
  have hap := va_apart (own := m.1.cls) hts hin (mx_ty ci) hty hnm hK hc
  obtain ⟨r, h1, cell, q1, q2, q3, q4⟩ := hR.1 h _ he
  have hr : r = (C, T, N) := Option.some.inj (h1.symm.trans hc)
  subst hr
  obtain ⟨hSl, hfc, kC, hkC, hkind⟩ := hK.1 ci _ hc
  obtain ⟨cf, kf, fi, f, hi, hsl⟩ := hSl k hk
  have hlay := hts _ (hin _ (u_in_lay hk))
  unfold u_lay at hlay
  rw [if_neg (by rw [hfin]; decide)] at hlay
  have hst := (u_facts hfc hkC (u_lays hts hin hk) hi).1
  have h6 := u_store hfc hkC hkind hlay hi (by rw [hty k hk, hty0]) hn hfit
  refine W.putK hC.1 hC.2.1 (f := f) ⟨hC.2.2.2.1, hts _ hlink, ⟨_, _, _, by rw [← hT]; exact hi⟩, hst⟩ (by rw [q2]; exact h6) q1 q3 (by rw [hsl]; exact k2_hasslot (q4 k hk)) rfl rfl hd fun H' e1 e2 e3 => ?_
  rw [hsl] at e1 ⊢
  have hP1 := hR.1.set (mx_w_D G Λ M) he (e := .inr (ci, ((mx_refs ci h).mapIdx (mx_fv G M h)).set k (.int v))) ⟨_, hc, t_OB.to (V := updV (vp_V _) k (.int v)) ⟨_, e1, q2, q3, t_set q4 hap hk (.int v)⟩ (fun j _ => vp_updV_set hlk (.int v) j)⟩ e3
  have e4 : mx_w G Λ (mx_wr M h k v) = (mx_w G Λ M).set h (mx_B G + h, .inr (ci, ((mx_refs ci h).mapIdx (mx_fv G M h)).set k (.int v))) := by
    rw [mx_w_set hL (fun a ha => mx_wr_n M k v ha), mx_e_field hat]
  exact kk H' _ (mx_R_wr hR (hR.lt hL).1 (by rw [e4]; exact hP1) e2) (hS.put e2 e3 (show mx_B G ≤ mx_B G + h by omega))
theorem mx_iastv {a : Nat} {i : Int32} (hC : mx_C G m p s mid args meth c) (hin : vp_in i (mx_len Λ false a)) (hR : mx_R G Λ M H) (hS : va_S (mx_A G) s.heap H locs) (hd : decode m.2.1 pc = .ok (.iastore, 1))
    (kk : ∀ (H1 : Heap) (locs1 : List Loc), mx_R G Λ (mx_wr M a i.toNatClampNeg v) H1 → va_S (mx_A G) s.heap H1 locs1 → W p l e R s mid args below meth c H1 locs1 cells slots Z (F0 mid (pc + 1) ls rest)) :
    W p l e R s mid args below meth c H locs cells slots Z (F0 mid pc ls (.int v :: .int i :: .ref (mx_B G + a) :: rest)) := by
  have hL := mx_len_at hin
  have he := mx_w_at (G := G) (M := M) hL
  have hK := hC.2.2.2.2.2.2.2.2.1.1
  have hat : H[mx_B G + a]? = some (vp_cell (mx_cI G) (mx_len Λ false a, .inl (M a))) := hR.1 a _ he
  refine W.iast hC.1 hC.2.1 hat ((hK.2 0 _ rfl).1 _ (fun j => .int (M a j))) (fun q => by cases q) (by show ¬ (i < 0 ∨ (arrV _ _ _).slots.size ≤ _); rw [arrV_size]; exact hin) rfl rfl hd fun H1 e1 z oq => ?_
  have e4 : mx_w G Λ (mx_wr M a i.toNatClampNeg v) = (mx_w G Λ M).set a (mx_B G + a, .inl (mx_cI G, mx_len Λ false a, .inl (upd (M a) i.toNatClampNeg v))) := by
    rw [mx_w_set hL (fun b hb => mx_wr_n M _ v hb), mx_e_arr]
    rfl
  have hP1 := hR.1.set (mx_w_D G Λ M) he (e := .inl (mx_cI G, mx_len Λ false a, .inl (upd (M a) i.toNatClampNeg v))) (H1 := H1) (by
    show H1[mx_B G + a]? = some (vp_cell _ _)
    rw [e1, vp_cell_i, vp_cell_i, arrV_store]
    congr 2
    funext q
    by_cases hq : q = i.toNatClampNeg
    · subst hq
      simp [updV, upd]
    · simp [updV, upd, hq]) oq
  exact kk H1 _ (mx_R_wr hR (hR.lt hL).1 (by rw [e4]; exact hP1) z) (hS.put z oq (show mx_B G ≤ mx_B G + a by omega))
theorem mx_zastv {a : Nat} {i : Int32} (hC : mx_C G m p s mid args meth c) (hin : vp_in i (mx_len Λ true a)) (hv : v = 0 ∨ v = 1) (hR : mx_R G Λ M H) (hS : va_S (mx_A G) s.heap H locs) (hd : decode m.2.1 pc = .ok (.bastore, 1))
    (kk : ∀ (H1 : Heap) (locs1 : List Loc), mx_R G Λ (mx_wr M a i.toNatClampNeg v) H1 → va_S (mx_A G) s.heap H1 locs1 → W p l e R s mid args below meth c H1 locs1 cells slots Z (F0 mid (pc + 1) ls rest)) :
    W p l e R s mid args below meth c H locs cells slots Z (F0 mid pc ls (.int v :: .int i :: .ref (mx_B G + a) :: rest)) := by
  have hL := mx_len_at hin
  have he := mx_w_at (G := G) (M := M) hL
  have hK := hC.2.2.2.2.2.2.2.2.1.1
  have hn : narrow .boolean (.int v) = .int v := by rcases hv with rfl | rfl <;> decide +kernel
  have hat : H[mx_B G + a]? = some (vp_cell (mx_cZ G) (mx_len Λ true a, .inl (M a))) := hR.1 a _ he
  refine W.zast hC.1 hC.2.1 hat ((hK.2 1 _ rfl).1 _ (fun j => .int (M a j))) (fun q => by cases q) (by show ¬ (i < 0 ∨ (arrV _ _ _).slots.size ≤ _); rw [arrV_size]; exact hin) rfl rfl hd fun H1 e1 z oq => ?_
  have e4 : mx_w G Λ (mx_wr M a i.toNatClampNeg v) = (mx_w G Λ M).set a (mx_B G + a, .inl (mx_cZ G, mx_len Λ true a, .inl (upd (M a) i.toNatClampNeg v))) := by
    rw [mx_w_set hL (fun b hb => mx_wr_n M _ v hb), mx_e_arr]
    rfl
  have hP1 := hR.1.set (mx_w_D G Λ M) he (e := .inl (mx_cZ G, mx_len Λ true a, .inl (upd (M a) i.toNatClampNeg v))) (H1 := H1) (by
    show H1[mx_B G + a]? = some (vp_cell _ _)
    rw [e1, hn, vp_cell_i, vp_cell_i, arrV_store]
    congr 2
    funext q
    by_cases hq : q = i.toNatClampNeg
    · subst hq
      simp [updV, upd]
    · simp [updV, upd, hq]) oq
  exact kk H1 _ (mx_R_wr hR (hR.lt hL).1 (by rw [e4]; exact hP1) z) (hS.put z oq (show mx_B G ≤ mx_B G + a by omega))
end MXP
