section MXG
variable {m : MR} {G : mx_G} {Λ : List mx_K} {pc : Nat} {st : mx_St}
theorem mx_ph_ref {M : mx_M} {H : Heap} (hR : mx_R G Λ M H) {k : Nat} {kd : mx_K} (hk : Λ[k]? = some kd) : mx_ph G (.ref k) = .ref (mx_B G + k) := by
  simp [mx_ph, mx_ad_at (hR.lt hk).2]
theorem mx_g_putfield {idx : Nat} {as : List Nat} (hok : mx_okP m idx as = true) (hd : decode m.2.1 pc = .ok (.putfield idx, 3)) : mx_Go m G Λ pc 3 st (mx_putf Λ as st) := by
  obtain ⟨s0, l0, M⟩ := st
  intro st' φ hr hφ cl sl Q kk p l e s mid args below meth c Z hC hZ H locs ls hR hS hl
  unfold mx_okP at hok
  split at hok
  · rename_i ci k t pl
    simp only [Bool.and_eq_true, decide_eq_true_eq] at hok
    obtain ⟨⟨⟨hF, ho⟩, hty⟩, hfin⟩ := hok
    obtain ⟨C, T, N, hc, hk, hT, hlink⟩ := mx_okF_spec hF
    rw [hc] at hfin
    have hfin : (T k).2.2.2 = false := by simpa using hfin
    match s0, hr with
    | .int v :: .ref h :: rest, hr =>
      simp only [mx_putf, Option.some.injEq, Prod.mk.injEq] at hr
      obtain ⟨hst, hph⟩ := hr
      subst hph
      subst hst
      have hoc : mx_ocl Λ h = ci := by
        cases t with
        | zero => exact hφ
        | succ t => exact hφ.1
      have hnf : narrow (mx_ty ci k) (.int v) = .int v ∧ fits (mx_ty ci k) (.int v) = true := by
        rw [hty]
        cases t with
        | zero => exact ⟨vp_nar_int v, rfl⟩
        | succ t =>
          show narrow .boolean (.int v) = .int v ∧ fits .boolean (.int v) = true
          rcases hφ.2 with rfl | rfl
          · exact ⟨by decide +kernel, by decide +kernel⟩
          · exact ⟨by decide +kernel, by decide +kernel⟩
      have hL := mx_ocl_at (mx_cl_11 hc) hoc
      show W p l e m.2.2.2.2 s mid args below meth c H locs cl sl Z (F0 mid pc ls (.int v :: mx_ph G (.ref h) :: rest.map (mx_ph G)))
      rw [mx_ph_ref hR hL]
      exact mx_putv hC hc hk hT hlink hfin ho rfl hnf.1 hnf.2 hoc hR hS hd (fun H1 locs1 hR1 hS1 => kk p l e s mid args below meth c Z hC hZ H1 locs1 ls hR1 hS1 hl)
    | [], hr => simp [mx_putf] at hr
    | [v0], hr => cases v0 <;> simp [mx_putf] at hr
    | .long _ :: _ :: _, hr => simp [mx_putf] at hr
    | .float _ :: _ :: _, hr => simp [mx_putf] at hr
    | .double _ :: _ :: _, hr => simp [mx_putf] at hr
    | .null :: _ :: _, hr => simp [mx_putf] at hr
    | .ref _ :: _ :: _, hr => simp [mx_putf] at hr
    | .retAddr _ :: _ :: _, hr => simp [mx_putf] at hr
    | .int _ :: .int _ :: _, hr => simp [mx_putf] at hr
    | .int _ :: .long _ :: _, hr => simp [mx_putf] at hr
    | .int _ :: .float _ :: _, hr => simp [mx_putf] at hr
    | .int _ :: .double _ :: _, hr => simp [mx_putf] at hr
    | .int _ :: .null :: _, hr => simp [mx_putf] at hr
    | .int _ :: .retAddr _ :: _, hr => simp [mx_putf] at hr
  · cases hok
theorem mx_g_iaload (hd : decode m.2.1 pc = .ok (.iaload, 1)) : mx_Go m G Λ pc 1 st (mx_ald Λ false st) := by
  obtain ⟨s0, l0, M⟩ := st
  intro st' φ hr hφ cl sl Q kk p l e s mid args below meth c Z hC hZ H locs ls hR hS hl
  unfold mx_ald at hr
  split at hr
  · rename_i i a rest hq
    dsimp only at hq
    subst hq
    cases hr
    have hin : vp_in i (mx_len Λ false a) := hφ
    have hL := mx_len_at hin
    show W p l e m.2.2.2.2 s mid args below meth c H locs cl sl Z (F0 mid pc ls (.int i :: mx_ph G (.ref a) :: rest.map (mx_ph G)))
    rw [mx_ph_ref hR hL]
    exact va_iald hC.1 hC.2.1 hC.2.2.2.2.2.2.2.2.1.1 hR.1 a 0 (mx_w_at hL) rfl hin hd (kk p l e s mid args below meth c Z hC hZ H locs ls hR hS hl)
  · cases hr
theorem mx_g_baload (hd : decode m.2.1 pc = .ok (.baload, 1)) : mx_Go m G Λ pc 1 st (mx_ald Λ true st) := by
  obtain ⟨s0, l0, M⟩ := st
  intro st' φ hr hφ cl sl Q kk p l e s mid args below meth c Z hC hZ H locs ls hR hS hl
  unfold mx_ald at hr
  split at hr
  · rename_i i a rest hq
    dsimp only at hq
    subst hq
    cases hr
    have hin : vp_in i (mx_len Λ true a) := hφ
    have hL := mx_len_at hin
    show W p l e m.2.2.2.2 s mid args below meth c H locs cl sl Z (F0 mid pc ls (.int i :: mx_ph G (.ref a) :: rest.map (mx_ph G)))
    rw [mx_ph_ref hR hL]
    exact va_zald hC.1 hC.2.1 hC.2.2.2.2.2.2.2.2.1.1 hR.1 a 1 (mx_w_at hL) rfl hin hd (kk p l e s mid args below meth c Z hC hZ H locs ls hR hS hl)
  · cases hr
theorem mx_g_iastore (hd : decode m.2.1 pc = .ok (.iastore, 1)) : mx_Go m G Λ pc 1 st (mx_iast Λ st) := by
  obtain ⟨s0, l0, M⟩ := st
  intro st' φ hr hφ cl sl Q kk p l e s mid args below meth c Z hC hZ H locs ls hR hS hl
  unfold mx_iast at hr
  split at hr
  · rename_i v i a rest hq
    dsimp only at hq
    subst hq
    cases hr
    have hin : vp_in i (mx_len Λ false a) := hφ
    show W p l e m.2.2.2.2 s mid args below meth c H locs cl sl Z (F0 mid pc ls (.int v :: .int i :: mx_ph G (.ref a) :: rest.map (mx_ph G)))
    rw [mx_ph_ref hR (mx_len_at hin)]
    exact mx_iastv hC hin hR hS hd (fun H1 locs1 hR1 hS1 => kk p l e s mid args below meth c Z hC hZ H1 locs1 ls hR1 hS1 hl)
  · cases hr
theorem mx_g_bastore (hd : decode m.2.1 pc = .ok (.bastore, 1)) : mx_Go m G Λ pc 1 st (mx_zast Λ st) := by
  obtain ⟨s0, l0, M⟩ := st
  intro st' φ hr hφ cl sl Q kk p l e s mid args below meth c Z hC hZ H locs ls hR hS hl
  unfold mx_zast at hr
  split at hr
  · rename_i v i a rest hq
    dsimp only at hq
    subst hq
    cases hr
    have hin : vp_in i (mx_len Λ true a) := hφ.1
    show W p l e m.2.2.2.2 s mid args below meth c H locs cl sl Z (F0 mid pc ls (.int v :: .int i :: mx_ph G (.ref a) :: rest.map (mx_ph G)))
    rw [mx_ph_ref hR (mx_len_at hin)]
    exact mx_zastv hC hin hφ.2 hR hS hd (fun H1 locs1 hR1 hS1 => kk p l e s mid args below meth c Z hC hZ H1 locs1 ls hR1 hS1 hl)
  · cases hr
theorem mx_g_alen (hd : decode m.2.1 pc = .ok (.arraylength, 1)) : mx_Go m G Λ pc 1 st (mx_alen Λ st) := by
  obtain ⟨s0, l0, M⟩ := st
  intro st' φ hr hφ cl sl Q kk p l e s mid args below meth c Z hC hZ H locs ls hR hS hl
  unfold mx_alen at hr
  split at hr
  · rename_i a rest hq
    dsimp only at hq
    subst hq
    cases hr
    have hL := mx_len_at0 (show mx_len Λ false a ≠ 0 from hφ)
    show W p l e m.2.2.2.2 s mid args below meth c H locs cl sl Z (F0 mid pc ls (mx_ph G (.ref a) :: rest.map (mx_ph G)))
    rw [mx_ph_ref hR hL]
    exact va_alen hC.1 hC.2.1 hC.2.2.2.2.2.2.2.2.1.1 hR.1 a 0 (mx_w_at hL) rfl rfl hd (kk p l e s mid args below meth c Z hC hZ H locs ls hR hS hl)
  · cases hr
theorem mx_g_sld (hm : m.1.cls = "TypeSetsLaw") (hd : decode m.2.1 pc = .ok (.iaload, 1)) : mx_Go m G Λ pc 1 st (mx_sld (mx_L G) st) := by
  obtain ⟨s0, l0, M⟩ := st
  intro st' φ hr hφ cl sl Q kk p l e s mid args below meth c Z hC hZ H locs ls hR hS hl
  unfold mx_sld at hr
  split at hr
  · rename_i i a rest hq
    dsimp only at hq
    subst hq
    cases hr
    obtain ⟨ha, hin⟩ : a = 1000 ∧ vp_in i (mx_L G) := hφ
    subst ha
    obtain ⟨hX, hb⟩ := hC.2.2.2.2.2.2.2.2.2.2 hm
    have h := kk p l e s mid args below meth c Z hC hZ H locs ls hR hS hl
    dsimp only at h
    have h5 : M 1000 = mx_xs G := hR.2.2.2.2
    rw [h5] at h
    exact va_sld hC.1 hC.2.1 hX (Nat.lt_of_lt_of_le hb hC.2.2.2.2.2.2.2.2.2.1) (Nat.not_le.mpr hb) hS hin hd h
  · cases hr
theorem mx_g_slen (hm : m.1.cls = "TypeSetsLaw") (hd : decode m.2.1 pc = .ok (.arraylength, 1)) : mx_Go m G Λ pc 1 st (mx_slen (mx_L G) st) := by
  obtain ⟨s0, l0, M⟩ := st
  intro st' φ hr hφ cl sl Q kk p l e s mid args below meth c Z hC hZ H locs ls hR hS hl
  unfold mx_slen at hr
  split at hr
  · rename_i a rest hq
    dsimp only at hq
    subst hq
    cases hr
    have ha : a = 1000 := hφ
    subst ha
    obtain ⟨hX, hb⟩ := hC.2.2.2.2.2.2.2.2.2.2 hm
    exact va_slen hC.1 hC.2.1 hX (Nat.lt_of_lt_of_le hb hC.2.2.2.2.2.2.2.2.2.1) (Nat.not_le.mpr hb) hS hd (kk p l e s mid args below meth c Z hC hZ H locs ls hR hS hl)
  · cases hr
theorem mx_no {n : Nat} {r : mx_O} (h : r = none) : mx_Go m G Λ pc n st r := by
  intro st' φ hr
  rw [h] at hr
  cases hr
/-- every straight instruction -/
theorem mx_run_go {o : mx_Op} (hok : mx_okO m o = true) (hd : decode m.2.1 pc = .ok (o.1, mx_il o.1)) : mx_Go m G Λ pc (mx_il o.1) st (mx_run (mx_L G) Λ o st) := by
  obtain ⟨i, as, v⟩ := o
  dsimp only at hd
  cases i with
  | iload_n k => exact mx_g_iload_n hd
  | iload k => exact mx_g_iload hd
  | aload_n k => exact mx_g_aload_n hd
  | aload k => exact mx_g_aload hd
  | lload_n k => exact mx_g_lload_n hd
  | lload k => exact mx_g_lload hd
  | istore_n k => exact mx_g_istore_n hd
  | istore k => exact mx_g_istore hd
  | astore_n k => exact mx_g_astore_n hd
  | astore k => exact mx_g_astore hd
  | lstore_n k => exact mx_g_lstore_n hd
  | lstore k => exact mx_g_lstore hd
  | iinc k n => exact mx_g_iinc (of_decide_eq_true hok) hd
  | iconst n => exact mx_g_iconst (of_decide_eq_true hok) hd
  | bipush n => exact mx_g_bipush (of_decide_eq_true hok) hd
  | sipush n => exact mx_g_sipush (of_decide_eq_true hok) hd
  | ldc n => exact mx_g_ldc (inTT_mem hok) hd
  | ldc_w n => exact mx_g_ldc_w (inTT_mem hok) hd
  | lconst n => exact mx_g_lconst (of_decide_eq_true hok) hd
  | ldc2_w n => exact mx_g_ldc2_w (inTT_mem hok) hd
  | iadd => exact mx_g_iadd hd
  | isub => exact mx_g_isub hd
  | imul => exact mx_g_imul hd
  | iand => exact mx_g_iand hd
  | ior => exact mx_g_ior hd
  | ixor => exact mx_g_ixor hd
  | ishl => exact mx_g_ishl hd
  | ishr => exact mx_g_ishr hd
  | iushr => exact mx_g_iushr hd
  | idiv => exact mx_g_idiv hd
  | irem => exact mx_g_irem hd
  | ineg => exact mx_g_ineg hd
  | i2b => exact mx_g_i2b hd
  | i2s => exact mx_g_i2s hd
  | ladd => exact mx_g_ladd hd
  | lmul => exact mx_g_lmul hd
  | ldiv => exact mx_g_ldiv hd
  | lrem => exact mx_g_lrem hd
  | lcmp => exact mx_g_lcmp hd
  | i2l => exact mx_g_i2l hd
  | l2i => exact mx_g_l2i hd
  | dup => exact mx_g_dup hd
  | dup2 => exact mx_g_dup2 hd
  | pop => exact mx_g_pop hd
  | getfield idx => exact mx_g_getfield hok hd
  | putfield idx => exact mx_g_putfield hok hd
  | iaload => cases as with
    | nil => exact mx_g_iaload hd
    | cons a t => exact mx_g_sld (of_decide_eq_true hok) hd
  | baload => exact mx_g_baload hd
  | iastore => exact mx_g_iastore hd
  | bastore => exact mx_g_bastore hd
  | arraylength => cases as with
    | nil => exact mx_g_alen hd
    | cons a t => exact mx_g_slen (of_decide_eq_true hok) hd
  | _ => exact mx_no rfl
/-- a stretch of straight instructions -/
theorem mx_go {ops : List mx_Op} {pc' : Nat} (hck : mx_ck m pc ops = some pc') {st' : mx_St} {φ : Prop} (hb : mx_blk (mx_L G) Λ ops st = some (st', φ)) (hφ : φ) {cl sl : Nat} {Q : mx_Q} (k : mx_W G m pc' st' Λ cl sl Q) : mx_W G m pc st Λ cl sl Q := by
  induction ops generalizing pc st φ with
  | nil =>
    cases hck
    cases hb
    exact k
  | cons o os ih =>
    simp only [mx_ck] at hck
    split at hck
    · rename_i i n hd
      split at hck
      · rename_i h3
        obtain ⟨h1, h2, h3⟩ := h3
        subst h1
        subst h3
        have hg := mx_run_go (G := G) (Λ := Λ) (st := st) h2 hd
        simp only [mx_blk] at hb
        split at hb
        · cases hb
        · rename_i st1 hr
          exact hg st1 none hr trivial cl sl Q (ih hck hb hφ)
        · rename_i st1 ψ hr
          split at hb
          · cases hb
          · rename_i st2 χ hb2
            cases hb
            exact hg st1 (some ψ) hr hφ.1 cl sl Q (ih hck hb2 hφ.2)
      · cases hck
    · cases hck
end MXG
