/-! ===== a row an instruction ===== -/
theorem mx_g_iload_n {m : MR} {G : mx_G} {Λ : List mx_K} {pc : Nat} {st : mx_St} {k : Fin 4} (hd : decode m.2.1 pc = .ok (.iload_n k, 1)) : mx_Go m G Λ pc 1 st (mx_ldI k.val st) := by
  intro st' φ hr hφ cl sl Q k p l e s mid args below meth c Z hC hZ H locs ls hR hS hl
  unfold mx_ldI at hr
  split at hr
  · rename_i x hq
    cases hr
    refine lv_iload_n hC.1 hC.2.1 hd rfl (hl.2.2 _ _ hq) ?_
    exact k p l e s mid args below meth c Z hC hZ H locs ls hR hS hl
  · cases hr
theorem mx_g_iload {m : MR} {G : mx_G} {Λ : List mx_K} {pc : Nat} {st : mx_St} {k : Nat} (hd : decode m.2.1 pc = .ok (.iload k, 2)) : mx_Go m G Λ pc 2 st (mx_ldI k st) := by
  intro st' φ hr hφ cl sl Q k p l e s mid args below meth c Z hC hZ H locs ls hR hS hl
  unfold mx_ldI at hr
  split at hr
  · rename_i x hq
    cases hr
    refine lv_iload hC.1 hC.2.1 hd (hl.2.2 _ _ hq) ?_
    exact k p l e s mid args below meth c Z hC hZ H locs ls hR hS hl
  · cases hr
theorem mx_g_lload_n {m : MR} {G : mx_G} {Λ : List mx_K} {pc : Nat} {st : mx_St} {k : Fin 4} (hd : decode m.2.1 pc = .ok (.lload_n k, 1)) : mx_Go m G Λ pc 1 st (mx_ldL k.val st) := by
  intro st' φ hr hφ cl sl Q k p l e s mid args below meth c Z hC hZ H locs ls hR hS hl
  unfold mx_ldL at hr
  split at hr
  · rename_i x hq
    cases hr
    refine lv_lload_n hC.1 hC.2.1 hd rfl (hl.2.2 _ _ hq) ?_
    exact k p l e s mid args below meth c Z hC hZ H locs ls hR hS hl
  · cases hr
theorem mx_g_lload {m : MR} {G : mx_G} {Λ : List mx_K} {pc : Nat} {st : mx_St} {k : Nat} (hd : decode m.2.1 pc = .ok (.lload k, 2)) : mx_Go m G Λ pc 2 st (mx_ldL k st) := by
  intro st' φ hr hφ cl sl Q k p l e s mid args below meth c Z hC hZ H locs ls hR hS hl
  unfold mx_ldL at hr
  split at hr
  · rename_i x hq
    cases hr
    refine lv_lload hC.1 hC.2.1 hd (hl.2.2 _ _ hq) ?_
    exact k p l e s mid args below meth c Z hC hZ H locs ls hR hS hl
  · cases hr
theorem mx_g_aload_n {m : MR} {G : mx_G} {Λ : List mx_K} {pc : Nat} {st : mx_St} {k : Fin 4} (hd : decode m.2.1 pc = .ok (.aload_n k, 1)) : mx_Go m G Λ pc 1 st (mx_ldA k.val st) := by
  intro st' φ hr hφ cl sl Q k p l e s mid args below meth c Z hC hZ H locs ls hR hS hl
  unfold mx_ldA at hr
  split at hr
  · rename_i x hq
    cases hr
    refine lv_aload_n hC.1 hC.2.1 hd rfl (hl.2.2 _ _ hq) ?_
    exact k p l e s mid args below meth c Z hC hZ H locs ls hR hS hl
  · cases hr
theorem mx_g_aload {m : MR} {G : mx_G} {Λ : List mx_K} {pc : Nat} {st : mx_St} {k : Nat} (hd : decode m.2.1 pc = .ok (.aload k, 2)) : mx_Go m G Λ pc 2 st (mx_ldA k st) := by
  intro st' φ hr hφ cl sl Q k p l e s mid args below meth c Z hC hZ H locs ls hR hS hl
  unfold mx_ldA at hr
  split at hr
  · rename_i x hq
    cases hr
    refine lv_aload hC.1 hC.2.1 hd (hl.2.2 _ _ hq) ?_
    exact k p l e s mid args below meth c Z hC hZ H locs ls hR hS hl
  · cases hr
theorem mx_g_istore_n {m : MR} {G : mx_G} {Λ : List mx_K} {pc : Nat} {st : mx_St} {k : Fin 4} (hd : decode m.2.1 pc = .ok (.istore_n k, 1)) : mx_Go m G Λ pc 1 st (mx_stI k.val st) := by
  obtain ⟨s0, l0, M⟩ := st
  intro st' φ hr hφ cl sl Q kk p l e s mid args below meth c Z hC hZ H locs ls hR hS hl
  unfold mx_stI at hr
  split at hr
  · rename_i x rest hq
    dsimp only at hq
    subst hq
    split at hr
    · rename_i l1 hs1
      cases hr
      obtain ⟨lv, a1, a2, a3⟩ := mx_has.set1 hl rfl hs1
      refine lv_istore_n hC.1 hC.2.1 hd rfl a1 a2 rfl (fun ls' hl' => ?_)
      exact kk p l e s mid args below meth c Z hC hZ H locs ls' hR hS (a3 ls' hl')
    · cases hr
  · cases hr
theorem mx_g_istore {m : MR} {G : mx_G} {Λ : List mx_K} {pc : Nat} {st : mx_St} {k : Nat} (hd : decode m.2.1 pc = .ok (.istore k, 2)) : mx_Go m G Λ pc 2 st (mx_stI k st) := by
  obtain ⟨s0, l0, M⟩ := st
  intro st' φ hr hφ cl sl Q kk p l e s mid args below meth c Z hC hZ H locs ls hR hS hl
  unfold mx_stI at hr
  split at hr
  · rename_i x rest hq
    dsimp only at hq
    subst hq
    split at hr
    · rename_i l1 hs1
      cases hr
      obtain ⟨lv, a1, a2, a3⟩ := mx_has.set1 hl rfl hs1
      refine lv_istore hC.1 hC.2.1 hd a1 a2 rfl (fun ls' hl' => ?_)
      exact kk p l e s mid args below meth c Z hC hZ H locs ls' hR hS (a3 ls' hl')
    · cases hr
  · cases hr
theorem mx_g_astore_n {m : MR} {G : mx_G} {Λ : List mx_K} {pc : Nat} {st : mx_St} {k : Fin 4} (hd : decode m.2.1 pc = .ok (.astore_n k, 1)) : mx_Go m G Λ pc 1 st (mx_stA k.val st) := by
  obtain ⟨s0, l0, M⟩ := st
  intro st' φ hr hφ cl sl Q kk p l e s mid args below meth c Z hC hZ H locs ls hR hS hl
  unfold mx_stA at hr
  split at hr
  · rename_i x rest hq
    dsimp only at hq
    subst hq
    split at hr
    · rename_i l1 hs1
      cases hr
      obtain ⟨lv, a1, a2, a3⟩ := mx_has.set1 hl rfl hs1
      refine lv_astore_n hC.1 hC.2.1 hd rfl a1 a2 rfl (fun ls' hl' => ?_)
      exact kk p l e s mid args below meth c Z hC hZ H locs ls' hR hS (a3 ls' hl')
    · cases hr
  · cases hr
theorem mx_g_astore {m : MR} {G : mx_G} {Λ : List mx_K} {pc : Nat} {st : mx_St} {k : Nat} (hd : decode m.2.1 pc = .ok (.astore k, 2)) : mx_Go m G Λ pc 2 st (mx_stA k st) := by
  obtain ⟨s0, l0, M⟩ := st
  intro st' φ hr hφ cl sl Q kk p l e s mid args below meth c Z hC hZ H locs ls hR hS hl
  unfold mx_stA at hr
  split at hr
  · rename_i x rest hq
    dsimp only at hq
    subst hq
    split at hr
    · rename_i l1 hs1
      cases hr
      obtain ⟨lv, a1, a2, a3⟩ := mx_has.set1 hl rfl hs1
      refine lv_astore hC.1 hC.2.1 hd a1 a2 rfl (fun ls' hl' => ?_)
      exact kk p l e s mid args below meth c Z hC hZ H locs ls' hR hS (a3 ls' hl')
    · cases hr
  · cases hr
theorem mx_g_lstore_n {m : MR} {G : mx_G} {Λ : List mx_K} {pc : Nat} {st : mx_St} {k : Fin 4} (hd : decode m.2.1 pc = .ok (.lstore_n k, 1)) : mx_Go m G Λ pc 1 st (mx_stL k.val st) := by
  obtain ⟨s0, l0, M⟩ := st
  intro st' φ hr hφ cl sl Q kk p l e s mid args below meth c Z hC hZ H locs ls hR hS hl
  unfold mx_stL at hr
  split at hr
  · rename_i x rest hq
    dsimp only at hq
    subst hq
    split at hr
    · rename_i l1 hs1
      cases hr
      obtain ⟨lv, a1, a2, a3⟩ := mx_has.set2 hl hs1
      refine lv_lstore_n hC.1 hC.2.1 hd rfl a1 a2 rfl (fun ls' hl' => ?_)
      exact kk p l e s mid args below meth c Z hC hZ H locs ls' hR hS (a3 ls' hl')
    · cases hr
  · cases hr
theorem mx_g_lstore {m : MR} {G : mx_G} {Λ : List mx_K} {pc : Nat} {st : mx_St} {k : Nat} (hd : decode m.2.1 pc = .ok (.lstore k, 2)) : mx_Go m G Λ pc 2 st (mx_stL k st) := by
  obtain ⟨s0, l0, M⟩ := st
  intro st' φ hr hφ cl sl Q kk p l e s mid args below meth c Z hC hZ H locs ls hR hS hl
  unfold mx_stL at hr
  split at hr
  · rename_i x rest hq
    dsimp only at hq
    subst hq
    split at hr
    · rename_i l1 hs1
      cases hr
      obtain ⟨lv, a1, a2, a3⟩ := mx_has.set2 hl hs1
      refine lv_lstore hC.1 hC.2.1 hd a1 a2 rfl (fun ls' hl' => ?_)
      exact kk p l e s mid args below meth c Z hC hZ H locs ls' hR hS (a3 ls' hl')
    · cases hr
  · cases hr
theorem mx_g_iinc {m : MR} {G : mx_G} {Λ : List mx_K} {pc : Nat} {st : mx_St} {k : Nat} {n : Int} {v : Int32} (hv : Int32.ofInt n = v) (hd : decode m.2.1 pc = .ok (.iinc k n, 3)) : mx_Go m G Λ pc 3 st (mx_inc k v st) := by
  obtain ⟨s0, l0, M⟩ := st
  subst hv
  intro st' φ hr hφ cl sl Q kk p l e s mid args below meth c Z hC hZ H locs ls hR hS hl
  unfold mx_inc at hr
  split at hr
  · rename_i x hq
    split at hr
    · rename_i l1 hs1
      cases hr
      obtain ⟨lv, a1, a2, a3⟩ := mx_has.set1 hl rfl hs1
      have hx : ls[k]? = some (.val (.int x)) := hl.2.2 k _ hq
      refine lv_iinc (v := x + Int32.ofInt n) (k := 0) hC.1 hC.2.1 hd (lv := (k, .int x) :: lv) ⟨a1.1, a1.2.1, fun q hq' => ?_⟩ rfl rfl a2 rfl (fun ls' hl' => ?_)
      · rcases List.mem_cons.mp hq' with rfl | h
        · exact hx
        · exact a1.2.2 q h
      · refine kk p l e s mid args below meth c Z hC hZ H locs ls' hR hS (a3 ls' ?_)
        refine ⟨hl'.1, hl'.2.1, fun q hq' => hl'.2.2 q ?_⟩
        rcases List.mem_cons.mp hq' with rfl | h
        · exact List.mem_cons_self
        · refine List.mem_cons_of_mem _ ?_
          rw [List.filter_cons_of_neg (by simp)]
          exact h
    · cases hr
  · cases hr
theorem mx_g_iconst {m : MR} {G : mx_G} {Λ : List mx_K} {pc : Nat} {st : mx_St} {n : Int} {v : Int32} (hv : Int32.ofInt n = v) (hd : decode m.2.1 pc = .ok (.iconst n, 1)) : mx_Go m G Λ pc 1 st (mx_push (.int v) st) := by
  intro st' φ hr hφ cl sl Q k p l e s mid args below meth c Z hC hZ H locs ls hR hS hl
  cases hr
  refine lv_iconst hC.1 hC.2.1 hd hv ?_
  exact k p l e s mid args below meth c Z hC hZ H locs ls hR hS hl
theorem mx_g_bipush {m : MR} {G : mx_G} {Λ : List mx_K} {pc : Nat} {st : mx_St} {n : Int} {v : Int32} (hv : (Int8.ofInt n).toInt32 = v) (hd : decode m.2.1 pc = .ok (.bipush n, 2)) : mx_Go m G Λ pc 2 st (mx_push (.int v) st) := by
  intro st' φ hr hφ cl sl Q k p l e s mid args below meth c Z hC hZ H locs ls hR hS hl
  cases hr
  refine lv_bipush hC.1 hC.2.1 hd hv ?_
  exact k p l e s mid args below meth c Z hC hZ H locs ls hR hS hl
theorem mx_g_sipush {m : MR} {G : mx_G} {Λ : List mx_K} {pc : Nat} {st : mx_St} {n : Int} {v : Int32} (hv : (Int16.ofInt n).toInt32 = v) (hd : decode m.2.1 pc = .ok (.sipush n, 3)) : mx_Go m G Λ pc 3 st (mx_push (.int v) st) := by
  intro st' φ hr hφ cl sl Q k p l e s mid args below meth c Z hC hZ H locs ls hR hS hl
  cases hr
  refine lv_sipush hC.1 hC.2.1 hd hv ?_
  exact k p l e s mid args below meth c Z hC hZ H locs ls hR hS hl
theorem mx_g_lconst {m : MR} {G : mx_G} {Λ : List mx_K} {pc : Nat} {st : mx_St} {n : Fin 2} {q : Nat} (hv : n.val = q) (hd : decode m.2.1 pc = .ok (.lconst n, 1)) : mx_Go m G Λ pc 1 st (mx_push (.long (lN q)) st) := by
  intro st' φ hr hφ cl sl Q k p l e s mid args below meth c Z hC hZ H locs ls hR hS hl
  cases hr
  refine lv_lconst (v := lN q) hC.1 hC.2.1 hd (by rw [hv]; rfl) ?_
  exact k p l e s mid args below meth c Z hC hZ H locs ls hR hS hl
theorem mx_g_ldc {m : MR} {G : mx_G} {Λ : List mx_K} {pc : Nat} {st : mx_St} {idx : Nat} {v : Int32} (hv : Cond.constant m.1.cls idx v ∈ TT) (hd : decode m.2.1 pc = .ok (.ldc idx, 2)) : mx_Go m G Λ pc 2 st (mx_push (.int v) st) := by
  intro st' φ hr hφ cl sl Q k p l e s mid args below meth c Z hC hZ H locs ls hR hS hl
  cases hr
  refine lv_ldc hC.1 hC.2.1 hC.2.2.2.1 (hC.2.2.2.2.1 _ hv) hd ?_
  exact k p l e s mid args below meth c Z hC hZ H locs ls hR hS hl
theorem mx_g_ldc_w {m : MR} {G : mx_G} {Λ : List mx_K} {pc : Nat} {st : mx_St} {idx : Nat} {v : Int32} (hv : Cond.constant m.1.cls idx v ∈ TT) (hd : decode m.2.1 pc = .ok (.ldc_w idx, 3)) : mx_Go m G Λ pc 3 st (mx_push (.int v) st) := by
  intro st' φ hr hφ cl sl Q k p l e s mid args below meth c Z hC hZ H locs ls hR hS hl
  cases hr
  refine lv_ldcw hC.1 hC.2.1 hC.2.2.2.1 (hC.2.2.2.2.1 _ hv) hd ?_
  exact k p l e s mid args below meth c Z hC hZ H locs ls hR hS hl
theorem mx_g_ldc2_w {m : MR} {G : mx_G} {Λ : List mx_K} {pc : Nat} {st : mx_St} {idx : Nat} {v : Int64} (hv : Cond.constantLong m.1.cls idx v ∈ TT) (hd : decode m.2.1 pc = .ok (.ldc2_w idx, 3)) : mx_Go m G Λ pc 3 st (mx_push (.long v) st) := by
  intro st' φ hr hφ cl sl Q k p l e s mid args below meth c Z hC hZ H locs ls hR hS hl
  cases hr
  refine lv_ldc2 hC.1 hC.2.1 hC.2.2.2.1 (hC.2.2.2.2.1 _ hv) hd ?_
  exact k p l e s mid args below meth c Z hC hZ H locs ls hR hS hl
theorem mx_g_iadd {m : MR} {G : mx_G} {Λ : List mx_K} {pc : Nat} {st : mx_St} (hd : decode m.2.1 pc = .ok (.iadd, 1)) : mx_Go m G Λ pc 1 st (mx_bin (fun x y => x + y) st) := by
  obtain ⟨s0, l0, M⟩ := st
  intro st' φ hr hφ cl sl Q k p l e s mid args below meth c Z hC hZ H locs ls hR hS hl
  unfold mx_bin at hr
  split at hr
  · rename_i y x rest hq
    dsimp only at hq
    subst hq
    cases hr
    refine lv_iadd hC.1 hC.2.1 hd ?_
    exact k p l e s mid args below meth c Z hC hZ H locs ls hR hS hl
  · cases hr
theorem mx_g_isub {m : MR} {G : mx_G} {Λ : List mx_K} {pc : Nat} {st : mx_St} (hd : decode m.2.1 pc = .ok (.isub, 1)) : mx_Go m G Λ pc 1 st (mx_bin (fun x y => x - y) st) := by
  obtain ⟨s0, l0, M⟩ := st
  intro st' φ hr hφ cl sl Q k p l e s mid args below meth c Z hC hZ H locs ls hR hS hl
  unfold mx_bin at hr
  split at hr
  · rename_i y x rest hq
    dsimp only at hq
    subst hq
    cases hr
    refine lv_isub hC.1 hC.2.1 hd ?_
    exact k p l e s mid args below meth c Z hC hZ H locs ls hR hS hl
  · cases hr
theorem mx_g_imul {m : MR} {G : mx_G} {Λ : List mx_K} {pc : Nat} {st : mx_St} (hd : decode m.2.1 pc = .ok (.imul, 1)) : mx_Go m G Λ pc 1 st (mx_bin (fun x y => x * y) st) := by
  obtain ⟨s0, l0, M⟩ := st
  intro st' φ hr hφ cl sl Q k p l e s mid args below meth c Z hC hZ H locs ls hR hS hl
  unfold mx_bin at hr
  split at hr
  · rename_i y x rest hq
    dsimp only at hq
    subst hq
    cases hr
    refine lv_imul hC.1 hC.2.1 hd ?_
    exact k p l e s mid args below meth c Z hC hZ H locs ls hR hS hl
  · cases hr
theorem mx_g_iand {m : MR} {G : mx_G} {Λ : List mx_K} {pc : Nat} {st : mx_St} (hd : decode m.2.1 pc = .ok (.iand, 1)) : mx_Go m G Λ pc 1 st (mx_bin (fun x y => x &&& y) st) := by
  obtain ⟨s0, l0, M⟩ := st
  intro st' φ hr hφ cl sl Q k p l e s mid args below meth c Z hC hZ H locs ls hR hS hl
  unfold mx_bin at hr
  split at hr
  · rename_i y x rest hq
    dsimp only at hq
    subst hq
    cases hr
    refine lv_iand hC.1 hC.2.1 hd ?_
    exact k p l e s mid args below meth c Z hC hZ H locs ls hR hS hl
  · cases hr
theorem mx_g_ior {m : MR} {G : mx_G} {Λ : List mx_K} {pc : Nat} {st : mx_St} (hd : decode m.2.1 pc = .ok (.ior, 1)) : mx_Go m G Λ pc 1 st (mx_bin (fun x y => x ||| y) st) := by
  obtain ⟨s0, l0, M⟩ := st
  intro st' φ hr hφ cl sl Q k p l e s mid args below meth c Z hC hZ H locs ls hR hS hl
  unfold mx_bin at hr
  split at hr
  · rename_i y x rest hq
    dsimp only at hq
    subst hq
    cases hr
    refine lv_ior hC.1 hC.2.1 hd ?_
    exact k p l e s mid args below meth c Z hC hZ H locs ls hR hS hl
  · cases hr
theorem mx_g_ixor {m : MR} {G : mx_G} {Λ : List mx_K} {pc : Nat} {st : mx_St} (hd : decode m.2.1 pc = .ok (.ixor, 1)) : mx_Go m G Λ pc 1 st (mx_bin (fun x y => x ^^^ y) st) := by
  obtain ⟨s0, l0, M⟩ := st
  intro st' φ hr hφ cl sl Q k p l e s mid args below meth c Z hC hZ H locs ls hR hS hl
  unfold mx_bin at hr
  split at hr
  · rename_i y x rest hq
    dsimp only at hq
    subst hq
    cases hr
    refine lv_ixor hC.1 hC.2.1 hd ?_
    exact k p l e s mid args below meth c Z hC hZ H locs ls hR hS hl
  · cases hr
theorem mx_g_ishl {m : MR} {G : mx_G} {Λ : List mx_K} {pc : Nat} {st : mx_St} (hd : decode m.2.1 pc = .ok (.ishl, 1)) : mx_Go m G Λ pc 1 st (mx_bin (fun x y => x <<< (y &&& 31)) st) := by
  obtain ⟨s0, l0, M⟩ := st
  intro st' φ hr hφ cl sl Q k p l e s mid args below meth c Z hC hZ H locs ls hR hS hl
  unfold mx_bin at hr
  split at hr
  · rename_i y x rest hq
    dsimp only at hq
    subst hq
    cases hr
    refine lv_ishl hC.1 hC.2.1 hd ?_
    exact k p l e s mid args below meth c Z hC hZ H locs ls hR hS hl
  · cases hr
theorem mx_g_ishr {m : MR} {G : mx_G} {Λ : List mx_K} {pc : Nat} {st : mx_St} (hd : decode m.2.1 pc = .ok (.ishr, 1)) : mx_Go m G Λ pc 1 st (mx_bin (fun x y => x >>> (y &&& 31)) st) := by
  obtain ⟨s0, l0, M⟩ := st
  intro st' φ hr hφ cl sl Q k p l e s mid args below meth c Z hC hZ H locs ls hR hS hl
  unfold mx_bin at hr
  split at hr
  · rename_i y x rest hq
    dsimp only at hq
    subst hq
    cases hr
    refine lv_ishr hC.1 hC.2.1 hd ?_
    exact k p l e s mid args below meth c Z hC hZ H locs ls hR hS hl
  · cases hr
theorem mx_g_iushr {m : MR} {G : mx_G} {Λ : List mx_K} {pc : Nat} {st : mx_St} (hd : decode m.2.1 pc = .ok (.iushr, 1)) : mx_Go m G Λ pc 1 st (mx_bin (fun x y => (x.toUInt32 >>> (y.toUInt32 &&& Int32.toUInt32 31)).toInt32) st) := by
  obtain ⟨s0, l0, M⟩ := st
  intro st' φ hr hφ cl sl Q k p l e s mid args below meth c Z hC hZ H locs ls hR hS hl
  unfold mx_bin at hr
  split at hr
  · rename_i y x rest hq
    dsimp only at hq
    subst hq
    cases hr
    refine lv_iushr hC.1 hC.2.1 hd rfl ?_
    exact k p l e s mid args below meth c Z hC hZ H locs ls hR hS hl
  · cases hr
theorem mx_g_idiv {m : MR} {G : mx_G} {Λ : List mx_K} {pc : Nat} {st : mx_St} (hd : decode m.2.1 pc = .ok (.idiv, 1)) : mx_Go m G Λ pc 1 st (mx_binD (fun x y => x / y) st) := by
  obtain ⟨s0, l0, M⟩ := st
  intro st' φ hr hφ cl sl Q k p l e s mid args below meth c Z hC hZ H locs ls hR hS hl
  unfold mx_binD at hr
  split at hr
  · rename_i y x rest hq
    dsimp only at hq
    subst hq
    cases hr
    refine lv_idiv hC.1 hC.2.1 hd hφ ?_
    exact k p l e s mid args below meth c Z hC hZ H locs ls hR hS hl
  · cases hr
theorem mx_g_irem {m : MR} {G : mx_G} {Λ : List mx_K} {pc : Nat} {st : mx_St} (hd : decode m.2.1 pc = .ok (.irem, 1)) : mx_Go m G Λ pc 1 st (mx_binD (fun x y => x - x / y * y) st) := by
  obtain ⟨s0, l0, M⟩ := st
  intro st' φ hr hφ cl sl Q k p l e s mid args below meth c Z hC hZ H locs ls hR hS hl
  unfold mx_binD at hr
  split at hr
  · rename_i y x rest hq
    dsimp only at hq
    subst hq
    cases hr
    refine lv_irem hC.1 hC.2.1 hd hφ ?_
    exact k p l e s mid args below meth c Z hC hZ H locs ls hR hS hl
  · cases hr
theorem mx_g_ineg {m : MR} {G : mx_G} {Λ : List mx_K} {pc : Nat} {st : mx_St} (hd : decode m.2.1 pc = .ok (.ineg, 1)) : mx_Go m G Λ pc 1 st (mx_un (fun x => -x) st) := by
  obtain ⟨s0, l0, M⟩ := st
  intro st' φ hr hφ cl sl Q k p l e s mid args below meth c Z hC hZ H locs ls hR hS hl
  unfold mx_un at hr
  split at hr
  · rename_i x rest hq
    dsimp only at hq
    subst hq
    cases hr
    refine lv_ineg hC.1 hC.2.1 hd ?_
    exact k p l e s mid args below meth c Z hC hZ H locs ls hR hS hl
  · cases hr
theorem mx_g_i2b {m : MR} {G : mx_G} {Λ : List mx_K} {pc : Nat} {st : mx_St} (hd : decode m.2.1 pc = .ok (.i2b, 1)) : mx_Go m G Λ pc 1 st (mx_un (fun x => x.toInt8.toInt32) st) := by
  obtain ⟨s0, l0, M⟩ := st
  intro st' φ hr hφ cl sl Q k p l e s mid args below meth c Z hC hZ H locs ls hR hS hl
  unfold mx_un at hr
  split at hr
  · rename_i x rest hq
    dsimp only at hq
    subst hq
    cases hr
    refine lv_i2b hC.1 hC.2.1 hd rfl ?_
    exact k p l e s mid args below meth c Z hC hZ H locs ls hR hS hl
  · cases hr
theorem mx_g_i2s {m : MR} {G : mx_G} {Λ : List mx_K} {pc : Nat} {st : mx_St} (hd : decode m.2.1 pc = .ok (.i2s, 1)) : mx_Go m G Λ pc 1 st (mx_un (fun x => x.toInt16.toInt32) st) := by
  obtain ⟨s0, l0, M⟩ := st
  intro st' φ hr hφ cl sl Q k p l e s mid args below meth c Z hC hZ H locs ls hR hS hl
  unfold mx_un at hr
  split at hr
  · rename_i x rest hq
    dsimp only at hq
    subst hq
    cases hr
    refine lv_i2s hC.1 hC.2.1 hd rfl ?_
    exact k p l e s mid args below meth c Z hC hZ H locs ls hR hS hl
  · cases hr
theorem mx_g_ladd {m : MR} {G : mx_G} {Λ : List mx_K} {pc : Nat} {st : mx_St} (hd : decode m.2.1 pc = .ok (.ladd, 1)) : mx_Go m G Λ pc 1 st (mx_lbin (fun x y => x + y) st) := by
  obtain ⟨s0, l0, M⟩ := st
  intro st' φ hr hφ cl sl Q k p l e s mid args below meth c Z hC hZ H locs ls hR hS hl
  unfold mx_lbin at hr
  split at hr
  · rename_i y x rest hq
    dsimp only at hq
    subst hq
    cases hr
    refine lv_ladd hC.1 hC.2.1 hd ?_
    exact k p l e s mid args below meth c Z hC hZ H locs ls hR hS hl
  · cases hr
theorem mx_g_lmul {m : MR} {G : mx_G} {Λ : List mx_K} {pc : Nat} {st : mx_St} (hd : decode m.2.1 pc = .ok (.lmul, 1)) : mx_Go m G Λ pc 1 st (mx_lbin (fun x y => x * y) st) := by
  obtain ⟨s0, l0, M⟩ := st
  intro st' φ hr hφ cl sl Q k p l e s mid args below meth c Z hC hZ H locs ls hR hS hl
  unfold mx_lbin at hr
  split at hr
  · rename_i y x rest hq
    dsimp only at hq
    subst hq
    cases hr
    refine lv_lmul hC.1 hC.2.1 hd ?_
    exact k p l e s mid args below meth c Z hC hZ H locs ls hR hS hl
  · cases hr
theorem mx_g_ldiv {m : MR} {G : mx_G} {Λ : List mx_K} {pc : Nat} {st : mx_St} (hd : decode m.2.1 pc = .ok (.ldiv, 1)) : mx_Go m G Λ pc 1 st (mx_lbinD (fun x y => x / y) st) := by
  obtain ⟨s0, l0, M⟩ := st
  intro st' φ hr hφ cl sl Q k p l e s mid args below meth c Z hC hZ H locs ls hR hS hl
  unfold mx_lbinD at hr
  split at hr
  · rename_i y x rest hq
    dsimp only at hq
    subst hq
    cases hr
    refine lv_ldiv hC.1 hC.2.1 hd hφ ?_
    exact k p l e s mid args below meth c Z hC hZ H locs ls hR hS hl
  · cases hr
theorem mx_g_lrem {m : MR} {G : mx_G} {Λ : List mx_K} {pc : Nat} {st : mx_St} (hd : decode m.2.1 pc = .ok (.lrem, 1)) : mx_Go m G Λ pc 1 st (mx_lbinD (fun x y => x - x / y * y) st) := by
  obtain ⟨s0, l0, M⟩ := st
  intro st' φ hr hφ cl sl Q k p l e s mid args below meth c Z hC hZ H locs ls hR hS hl
  unfold mx_lbinD at hr
  split at hr
  · rename_i y x rest hq
    dsimp only at hq
    subst hq
    cases hr
    refine lv_lrem hC.1 hC.2.1 hd hφ ?_
    exact k p l e s mid args below meth c Z hC hZ H locs ls hR hS hl
  · cases hr
theorem mx_g_lcmp {m : MR} {G : mx_G} {Λ : List mx_K} {pc : Nat} {st : mx_St} (hd : decode m.2.1 pc = .ok (.lcmp, 1)) : mx_Go m G Λ pc 1 st (mx_lcmp st) := by
  obtain ⟨s0, l0, M⟩ := st
  intro st' φ hr hφ cl sl Q k p l e s mid args below meth c Z hC hZ H locs ls hR hS hl
  unfold mx_lcmp at hr
  split at hr
  · rename_i y x rest hq
    dsimp only at hq
    subst hq
    cases hr
    refine W.lcmp hC.1 hC.2.1 hd ?_
    exact k p l e s mid args below meth c Z hC hZ H locs ls hR hS hl
  · cases hr
theorem mx_g_i2l {m : MR} {G : mx_G} {Λ : List mx_K} {pc : Nat} {st : mx_St} (hd : decode m.2.1 pc = .ok (.i2l, 1)) : mx_Go m G Λ pc 1 st (mx_i2l st) := by
  obtain ⟨s0, l0, M⟩ := st
  intro st' φ hr hφ cl sl Q k p l e s mid args below meth c Z hC hZ H locs ls hR hS hl
  unfold mx_i2l at hr
  split at hr
  · rename_i x rest hq
    dsimp only at hq
    subst hq
    cases hr
    refine lv_i2l hC.1 hC.2.1 hd rfl ?_
    exact k p l e s mid args below meth c Z hC hZ H locs ls hR hS hl
  · cases hr
theorem mx_g_l2i {m : MR} {G : mx_G} {Λ : List mx_K} {pc : Nat} {st : mx_St} (hd : decode m.2.1 pc = .ok (.l2i, 1)) : mx_Go m G Λ pc 1 st (mx_l2i st) := by
  obtain ⟨s0, l0, M⟩ := st
  intro st' φ hr hφ cl sl Q k p l e s mid args below meth c Z hC hZ H locs ls hR hS hl
  unfold mx_l2i at hr
  split at hr
  · rename_i x rest hq
    dsimp only at hq
    subst hq
    cases hr
    refine lv_l2i hC.1 hC.2.1 hd rfl ?_
    exact k p l e s mid args below meth c Z hC hZ H locs ls hR hS hl
  · cases hr
theorem mx_g_pop {m : MR} {G : mx_G} {Λ : List mx_K} {pc : Nat} {st : mx_St} (hd : decode m.2.1 pc = .ok (.pop, 1)) : mx_Go m G Λ pc 1 st (mx_pop st) := by
  obtain ⟨s0, l0, M⟩ := st
  intro st' φ hr hφ cl sl Q k p l e s mid args below meth c Z hC hZ H locs ls hR hS hl
  unfold mx_pop at hr
  split at hr
  · rename_i x rest hq
    dsimp only at hq
    subst hq
    cases hr
    refine lv_pop hC.1 hC.2.1 hd rfl ?_
    exact k p l e s mid args below meth c Z hC hZ H locs ls hR hS hl
  · cases hr
theorem mx_g_dup {m : MR} {G : mx_G} {Λ : List mx_K} {pc : Nat} {st : mx_St} (hd : decode m.2.1 pc = .ok (.dup, 1)) : mx_Go m G Λ pc 1 st (mx_dup st) := by
  obtain ⟨s0, l0, M⟩ := st
  intro st' φ hr hφ cl sl Q k p l e s mid args below meth c Z hC hZ H locs ls hR hS hl
  unfold mx_dup at hr
  split at hr
  · rename_i x rest hq
    dsimp only at hq
    subst hq
    cases hr
    refine lv_dup hC.1 hC.2.1 hd rfl ?_
    exact k p l e s mid args below meth c Z hC hZ H locs ls hR hS hl
  · rename_i x rest hq
    dsimp only at hq
    subst hq
    cases hr
    refine lv_dup hC.1 hC.2.1 hd rfl ?_
    exact k p l e s mid args below meth c Z hC hZ H locs ls hR hS hl
  · cases hr
theorem mx_g_dup2 {m : MR} {G : mx_G} {Λ : List mx_K} {pc : Nat} {st : mx_St} (hd : decode m.2.1 pc = .ok (.dup2, 1)) : mx_Go m G Λ pc 1 st (mx_dup2 st) := by
  obtain ⟨s0, l0, M⟩ := st
  intro st' φ hr hφ cl sl Q k p l e s mid args below meth c Z hC hZ H locs ls hR hS hl
  unfold mx_dup2 at hr
  split at hr
  · rename_i x y rest hq
    dsimp only at hq
    subst hq
    cases hr
    refine lv_dup2_11 hC.1 hC.2.1 hd rfl rfl ?_
    exact k p l e s mid args below meth c Z hC hZ H locs ls hR hS hl
  · cases hr
