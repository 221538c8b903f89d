theorem k_pairUp (G : mx_G) {M : mx_M} {p h : Nat} {hs : Hs} {L L1' L2' L3' : List Nat} {f : Nat → Nat} (ho : mx_ocl LAY p = 4) (hh : mx_ocl LAY h = 3) (hd : h + 4 ≤ p ∨ p + 15 ≤ h) (hH : HsAt M h hs) (hw : HsOk hs) (hA : SetsAt M (p + 3) L f) (h1 : SetsL M (p + 6) L1') (h2 : SetsL M (p + 9) L2') (h3 : SetsL M (p + 12) L3') (hB : Iw f (fun _ => 1) ≤ 404) :
  sOk G m_Plain_pairUp [.ref p, .ref h] M (fun r M' => r = none ∧ Fr M M' (p + 6) (p + 15) ∧ (∃ L, SetsL M' (p + 6) L) ∧ (∃ L, SetsL M' (p + 9) L) ∧ ∃ LP fp, SetsAt M' (p + 12) LP fp ∧ ∀ φ, Iw fp φ = Iw f (fun x => Iw f (fun y => φ (L1 hs x &&& R1 hs y)))) := by
  have lL := hA.len
  rw [Iw_list hA] at hB
  refine sOk_of ⟨by decide +kernel, by decide +kernel, Nat.le_of_ble_eq_true rfl⟩ ?_
  show sW G m_Plain_pairUp 0 ([], [some (.ref p), some (.ref h), none, none, none, none], M) _
  refine sW_go b_Plain_pairUp_0 (st' := ([.ref (p + 6)], [some (.ref p), some (.ref h), none, none, none, none], M)) (φ := mx_ocl LAY p = 4 ∧ True) rfl ⟨ho, trivial⟩ ?_
  refine sW_callV 6 [] [] d_Plain_pairUp_4 c_Plain_pairUp_4 ⟨rfl, rfl, rfl, Nat.le_of_ble_eq_true rfl, rfl, rfl⟩ (oc_Plain_byLeft ho) (k_clearI G (oc_Plain_byLeft ho) h1) ?_
  rintro _ M1 ⟨rfl, a1, e1⟩
  show sW G m_Plain_pairUp 7 ([], [some (.ref p), some (.ref h), none, none, none, none], M1) _
  refine sW_go b_Plain_pairUp_7 (st' := ([.ref (p + 9)], [some (.ref p), some (.ref h), none, none, none, none], M1)) (φ := mx_ocl LAY p = 4 ∧ True) rfl ⟨ho, trivial⟩ ?_
  refine sW_callV 6 [] [] d_Plain_pairUp_11 c_Plain_pairUp_11 ⟨rfl, rfl, rfl, Nat.le_of_ble_eq_true rfl, rfl, rfl⟩ (oc_Plain_byRight ho) (k_clearI G (oc_Plain_byRight ho) (h2.fr a1 (by omega))) ?_
  rintro _ M2 ⟨rfl, a2, e2⟩
  have f2 : Fr M M2 (p + 6) (p + 12) := (a1.mono (by omega) (by omega)).tr (a2.mono (by omega) (by omega))
  show sW G m_Plain_pairUp 14 ([], [some (.ref p), some (.ref h), none, none, none, none], M2) _
  refine sW_go b_Plain_pairUp_14 (st' := ([.ref (p + 12)], [some (.ref p), some (.ref h), none, none, none, none], M2)) (φ := mx_ocl LAY p = 4 ∧ True) rfl ⟨ho, trivial⟩ ?_
  refine sW_callV 6 [] [] d_Plain_pairUp_18 c_Plain_pairUp_18 ⟨rfl, rfl, rfl, Nat.le_of_ble_eq_true rfl, rfl, rfl⟩ (oc_Plain_byPair ho) (k_clearI G (oc_Plain_byPair ho) (h3.fr f2 (by omega))) ?_
  rintro _ M3 ⟨rfl, a3, e3⟩
  have f3 : Fr M M3 (p + 6) (p + 15) := (f2.mono (by omega) (by omega)).tr (a3.mono (by omega) (by omega))
  show sW G m_Plain_pairUp 21 ([], [some (.ref p), some (.ref h), none, none, none, none], M3) _
  refine sW_go b_Plain_pairUp_21 (st' := ([], [some (.ref p), some (.ref h), some (.int (nI 0)), none, none, none], M3)) (φ := True) rfl trivial ?_
  refine mx_ind (α := Nat × mx_M) (fun q => L.length - q.1) (fun q => q.1 ≤ L.length → Fr M q.2 (p + 6) (p + 15) → (∃ LL fl, SetsAt q.2 (p + 6) LL fl ∧ ∀ φ, Iw fl φ = ls (fun x => f x * φ (L1 hs x)) (L.take q.1)) → (∃ LR fr, SetsAt q.2 (p + 9) LR fr ∧ ∀ φ, Iw fr φ = ls (fun x => f x * φ (R1 hs x)) (L.take q.1)) → SetsAt q.2 (p + 12) [] (fun _ => 0) → sW G m_Plain_pairUp 23 ([], [some (.ref p), some (.ref h), some (.int (nI q.1)), none, none, none], q.2) _) ?_ (0, M3) (Nat.zero_le _) f3 ⟨_, _, (e1.fr a2 (by omega)).fr a3 (by omega), fun φ => Iw_0 φ⟩ ⟨_, _, e2.fr a3 (by omega), fun φ => Iw_0 φ⟩ e3
  rintro ⟨k, M4⟩ ih hk f4 ⟨LL, fl, s1, w1⟩ ⟨LR, fr, s2, w2⟩ s3
  dsimp only at ih hk f4 s1 w1 s2 w2 s3 ⊢
  have cc := hA.fr f4 (by omega)
  have z0 : M4 (p + 3) 2 = nI L.length := cc.1
  have hH4 := hH.fr f4 (by omega)
  by_cases hkn : k < L.length
  · have z1 : M4 (p + 4) k = nI (L.getD k 0) := cc.2.2.2.1 k hkn
    have z2 := (cc.lt hkn).1
    have z3 := (cc.lt hkn).2
    have z4 : f (L.getD k 0) ≠ 0 := (cc.2.2.2.2.2 _ z2).mpr z3
    have z5 := (cc.2.2.2.2.1 _ z2)
    have z6 : M4 (p + 5) (L.getD k 0) = nI (f (L.getD k 0)) := z5.1
    have hs1 := fun φ : Nat → Nat => ls_take (fun x => f x * φ (L1 hs x)) hkn
    have hs2 := fun φ : Nat → Nat => ls_take (fun x => f x * φ (R1 hs x)) hkn
    have hst1 := ls_take_le (fun x => f x * 1) L (k + 1)
    rw [ls_take _ hkn] at hst1
    generalize hg : L.getD k 0 = a at z1 z2 z3 z4 z5 z6 hs1 hs2 hst1
    generalize hfa : f a = fa at z4 z5 z6 hs1 hs2 hst1
    have b1 := L1_lt hw a
    have b2 := R1_lt hw a
    have x1 : Iw fl (fun _ => 1) + fa < 2 ^ 31 := by rw [w1]; omega
    have x2 : Iw fr (fun _ => 1) + fa < 2 ^ 31 := by rw [w2]; omega
    refine sW_go b_Plain_pairUp_23 (st' := ([.int (M4 (p + 3) 2), .int (nI k)], [some (.ref p), some (.ref h), some (.int (nI k)), none, none, none], M4)) (φ := mx_ocl LAY p = 4 ∧ mx_ocl LAY (p + 3) = 6 ∧ True) rfl ⟨ho, (oc_Plain_byCell ho), trivial⟩ ?_
    refine sW_eq (st' := ([.int (nI L.length), .int (nI k)], [some (.ref p), some (.ref h), some (.int (nI k)), none, none, none], M4)) (by simp (disch := omega) only [z0]) ?_
    refine sW_ic_ge 94 d_Plain_pairUp_31 (by decide) (fun c_31 => ?_) (fun c_31 => ?_)
    · skip
      simp (disch := omega) only [nI_leI] at c_31
      omega
    · skip
      simp (disch := omega) only [nI_leI] at c_31
      refine sW_go b_Plain_pairUp_34 (st' := ([.int (M4 (p + 4) (nI k).toNatClampNeg), .int (nI 1), .ref h, .ref (p + 6)], [some (.ref p), some (.ref h), some (.int (nI k)), some (.int (M4 (p + 4) (nI k).toNatClampNeg)), none, none], M4)) (φ := mx_ocl LAY p = 4 ∧ mx_ocl LAY (p + 3) = 6 ∧ vp_in (nI k) (mx_len LAY false (p + 4)) ∧ mx_ocl LAY p = 4 ∧ True) rfl ⟨ho, (oc_Plain_byCell ho), (by simp (disch := omega) only [(ln_Sets_at (oc_Plain_byCell ho))]; exact vp_in_nI (by omega) (by decide)), ho, trivial⟩ ?_
      refine sW_eq (st' := ([.int (nI a), .int (nI 1), .ref h, .ref (p + 6)], [some (.ref p), some (.ref h), some (.int (nI k)), some (.int (nI a)), none, none], M4)) (by simp (disch := omega) only [nI_clamp, z1]) ?_
      refine sW_callV 3 [.int (nI 1), .int (nI a)] [.ref (p + 6)] d_Plain_pairUp_51 c_Plain_pairUp_51 ⟨rfl, rfl, rfl, Nat.le_of_ble_eq_true rfl, rfl, rfl⟩ hh (k_House_withFirstIn G hh hH4 hw (t := 1) (by decide) z2) ?_
      rintro _ M₁ ⟨rfl, h₁⟩
      rw [h₁]
      show sW G m_Plain_pairUp 54 ([.int (nI (L1 hs a)), .ref (p + 6)], [some (.ref p), some (.ref h), some (.int (nI k)), some (.int (nI a)), none, none], M4) _
      refine sW_go b_Plain_pairUp_54 (st' := ([.int (M4 (p + 5) (nI a).toNatClampNeg), .int (nI (L1 hs a)), .ref (p + 6)], [some (.ref p), some (.ref h), some (.int (nI k)), some (.int (nI a)), none, none], M4)) (φ := mx_ocl LAY p = 4 ∧ mx_ocl LAY (p + 3) = 6 ∧ vp_in (nI a) (mx_len LAY false (p + 5)) ∧ True) rfl ⟨ho, (oc_Plain_byCell ho), (by simp (disch := omega) only [(ln_Sets_number (oc_Plain_byCell ho))]; exact vp_in_nI (by omega) (by decide)), trivial⟩ ?_
      refine sW_eq (st' := ([.int (nI fa), .int (nI (L1 hs a)), .ref (p + 6)], [some (.ref p), some (.ref h), some (.int (nI k)), some (.int (nI a)), none, none], M4)) (by simp (disch := omega) only [nI_clamp, z6]) ?_
      refine sW_callV 6 [.int (nI (L1 hs a)), .int (nI fa)] [] d_Plain_pairUp_63 c_Plain_pairUp_63 ⟨rfl, rfl, rfl, Nat.le_of_ble_eq_true rfl, rfl, rfl⟩ (oc_Plain_byLeft ho) (k_raiseI G (oc_Plain_byLeft ho) s1 b1 (by omega) x1) ?_
      rintro _ M5 ⟨rfl, g1, LL5, fl5, s5, w5⟩
      have z7 : M5 (p + 5) a = nI fa := by rw [g1 _ (by omega)]; exact z6
      show sW G m_Plain_pairUp 66 ([], [some (.ref p), some (.ref h), some (.int (nI k)), some (.int (nI a)), none, none], M5) _
      refine sW_go b_Plain_pairUp_66 (st' := ([.int (nI a), .int (nI 1), .ref h, .ref (p + 9)], [some (.ref p), some (.ref h), some (.int (nI k)), some (.int (nI a)), none, none], M5)) (φ := mx_ocl LAY p = 4 ∧ True) rfl ⟨ho, trivial⟩ ?_
      refine sW_callV 3 [.int (nI 1), .int (nI a)] [.ref (p + 9)] d_Plain_pairUp_73 c_Plain_pairUp_73 ⟨rfl, rfl, rfl, Nat.le_of_ble_eq_true rfl, rfl, rfl⟩ hh (k_House_withSecondIn G hh (hH4.fr g1 (by omega)) hw (t := 1) (by decide) z2) ?_
      rintro _ M₁ ⟨rfl, h₁⟩
      rw [h₁]
      show sW G m_Plain_pairUp 76 ([.int (nI (R1 hs a)), .ref (p + 9)], [some (.ref p), some (.ref h), some (.int (nI k)), some (.int (nI a)), none, none], M5) _
      refine sW_go b_Plain_pairUp_76 (st' := ([.int (M5 (p + 5) (nI a).toNatClampNeg), .int (nI (R1 hs a)), .ref (p + 9)], [some (.ref p), some (.ref h), some (.int (nI k)), some (.int (nI a)), none, none], M5)) (φ := mx_ocl LAY p = 4 ∧ mx_ocl LAY (p + 3) = 6 ∧ vp_in (nI a) (mx_len LAY false (p + 5)) ∧ True) rfl ⟨ho, (oc_Plain_byCell ho), (by simp (disch := omega) only [(ln_Sets_number (oc_Plain_byCell ho))]; exact vp_in_nI (by omega) (by decide)), trivial⟩ ?_
      refine sW_eq (st' := ([.int (nI fa), .int (nI (R1 hs a)), .ref (p + 9)], [some (.ref p), some (.ref h), some (.int (nI k)), some (.int (nI a)), none, none], M5)) (by simp (disch := omega) only [nI_clamp, z7]) ?_
      refine sW_callV 6 [.int (nI (R1 hs a)), .int (nI fa)] [] d_Plain_pairUp_85 c_Plain_pairUp_85 ⟨rfl, rfl, rfl, Nat.le_of_ble_eq_true rfl, rfl, rfl⟩ (oc_Plain_byRight ho) (k_raiseI G (oc_Plain_byRight ho) (s2.fr g1 (by omega)) b2 (by omega) x2) ?_
      rintro _ M6 ⟨rfl, g2, LR6, fr6, s6, w6⟩
      show sW G m_Plain_pairUp 88 ([], [some (.ref p), some (.ref h), some (.int (nI k)), some (.int (nI a)), none, none], M6) _
      refine sW_go b_Plain_pairUp_88 (st' := ([], [some (.ref p), some (.ref h), some (.int (nI k + nI 1)), some (.int (nI a)), none, none], M6)) (φ := True) rfl trivial ?_
      refine sW_eq (st' := ([], [some (.ref p), some (.ref h), some (.int (nI (k + 1))), some (.int (nI a)), none, none], M6)) (by simp (disch := omega) only [nI_add]) ?_
      refine sW_goto 23 d_Plain_pairUp_91 (by decide) ?_
      refine sW_fg [false, false, false, true, false, false] ?_
      show sW G m_Plain_pairUp 23 ([], [some (.ref p), some (.ref h), some (.int (nI (k + 1))), none, none, none], M6) _
      refine ih (k + 1, M6) (by dsimp only; omega) (by dsimp only; omega) ((f4.tr (g1.mono (by omega) (by omega))).tr (g2.mono (by omega) (by omega))) ⟨LL5, fl5, s5.fr g2 (by omega), fun φ => ?_⟩ ⟨LR6, fr6, s6, fun φ => ?_⟩ ((s3.fr g1 (by omega)).fr g2 (by omega))
      · dsimp only
        rw [w5, w1, hs1]
      · dsimp only
        rw [w6, w2, hs2]
  · have hke : k = L.length := by omega
    subst hke
    rw [List.take_length] at w1 w2
    refine sW_go b_Plain_pairUp_23 (st' := ([.int (M4 (p + 3) 2), .int (nI L.length)], [some (.ref p), some (.ref h), some (.int (nI L.length)), none, none, none], M4)) (φ := mx_ocl LAY p = 4 ∧ mx_ocl LAY (p + 3) = 6 ∧ True) rfl ⟨ho, (oc_Plain_byCell ho), trivial⟩ ?_
    refine sW_eq (st' := ([.int (nI L.length), .int (nI L.length)], [some (.ref p), some (.ref h), some (.int (nI L.length)), none, none, none], M4)) (by simp (disch := omega) only [z0]) ?_
    refine sW_ic_ge 94 d_Plain_pairUp_31 (by decide) (fun c_31 => ?_) (fun c_31 => ?_)
    · skip
      simp (disch := omega) only [nI_leI] at c_31
      refine sW_go b_Plain_pairUp_94 (st' := ([], [some (.ref p), some (.ref h), some (.int (nI 0)), none, none, none], M4)) (φ := True) rfl trivial ?_
      refine k_pairUp96 G ho hh s1 s2 s3 (by rw [w1]; exact hB) (by rw [w2]; exact hB) (fun M' g1 ⟨LP, fp, g2, g3⟩ => ⟨rfl, f4.tr (g1.mono (by omega) (by omega)), ⟨LL, fl, s1.fr g1 (by omega)⟩, ⟨LR, fr, s2.fr g1 (by omega)⟩, LP, fp, g2, fun φ => ?_⟩)
      rw [g3 φ, w1, Iw_list hA]
      refine ls_congr (fun x _ => ?_)
      rw [w2, Iw_list hA]
    · skip
      simp (disch := omega) only [nI_leI] at c_31
      exact absurd c_31 (by omega)

