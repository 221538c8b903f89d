theorem k_House_ofSort (G : mx_G) {M : mx_M} {h : Nat} {hs : Hs} (ho : mx_ocl LAY h = 3) (hA : HsAt M h hs) (hw : HsOk hs) {t : Nat} (ht : t < 6) : sOk G m_House_ofSort [.ref h, .int (nI t)] M (fun r M' => r = some (.int (nI (bsum (sortB hs t) hs.1))) ∧ M' = M) := by
  obtain ⟨e3, e4, eK⟩ := id hA
  obtain ⟨w1, w2, w3⟩ := id hw
  refine sOk_of ⟨by decide +kernel, by decide +kernel, Nat.le_of_ble_eq_true rfl⟩ ?_
  show sW G m_House_ofSort 0 ([], [some (.ref h), some (.int (nI t)), none, none], M) _
  refine sW_go b_House_ofSort_0 (st' := ([], [some (.ref h), some (.int (nI t)), some (.int (nI 0)), some (.int (nI 0))], M)) (φ := True) rfl trivial ?_
  refine mx_ind (α := Nat × Nat) (fun a => hs.1 - a.1) (fun a => a.1 ≤ hs.1 → a.2 = bsum (sortB hs t) a.1 → sW G m_House_ofSort 4 ([], [some (.ref h), some (.int (nI t)), some (.int (nI a.2)), some (.int (nI a.1))], M) _) ?_ (0, 0) (Nat.zero_le _) rfl
  rintro ⟨k, c⟩ ih hk hc
  dsimp only at ih hk hc ⊢
  by_cases hkn : k < hs.1
  · obtain ⟨x1, x2, x3⟩ := eK k hkn
    obtain ⟨y1, y2, y3⟩ := w3 k hkn
    have q3 : nI 1 <<< (nI k &&& 31) = nI (1 * 2 ^ k) := sh_l (Nat.le_refl _) (by omega)
    have hst : ∀ x, sortB hs t k = x → c ||| x * 2 ^ k = bsum (sortB hs t) (k + 1) := by
      intro x hx
      subst hx
      subst hc
      rfl
    refine sW_go b_House_ofSort_4 (st' := ([.int (M h 3), .int (nI k)], [some (.ref h), some (.int (nI t)), some (.int (nI c)), some (.int (nI k))], M)) (φ := mx_ocl LAY h = 3 ∧ True) rfl ⟨ho, trivial⟩ ?_
    refine sW_eq (st' := ([.int (nI hs.1), .int (nI k)], [some (.ref h), some (.int (nI t)), some (.int (nI c)), some (.int (nI k))], M)) (by simp (disch := omega) only [e3]) ?_
    refine sW_ic_ge 38 d_House_ofSort_9 (by decide) (fun c_9 => ?_) (fun c_9 => ?_)
    · skip
      simp (disch := omega) only [nI_leI] at c_9
      refine sW_go b_House_ofSort_38 (st' := ([.int (nI c)], [some (.ref h), some (.int (nI t)), some (.int (nI c)), some (.int (nI k))], M)) (φ := True) rfl trivial ?_
      refine sW_retI d_House_ofSort_39 rfl (vp_nar_int _) ?_
      omega
    · skip
      simp (disch := omega) only [nI_leI] at c_9
      refine sW_go b_House_ofSort_12 (st' := ([.int (nI t), .int (M (h + 1) (nI k).toNatClampNeg), .int (nI c)], [some (.ref h), some (.int (nI t)), some (.int (nI c)), some (.int (nI k))], M)) (φ := mx_ocl LAY h = 3 ∧ vp_in (nI k) (mx_len LAY false (h + 1)) ∧ True) rfl ⟨ho, (by simp (disch := omega) only [(ln_House_sorts ho)]; exact vp_in_nI (by omega) (by decide)), trivial⟩ ?_
      refine sW_eq (st' := ([.int (nI t), .int (nI (Sf hs k)), .int (nI c)], [some (.ref h), some (.int (nI t)), some (.int (nI c)), some (.int (nI k))], M)) (by simp (disch := omega) only [nI_clamp, x1]) ?_
      refine sW_ic_ne 29 d_House_ofSort_20 (by decide) (fun c_20 => ?_) (fun c_20 => ?_)
      · skip
        simp (disch := omega) only [nI_eq] at c_20
        refine sW_go b_House_ofSort_29 (st' := ([.int (nI 0), .int (nI c)], [some (.ref h), some (.int (nI t)), some (.int (nI c)), some (.int (nI k))], M)) (φ := True) rfl trivial ?_
        refine sW_go b_House_ofSort_30 (st' := ([], [some (.ref h), some (.int (nI t)), some (.int (nI c ||| nI 0)), some (.int (nI k + nI 1))], M)) (φ := True) rfl trivial ?_
        refine sW_eq (st' := ([], [some (.ref h), some (.int (nI t)), some (.int (nI (c ||| 0))), some (.int (nI (k + 1)))], M)) (by simp (disch := omega) only [nI_add, nx_or]) ?_
        refine sW_goto 4 d_House_ofSort_35 (by decide) ?_
        refine ih (k + 1, c ||| 0) (by dsimp only; omega) (by dsimp only; omega) ?_
        have := hst 0 (by unfold sortB; rw [if_neg c_20])
        simpa using this
      · skip
        simp (disch := omega) only [nI_eq] at c_20
        refine sW_go b_House_ofSort_23 (st' := ([.int (nI 1 <<< (nI k &&& 31)), .int (nI c)], [some (.ref h), some (.int (nI t)), some (.int (nI c)), some (.int (nI k))], M)) (φ := True) rfl trivial ?_
        refine sW_eq (st' := ([.int (nI (1 * 2 ^ k)), .int (nI c)], [some (.ref h), some (.int (nI t)), some (.int (nI c)), some (.int (nI k))], M)) (by simp (disch := omega) only [q3]) ?_
        refine sW_goto 30 d_House_ofSort_26 (by decide) ?_
        refine sW_go b_House_ofSort_30 (st' := ([], [some (.ref h), some (.int (nI t)), some (.int (nI c ||| nI (1 * 2 ^ k))), some (.int (nI k + nI 1))], M)) (φ := True) rfl trivial ?_
        refine sW_eq (st' := ([], [some (.ref h), some (.int (nI t)), some (.int (nI (c ||| (1 * 2 ^ k)))), some (.int (nI (k + 1)))], M)) (by simp (disch := omega) only [nI_add, nx_or]) ?_
        refine sW_goto 4 d_House_ofSort_35 (by decide) ?_
        exact ih (k + 1, _) (by dsimp only; omega) (by dsimp only; omega) (hst 1 (by unfold sortB; rw [if_pos c_20]))
  · have hke : k = hs.1 := by omega
    refine sW_go b_House_ofSort_4 (st' := ([.int (M h 3), .int (nI k)], [some (.ref h), some (.int (nI t)), some (.int (nI c)), some (.int (nI k))], M)) (φ := mx_ocl LAY h = 3 ∧ True) rfl ⟨ho, trivial⟩ ?_
    refine sW_eq (st' := ([.int (nI hs.1), .int (nI k)], [some (.ref h), some (.int (nI t)), some (.int (nI c)), some (.int (nI k))], M)) (by simp (disch := omega) only [e3]) ?_
    refine sW_ic_ge 38 d_House_ofSort_9 (by decide) (fun c_9 => ?_) (fun c_9 => ?_)
    · skip
      simp (disch := omega) only [nI_leI] at c_9
      refine sW_go b_House_ofSort_38 (st' := ([.int (nI c)], [some (.ref h), some (.int (nI t)), some (.int (nI c)), some (.int (nI k))], M)) (φ := True) rfl trivial ?_
      refine sW_retI d_House_ofSort_39 rfl (vp_nar_int _) ?_
      exact ⟨by rw [hc, hke], rfl⟩
    · skip
      simp (disch := omega) only [nI_leI] at c_9
      exact absurd c_9 (by omega)
theorem k_House_withFirstIn (G : mx_G) {M : mx_M} {h : Nat} {hs : Hs} (ho : mx_ocl LAY h = 3) (hA : HsAt M h hs) (hw : HsOk hs) {t x : Nat} (ht : t < 6) (hx : x < 256) : sOk G m_House_withFirstIn [.ref h, .int (nI t), .int (nI x)] M (fun r M' => r = some (.int (nI (bsum (lftB hs t x) hs.1))) ∧ M' = M) := by
  obtain ⟨e3, e4, eK⟩ := id hA
  obtain ⟨w1, w2, w3⟩ := id hw
  refine sOk_of ⟨by decide +kernel, by decide +kernel, Nat.le_of_ble_eq_true rfl⟩ ?_
  show sW G m_House_withFirstIn 0 ([], [some (.ref h), some (.int (nI t)), some (.int (nI x)), none, none], M) _
  refine sW_go b_House_withFirstIn_0 (st' := ([], [some (.ref h), some (.int (nI t)), some (.int (nI x)), some (.int (nI 0)), some (.int (nI 0))], M)) (φ := True) rfl trivial ?_
  refine mx_ind (α := Nat × Nat) (fun a => hs.1 - a.1) (fun a => a.1 ≤ hs.1 → a.2 = bsum (lftB hs t x) a.1 → sW G m_House_withFirstIn 5 ([], [some (.ref h), some (.int (nI t)), some (.int (nI x)), some (.int (nI a.2)), some (.int (nI a.1))], M) _) ?_ (0, 0) (Nat.zero_le _) rfl
  rintro ⟨k, c⟩ ih hk hc
  dsimp only at ih hk hc ⊢
  by_cases hkn : k < hs.1
  · obtain ⟨x1, x2, x3⟩ := eK k hkn
    obtain ⟨y1, y2, y3⟩ := w3 k hkn
    have p1 : (nI x >>> (nI (Af hs k) &&& 31)) &&& nI 1 = nI (bt x (Af hs k)) := sh_b (by omega) (by omega)
    have q3 : nI (bt x (Af hs k)) <<< (nI k &&& 31) = nI (bt x (Af hs k) * 2 ^ k) := sh_l (bt_le _ _) (by omega)
    have hst : ∀ z, lftB hs t x k = z → c ||| z * 2 ^ k = bsum (lftB hs t x) (k + 1) := by
      intro z hz
      subst hz
      subst hc
      rfl
    refine sW_go b_House_withFirstIn_5 (st' := ([.int (M h 3), .int (nI k)], [some (.ref h), some (.int (nI t)), some (.int (nI x)), some (.int (nI c)), some (.int (nI k))], M)) (φ := mx_ocl LAY h = 3 ∧ True) rfl ⟨ho, trivial⟩ ?_
    refine sW_eq (st' := ([.int (nI hs.1), .int (nI k)], [some (.ref h), some (.int (nI t)), some (.int (nI x)), some (.int (nI c)), some (.int (nI k))], M)) (by simp (disch := omega) only [e3]) ?_
    refine sW_ic_ge 52 d_House_withFirstIn_11 (by decide) (fun c_11 => ?_) (fun c_11 => ?_)
    · skip
      simp (disch := omega) only [nI_leI] at c_11
      refine sW_go b_House_withFirstIn_52 (st' := ([.int (nI c)], [some (.ref h), some (.int (nI t)), some (.int (nI x)), some (.int (nI c)), some (.int (nI k))], M)) (φ := True) rfl trivial ?_
      refine sW_retI d_House_withFirstIn_53 rfl (vp_nar_int _) ?_
      omega
    · skip
      simp (disch := omega) only [nI_leI] at c_11
      refine sW_go b_House_withFirstIn_14 (st' := ([.int (nI t), .int (M (h + 1) (nI k).toNatClampNeg), .int (nI c)], [some (.ref h), some (.int (nI t)), some (.int (nI x)), some (.int (nI c)), some (.int (nI k))], M)) (φ := mx_ocl LAY h = 3 ∧ vp_in (nI k) (mx_len LAY false (h + 1)) ∧ True) rfl ⟨ho, (by simp (disch := omega) only [(ln_House_sorts ho)]; exact vp_in_nI (by omega) (by decide)), trivial⟩ ?_
      refine sW_eq (st' := ([.int (nI t), .int (nI (Sf hs k)), .int (nI c)], [some (.ref h), some (.int (nI t)), some (.int (nI x)), some (.int (nI c)), some (.int (nI k))], M)) (by simp (disch := omega) only [nI_clamp, x1]) ?_
      refine sW_ic_ne 43 d_House_withFirstIn_23 (by decide) (fun c_23 => ?_) (fun c_23 => ?_)
      · skip
        simp (disch := omega) only [nI_eq] at c_23
        refine sW_go b_House_withFirstIn_43 (st' := ([.int (nI 0), .int (nI c)], [some (.ref h), some (.int (nI t)), some (.int (nI x)), some (.int (nI c)), some (.int (nI k))], M)) (φ := True) rfl trivial ?_
        refine sW_go b_House_withFirstIn_44 (st' := ([], [some (.ref h), some (.int (nI t)), some (.int (nI x)), some (.int (nI c ||| nI 0)), some (.int (nI k + nI 1))], M)) (φ := True) rfl trivial ?_
        refine sW_eq (st' := ([], [some (.ref h), some (.int (nI t)), some (.int (nI x)), some (.int (nI (c ||| 0))), some (.int (nI (k + 1)))], M)) (by simp (disch := omega) only [nI_add, nx_or]) ?_
        refine sW_goto 5 d_House_withFirstIn_49 (by decide) ?_
        refine ih (k + 1, c ||| 0) (by dsimp only; omega) (by dsimp only; omega) ?_
        have := hst 0 (by unfold lftB; rw [if_neg c_23])
        simpa using this
      · skip
        simp (disch := omega) only [nI_eq] at c_23
        refine sW_go b_House_withFirstIn_26 (st' := ([.int (((nI x >>> (M (h + 2) (nI k).toNatClampNeg &&& 31)) &&& nI 1) <<< (nI k &&& 31)), .int (nI c)], [some (.ref h), some (.int (nI t)), some (.int (nI x)), some (.int (nI c)), some (.int (nI k))], M)) (φ := mx_ocl LAY h = 3 ∧ vp_in (nI k) (mx_len LAY false (h + 2)) ∧ True) rfl ⟨ho, (by simp (disch := omega) only [(ln_House_firsts ho)]; exact vp_in_nI (by omega) (by decide)), trivial⟩ ?_
        refine sW_eq (st' := ([.int (nI (bt x (Af hs k) * 2 ^ k)), .int (nI c)], [some (.ref h), some (.int (nI t)), some (.int (nI x)), some (.int (nI c)), some (.int (nI k))], M)) (by simp (disch := omega) only [nI_clamp, p1, q3, x2]) ?_
        refine sW_goto 44 d_House_withFirstIn_40 (by decide) ?_
        refine sW_go b_House_withFirstIn_44 (st' := ([], [some (.ref h), some (.int (nI t)), some (.int (nI x)), some (.int (nI c ||| nI (bt x (Af hs k) * 2 ^ k))), some (.int (nI k + nI 1))], M)) (φ := True) rfl trivial ?_
        refine sW_eq (st' := ([], [some (.ref h), some (.int (nI t)), some (.int (nI x)), some (.int (nI (c ||| (bt x (Af hs k) * 2 ^ k)))), some (.int (nI (k + 1)))], M)) (by simp (disch := omega) only [nI_add, nx_or]) ?_
        refine sW_goto 5 d_House_withFirstIn_49 (by decide) ?_
        exact ih (k + 1, _) (by dsimp only; omega) (by dsimp only; omega) (hst _ (by unfold lftB; rw [if_pos c_23]))
  · have hke : k = hs.1 := by omega
    refine sW_go b_House_withFirstIn_5 (st' := ([.int (M h 3), .int (nI k)], [some (.ref h), some (.int (nI t)), some (.int (nI x)), some (.int (nI c)), some (.int (nI k))], M)) (φ := mx_ocl LAY h = 3 ∧ True) rfl ⟨ho, trivial⟩ ?_
    refine sW_eq (st' := ([.int (nI hs.1), .int (nI k)], [some (.ref h), some (.int (nI t)), some (.int (nI x)), some (.int (nI c)), some (.int (nI k))], M)) (by simp (disch := omega) only [e3]) ?_
    refine sW_ic_ge 52 d_House_withFirstIn_11 (by decide) (fun c_11 => ?_) (fun c_11 => ?_)
    · skip
      simp (disch := omega) only [nI_leI] at c_11
      refine sW_go b_House_withFirstIn_52 (st' := ([.int (nI c)], [some (.ref h), some (.int (nI t)), some (.int (nI x)), some (.int (nI c)), some (.int (nI k))], M)) (φ := True) rfl trivial ?_
      refine sW_retI d_House_withFirstIn_53 rfl (vp_nar_int _) ?_
      exact ⟨by rw [hc, hke], rfl⟩
    · skip
      simp (disch := omega) only [nI_leI] at c_11
      exact absurd c_11 (by omega)
theorem k_House_withSecondIn (G : mx_G) {M : mx_M} {h : Nat} {hs : Hs} (ho : mx_ocl LAY h = 3) (hA : HsAt M h hs) (hw : HsOk hs) {t x : Nat} (ht : t < 6) (hx : x < 256) : sOk G m_House_withSecondIn [.ref h, .int (nI t), .int (nI x)] M (fun r M' => r = some (.int (nI (bsum (rgtB hs t x) hs.1))) ∧ M' = M) := by
  obtain ⟨e3, e4, eK⟩ := id hA
  obtain ⟨w1, w2, w3⟩ := id hw
  refine sOk_of ⟨by decide +kernel, by decide +kernel, Nat.le_of_ble_eq_true rfl⟩ ?_
  show sW G m_House_withSecondIn 0 ([], [some (.ref h), some (.int (nI t)), some (.int (nI x)), none, none], M) _
  refine sW_go b_House_withSecondIn_0 (st' := ([], [some (.ref h), some (.int (nI t)), some (.int (nI x)), some (.int (nI 0)), some (.int (nI 0))], M)) (φ := True) rfl trivial ?_
  refine mx_ind (α := Nat × Nat) (fun a => hs.1 - a.1) (fun a => a.1 ≤ hs.1 → a.2 = bsum (rgtB hs t x) a.1 → sW G m_House_withSecondIn 5 ([], [some (.ref h), some (.int (nI t)), some (.int (nI x)), some (.int (nI a.2)), some (.int (nI a.1))], M) _) ?_ (0, 0) (Nat.zero_le _) rfl
  rintro ⟨k, c⟩ ih hk hc
  dsimp only at ih hk hc ⊢
  by_cases hkn : k < hs.1
  · obtain ⟨x1, x2, x3⟩ := eK k hkn
    obtain ⟨y1, y2, y3⟩ := w3 k hkn
    have p1 : (nI x >>> (nI (Bf hs k) &&& 31)) &&& nI 1 = nI (bt x (Bf hs k)) := sh_b (by omega) (by omega)
    have q3 : nI (bt x (Bf hs k)) <<< (nI k &&& 31) = nI (bt x (Bf hs k) * 2 ^ k) := sh_l (bt_le _ _) (by omega)
    have hst : ∀ z, rgtB hs t x k = z → c ||| z * 2 ^ k = bsum (rgtB hs t x) (k + 1) := by
      intro z hz
      subst hz
      subst hc
      rfl
    refine sW_go b_House_withSecondIn_5 (st' := ([.int (M h 3), .int (nI k)], [some (.ref h), some (.int (nI t)), some (.int (nI x)), some (.int (nI c)), some (.int (nI k))], M)) (φ := mx_ocl LAY h = 3 ∧ True) rfl ⟨ho, trivial⟩ ?_
    refine sW_eq (st' := ([.int (nI hs.1), .int (nI k)], [some (.ref h), some (.int (nI t)), some (.int (nI x)), some (.int (nI c)), some (.int (nI k))], M)) (by simp (disch := omega) only [e3]) ?_
    refine sW_ic_ge 52 d_House_withSecondIn_11 (by decide) (fun c_11 => ?_) (fun c_11 => ?_)
    · skip
      simp (disch := omega) only [nI_leI] at c_11
      refine sW_go b_House_withSecondIn_52 (st' := ([.int (nI c)], [some (.ref h), some (.int (nI t)), some (.int (nI x)), some (.int (nI c)), some (.int (nI k))], M)) (φ := True) rfl trivial ?_
      refine sW_retI d_House_withSecondIn_53 rfl (vp_nar_int _) ?_
      omega
    · skip
      simp (disch := omega) only [nI_leI] at c_11
      refine sW_go b_House_withSecondIn_14 (st' := ([.int (nI t), .int (M (h + 1) (nI k).toNatClampNeg), .int (nI c)], [some (.ref h), some (.int (nI t)), some (.int (nI x)), some (.int (nI c)), some (.int (nI k))], M)) (φ := mx_ocl LAY h = 3 ∧ vp_in (nI k) (mx_len LAY false (h + 1)) ∧ True) rfl ⟨ho, (by simp (disch := omega) only [(ln_House_sorts ho)]; exact vp_in_nI (by omega) (by decide)), trivial⟩ ?_
      refine sW_eq (st' := ([.int (nI t), .int (nI (Sf hs k)), .int (nI c)], [some (.ref h), some (.int (nI t)), some (.int (nI x)), some (.int (nI c)), some (.int (nI k))], M)) (by simp (disch := omega) only [nI_clamp, x1]) ?_
      refine sW_ic_ne 43 d_House_withSecondIn_23 (by decide) (fun c_23 => ?_) (fun c_23 => ?_)
      · skip
        simp (disch := omega) only [nI_eq] at c_23
        refine sW_go b_House_withSecondIn_43 (st' := ([.int (nI 0), .int (nI c)], [some (.ref h), some (.int (nI t)), some (.int (nI x)), some (.int (nI c)), some (.int (nI k))], M)) (φ := True) rfl trivial ?_
        refine sW_go b_House_withSecondIn_44 (st' := ([], [some (.ref h), some (.int (nI t)), some (.int (nI x)), some (.int (nI c ||| nI 0)), some (.int (nI k + nI 1))], M)) (φ := True) rfl trivial ?_
        refine sW_eq (st' := ([], [some (.ref h), some (.int (nI t)), some (.int (nI x)), some (.int (nI (c ||| 0))), some (.int (nI (k + 1)))], M)) (by simp (disch := omega) only [nI_add, nx_or]) ?_
        refine sW_goto 5 d_House_withSecondIn_49 (by decide) ?_
        refine ih (k + 1, c ||| 0) (by dsimp only; omega) (by dsimp only; omega) ?_
        have := hst 0 (by unfold rgtB; rw [if_neg c_23])
        simpa using this
      · skip
        simp (disch := omega) only [nI_eq] at c_23
        refine sW_go b_House_withSecondIn_26 (st' := ([.int (((nI x >>> (M (h + 3) (nI k).toNatClampNeg &&& 31)) &&& nI 1) <<< (nI k &&& 31)), .int (nI c)], [some (.ref h), some (.int (nI t)), some (.int (nI x)), some (.int (nI c)), some (.int (nI k))], M)) (φ := mx_ocl LAY h = 3 ∧ vp_in (nI k) (mx_len LAY false (h + 3)) ∧ True) rfl ⟨ho, (by simp (disch := omega) only [(ln_House_seconds ho)]; exact vp_in_nI (by omega) (by decide)), trivial⟩ ?_
        refine sW_eq (st' := ([.int (nI (bt x (Bf hs k) * 2 ^ k)), .int (nI c)], [some (.ref h), some (.int (nI t)), some (.int (nI x)), some (.int (nI c)), some (.int (nI k))], M)) (by simp (disch := omega) only [nI_clamp, p1, q3, x3]) ?_
        refine sW_goto 44 d_House_withSecondIn_40 (by decide) ?_
        refine sW_go b_House_withSecondIn_44 (st' := ([], [some (.ref h), some (.int (nI t)), some (.int (nI x)), some (.int (nI c ||| nI (bt x (Bf hs k) * 2 ^ k))), some (.int (nI k + nI 1))], M)) (φ := True) rfl trivial ?_
        refine sW_eq (st' := ([], [some (.ref h), some (.int (nI t)), some (.int (nI x)), some (.int (nI (c ||| (bt x (Bf hs k) * 2 ^ k)))), some (.int (nI (k + 1)))], M)) (by simp (disch := omega) only [nI_add, nx_or]) ?_
        refine sW_goto 5 d_House_withSecondIn_49 (by decide) ?_
        exact ih (k + 1, _) (by dsimp only; omega) (by dsimp only; omega) (hst _ (by unfold rgtB; rw [if_pos c_23]))
  · have hke : k = hs.1 := by omega
    refine sW_go b_House_withSecondIn_5 (st' := ([.int (M h 3), .int (nI k)], [some (.ref h), some (.int (nI t)), some (.int (nI x)), some (.int (nI c)), some (.int (nI k))], M)) (φ := mx_ocl LAY h = 3 ∧ True) rfl ⟨ho, trivial⟩ ?_
    refine sW_eq (st' := ([.int (nI hs.1), .int (nI k)], [some (.ref h), some (.int (nI t)), some (.int (nI x)), some (.int (nI c)), some (.int (nI k))], M)) (by simp (disch := omega) only [e3]) ?_
    refine sW_ic_ge 52 d_House_withSecondIn_11 (by decide) (fun c_11 => ?_) (fun c_11 => ?_)
    · skip
      simp (disch := omega) only [nI_leI] at c_11
      refine sW_go b_House_withSecondIn_52 (st' := ([.int (nI c)], [some (.ref h), some (.int (nI t)), some (.int (nI x)), some (.int (nI c)), some (.int (nI k))], M)) (φ := True) rfl trivial ?_
      refine sW_retI d_House_withSecondIn_53 rfl (vp_nar_int _) ?_
      exact ⟨by rw [hc, hke], rfl⟩
    · skip
      simp (disch := omega) only [nI_leI] at c_11
      exact absurd c_11 (by omega)
theorem k_House_cellOfConstant (G : mx_G) {M : mx_M} {h : Nat} {hs : Hs} (ho : mx_ocl LAY h = 3) (hA : HsAt M h hs) (hw : HsOk hs) {x : Nat} (hx : x < 4) : sOk G m_House_cellOfConstant [.ref h, .int (nI x)] M (fun r M' => r = some (.int (nI (constCell hs x))) ∧ M' = M) := by
  obtain ⟨e3, e4, eK⟩ := id hA
  obtain ⟨w1, w2, w3⟩ := id hw
  refine sOk_of ⟨by decide +kernel, by decide +kernel, Nat.le_of_ble_eq_true rfl⟩ ?_
  show sW G m_House_cellOfConstant 0 ([], [some (.ref h), some (.int (nI x)), none, none], M) _
  refine sW_go b_House_cellOfConstant_0 (st' := ([], [some (.ref h), some (.int (nI x)), some (.int (nI 0)), some (.int (nI 0))], M)) (φ := True) rfl trivial ?_
  refine mx_ind (α := Nat × Nat) (fun a => hs.1 - a.1) (fun a => a.1 ≤ hs.1 → a.2 = bsum (spanB hs x) a.1 → sW G m_House_cellOfConstant 4 ([], [some (.ref h), some (.int (nI x)), some (.int (nI a.2)), some (.int (nI a.1))], M) _) ?_ (0, 0) (Nat.zero_le _) rfl
  rintro ⟨k, c⟩ ih hk hc
  dsimp only at ih hk hc ⊢
  by_cases hkn : k < hs.1
  · obtain ⟨x1, x2, x3⟩ := eK k hkn
    obtain ⟨y1, y2, y3⟩ := w3 k hkn
    have q3 : nI 1 <<< (nI k &&& 31) = nI (1 * 2 ^ k) := sh_l (Nat.le_refl _) (by omega)
    have hst : ∀ z, spanB hs x k = z → c ||| z * 2 ^ k = bsum (spanB hs x) (k + 1) := by
      intro z hz
      subst hz
      subst hc
      rfl
    have hs0 : spanB hs x k = 0 → c = bsum (spanB hs x) (k + 1) := fun q => by
      have := hst 0 q
      simpa using this
    refine sW_go b_House_cellOfConstant_4 (st' := ([.int (M h 3), .int (nI k)], [some (.ref h), some (.int (nI x)), some (.int (nI c)), some (.int (nI k))], M)) (φ := mx_ocl LAY h = 3 ∧ True) rfl ⟨ho, trivial⟩ ?_
    refine sW_eq (st' := ([.int (nI hs.1), .int (nI k)], [some (.ref h), some (.int (nI x)), some (.int (nI c)), some (.int (nI k))], M)) (by simp (disch := omega) only [e3]) ?_
    refine sW_ic_ge 53 d_House_cellOfConstant_9 (by decide) (fun c_9 => ?_) (fun c_9 => ?_)
    · skip
      simp (disch := omega) only [nI_leI] at c_9
      omega
    · skip
      simp (disch := omega) only [nI_leI] at c_9
      refine sW_go b_House_cellOfConstant_12 (st' := ([.int (M (h + 1) (nI k).toNatClampNeg)], [some (.ref h), some (.int (nI x)), some (.int (nI c)), some (.int (nI k))], M)) (φ := mx_ocl LAY h = 3 ∧ vp_in (nI k) (mx_len LAY false (h + 1)) ∧ True) rfl ⟨ho, (by simp (disch := omega) only [(ln_House_sorts ho)]; exact vp_in_nI (by omega) (by decide)), trivial⟩ ?_
      refine sW_eq (st' := ([.int (nI (Sf hs k))], [some (.ref h), some (.int (nI x)), some (.int (nI c)), some (.int (nI k))], M)) (by simp (disch := omega) only [nI_clamp, x1]) ?_
      refine sW_if_ne 47 d_House_cellOfConstant_18 (by decide) (fun c_18 => ?_) (fun c_18 => ?_)
      · skip
        simp (disch := omega) only [nI_z] at c_18
        refine sW_go b_House_cellOfConstant_47 (st' := ([], [some (.ref h), some (.int (nI x)), some (.int (nI c)), some (.int (nI k + nI 1))], M)) (φ := True) rfl trivial ?_
        refine sW_eq (st' := ([], [some (.ref h), some (.int (nI x)), some (.int (nI c)), some (.int (nI (k + 1)))], M)) (by simp (disch := omega) only [nI_add]) ?_
        refine sW_goto 4 d_House_cellOfConstant_50 (by decide) ?_
        exact ih (k + 1, c) (by dsimp only; omega) (by dsimp only; omega) (hs0 (by unfold spanB; rw [if_neg (fun q => c_18 q.1)]))
      · skip
        simp (disch := omega) only [nI_z] at c_18
        refine sW_go b_House_cellOfConstant_21 (st' := ([.int (nI x), .int (M (h + 2) (nI k).toNatClampNeg)], [some (.ref h), some (.int (nI x)), some (.int (nI c)), some (.int (nI k))], M)) (φ := mx_ocl LAY h = 3 ∧ vp_in (nI k) (mx_len LAY false (h + 2)) ∧ True) rfl ⟨ho, (by simp (disch := omega) only [(ln_House_firsts ho)]; exact vp_in_nI (by omega) (by decide)), trivial⟩ ?_
        refine sW_eq (st' := ([.int (nI x), .int (nI (Af hs k))], [some (.ref h), some (.int (nI x)), some (.int (nI c)), some (.int (nI k))], M)) (by simp (disch := omega) only [nI_clamp, x2]) ?_
        refine sW_ic_gt 47 d_House_cellOfConstant_28 (by decide) (fun c_28 => ?_) (fun c_28 => ?_)
        · skip
          simp (disch := omega) only [nI_ltI] at c_28
          refine sW_go b_House_cellOfConstant_47 (st' := ([], [some (.ref h), some (.int (nI x)), some (.int (nI c)), some (.int (nI k + nI 1))], M)) (φ := True) rfl trivial ?_
          refine sW_eq (st' := ([], [some (.ref h), some (.int (nI x)), some (.int (nI c)), some (.int (nI (k + 1)))], M)) (by simp (disch := omega) only [nI_add]) ?_
          refine sW_goto 4 d_House_cellOfConstant_50 (by decide) ?_
          exact ih (k + 1, c) (by dsimp only; omega) (by dsimp only; omega) (hs0 (by unfold spanB; rw [if_neg (by omega)]))
        · skip
          simp (disch := omega) only [nI_ltI] at c_28
          refine sW_go b_House_cellOfConstant_31 (st' := ([.int (M (h + 3) (nI k).toNatClampNeg), .int (nI x)], [some (.ref h), some (.int (nI x)), some (.int (nI c)), some (.int (nI k))], M)) (φ := mx_ocl LAY h = 3 ∧ vp_in (nI k) (mx_len LAY false (h + 3)) ∧ True) rfl ⟨ho, (by simp (disch := omega) only [(ln_House_seconds ho)]; exact vp_in_nI (by omega) (by decide)), trivial⟩ ?_
          refine sW_eq (st' := ([.int (nI (Bf hs k)), .int (nI x)], [some (.ref h), some (.int (nI x)), some (.int (nI c)), some (.int (nI k))], M)) (by simp (disch := omega) only [nI_clamp, x3]) ?_
          refine sW_ic_gt 47 d_House_cellOfConstant_38 (by decide) (fun c_38 => ?_) (fun c_38 => ?_)
          · skip
            simp (disch := omega) only [nI_ltI] at c_38
            refine sW_go b_House_cellOfConstant_47 (st' := ([], [some (.ref h), some (.int (nI x)), some (.int (nI c)), some (.int (nI k + nI 1))], M)) (φ := True) rfl trivial ?_
            refine sW_eq (st' := ([], [some (.ref h), some (.int (nI x)), some (.int (nI c)), some (.int (nI (k + 1)))], M)) (by simp (disch := omega) only [nI_add]) ?_
            refine sW_goto 4 d_House_cellOfConstant_50 (by decide) ?_
            exact ih (k + 1, c) (by dsimp only; omega) (by dsimp only; omega) (hs0 (by unfold spanB; rw [if_neg (by omega)]))
          · skip
            simp (disch := omega) only [nI_ltI] at c_38
            refine sW_go b_House_cellOfConstant_41 (st' := ([], [some (.ref h), some (.int (nI x)), some (.int (nI c ||| (nI 1 <<< (nI k &&& 31)))), some (.int (nI k))], M)) (φ := True) rfl trivial ?_
            refine sW_eq (st' := ([], [some (.ref h), some (.int (nI x)), some (.int (nI (c ||| (1 * 2 ^ k)))), some (.int (nI k))], M)) (by simp (disch := omega) only [nx_or, q3]) ?_
            refine sW_go b_House_cellOfConstant_47 (st' := ([], [some (.ref h), some (.int (nI x)), some (.int (nI (c ||| (1 * 2 ^ k)))), some (.int (nI k + nI 1))], M)) (φ := True) rfl trivial ?_
            refine sW_eq (st' := ([], [some (.ref h), some (.int (nI x)), some (.int (nI (c ||| (1 * 2 ^ k)))), some (.int (nI (k + 1)))], M)) (by simp (disch := omega) only [nI_add]) ?_
            refine sW_goto 4 d_House_cellOfConstant_50 (by decide) ?_
            exact ih (k + 1, _) (by dsimp only; omega) (by dsimp only; omega) (hst 1 (by unfold spanB; rw [if_pos (by omega)]))
  · have hke : k = hs.1 := by omega
    subst hke
    subst hc
    refine sW_go b_House_cellOfConstant_4 (st' := ([.int (M h 3), .int (nI hs.1)], [some (.ref h), some (.int (nI x)), some (.int (nI (bsum (spanB hs x) hs.1))), some (.int (nI hs.1))], M)) (φ := mx_ocl LAY h = 3 ∧ True) rfl ⟨ho, trivial⟩ ?_
    refine sW_eq (st' := ([.int (nI hs.1), .int (nI hs.1)], [some (.ref h), some (.int (nI x)), some (.int (nI (bsum (spanB hs x) hs.1))), some (.int (nI hs.1))], M)) (by simp (disch := omega) only [e3]) ?_
    refine sW_ic_ge 53 d_House_cellOfConstant_9 (by decide) (fun c_9 => ?_) (fun c_9 => ?_)
    · skip
      simp (disch := omega) only [nI_leI] at c_9
      refine sW_go b_House_cellOfConstant_53 (st' := ([.int (nI (bsum (spanB hs x) hs.1)), .ref h], [some (.ref h), some (.int (nI x)), some (.int (nI (bsum (spanB hs x) hs.1))), some (.int (nI hs.1))], M)) (φ := True) rfl trivial ?_
      refine sW_callV 3 [.int (nI (bsum (spanB hs x) hs.1))] [] d_House_cellOfConstant_55 c_House_cellOfConstant_55 ⟨rfl, rfl, rfl, Nat.le_of_ble_eq_true rfl, rfl, rfl⟩ ho (k_House_cellOf G ho hA hw (bsum_lt8 (spanB_le hs x) w1)) ?_
      rintro _ M₁ ⟨rfl, h₁⟩
      rw [h₁]
      show sW G m_House_cellOfConstant 58 ([.int (nI (constCell hs x))], [some (.ref h), some (.int (nI x)), some (.int (nI (bsum (spanB hs x) hs.1))), some (.int (nI hs.1))], M) _
      refine sW_retI d_House_cellOfConstant_58 rfl (vp_nar_int _) ?_
      exact ⟨rfl, rfl⟩
    · skip
      simp (disch := omega) only [nI_leI] at c_9
      exact absurd c_9 (by omega)

