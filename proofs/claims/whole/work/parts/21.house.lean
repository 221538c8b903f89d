/-! ===== House ===== -/
theorem k_House_has (G : mx_G) {M : mx_M} {h n : Nat} (ho : mx_ocl LAY h = 3) (hn : M h 3 = nI n) (h8 : n ≤ 8) (t : Int32) : sOk G m_House_has [.ref h, .int t] M (fun r M' => r = some (.int (tf (vp_in t n))) ∧ M' = M) := by
  refine sOk_of ⟨by decide +kernel, by decide +kernel, Nat.le_of_ble_eq_true rfl⟩ ?_
  show sW G m_House_has 0 ([], [some (.ref h), some (.int t)], M) _
  refine sW_go b_House_has_0 (st' := ([.int t], [some (.ref h), some (.int t)], M)) (φ := True) rfl trivial ?_
  refine sW_if_lt 16 d_House_has_1 (by decide) (fun c_1 => ?_) (fun c_1 => ?_)
  · skip
    refine sW_go b_House_has_16 (st' := ([.int (nI 0)], [some (.ref h), some (.int t)], M)) (φ := True) rfl trivial ?_
    refine sW_retI d_House_has_17 rfl nb_0 ?_
    exact ⟨by rw [tf_f (vi_neg c_1)], rfl⟩
  · skip
    refine sW_go b_House_has_4 (st' := ([.int (M h 3), .int t], [some (.ref h), some (.int t)], M)) (φ := mx_ocl LAY h = 3 ∧ True) rfl ⟨ho, trivial⟩ ?_
    refine sW_eq (st' := ([.int (nI n), .int t], [some (.ref h), some (.int t)], M)) (by simp (disch := omega) only [hn]) ?_
    refine sW_ic_ge 16 d_House_has_9 (by decide) (fun c_9 => ?_) (fun c_9 => ?_)
    · skip
      refine sW_go b_House_has_16 (st' := ([.int (nI 0)], [some (.ref h), some (.int t)], M)) (φ := True) rfl trivial ?_
      refine sW_retI d_House_has_17 rfl nb_0 ?_
      exact ⟨by rw [tf_f (vi_ge (by omega) c_9)], rfl⟩
    · skip
      refine sW_go b_House_has_12 (st' := ([.int (nI 1)], [some (.ref h), some (.int t)], M)) (φ := True) rfl trivial ?_
      refine sW_goto 17 d_House_has_13 (by decide) ?_
      refine sW_retI d_House_has_17 rfl nb_1 ?_
      exact ⟨by rw [tf_t (vi_mk (by omega) c_1 c_9)], rfl⟩
theorem k_House_isNone (G : mx_G) {M : mx_M} {h n : Nat} (ho : mx_ocl LAY h = 3) (hn : M h 3 = nI n) (h8 : n ≤ 8) : sOk G m_House_isNone [.ref h] M (fun r M' => r = some (.int (tf (n = 0))) ∧ M' = M) := by
  refine sOk_of ⟨by decide +kernel, by decide +kernel, Nat.le_of_ble_eq_true rfl⟩ ?_
  show sW G m_House_isNone 0 ([], [some (.ref h)], M) _
  refine sW_go b_House_isNone_0 (st' := ([.int (M h 3)], [some (.ref h)], M)) (φ := mx_ocl LAY h = 3 ∧ True) rfl ⟨ho, trivial⟩ ?_
  refine sW_eq (st' := ([.int (nI n)], [some (.ref h)], M)) (by simp (disch := omega) only [hn]) ?_
  refine sW_if_ne 11 d_House_isNone_4 (by decide) (fun c_4 => ?_) (fun c_4 => ?_)
  · skip
    simp (disch := omega) only [nI_z] at c_4
    refine sW_go b_House_isNone_11 (st' := ([.int (nI 0)], [some (.ref h)], M)) (φ := True) rfl trivial ?_
    refine sW_retI d_House_isNone_12 rfl nb_0 ?_
    exact ⟨by rw [tf_f c_4], rfl⟩
  · skip
    simp (disch := omega) only [nI_z] at c_4
    refine sW_go b_House_isNone_7 (st' := ([.int (nI 1)], [some (.ref h)], M)) (φ := True) rfl trivial ?_
    refine sW_goto 12 d_House_isNone_8 (by decide) ?_
    refine sW_retI d_House_isNone_12 rfl nb_1 ?_
    exact ⟨by rw [tf_t c_4], rfl⟩
theorem k_House_all (G : mx_G) {M : mx_M} {h n : Nat} (ho : mx_ocl LAY h = 3) (hn : M h 3 = nI n) (h8 : n ≤ 8) : sOk G m_House_all [.ref h] M (fun r M' => r = some (.int (nI (2 ^ n - 1))) ∧ M' = M) := by
  have e1 : nI 1 <<< (nI n &&& 31) - nI 1 = nI (2 ^ n - 1) := all_n h8
  refine sOk_of ⟨by decide +kernel, by decide +kernel, Nat.le_of_ble_eq_true rfl⟩ ?_
  show sW G m_House_all 0 ([], [some (.ref h)], M) _
  refine sW_go b_House_all_0 (st' := ([.int ((nI 1 <<< (M h 3 &&& 31)) - nI 1)], [some (.ref h)], M)) (φ := mx_ocl LAY h = 3 ∧ True) rfl ⟨ho, trivial⟩ ?_
  refine sW_eq (st' := ([.int (nI (2 ^ n - 1))], [some (.ref h)], M)) (by simp (disch := omega) only [e1, hn]) ?_
  refine sW_retI d_House_all_8 rfl (vp_nar_int _) ?_
  exact ⟨rfl, rfl⟩
theorem k_House_isSet (G : mx_G) {M : mx_M} {h n : Nat} (ho : mx_ocl LAY h = 3) (hn : M h 3 = nI n) (h8 : n ≤ 8) (t : Int32) : sOk G m_House_isSet [.ref h, .int t] M (fun r M' => r = some (.int (tf (vp_in t (2 ^ n)))) ∧ M' = M) := by
  have hp : 2 ^ n ≤ 256 := Nat.pow_le_pow_right (by decide) h8
  have hp0 : 0 < 2 ^ n := Nat.two_pow_pos n
  refine sOk_of ⟨by decide +kernel, by decide +kernel, Nat.le_of_ble_eq_true rfl⟩ ?_
  show sW G m_House_isSet 0 ([], [some (.ref h), some (.int t)], M) _
  refine sW_go b_House_isSet_0 (st' := ([.int t], [some (.ref h), some (.int t)], M)) (φ := True) rfl trivial ?_
  refine sW_if_lt 16 d_House_isSet_1 (by decide) (fun c_1 => ?_) (fun c_1 => ?_)
  · skip
    refine sW_go b_House_isSet_16 (st' := ([.int (nI 0)], [some (.ref h), some (.int t)], M)) (φ := True) rfl trivial ?_
    refine sW_retI d_House_isSet_17 rfl nb_0 ?_
    exact ⟨by rw [tf_f (vi_neg c_1)], rfl⟩
  · skip
    refine sW_go b_House_isSet_4 (st' := ([.ref h, .int t], [some (.ref h), some (.int t)], M)) (φ := True) rfl trivial ?_
    refine sW_callV 3 [] [.int t] d_House_isSet_6 c_House_isSet_6 ⟨rfl, rfl, rfl, Nat.le_of_ble_eq_true rfl, rfl, rfl⟩ ho (k_House_all G ho hn h8) ?_
    rintro _ M₁ ⟨rfl, h₁⟩
    rw [h₁]
    show sW G m_House_isSet 9 ([.int (nI (2 ^ n - 1)), .int t], [some (.ref h), some (.int t)], M) _
    refine sW_ic_gt 16 d_House_isSet_9 (by decide) (fun c_9 => ?_) (fun c_9 => ?_)
    · skip
      refine sW_go b_House_isSet_16 (st' := ([.int (nI 0)], [some (.ref h), some (.int t)], M)) (φ := True) rfl trivial ?_
      refine sW_retI d_House_isSet_17 rfl nb_0 ?_
      refine ⟨by rw [tf_f]; (simp (disch := omega) only [vp_in_iff, Int32.lt_iff_toInt_lt, Int32.le_iff_toInt_le, Int32.toInt_zero, nI_toInt] at *; omega), rfl⟩
    · skip
      refine sW_go b_House_isSet_12 (st' := ([.int (nI 1)], [some (.ref h), some (.int t)], M)) (φ := True) rfl trivial ?_
      refine sW_goto 17 d_House_isSet_13 (by decide) ?_
      refine sW_retI d_House_isSet_17 rfl nb_1 ?_
      refine ⟨by rw [tf_t]; (simp (disch := omega) only [vp_in_iff, Int32.lt_iff_toInt_lt, Int32.le_iff_toInt_le, Int32.toInt_zero, nI_toInt] at *; omega), rfl⟩
theorem k_House_cellOf (G : mx_G) {M : mx_M} {h : Nat} {hs : Hs} (ho : mx_ocl LAY h = 3) (hA : HsAt M h hs) (hw : HsOk hs) {told : Nat} (ht : told < 256) : sOk G m_House_cellOf [.ref h, .int (nI told)] M (fun r M' => r = some (.int (nI (cellOf hs told))) ∧ M' = M) := by
  obtain ⟨e3, e4, eK⟩ := id hA
  obtain ⟨w1, w2, w3⟩ := id hw
  refine sOk_of ⟨by decide +kernel, by decide +kernel, Nat.le_of_ble_eq_true rfl⟩ ?_
  show sW G m_House_cellOf 0 ([], [some (.ref h), some (.int (nI told)), none, none, none, none], M) _
  refine sW_go b_House_cellOf_0 (st' := ([], [some (.ref h), some (.int (nI told)), some (.int (nI told)), some (.int (nI 0)), none, none], M)) (φ := True) rfl trivial ?_
  refine mx_ind (α := Nat × Nat) (fun a => hs.1 - a.1) (fun a => a.1 ≤ hs.1 → a.2 = cellN hs told a.1 → sW G m_House_cellOf 4 ([], [some (.ref h), some (.int (nI told)), some (.int (nI a.2)), some (.int (nI a.1)), none, none], M) _) ?_ (0, told) (Nat.zero_le _) rfl
  rintro ⟨k, cell⟩ ih hk hc
  dsimp only at ih hk hc ⊢
  have hlt : cell < 256 := by rw [hc]; exact cellN_lt (n := 8) ht k (by omega)
  by_cases hkn : k < hs.1
  · obtain ⟨x1, x2, x3⟩ := eK k hkn
    obtain ⟨y1, y2, y3⟩ := w3 k hkn
    have p1 : (nI cell >>> (nI (Af hs k) &&& 31)) &&& nI 1 = nI (bt cell (Af hs k)) := sh_b (by omega) (by omega)
    have p2 : (nI cell >>> (nI (Bf hs k) &&& 31)) &&& nI 1 = nI (bt cell (Bf hs k)) := sh_b (by omega) (by omega)
    have q3 : nI (bt cell (Af hs k) ||| bt cell (Bf hs k)) <<< (nI k &&& 31) = nI ((bt cell (Af hs k) ||| bt cell (Bf hs k)) * 2 ^ k) := sh_l (b1_or (bt_le _ _) (bt_le _ _)) (by omega)
    have q4 : nI (bt cell (Af hs k) &&& bt cell (Bf hs k)) <<< (nI k &&& 31) = nI ((bt cell (Af hs k) &&& bt cell (Bf hs k)) * 2 ^ k) := sh_l (b1_and (bt_le _ _)) (by omega)
    have q5 : nI (bt cell (Af hs k) &&& (1 ^^^ bt cell (Bf hs k))) <<< (nI k &&& 31) = nI ((bt cell (Af hs k) &&& (1 ^^^ bt cell (Bf hs k))) * 2 ^ k) := sh_l (b1_and (bt_le _ _)) (by omega)
    have hst : ∀ x, jb (Sf hs k) (bt cell (Af hs k)) (bt cell (Bf hs k)) = x → cell ||| x * 2 ^ k = cellN hs told (k + 1) := by
      intro x hx
      subst hx
      subst hc
      rfl
    refine sW_go b_House_cellOf_4 (st' := ([.int (M h 3), .int (nI k)], [some (.ref h), some (.int (nI told)), some (.int (nI cell)), some (.int (nI k)), none, none], M)) (φ := mx_ocl LAY h = 3 ∧ True) rfl ⟨ho, trivial⟩ ?_
    refine sW_eq (st' := ([.int (nI hs.1), .int (nI k)], [some (.ref h), some (.int (nI told)), some (.int (nI cell)), some (.int (nI k)), none, none], M)) (by simp (disch := omega) only [e3]) ?_
    refine sW_ic_ge 115 d_House_cellOf_9 (by decide) (fun c_9 => ?_) (fun c_9 => ?_)
    · skip
      simp (disch := omega) only [nI_leI] at c_9
      refine sW_go b_House_cellOf_115 (st' := ([.int (nI cell)], [some (.ref h), some (.int (nI told)), some (.int (nI cell)), some (.int (nI k)), none, none], M)) (φ := True) rfl trivial ?_
      refine sW_retI d_House_cellOf_116 rfl (vp_nar_int _) ?_
      omega
    · skip
      simp (disch := omega) only [nI_leI] at c_9
      refine sW_go b_House_cellOf_12 (st' := ([.int (M (h + 1) (nI k).toNatClampNeg)], [some (.ref h), some (.int (nI told)), some (.int (nI cell)), some (.int (nI k)), some (.int ((nI cell >>> (M (h + 2) (nI k).toNatClampNeg &&& 31)) &&& nI 1)), some (.int ((nI cell >>> (M (h + 3) (nI k).toNatClampNeg &&& 31)) &&& nI 1))], M)) (φ := mx_ocl LAY h = 3 ∧ vp_in (nI k) (mx_len LAY false (h + 2)) ∧ mx_ocl LAY h = 3 ∧ vp_in (nI k) (mx_len LAY false (h + 3)) ∧ mx_ocl LAY h = 3 ∧ vp_in (nI k) (mx_len LAY false (h + 1)) ∧ True) rfl ⟨ho, (by simp (disch := omega) only [(ln_House_firsts ho)]; exact vp_in_nI (by omega) (by decide)), ho, (by simp (disch := omega) only [(ln_House_seconds ho)]; exact vp_in_nI (by omega) (by decide)), ho, (by simp (disch := omega) only [(ln_House_sorts ho)]; exact vp_in_nI (by omega) (by decide)), trivial⟩ ?_
      refine sW_eq (st' := ([.int (nI (Sf hs k))], [some (.ref h), some (.int (nI told)), some (.int (nI cell)), some (.int (nI k)), some (.int (nI (bt cell (Af hs k)))), some (.int (nI (bt cell (Bf hs k))))], M)) (by simp (disch := omega) only [nI_clamp, p1, p2, x1, x2, x3]) ?_
      refine sW_tsw 3 109 [68, 81, 94] d_House_cellOf_42 (by decide) (by decide) (fun c_42 => ?_) ⟨fun c_42 => ?_, fun c_42 => ?_, fun c_42 => ?_, trivial⟩
      · skip
        simp (disch := omega) only [nI_toInt] at c_42
        refine sW_go b_House_cellOf_109 (st' := ([], [some (.ref h), some (.int (nI told)), some (.int (nI cell)), some (.int (nI k + nI 1)), some (.int (nI (bt cell (Af hs k)))), some (.int (nI (bt cell (Bf hs k))))], M)) (φ := True) rfl trivial ?_
        refine sW_eq (st' := ([], [some (.ref h), some (.int (nI told)), some (.int (nI cell)), some (.int (nI (k + 1))), some (.int (nI (bt cell (Af hs k)))), some (.int (nI (bt cell (Bf hs k))))], M)) (by simp (disch := omega) only [nI_add]) ?_
        refine sW_goto 4 d_House_cellOf_112 (by decide) ?_
        refine sW_fg [false, false, false, false, true, true] ?_
        show sW G m_House_cellOf 4 ([], [some (.ref h), some (.int (nI told)), some (.int (nI cell)), some (.int (nI (k + 1))), none, none], M) _
        refine ih (k + 1, cell) (by dsimp only; omega) (by dsimp only; omega) ?_
        have := hst 0 (by unfold jb; rw [if_neg (by omega), if_neg (by omega), if_neg (by omega)])
        simpa using this
      · skip
        simp (disch := omega) only [nI_eq] at c_42
        refine sW_go b_House_cellOf_68 (st' := ([], [some (.ref h), some (.int (nI told)), some (.int (nI cell ||| ((nI (bt cell (Af hs k)) ||| nI (bt cell (Bf hs k))) <<< (nI k &&& 31)))), some (.int (nI k)), some (.int (nI (bt cell (Af hs k)))), some (.int (nI (bt cell (Bf hs k))))], M)) (φ := True) rfl trivial ?_
        refine sW_eq (st' := ([], [some (.ref h), some (.int (nI told)), some (.int (nI (cell ||| ((bt cell (Af hs k) ||| bt cell (Bf hs k)) * 2 ^ k)))), some (.int (nI k)), some (.int (nI (bt cell (Af hs k)))), some (.int (nI (bt cell (Bf hs k))))], M)) (by simp (disch := omega) only [nx_or, q3]) ?_
        refine sW_goto 109 d_House_cellOf_78 (by decide) ?_
        refine sW_go b_House_cellOf_109 (st' := ([], [some (.ref h), some (.int (nI told)), some (.int (nI (cell ||| ((bt cell (Af hs k) ||| bt cell (Bf hs k)) * 2 ^ k)))), some (.int (nI k + nI 1)), some (.int (nI (bt cell (Af hs k)))), some (.int (nI (bt cell (Bf hs k))))], M)) (φ := True) rfl trivial ?_
        refine sW_eq (st' := ([], [some (.ref h), some (.int (nI told)), some (.int (nI (cell ||| ((bt cell (Af hs k) ||| bt cell (Bf hs k)) * 2 ^ k)))), some (.int (nI (k + 1))), some (.int (nI (bt cell (Af hs k)))), some (.int (nI (bt cell (Bf hs k))))], M)) (by simp (disch := omega) only [nI_add]) ?_
        refine sW_goto 4 d_House_cellOf_112 (by decide) ?_
        refine sW_fg [false, false, false, false, true, true] ?_
        show sW G m_House_cellOf 4 ([], [some (.ref h), some (.int (nI told)), some (.int (nI (cell ||| ((bt cell (Af hs k) ||| bt cell (Bf hs k)) * 2 ^ k)))), some (.int (nI (k + 1))), none, none], M) _
        exact ih (k + 1, _) (by dsimp only; omega) (by dsimp only; omega) (hst _ (by unfold jb; rw [if_pos (by omega)]))
      · skip
        simp (disch := omega) only [nI_eq] at c_42
        refine sW_go b_House_cellOf_81 (st' := ([], [some (.ref h), some (.int (nI told)), some (.int (nI cell ||| ((nI (bt cell (Af hs k)) &&& nI (bt cell (Bf hs k))) <<< (nI k &&& 31)))), some (.int (nI k)), some (.int (nI (bt cell (Af hs k)))), some (.int (nI (bt cell (Bf hs k))))], M)) (φ := True) rfl trivial ?_
        refine sW_eq (st' := ([], [some (.ref h), some (.int (nI told)), some (.int (nI (cell ||| ((bt cell (Af hs k) &&& bt cell (Bf hs k)) * 2 ^ k)))), some (.int (nI k)), some (.int (nI (bt cell (Af hs k)))), some (.int (nI (bt cell (Bf hs k))))], M)) (by simp (disch := omega) only [nx_and, nx_or, q4]) ?_
        refine sW_goto 109 d_House_cellOf_91 (by decide) ?_
        refine sW_go b_House_cellOf_109 (st' := ([], [some (.ref h), some (.int (nI told)), some (.int (nI (cell ||| ((bt cell (Af hs k) &&& bt cell (Bf hs k)) * 2 ^ k)))), some (.int (nI k + nI 1)), some (.int (nI (bt cell (Af hs k)))), some (.int (nI (bt cell (Bf hs k))))], M)) (φ := True) rfl trivial ?_
        refine sW_eq (st' := ([], [some (.ref h), some (.int (nI told)), some (.int (nI (cell ||| ((bt cell (Af hs k) &&& bt cell (Bf hs k)) * 2 ^ k)))), some (.int (nI (k + 1))), some (.int (nI (bt cell (Af hs k)))), some (.int (nI (bt cell (Bf hs k))))], M)) (by simp (disch := omega) only [nI_add]) ?_
        refine sW_goto 4 d_House_cellOf_112 (by decide) ?_
        refine sW_fg [false, false, false, false, true, true] ?_
        show sW G m_House_cellOf 4 ([], [some (.ref h), some (.int (nI told)), some (.int (nI (cell ||| ((bt cell (Af hs k) &&& bt cell (Bf hs k)) * 2 ^ k)))), some (.int (nI (k + 1))), none, none], M) _
        exact ih (k + 1, _) (by dsimp only; omega) (by dsimp only; omega) (hst _ (by unfold jb; rw [if_neg (by omega), if_pos (by omega)]))
      · skip
        simp (disch := omega) only [nI_eq] at c_42
        refine sW_go b_House_cellOf_94 (st' := ([], [some (.ref h), some (.int (nI told)), some (.int (nI cell ||| ((nI (bt cell (Af hs k)) &&& (nI 1 ^^^ nI (bt cell (Bf hs k)))) <<< (nI k &&& 31)))), some (.int (nI k)), some (.int (nI (bt cell (Af hs k)))), some (.int (nI (bt cell (Bf hs k))))], M)) (φ := True) rfl trivial ?_
        refine sW_eq (st' := ([], [some (.ref h), some (.int (nI told)), some (.int (nI (cell ||| ((bt cell (Af hs k) &&& (1 ^^^ bt cell (Bf hs k))) * 2 ^ k)))), some (.int (nI k)), some (.int (nI (bt cell (Af hs k)))), some (.int (nI (bt cell (Bf hs k))))], M)) (by simp (disch := omega) only [nx_and, nx_or, nx_xor, q5]) ?_
        refine sW_goto 109 d_House_cellOf_106 (by decide) ?_
        refine sW_go b_House_cellOf_109 (st' := ([], [some (.ref h), some (.int (nI told)), some (.int (nI (cell ||| ((bt cell (Af hs k) &&& (1 ^^^ bt cell (Bf hs k))) * 2 ^ k)))), some (.int (nI k + nI 1)), some (.int (nI (bt cell (Af hs k)))), some (.int (nI (bt cell (Bf hs k))))], M)) (φ := True) rfl trivial ?_
        refine sW_eq (st' := ([], [some (.ref h), some (.int (nI told)), some (.int (nI (cell ||| ((bt cell (Af hs k) &&& (1 ^^^ bt cell (Bf hs k))) * 2 ^ k)))), some (.int (nI (k + 1))), some (.int (nI (bt cell (Af hs k)))), some (.int (nI (bt cell (Bf hs k))))], M)) (by simp (disch := omega) only [nI_add]) ?_
        refine sW_goto 4 d_House_cellOf_112 (by decide) ?_
        refine sW_fg [false, false, false, false, true, true] ?_
        show sW G m_House_cellOf 4 ([], [some (.ref h), some (.int (nI told)), some (.int (nI (cell ||| ((bt cell (Af hs k) &&& (1 ^^^ bt cell (Bf hs k))) * 2 ^ k)))), some (.int (nI (k + 1))), none, none], M) _
        exact ih (k + 1, _) (by dsimp only; omega) (by dsimp only; omega) (hst _ (by unfold jb; rw [if_neg (by omega), if_neg (by omega), if_pos (by omega)]))
  · have hke : k = hs.1 := by omega
    refine sW_go b_House_cellOf_4 (st' := ([.int (M h 3), .int (nI k)], [some (.ref h), some (.int (nI told)), some (.int (nI cell)), some (.int (nI k)), none, none], M)) (φ := mx_ocl LAY h = 3 ∧ True) rfl ⟨ho, trivial⟩ ?_
    refine sW_eq (st' := ([.int (nI hs.1), .int (nI k)], [some (.ref h), some (.int (nI told)), some (.int (nI cell)), some (.int (nI k)), none, none], M)) (by simp (disch := omega) only [e3]) ?_
    refine sW_ic_ge 115 d_House_cellOf_9 (by decide) (fun c_9 => ?_) (fun c_9 => ?_)
    · skip
      simp (disch := omega) only [nI_leI] at c_9
      refine sW_go b_House_cellOf_115 (st' := ([.int (nI cell)], [some (.ref h), some (.int (nI told)), some (.int (nI cell)), some (.int (nI k)), none, none], M)) (φ := True) rfl trivial ?_
      refine sW_retI d_House_cellOf_116 rfl (vp_nar_int _) ?_
      exact ⟨by rw [hc, hke]; rfl, rfl⟩
    · skip
      simp (disch := omega) only [nI_leI] at c_9
      exact absurd c_9 (by omega)

