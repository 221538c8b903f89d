theorem Iw_r (f φ : Nat → Nat) : Iw f φ = ls (fun x => f x * φ x) (List.range 256) := rfl
theorem lsr_le (g : Nat → Nat) {c n : Nat} (h : c ≤ n) : ls g (List.range c) ≤ ls g (List.range n) := by
  induction n with
  | zero => obtain rfl : c = 0 := by omega
            exact Nat.le_refl _
  | succ n ih =>
    by_cases hx : c = n + 1
    · rw [hx]; exact Nat.le_refl _
    · rw [ls_range]
      exact Nat.le_trans (ih (by omega)) (Nat.le_add_right _ _)
theorem k_plainOf (G : mx_G) {M : mx_M} {k : Nat} {pl : Nat → Nat} (hp : PlnAt M 134 pl) (hk : k < 8) : sOk G m_Mo_plainOf [.ref 119, .int (nI k)] M (fun r M' => r = some (.int (nI (Iw pl (fun x => bt x k)))) ∧ M' = M) := by
  have hk0 : ¬ nI k < 0 := nI_nn (by omega)
  refine sOk_of ⟨by decide +kernel, by decide +kernel, Nat.le_of_ble_eq_true rfl⟩ ?_
  show sW G m_Mo_plainOf 0 ([], [some (.ref 119), some (.int (nI k)), none, none], M) _
  refine sW_go b_Mo_plainOf_0 (st' := ([], [some (.ref 119), some (.int (nI k)), some (.int (nI 0)), some (.int (nI 0))], M)) (φ := True) rfl trivial ?_
  refine mx_ind (α := Nat) (fun c => 256 - c) (fun c => c ≤ 256 → sW G m_Mo_plainOf 4 ([], [some (.ref 119), some (.int (nI k)), some (.int (nI (ls (fun x => pl x * bt x k) (List.range c)))), some (.int (nI c))], M) _) ?_ 0 (Nat.zero_le _)
  intro c ih hc
  by_cases hcn : c < 256
  · have e1 := hp c hcn
    have es := ls_range (fun x => pl x * bt x k) c
    have hb := bt_le c k
    obtain ⟨L, eL⟩ : ∃ L, ls (fun x => pl x * bt x k) (List.range c) = L := ⟨_, rfl⟩
    have ih1 := ih (c + 1) (by omega) (by omega)
    rw [es, eL] at ih1
    rw [eL]
    refine sW_go b_Mo_plainOf_4 (st' := ([.int (nI 256), .int (nI c)], [some (.ref 119), some (.int (nI k)), some (.int (nI L)), some (.int (nI c))], M)) (φ := True) rfl trivial ?_
    refine sW_ic_ge 42 d_Mo_plainOf_8 (by decide) (fun c_8 => ?_) (fun c_8 => ?_)
    · skip
      simp (disch := omega) only [nI_leI] at c_8
      omega
    · skip
      simp (disch := omega) only [nI_leI] at c_8
      refine sW_go b_Mo_plainOf_11 (st' := ([.int (nI k), .int (nI L)], [some (.ref 119), some (.int (nI k)), some (.int (nI L)), some (.int (nI c))], M)) (φ := True) rfl trivial ?_
      refine sW_if_lt 24 d_Mo_plainOf_13 (by decide) (fun c_13 => ?_) (fun c_13 => ?_)
      · skip
        refine sW_go b_Mo_plainOf_24 (st' := ([.int (M 134 (nI c).toNatClampNeg), .int (nI L)], [some (.ref 119), some (.int (nI k)), some (.int (nI L)), some (.int (nI c))], M)) (φ := mx_ocl LAY 119 = 10 ∧ vp_in (nI c) (mx_len LAY false 134) ∧ True) rfl ⟨oc_119, (by simp (disch := omega) only [ln_134]; exact vp_in_nI (by omega) (by decide)), trivial⟩ ?_
        refine sW_eq (st' := ([.int (nI (pl c)), .int (nI L)], [some (.ref 119), some (.int (nI k)), some (.int (nI L)), some (.int (nI c))], M)) (by simp (disch := omega) only [e1, nI_clamp]) ?_
        refine sW_goto 34 d_Mo_plainOf_30 (by decide) ?_
        refine sW_go b_Mo_plainOf_34 (st' := ([], [some (.ref 119), some (.int (nI k)), some (.int (nI L + nI (pl c))), some (.int (nI c + nI 1))], M)) (φ := True) rfl trivial ?_
        refine sW_eq (st' := ([], [some (.ref 119), some (.int (nI k)), some (.int (nI (L + pl c))), some (.int (nI (c + 1)))], M)) (by simp (disch := omega) only [nI_add]) ?_
        refine sW_goto 4 d_Mo_plainOf_39 (by decide) ?_
        exact absurd c_13 hk0
      · skip
        refine sW_go b_Mo_plainOf_16 (st' := ([.int (nI k), .int (nI c), .int (nI L)], [some (.ref 119), some (.int (nI k)), some (.int (nI L)), some (.int (nI c))], M)) (φ := True) rfl trivial ?_
        refine sW_callS [.int (nI c), .int (nI k)] [.int (nI L)] d_Mo_plainOf_18 c_Mo_plainOf_18 ⟨rfl, rfl, Nat.le_of_ble_eq_true rfl, rfl, rfl⟩ (k_has G (by omega) (by omega)) ?_
        rintro _ M₁ ⟨rfl, h₁⟩
        rw [h₁]
        show sW G m_Mo_plainOf 21 ([.int (tf (bt c k = 1)), .int (nI L)], [some (.ref 119), some (.int (nI k)), some (.int (nI L)), some (.int (nI c))], M) _
        refine sW_if_eq 33 d_Mo_plainOf_21 (by decide) (fun c_21 => ?_) (fun c_21 => ?_)
        · skip
          replace c_21 := tf_z.mp c_21
          refine sW_go b_Mo_plainOf_33 (st' := ([.int (nI 0), .int (nI L)], [some (.ref 119), some (.int (nI k)), some (.int (nI L)), some (.int (nI c))], M)) (φ := True) rfl trivial ?_
          refine sW_go b_Mo_plainOf_34 (st' := ([], [some (.ref 119), some (.int (nI k)), some (.int (nI L + nI 0)), some (.int (nI c + nI 1))], M)) (φ := True) rfl trivial ?_
          refine sW_eq (st' := ([], [some (.ref 119), some (.int (nI k)), some (.int (nI L)), some (.int (nI (c + 1)))], M)) (by simp (disch := omega) only [Nat.add_zero, nI_add]) ?_
          refine sW_goto 4 d_Mo_plainOf_39 (by decide) ?_
          rw [show bt c k = 0 by omega, Nat.mul_zero, Nat.add_zero] at ih1
          exact ih1
        · skip
          replace c_21 := tf_nz.mp c_21
          refine sW_go b_Mo_plainOf_24 (st' := ([.int (M 134 (nI c).toNatClampNeg), .int (nI L)], [some (.ref 119), some (.int (nI k)), some (.int (nI L)), some (.int (nI c))], M)) (φ := mx_ocl LAY 119 = 10 ∧ vp_in (nI c) (mx_len LAY false 134) ∧ True) rfl ⟨oc_119, (by simp (disch := omega) only [ln_134]; exact vp_in_nI (by omega) (by decide)), trivial⟩ ?_
          refine sW_eq (st' := ([.int (nI (pl c)), .int (nI L)], [some (.ref 119), some (.int (nI k)), some (.int (nI L)), some (.int (nI c))], M)) (by simp (disch := omega) only [e1, nI_clamp]) ?_
          refine sW_goto 34 d_Mo_plainOf_30 (by decide) ?_
          refine sW_go b_Mo_plainOf_34 (st' := ([], [some (.ref 119), some (.int (nI k)), some (.int (nI L + nI (pl c))), some (.int (nI c + nI 1))], M)) (φ := True) rfl trivial ?_
          refine sW_eq (st' := ([], [some (.ref 119), some (.int (nI k)), some (.int (nI (L + pl c))), some (.int (nI (c + 1)))], M)) (by simp (disch := omega) only [nI_add]) ?_
          refine sW_goto 4 d_Mo_plainOf_39 (by decide) ?_
          rw [c_21, Nat.mul_one] at ih1
          exact ih1
  · obtain rfl : c = 256 := by omega
    rw [← Iw_r]
    refine sW_go b_Mo_plainOf_4 (st' := ([.int (nI 256), .int (nI 256)], [some (.ref 119), some (.int (nI k)), some (.int (nI (Iw pl (fun x => bt x k)))), some (.int (nI 256))], M)) (φ := True) rfl trivial ?_
    refine sW_ic_ge 42 d_Mo_plainOf_8 (by decide) (fun c_8 => ?_) (fun c_8 => ?_)
    · skip
      simp (disch := omega) only [nI_leI] at c_8
      refine sW_go b_Mo_plainOf_42 (st' := ([.int (nI (Iw pl (fun x => bt x k)))], [some (.ref 119), some (.int (nI k)), some (.int (nI (Iw pl (fun x => bt x k)))), some (.int (nI 256))], M)) (φ := True) rfl trivial ?_
      refine sW_retI d_Mo_plainOf_43 rfl (vp_nar_int _) ?_
      exact ⟨rfl, rfl⟩
    · skip
      exact absurd (by decide +kernel) c_8
theorem k_plainAny (G : mx_G) {M : mx_M} {pl : Nat → Nat} (hp : PlnAt M 134 pl) : sOk G m_Mo_plainOf [.ref 119, .int (-1)] M (fun r M' => r = some (.int (nI (Iw pl (fun _ => 1)))) ∧ M' = M) := by
  refine sOk_of ⟨by decide +kernel, by decide +kernel, Nat.le_of_ble_eq_true rfl⟩ ?_
  show sW G m_Mo_plainOf 0 ([], [some (.ref 119), some (.int (-1)), none, none], M) _
  refine sW_go b_Mo_plainOf_0 (st' := ([], [some (.ref 119), some (.int (-1)), some (.int (nI 0)), some (.int (nI 0))], M)) (φ := True) rfl trivial ?_
  refine mx_ind (α := Nat) (fun c => 256 - c) (fun c => c ≤ 256 → sW G m_Mo_plainOf 4 ([], [some (.ref 119), some (.int (-1)), some (.int (nI (ls (fun x => pl x * 1) (List.range c)))), some (.int (nI c))], M) _) ?_ 0 (Nat.zero_le _)
  intro c ih hc
  by_cases hcn : c < 256
  · have e1 := hp c hcn
    have es := ls_range (fun x => pl x * 1) c
    obtain ⟨L, eL⟩ : ∃ L, ls (fun x => pl x * 1) (List.range c) = L := ⟨_, rfl⟩
    have ih1 := ih (c + 1) (by omega) (by omega)
    rw [es, eL, Nat.mul_one] at ih1
    rw [eL]
    refine sW_go b_Mo_plainOf_4 (st' := ([.int (nI 256), .int (nI c)], [some (.ref 119), some (.int (-1)), some (.int (nI L)), some (.int (nI c))], M)) (φ := True) rfl trivial ?_
    refine sW_ic_ge 42 d_Mo_plainOf_8 (by decide) (fun c_8 => ?_) (fun c_8 => ?_)
    · skip
      simp (disch := omega) only [nI_leI] at c_8
      omega
    · skip
      simp (disch := omega) only [nI_leI] at c_8
      refine sW_go b_Mo_plainOf_11 (st' := ([.int (-1), .int (nI L)], [some (.ref 119), some (.int (-1)), some (.int (nI L)), some (.int (nI c))], M)) (φ := True) rfl trivial ?_
      refine sW_if_lt 24 d_Mo_plainOf_13 (by decide) (fun c_13 => ?_) (fun c_13 => ?_)
      · skip
        refine sW_go b_Mo_plainOf_24 (st' := ([.int (M 134 (nI c).toNatClampNeg), .int (nI L)], [some (.ref 119), some (.int (-1)), some (.int (nI L)), some (.int (nI c))], M)) (φ := mx_ocl LAY 119 = 10 ∧ vp_in (nI c) (mx_len LAY false 134) ∧ True) rfl ⟨oc_119, (by simp (disch := omega) only [ln_134]; exact vp_in_nI (by omega) (by decide)), trivial⟩ ?_
        refine sW_eq (st' := ([.int (nI (pl c)), .int (nI L)], [some (.ref 119), some (.int (-1)), some (.int (nI L)), some (.int (nI c))], M)) (by simp (disch := omega) only [e1, nI_clamp]) ?_
        refine sW_goto 34 d_Mo_plainOf_30 (by decide) ?_
        refine sW_go b_Mo_plainOf_34 (st' := ([], [some (.ref 119), some (.int (-1)), some (.int (nI L + nI (pl c))), some (.int (nI c + nI 1))], M)) (φ := True) rfl trivial ?_
        refine sW_eq (st' := ([], [some (.ref 119), some (.int (-1)), some (.int (nI (L + pl c))), some (.int (nI (c + 1)))], M)) (by simp (disch := omega) only [nI_add]) ?_
        refine sW_goto 4 d_Mo_plainOf_39 (by decide) ?_
        exact ih1
      · skip
        exact absurd (by decide +kernel) c_13
  · obtain rfl : c = 256 := by omega
    have er : ls (fun x => pl x * 1) (List.range 256) = Iw pl (fun _ => 1) := rfl
    rw [er]
    refine sW_go b_Mo_plainOf_4 (st' := ([.int (nI 256), .int (nI 256)], [some (.ref 119), some (.int (-1)), some (.int (nI (Iw pl (fun _ => 1)))), some (.int (nI 256))], M)) (φ := True) rfl trivial ?_
    refine sW_ic_ge 42 d_Mo_plainOf_8 (by decide) (fun c_8 => ?_) (fun c_8 => ?_)
    · skip
      simp (disch := omega) only [nI_leI] at c_8
      refine sW_go b_Mo_plainOf_42 (st' := ([.int (nI (Iw pl (fun _ => 1)))], [some (.ref 119), some (.int (-1)), some (.int (nI (Iw pl (fun _ => 1)))), some (.int (nI 256))], M)) (φ := True) rfl trivial ?_
      refine sW_retI d_Mo_plainOf_43 rfl (vp_nar_int _) ?_
      exact ⟨rfl, rfl⟩
    · skip
      exact absurd (by decide +kernel) c_8
theorem mo_plain (G : mx_G) {M : mx_M} {σ : Sg} (h : MInv M σ) (hg : GOk σ) (t k : Int32) : sOk G m_Mo_plain [.ref 119, .int t, .int k] M (MOk M (sp_plain σ t k)) := by
  obtain ⟨M0, e0, h0, f0, g0⟩ := h.th
  have hR : RowAt M0 123 0 (gH σ) := h0.2.2.1.1
  have h8 := hg.1.1.1
  by_cases hc : vp_in t (gH σ).1 ∧ nI 1 ≤ k ∧ k ≤ nI 4
  · obtain ⟨va, vb⟩ := id hc
    obtain ⟨x, hx, rfl⟩ := vp_in_of va (by omega)
    obtain ⟨j, j1, j4, rfl⟩ := in14 vb.1 vb.2
    have e : sp_plain σ (nI x) (nI j) = (nI (PS (gH σ) j (fun q => bt q x)), σ) := by
      unfold sp_plain; rw [cif_t hc, show tn (nI x) = x from nI_clamp (by omega), show tn (nI j) = j from nI_clamp (by omega)]
    rw [e]
    refine sOk_of ⟨by decide +kernel, by decide +kernel, Nat.le_of_ble_eq_true rfl⟩ ?_
    show sW G m_Mo_plain 0 ([], [some (.ref 119), some (.int (nI x)), some (.int (nI j))], M) _
    refine sW_go b_Mo_plain_0 (st' := ([.int (nI x), .ref 119], [some (.ref 119), some (.int (nI x)), some (.int (nI j))], mx_wr M 119 0 (nI 0))) (φ := mx_ocl LAY 119 = 10 ∧ True) rfl ⟨oc_119, trivial⟩ ?_
    refine sW_eq (st' := ([.int (nI x), .ref 119], [some (.ref 119), some (.int (nI x)), some (.int (nI j))], M0)) (by simp (disch := omega) only [e0]) ?_
    refine sW_callV 10 [.int (nI x)] [] d_Mo_plain_7 c_Mo_plain_7 ⟨rfl, rfl, rfl, Nat.le_of_ble_eq_true rfl, rfl, rfl⟩ oc_119 (k_isType G hR h8 (nI x)) ?_
    rintro _ M₁ ⟨rfl, h₁⟩
    rw [h₁]
    show sW G m_Mo_plain 10 ([.int (tf (vp_in (nI x) (gH σ).1))], [some (.ref 119), some (.int (nI x)), some (.int (nI j))], M0) _
    refine sW_if_eq 25 d_Mo_plain_10 (by decide) (fun c_10 => ?_) (fun c_10 => ?_)
    · skip
      replace c_10 := tf_z.mp c_10
      refine sW_go b_Mo_plain_25 (st' := ([.int (-1000001)], [some (.ref 119), some (.int (nI x)), some (.int (nI j))], M0)) (φ := True) rfl trivial ?_
      refine sW_retI d_Mo_plain_27 rfl (vp_nar_int _) ?_
      exact absurd va c_10
    · skip
      replace c_10 := tf_nz.mp c_10
      refine sW_go b_Mo_plain_13 (st' := ([.long (lN 4), .long (lN 1), .long (nI j).toInt64], [some (.ref 119), some (.int (nI x)), some (.int (nI j))], M0)) (φ := True) rfl trivial ?_
      refine sW_callS [.long (nI j).toInt64, .long (lN 1), .long (lN 4)] [] d_Mo_plain_19 c_Mo_plain_19 ⟨rfl, rfl, Nat.le_of_ble_eq_true rfl, rfl, rfl⟩ (k_in1 G (nI j) 4 (by decide)) ?_
      rintro _ M₁ ⟨rfl, h₁⟩
      rw [h₁]
      show sW G m_Mo_plain 22 ([.int (tf (nI 1 ≤ nI j ∧ nI j ≤ nI 4))], [some (.ref 119), some (.int (nI x)), some (.int (nI j))], M0) _
      refine sW_if_ne 28 d_Mo_plain_22 (by decide) (fun c_22 => ?_) (fun c_22 => ?_)
      · skip
        replace c_22 := tf_nz.mp c_22
        refine sW_go b_Mo_plain_28 (st' := ([.int (nI j), .ref 119], [some (.ref 119), some (.int (nI x)), some (.int (nI j))], M0)) (φ := True) rfl trivial ?_
        refine sW_callV 10 [.int (nI j)] [] d_Mo_plain_30 c_Mo_plain_30 ⟨rfl, rfl, rfl, Nat.le_of_ble_eq_true rfl, rfl, rfl⟩ oc_119 (k_layPlain G hR hg.1 j4) ?_
        rintro _ M1 ⟨rfl, f1, pl, p1, p2⟩
        show sW G m_Mo_plain 33 ([], [some (.ref 119), some (.int (nI x)), some (.int (nI j))], M1) _
        refine sW_go b_Mo_plain_33 (st' := ([.int (nI x), .ref 119], [some (.ref 119), some (.int (nI x)), some (.int (nI j))], M1)) (φ := True) rfl trivial ?_
        refine sW_callV 10 [.int (nI x)] [] d_Mo_plain_35 c_Mo_plain_35 ⟨rfl, rfl, rfl, Nat.le_of_ble_eq_true rfl, rfl, rfl⟩ oc_119 (k_plainOf G p1 (by omega)) ?_
        rintro _ M₁ ⟨rfl, h₁⟩
        rw [h₁]
        show sW G m_Mo_plain 38 ([.int (nI (Iw pl (fun q => bt q x)))], [some (.ref 119), some (.int (nI x)), some (.int (nI j))], M1) _
        refine sW_retI d_Mo_plain_38 rfl (vp_nar_int _) ?_
        exact ⟨by rw [p2], f0.tr (f1.fr (by decide)), h0.scr (f1.mono (by decide) (by decide))⟩
      · skip
        replace c_22 := tf_z.mp c_22
        refine sW_go b_Mo_plain_25 (st' := ([.int (-1000001)], [some (.ref 119), some (.int (nI x)), some (.int (nI j))], M0)) (φ := True) rfl trivial ?_
        refine sW_retI d_Mo_plain_27 rfl (vp_nar_int _) ?_
        exact absurd vb c_22
  · have e : sp_plain σ t k = ((-1000001), σ) := by unfold sp_plain; rw [cif_f hc]
    rw [e]
    refine sOk_of ⟨by decide +kernel, by decide +kernel, Nat.le_of_ble_eq_true rfl⟩ ?_
    show sW G m_Mo_plain 0 ([], [some (.ref 119), some (.int t), some (.int k)], M) _
    refine sW_go b_Mo_plain_0 (st' := ([.int t, .ref 119], [some (.ref 119), some (.int t), some (.int k)], mx_wr M 119 0 (nI 0))) (φ := mx_ocl LAY 119 = 10 ∧ True) rfl ⟨oc_119, trivial⟩ ?_
    refine sW_eq (st' := ([.int t, .ref 119], [some (.ref 119), some (.int t), some (.int k)], M0)) (by simp (disch := omega) only [e0]) ?_
    refine sW_callV 10 [.int t] [] d_Mo_plain_7 c_Mo_plain_7 ⟨rfl, rfl, rfl, Nat.le_of_ble_eq_true rfl, rfl, rfl⟩ oc_119 (k_isType G hR h8 t) ?_
    rintro _ M₁ ⟨rfl, h₁⟩
    rw [h₁]
    show sW G m_Mo_plain 10 ([.int (tf (vp_in t (gH σ).1))], [some (.ref 119), some (.int t), some (.int k)], M0) _
    refine sW_if_eq 25 d_Mo_plain_10 (by decide) (fun c_10 => ?_) (fun c_10 => ?_)
    · skip
      replace c_10 := tf_z.mp c_10
      refine sW_go b_Mo_plain_25 (st' := ([.int (-1000001)], [some (.ref 119), some (.int t), some (.int k)], M0)) (φ := True) rfl trivial ?_
      refine sW_retI d_Mo_plain_27 rfl (vp_nar_int _) ?_
      exact ⟨rfl, f0, h0⟩
    · skip
      replace c_10 := tf_nz.mp c_10
      refine sW_go b_Mo_plain_13 (st' := ([.long (lN 4), .long (lN 1), .long k.toInt64], [some (.ref 119), some (.int t), some (.int k)], M0)) (φ := True) rfl trivial ?_
      refine sW_callS [.long k.toInt64, .long (lN 1), .long (lN 4)] [] d_Mo_plain_19 c_Mo_plain_19 ⟨rfl, rfl, Nat.le_of_ble_eq_true rfl, rfl, rfl⟩ (k_in1 G k 4 (by decide)) ?_
      rintro _ M₁ ⟨rfl, h₁⟩
      rw [h₁]
      show sW G m_Mo_plain 22 ([.int (tf (nI 1 ≤ k ∧ k ≤ nI 4))], [some (.ref 119), some (.int t), some (.int k)], M0) _
      refine sW_if_ne 28 d_Mo_plain_22 (by decide) (fun c_22 => ?_) (fun c_22 => ?_)
      · skip
        replace c_22 := tf_nz.mp c_22
        exact absurd ⟨c_10, c_22⟩ hc
      · skip
        replace c_22 := tf_z.mp c_22
        refine sW_go b_Mo_plain_25 (st' := ([.int (-1000001)], [some (.ref 119), some (.int t), some (.int k)], M0)) (φ := True) rfl trivial ?_
        refine sW_retI d_Mo_plain_27 rfl (vp_nar_int _) ?_
        exact ⟨rfl, f0, h0⟩
theorem mo_pick (G : mx_G) {M : mx_M} {σ : Sg} (h : MInv M σ) (hg : GOk σ) (t k w : Int32) : sOk G m_Mo_pick [.ref 119, .int t, .int k, .int w] M (MOk M (sp_pick σ t k w)) := by
  obtain ⟨M0, e0, h0, f0, g0⟩ := h.th
  have hR : RowAt M0 123 0 (gH σ) := h0.2.2.1.1
  have h8 := hg.1.1.1
  by_cases hc : vp_in t (gH σ).1 ∧ (nI 1 ≤ k ∧ k ≤ nI 4) ∧ vp_in w 2
  · obtain ⟨va, vb, vw⟩ := id hc
    obtain ⟨x, hx, rfl⟩ := vp_in_of va (by omega)
    obtain ⟨j, j1, j4, rfl⟩ := in14 vb.1 vb.2
    obtain ⟨y, hy, rfl⟩ := vp_in_of vw (by decide)
    have hcc := hg.1.2.2 (by omega)
    have b1 := Nat.le_trans (PS_le hg.1.1 j (φ := fun q => bt q x) (fun q => bt_le q x)) (PSb_4 j4)
    have b2 := Nat.le_trans (PS_le hg.1.1 j (φ := fun _ => 1) (fun _ => Nat.le_refl 1)) (PSb_4 j4)
    have b3 := PS_pos hcc j1
    unfold sp_pick
    rw [cif_t hc, show tn (nI x) = x from nI_clamp (by omega), show tn (nI j) = j from nI_clamp (by omega)]
    refine sOk_of ⟨by decide +kernel, by decide +kernel, Nat.le_of_ble_eq_true rfl⟩ ?_
    show sW G m_Mo_pick 0 ([], [some (.ref 119), some (.int (nI x)), some (.int (nI j)), some (.int (nI y)), none, none, none, none, none], M) _
    refine sW_go b_Mo_pick_0 (st' := ([.int (nI x), .ref 119], [some (.ref 119), some (.int (nI x)), some (.int (nI j)), some (.int (nI y)), none, none, none, none, none], mx_wr M 119 0 (nI 0))) (φ := mx_ocl LAY 119 = 10 ∧ True) rfl ⟨oc_119, trivial⟩ ?_
    refine sW_eq (st' := ([.int (nI x), .ref 119], [some (.ref 119), some (.int (nI x)), some (.int (nI j)), some (.int (nI y)), none, none, none, none, none], M0)) (by simp (disch := omega) only [e0]) ?_
    refine sW_callV 10 [.int (nI x)] [] d_Mo_pick_7 c_Mo_pick_7 ⟨rfl, rfl, rfl, Nat.le_of_ble_eq_true rfl, rfl, rfl⟩ oc_119 (k_isType G hR h8 (nI x)) ?_
    rintro _ M₁ ⟨rfl, h₁⟩
    rw [h₁]
    show sW G m_Mo_pick 10 ([.int (tf (vp_in (nI x) (gH σ).1))], [some (.ref 119), some (.int (nI x)), some (.int (nI j)), some (.int (nI y)), none, none, none, none, none], M0) _
    refine sW_if_eq 35 d_Mo_pick_10 (by decide) (fun c_10 => ?_) (fun c_10 => ?_)
    · skip
      replace c_10 := tf_z.mp c_10
      refine sW_go b_Mo_pick_35 (st' := ([.int (-1000001)], [some (.ref 119), some (.int (nI x)), some (.int (nI j)), some (.int (nI y)), none, none, none, none, none], M0)) (φ := True) rfl trivial ?_
      refine sW_retI d_Mo_pick_37 rfl (vp_nar_int _) ?_
      exact absurd va c_10
    · skip
      replace c_10 := tf_nz.mp c_10
      refine sW_go b_Mo_pick_13 (st' := ([.long (lN 4), .long (lN 1), .long (nI j).toInt64], [some (.ref 119), some (.int (nI x)), some (.int (nI j)), some (.int (nI y)), none, none, none, none, none], M0)) (φ := True) rfl trivial ?_
      refine sW_callS [.long (nI j).toInt64, .long (lN 1), .long (lN 4)] [] d_Mo_pick_19 c_Mo_pick_19 ⟨rfl, rfl, Nat.le_of_ble_eq_true rfl, rfl, rfl⟩ (k_in1 G (nI j) 4 (by decide)) ?_
      rintro _ M₁ ⟨rfl, h₁⟩
      rw [h₁]
      show sW G m_Mo_pick 22 ([.int (tf (nI 1 ≤ nI j ∧ nI j ≤ nI 4))], [some (.ref 119), some (.int (nI x)), some (.int (nI j)), some (.int (nI y)), none, none, none, none, none], M0) _
      refine sW_if_eq 35 d_Mo_pick_22 (by decide) (fun c_22 => ?_) (fun c_22 => ?_)
      · skip
        replace c_22 := tf_z.mp c_22
        refine sW_go b_Mo_pick_35 (st' := ([.int (-1000001)], [some (.ref 119), some (.int (nI x)), some (.int (nI j)), some (.int (nI y)), none, none, none, none, none], M0)) (φ := True) rfl trivial ?_
        refine sW_retI d_Mo_pick_37 rfl (vp_nar_int _) ?_
        exact absurd vb c_22
      · skip
        replace c_22 := tf_nz.mp c_22
        refine sW_go b_Mo_pick_25 (st' := ([.long (lN 1), .long (lN 0), .long (nI y).toInt64], [some (.ref 119), some (.int (nI x)), some (.int (nI j)), some (.int (nI y)), none, none, none, none, none], M0)) (φ := True) rfl trivial ?_
        refine sW_callS [.long (nI y).toInt64, .long (lN 0), .long (lN 1)] [] d_Mo_pick_29 c_Mo_pick_29 ⟨rfl, rfl, Nat.le_of_ble_eq_true rfl, rfl, rfl⟩ (k_in0 G (nI y) 1 (by decide)) ?_
        rintro _ M₁ ⟨rfl, h₁⟩
        rw [h₁]
        show sW G m_Mo_pick 32 ([.int (tf (vp_in (nI y) 2))], [some (.ref 119), some (.int (nI x)), some (.int (nI j)), some (.int (nI y)), none, none, none, none, none], M0) _
        refine sW_if_ne 38 d_Mo_pick_32 (by decide) (fun c_32 => ?_) (fun c_32 => ?_)
        · skip
          replace c_32 := tf_nz.mp c_32
          refine sW_go b_Mo_pick_38 (st' := ([.int (nI j), .ref 119], [some (.ref 119), some (.int (nI x)), some (.int (nI j)), some (.int (nI y)), none, none, none, none, none], M0)) (φ := True) rfl trivial ?_
          refine sW_callV 10 [.int (nI j)] [] d_Mo_pick_40 c_Mo_pick_40 ⟨rfl, rfl, rfl, Nat.le_of_ble_eq_true rfl, rfl, rfl⟩ oc_119 (k_layPlain G hR hg.1 j4) ?_
          rintro _ M1 ⟨rfl, f1, pl, p1, p2⟩
          have kx := k_plainOf G p1 (show x < 8 by omega)
          rw [p2] at kx
          have ka := k_plainAny G p1
          rw [p2] at ka
          generalize hAb : PS (gH σ) j (fun q => bt q x) = ab at b1 kx ⊢
          generalize hBe : PS (gH σ) j (fun _ => 1) = be at b2 b3 ka ⊢
          show sW G m_Mo_pick 43 ([], [some (.ref 119), some (.int (nI x)), some (.int (nI j)), some (.int (nI y)), none, none, none, none, none], M1) _
          refine sW_go b_Mo_pick_43 (st' := ([.int (nI x), .ref 119], [some (.ref 119), some (.int (nI x)), some (.int (nI j)), some (.int (nI y)), none, none, none, none, none], M1)) (φ := True) rfl trivial ?_
          refine sW_callV 10 [.int (nI x)] [] d_Mo_pick_45 c_Mo_pick_45 ⟨rfl, rfl, rfl, Nat.le_of_ble_eq_true rfl, rfl, rfl⟩ oc_119 (kx) ?_
          rintro _ M₁ ⟨rfl, h₁⟩
          rw [h₁]
          show sW G m_Mo_pick 48 ([.int (nI ab)], [some (.ref 119), some (.int (nI x)), some (.int (nI j)), some (.int (nI y)), none, none, none, none, none], M1) _
          refine sW_go b_Mo_pick_48 (st' := ([.int (-1), .ref 119], [some (.ref 119), some (.int (nI x)), some (.int (nI j)), some (.int (nI y)), some (.int (nI ab)), none, none, none, none], M1)) (φ := True) rfl trivial ?_
          refine sW_callV 10 [.int (-1)] [] d_Mo_pick_52 c_Mo_pick_52 ⟨rfl, rfl, rfl, Nat.le_of_ble_eq_true rfl, rfl, rfl⟩ oc_119 (ka) ?_
          rintro _ M₁ ⟨rfl, h₁⟩
          rw [h₁]
          show sW G m_Mo_pick 55 ([.int (nI be)], [some (.ref 119), some (.int (nI x)), some (.int (nI j)), some (.int (nI y)), some (.int (nI ab)), none, none, none, none], M1) _
          refine sW_go b_Mo_pick_55 (st' := ([], [some (.ref 119), some (.int (nI x)), some (.int (nI j)), some (.int (nI y)), some (.int (nI ab)), some (.int (nI be)), some (.int (nI ab)), some (.int (nI be)), none], M1)) (φ := True) rfl trivial ?_
          refine mx_ind (α := Nat × Nat) (fun q => q.2) (fun q => q.1 ≤ 163220 → q.2 ≤ 163220 → Nat.gcd q.1 q.2 = Nat.gcd ab be → sW G m_Mo_pick 65 ([], [some (.ref 119), some (.int (nI x)), some (.int (nI j)), some (.int (nI y)), some (.int (nI ab)), some (.int (nI be)), some (.int (nI q.1)), some (.int (nI q.2)), none], M1) _) ?_ (ab, be) b1 b2 rfl
          rintro ⟨u, v⟩ ih hu hv hgc
          dsimp only at ih hu hv hgc ⊢
          by_cases hz : v = 0
          · subst hz
            rw [Nat.gcd_zero_right] at hgc
            have gp : 0 < Nat.gcd ab be := Nat.gcd_pos_of_pos_right ab b3
            rw [← hgc] at gp ⊢
            have hnz : ¬ nI u = 0 := fun q => by rw [nI_z (by omega)] at q; omega
            have d1 : nI ab / nI u = nI (ab / u) := pk_div (by omega) gp (by omega)
            have d2 : nI be / nI u = nI (be / u) := pk_div (by omega) gp (by omega)
            refine sW_go b_Mo_pick_65 (st' := ([.int (nI 0)], [some (.ref 119), some (.int (nI x)), some (.int (nI j)), some (.int (nI y)), some (.int (nI ab)), some (.int (nI be)), some (.int (nI u)), some (.int (nI 0)), none], M1)) (φ := True) rfl trivial ?_
            refine sW_if_eq 88 d_Mo_pick_67 (by decide) (fun c_67 => ?_) (fun c_67 => ?_)
            · skip
              simp (disch := omega) only [nI_z] at c_67
              refine sW_go b_Mo_pick_88 (st' := ([.int (nI y)], [some (.ref 119), some (.int (nI x)), some (.int (nI j)), some (.int (nI y)), some (.int (nI ab)), some (.int (nI be)), some (.int (nI u)), some (.int (nI 0)), none], M1)) (φ := True) rfl trivial ?_
              refine sW_if_ne 97 d_Mo_pick_89 (by decide) (fun c_89 => ?_) (fun c_89 => ?_)
              · skip
                simp (disch := omega) only [nI_z] at c_89
                refine sW_go b_Mo_pick_97 (st' := ([.int (nI be)], [some (.ref 119), some (.int (nI x)), some (.int (nI j)), some (.int (nI y)), some (.int (nI ab)), some (.int (nI be)), some (.int (nI u)), some (.int (nI 0)), none], M1)) (φ := True) rfl trivial ?_
                refine sW_go b_Mo_pick_99 (st' := ([.int (nI be / nI u)], [some (.ref 119), some (.int (nI x)), some (.int (nI j)), some (.int (nI y)), some (.int (nI ab)), some (.int (nI be)), some (.int (nI u)), some (.int (nI 0)), none], M1)) (φ := ¬ (nI u) = 0 ∧ True) rfl ⟨(by assumption), trivial⟩ ?_
                refine sW_eq (st' := ([.int (nI (be / u))], [some (.ref 119), some (.int (nI x)), some (.int (nI j)), some (.int (nI y)), some (.int (nI ab)), some (.int (nI be)), some (.int (nI u)), some (.int (nI 0)), none], M1)) (by simp (disch := omega) only [d2]) ?_
                refine sW_retI d_Mo_pick_102 rfl (vp_nar_int _) ?_
                have hw0 : ¬ nI y = nI 0 := fun q => c_89 ((nI_eq (by omega) (by decide)).mp q)
                rw [cif_f hw0]
                exact ⟨rfl, f0.tr (f1.fr (by decide)), h0.scr (f1.mono (by decide) (by decide))⟩
              · skip
                simp (disch := omega) only [nI_z] at c_89
                refine sW_go b_Mo_pick_92 (st' := ([.int (nI ab)], [some (.ref 119), some (.int (nI x)), some (.int (nI j)), some (.int (nI y)), some (.int (nI ab)), some (.int (nI be)), some (.int (nI u)), some (.int (nI 0)), none], M1)) (φ := True) rfl trivial ?_
                refine sW_goto 99 d_Mo_pick_94 (by decide) ?_
                refine sW_go b_Mo_pick_99 (st' := ([.int (nI ab / nI u)], [some (.ref 119), some (.int (nI x)), some (.int (nI j)), some (.int (nI y)), some (.int (nI ab)), some (.int (nI be)), some (.int (nI u)), some (.int (nI 0)), none], M1)) (φ := ¬ (nI u) = 0 ∧ True) rfl ⟨(by assumption), trivial⟩ ?_
                refine sW_eq (st' := ([.int (nI (ab / u))], [some (.ref 119), some (.int (nI x)), some (.int (nI j)), some (.int (nI y)), some (.int (nI ab)), some (.int (nI be)), some (.int (nI u)), some (.int (nI 0)), none], M1)) (by simp (disch := omega) only [d1]) ?_
                refine sW_retI d_Mo_pick_102 rfl (vp_nar_int _) ?_
                have hw0 : nI y = nI 0 := by rw [c_89]
                rw [cif_t hw0]
                exact ⟨rfl, f0.tr (f1.fr (by decide)), h0.scr (f1.mono (by decide) (by decide))⟩
            · skip
              exact absurd (by decide +kernel) c_67
          · have hrem : nI u - nI u / nI v * nI v = nI (u % v) := pk_rem (by omega) (by omega) (by omega)
            have hnz : ¬ nI v = 0 := fun q => hz ((nI_z (by omega)).mp q)
            have hml := Nat.mod_lt u (show v > 0 by omega)
            refine sW_go b_Mo_pick_65 (st' := ([.int (nI v)], [some (.ref 119), some (.int (nI x)), some (.int (nI j)), some (.int (nI y)), some (.int (nI ab)), some (.int (nI be)), some (.int (nI u)), some (.int (nI v)), none], M1)) (φ := True) rfl trivial ?_
            refine sW_if_eq 88 d_Mo_pick_67 (by decide) (fun c_67 => ?_) (fun c_67 => ?_)
            · skip
              simp (disch := omega) only [nI_z] at c_67
              exact absurd c_67 hz
            · skip
              simp (disch := omega) only [nI_z] at c_67
              refine sW_go b_Mo_pick_70 (st' := ([], [some (.ref 119), some (.int (nI x)), some (.int (nI j)), some (.int (nI y)), some (.int (nI ab)), some (.int (nI be)), some (.int (nI v)), some (.int (nI u - nI u / nI v * nI v)), some (.int (nI u - nI u / nI v * nI v))], M1)) (φ := ¬ (nI v) = 0 ∧ True) rfl ⟨(by assumption), trivial⟩ ?_
              refine sW_eq (st' := ([], [some (.ref 119), some (.int (nI x)), some (.int (nI j)), some (.int (nI y)), some (.int (nI ab)), some (.int (nI be)), some (.int (nI v)), some (.int (nI (u % v))), some (.int (nI (u % v)))], M1)) (by simp (disch := omega) only [hrem]) ?_
              refine sW_goto 65 d_Mo_pick_85 (by decide) ?_
              refine sW_fg [false, false, false, false, false, false, false, false, true] ?_
              show sW G m_Mo_pick 65 ([], [some (.ref 119), some (.int (nI x)), some (.int (nI j)), some (.int (nI y)), some (.int (nI ab)), some (.int (nI be)), some (.int (nI v)), some (.int (nI (u % v))), none], M1) _
              refine ih (v, u % v) hml hv (by dsimp only; omega) ?_
              dsimp only
              rw [← hgc, Nat.gcd_comm v, ← Nat.gcd_rec, Nat.gcd_comm]
        · skip
          replace c_32 := tf_z.mp c_32
          refine sW_go b_Mo_pick_35 (st' := ([.int (-1000001)], [some (.ref 119), some (.int (nI x)), some (.int (nI j)), some (.int (nI y)), none, none, none, none, none], M0)) (φ := True) rfl trivial ?_
          refine sW_retI d_Mo_pick_37 rfl (vp_nar_int _) ?_
          exact absurd vw c_32
  · have e : sp_pick σ t k w = ((-1000001), σ) := by unfold sp_pick; rw [cif_f hc]
    rw [e]
    refine sOk_of ⟨by decide +kernel, by decide +kernel, Nat.le_of_ble_eq_true rfl⟩ ?_
    show sW G m_Mo_pick 0 ([], [some (.ref 119), some (.int t), some (.int k), some (.int w), none, none, none, none, none], M) _
    refine sW_go b_Mo_pick_0 (st' := ([.int t, .ref 119], [some (.ref 119), some (.int t), some (.int k), some (.int w), none, none, none, none, none], mx_wr M 119 0 (nI 0))) (φ := mx_ocl LAY 119 = 10 ∧ True) rfl ⟨oc_119, trivial⟩ ?_
    refine sW_eq (st' := ([.int t, .ref 119], [some (.ref 119), some (.int t), some (.int k), some (.int w), none, none, none, none, none], M0)) (by simp (disch := omega) only [e0]) ?_
    refine sW_callV 10 [.int t] [] d_Mo_pick_7 c_Mo_pick_7 ⟨rfl, rfl, rfl, Nat.le_of_ble_eq_true rfl, rfl, rfl⟩ oc_119 (k_isType G hR h8 t) ?_
    rintro _ M₁ ⟨rfl, h₁⟩
    rw [h₁]
    show sW G m_Mo_pick 10 ([.int (tf (vp_in t (gH σ).1))], [some (.ref 119), some (.int t), some (.int k), some (.int w), none, none, none, none, none], M0) _
    refine sW_if_eq 35 d_Mo_pick_10 (by decide) (fun c_10 => ?_) (fun c_10 => ?_)
    · skip
      replace c_10 := tf_z.mp c_10
      refine sW_go b_Mo_pick_35 (st' := ([.int (-1000001)], [some (.ref 119), some (.int t), some (.int k), some (.int w), none, none, none, none, none], M0)) (φ := True) rfl trivial ?_
      refine sW_retI d_Mo_pick_37 rfl (vp_nar_int _) ?_
      exact ⟨rfl, f0, h0⟩
    · skip
      replace c_10 := tf_nz.mp c_10
      refine sW_go b_Mo_pick_13 (st' := ([.long (lN 4), .long (lN 1), .long k.toInt64], [some (.ref 119), some (.int t), some (.int k), some (.int w), none, none, none, none, none], M0)) (φ := True) rfl trivial ?_
      refine sW_callS [.long k.toInt64, .long (lN 1), .long (lN 4)] [] d_Mo_pick_19 c_Mo_pick_19 ⟨rfl, rfl, Nat.le_of_ble_eq_true rfl, rfl, rfl⟩ (k_in1 G k 4 (by decide)) ?_
      rintro _ M₁ ⟨rfl, h₁⟩
      rw [h₁]
      show sW G m_Mo_pick 22 ([.int (tf (nI 1 ≤ k ∧ k ≤ nI 4))], [some (.ref 119), some (.int t), some (.int k), some (.int w), none, none, none, none, none], M0) _
      refine sW_if_eq 35 d_Mo_pick_22 (by decide) (fun c_22 => ?_) (fun c_22 => ?_)
      · skip
        replace c_22 := tf_z.mp c_22
        refine sW_go b_Mo_pick_35 (st' := ([.int (-1000001)], [some (.ref 119), some (.int t), some (.int k), some (.int w), none, none, none, none, none], M0)) (φ := True) rfl trivial ?_
        refine sW_retI d_Mo_pick_37 rfl (vp_nar_int _) ?_
        exact ⟨rfl, f0, h0⟩
      · skip
        replace c_22 := tf_nz.mp c_22
        refine sW_go b_Mo_pick_25 (st' := ([.long (lN 1), .long (lN 0), .long w.toInt64], [some (.ref 119), some (.int t), some (.int k), some (.int w), none, none, none, none, none], M0)) (φ := True) rfl trivial ?_
        refine sW_callS [.long w.toInt64, .long (lN 0), .long (lN 1)] [] d_Mo_pick_29 c_Mo_pick_29 ⟨rfl, rfl, Nat.le_of_ble_eq_true rfl, rfl, rfl⟩ (k_in0 G w 1 (by decide)) ?_
        rintro _ M₁ ⟨rfl, h₁⟩
        rw [h₁]
        show sW G m_Mo_pick 32 ([.int (tf (vp_in w 2))], [some (.ref 119), some (.int t), some (.int k), some (.int w), none, none, none, none, none], M0) _
        refine sW_if_ne 38 d_Mo_pick_32 (by decide) (fun c_32 => ?_) (fun c_32 => ?_)
        · skip
          replace c_32 := tf_nz.mp c_32
          exact absurd ⟨c_10, c_22, c_32⟩ hc
        · skip
          replace c_32 := tf_z.mp c_32
          refine sW_go b_Mo_pick_35 (st' := ([.int (-1000001)], [some (.ref 119), some (.int t), some (.int k), some (.int w), none, none, none, none, none], M0)) (φ := True) rfl trivial ?_
          refine sW_retI d_Mo_pick_37 rfl (vp_nar_int _) ?_
          exact ⟨rfl, f0, h0⟩

