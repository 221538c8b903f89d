/-! ===== the model: drawn ===== -/
theorem drwH_w {H : Hs} (hw : WHs H) (h0 : 0 < H.1) (x : Nat) : WHs (drwH H x) ∧ (drwH H x).1 = H.1 := by
  refine ⟨?_, (drwH_ok hw.1 x).2⟩
  unfold drwH
  by_cases h : mayP H.1 (nI (x % H.1)) (nI (x / 8 % 6)) (nI (x / 64 % 8)) (nI (x / 512 % 8))
  · rw [cif_t h]
    exact hw.tell (Nat.mod_lt x h0) (by omega) (by omega) (by omega)
  · rw [cif_f h]
    exact hw
theorem k_mdrawn202 (G : mx_G) {M M2 : mx_M} {σ : Sg} {H : Hs} {n s x w k : Nat} (f2 : Fr M M2 119 139) (h2 : MInv M2 σ) (hT : RowAt M2 125 0 H) (hw : WHs H) (h1 : H.1 = (gH σ).1) (h0 : 0 < H.1) (hw1 : w ≤ 1) : sW G m_Mo_drawn 202 ([], [some (.ref 119), some (.int (nI n)), some (.int (nI s)), some (.int (nI w)), some (.long (lN x)), none, some (.int (nI k)), none, none, none, none], M2) (fun r M' => r = some (.int (cif (nI w = nI 0) (nI (gH σ).1 - nI (pop (empM H))) (nI (cntK (Kw H) 256)))) ∧ Fr M M' 119 139 ∧ MInv M' σ) := by
  refine sW_go b_Mo_drawn_202 (st' := ([.ref 125, .ref 119], [some (.ref 119), some (.int (nI n)), some (.int (nI s)), some (.int (nI w)), some (.long (lN x)), none, some (.int (nI k)), none, none, none, none], M2)) (φ := mx_ocl LAY 119 = 10 ∧ True) rfl ⟨oc_119, trivial⟩ ?_
  refine sW_callV 10 [.ref 125] [] d_Mo_drawn_207 c_Mo_drawn_207 ⟨rfl, rfl, rfl, Nat.le_of_ble_eq_true rfl, rfl, rfl⟩ oc_119 (k_reckon G ln_125 (Or.inr rfl) hT hw h2.2.2.2.2.2.2) ?_
  rintro _ M3 ⟨rfl, f3, r3, q3⟩
  have i3 := rk_inv h2 f3 r3 hw q3
  have t3 : RowAt M3 125 0 H := hT.eq (f3.1 _ (by decide) (by decide))
  obtain ⟨m, HH, S, hM⟩ := q3 (by omega)
  have hM : MC M3 H m HH S := hM
  have z1 : M3 125 0 = nI (gH σ).1 := by rw [t3.n, h1]
  have z2 : M3 119 22 = nI (cntK (Kw H) 256) := by rw [hM.2.2.2.1.1, (hM.nth hw.1).1]
  show sW G m_Mo_drawn 210 ([], [some (.ref 119), some (.int (nI n)), some (.int (nI s)), some (.int (nI w)), some (.long (lN x)), none, some (.int (nI k)), none, none, none, none], M3) _
  refine sW_go b_Mo_drawn_210 (st' := ([.int (nI w)], [some (.ref 119), some (.int (nI n)), some (.int (nI s)), some (.int (nI w)), some (.long (lN x)), none, some (.int (nI k)), none, none, none, none], M3)) (φ := True) rfl trivial ?_
  refine sW_if_ne 235 d_Mo_drawn_211 (by decide) (fun c_211 => ?_) (fun c_211 => ?_)
  · skip
    simp (disch := omega) only [nI_z] at c_211
    refine sW_go b_Mo_drawn_235 (st' := ([.int (M3 119 22)], [some (.ref 119), some (.int (nI n)), some (.int (nI s)), some (.int (nI w)), some (.long (lN x)), none, some (.int (nI k)), none, none, none, none], M3)) (φ := mx_ocl LAY 119 = 10 ∧ True) rfl ⟨oc_119, trivial⟩ ?_
    refine sW_eq (st' := ([.int (nI (cntK (Kw H) 256))], [some (.ref 119), some (.int (nI n)), some (.int (nI s)), some (.int (nI w)), some (.long (lN x)), none, some (.int (nI k)), none, none, none, none], M3)) (by simp (disch := omega) only [z2]) ?_
    refine sW_retI d_Mo_drawn_239 rfl (vp_nar_int _) ?_
    rw [cif_f (fun q => c_211 ((nI_eq (by omega) (by decide)).mp q))]
    exact ⟨rfl, f2.tr (f3.fr (by decide)), i3⟩
  · skip
    simp (disch := omega) only [nI_z] at c_211
    refine sW_go b_Mo_drawn_214 (st' := ([.ref 125, .ref 119, .int (M3 125 (nI 0).toNatClampNeg)], [some (.ref 119), some (.int (nI n)), some (.int (nI s)), some (.int (nI w)), some (.long (lN x)), none, some (.int (nI k)), none, none, none, none], M3)) (φ := mx_ocl LAY 119 = 10 ∧ vp_in (nI 0) (mx_len LAY false 125) ∧ mx_ocl LAY 119 = 10 ∧ True) rfl ⟨oc_119, (by simp (disch := omega) only [ln_125]; exact vp_in_nI (by omega) (by decide)), oc_119, trivial⟩ ?_
    refine sW_eq (st' := ([.ref 125, .ref 119, .int (nI (gH σ).1)], [some (.ref 119), some (.int (nI n)), some (.int (nI s)), some (.int (nI w)), some (.long (lN x)), none, some (.int (nI k)), none, none, none, none], M3)) (by simp (disch := omega) only [nI_clamp, z1]) ?_
    refine sW_callV 10 [.ref 125] [.int (nI (gH σ).1)] d_Mo_drawn_225 c_Mo_drawn_225 ⟨rfl, rfl, rfl, Nat.le_of_ble_eq_true rfl, rfl, rfl⟩ oc_119 (k_emptySet G ln_125 t3 hw.1 q3) ?_
    rintro _ M₁ ⟨rfl, h₁⟩
    rw [h₁]
    show sW G m_Mo_drawn 228 ([.int (nI (empM H)), .int (nI (gH σ).1)], [some (.ref 119), some (.int (nI n)), some (.int (nI s)), some (.int (nI w)), some (.long (lN x)), none, some (.int (nI k)), none, none, none, none], M3) _
    refine sW_callS [.int (nI (empM H))] [.int (nI (gH σ).1)] d_Mo_drawn_228 c_Mo_drawn_228 ⟨rfl, rfl, Nat.le_of_ble_eq_true rfl, rfl, rfl⟩ (k_bitsM G (mk8_lt _)) ?_
    rintro _ M₁ ⟨rfl, h₁⟩
    rw [h₁]
    show sW G m_Mo_drawn 231 ([.int (nI (pop (empM H))), .int (nI (gH σ).1)], [some (.ref 119), some (.int (nI n)), some (.int (nI s)), some (.int (nI w)), some (.long (lN x)), none, some (.int (nI k)), none, none, none, none], M3) _
    refine sW_go b_Mo_drawn_231 (st' := ([.int (nI (gH σ).1 - nI (pop (empM H)))], [some (.ref 119), some (.int (nI n)), some (.int (nI s)), some (.int (nI w)), some (.long (lN x)), none, some (.int (nI k)), none, none, none, none], M3)) (φ := True) rfl trivial ?_
    refine sW_goto 239 d_Mo_drawn_232 (by decide) ?_
    refine sW_retI d_Mo_drawn_239 rfl (vp_nar_int _) ?_
    rw [cif_t (by rw [c_211])]
    exact ⟨rfl, f2.tr (f3.fr (by decide)), i3⟩
theorem mo_drawn (G : mx_G) {M : mx_M} {σ : Sg} (h : MInv M σ) (hg : GOk σ) (n s w : Int32) : sOk G m_Mo_drawn [.ref 119, .int n, .int s, .int w] M (MOk M (sp_drawn σ n s w)) := by
  obtain ⟨M0, e0, h0, f0, g0⟩ := h.th
  have hR : RowAt M0 123 0 (gH σ) := h0.2.2.1.1
  have h8 := hg.1.1.1
  by_cases hc : vp_in n 21 ∧ (nI 1 ≤ s ∧ s ≤ nI 999999) ∧ vp_in w 2
  · obtain ⟨h1, h23, h4⟩ := id hc
    obtain ⟨h2, h3⟩ := id h23
    obtain ⟨n', hn, rfl⟩ := vp_in_of h1 (by decide)
    obtain ⟨w', hw, rfl⟩ := vp_in_of h4 (by decide)
    have hs : ∃ s' : Nat, 1 ≤ s' ∧ s' ≤ 999999 ∧ s = nI s' := by
      rw [Int32.le_iff_toInt_le, nI_toInt (by decide)] at h2 h3
      obtain ⟨k, hk, rfl⟩ := nat_of (i := s) (by omega)
      rw [nI_toInt hk] at h2 h3
      exact ⟨k, by omega, by omega, rfl⟩
    obtain ⟨s', s1, s2, rfl⟩ := hs
    unfold sp_drawn
    rw [cif_t hc, show tn (nI n') = n' from nI_clamp (by omega), show tn (nI s') = s' from nI_clamp (by omega)]
    have e64 : (nI s').toInt64 = lN s' := nI_l (by omega)
    have kin := k_in1 G (M := M0) (nI s') 999999 (by decide)
    rw [e64] at kin
    refine sOk_of ⟨by decide +kernel, by decide +kernel, Nat.le_of_ble_eq_true rfl⟩ ?_
    show sW G m_Mo_drawn 0 ([], [some (.ref 119), some (.int (nI n')), some (.int (nI s')), some (.int (nI w')), none, none, none, none, none, none, none], M) _
    refine sW_go b_Mo_drawn_0 (st' := ([.ref 119], [some (.ref 119), some (.int (nI n')), some (.int (nI s')), some (.int (nI w')), none, none, none, none, none, none, none], mx_wr M 119 0 (nI 0))) (φ := mx_ocl LAY 119 = 10 ∧ True) rfl ⟨oc_119, trivial⟩ ?_
    refine sW_eq (st' := ([.ref 119], [some (.ref 119), some (.int (nI n')), some (.int (nI s')), some (.int (nI w')), none, none, none, none, none, none, none], M0)) (by simp (disch := omega) only [e0]) ?_
    refine sW_callV 10 [] [] d_Mo_drawn_6 c_Mo_drawn_6 ⟨rfl, rfl, rfl, Nat.le_of_ble_eq_true rfl, rfl, rfl⟩ oc_119 (k_isThere G hR h8) ?_
    rintro _ M₁ ⟨rfl, h₁⟩
    rw [h₁]
    show sW G m_Mo_drawn 9 ([.int (tf ((gH σ).1 ≠ 0))], [some (.ref 119), some (.int (nI n')), some (.int (nI s')), some (.int (nI w')), none, none, none, none, none, none, none], M0) _
    refine sW_if_ne 15 d_Mo_drawn_9 (by decide) (fun c_9 => ?_) (fun c_9 => ?_)
    · skip
      replace c_9 := tf_nz.mp c_9
      refine sW_go b_Mo_drawn_15 (st' := ([.long (lN 20), .long (lN 0), .long (nI n').toInt64], [some (.ref 119), some (.int (nI n')), some (.int (nI s')), some (.int (nI w')), none, none, none, none, none, none, none], M0)) (φ := True) rfl trivial ?_
      refine sW_callS [.long (nI n').toInt64, .long (lN 0), .long (lN 20)] [] d_Mo_drawn_21 c_Mo_drawn_21 ⟨rfl, rfl, Nat.le_of_ble_eq_true rfl, rfl, rfl⟩ (k_in0 G (nI n') 20 (by decide)) ?_
      rintro _ M₁ ⟨rfl, h₁⟩
      rw [h₁]
      show sW G m_Mo_drawn 24 ([.int (tf (vp_in (nI n') 21))], [some (.ref 119), some (.int (nI n')), some (.int (nI s')), some (.int (nI w')), none, none, none, none, none, none, none], M0) _
      refine sW_if_eq 49 d_Mo_drawn_24 (by decide) (fun c_24 => ?_) (fun c_24 => ?_)
      · skip
        replace c_24 := tf_z.mp c_24
        refine sW_go b_Mo_drawn_49 (st' := ([.int (-1000001)], [some (.ref 119), some (.int (nI n')), some (.int (nI s')), some (.int (nI w')), none, none, none, none, none, none, none], M0)) (φ := True) rfl trivial ?_
        refine sW_retI d_Mo_drawn_51 rfl (vp_nar_int _) ?_
        exact absurd h1 c_24
      · skip
        replace c_24 := tf_nz.mp c_24
        refine sW_go b_Mo_drawn_27 (st' := ([.long (lN 999999), .long (lN 1), .long (nI s').toInt64], [some (.ref 119), some (.int (nI n')), some (.int (nI s')), some (.int (nI w')), none, none, none, none, none, none, none], M0)) (φ := True) rfl trivial ?_
        refine sW_eq (st' := ([.long (lN 999999), .long (lN 1), .long (lN s')], [some (.ref 119), some (.int (nI n')), some (.int (nI s')), some (.int (nI w')), none, none, none, none, none, none, none], M0)) (by simp (disch := omega) only [e64]) ?_
        refine sW_callS [.long (lN s'), .long (lN 1), .long (lN 999999)] [] d_Mo_drawn_33 c_Mo_drawn_33 ⟨rfl, rfl, Nat.le_of_ble_eq_true rfl, rfl, rfl⟩ (kin) ?_
        rintro _ M₁ ⟨rfl, h₁⟩
        rw [h₁]
        show sW G m_Mo_drawn 36 ([.int (tf (nI 1 ≤ nI s' ∧ nI s' ≤ nI 999999))], [some (.ref 119), some (.int (nI n')), some (.int (nI s')), some (.int (nI w')), none, none, none, none, none, none, none], M0) _
        refine sW_if_eq 49 d_Mo_drawn_36 (by decide) (fun c_36 => ?_) (fun c_36 => ?_)
        · skip
          replace c_36 := tf_z.mp c_36
          refine sW_go b_Mo_drawn_49 (st' := ([.int (-1000001)], [some (.ref 119), some (.int (nI n')), some (.int (nI s')), some (.int (nI w')), none, none, none, none, none, none, none], M0)) (φ := True) rfl trivial ?_
          refine sW_retI d_Mo_drawn_51 rfl (vp_nar_int _) ?_
          exact absurd h23 c_36
        · skip
          replace c_36 := tf_nz.mp c_36
          refine sW_go b_Mo_drawn_39 (st' := ([.long (lN 1), .long (lN 0), .long (nI w').toInt64], [some (.ref 119), some (.int (nI n')), some (.int (nI s')), some (.int (nI w')), none, none, none, none, none, none, none], M0)) (φ := True) rfl trivial ?_
          refine sW_callS [.long (nI w').toInt64, .long (lN 0), .long (lN 1)] [] d_Mo_drawn_43 c_Mo_drawn_43 ⟨rfl, rfl, Nat.le_of_ble_eq_true rfl, rfl, rfl⟩ (k_in0 G (nI w') 1 (by decide)) ?_
          rintro _ M₁ ⟨rfl, h₁⟩
          rw [h₁]
          show sW G m_Mo_drawn 46 ([.int (tf (vp_in (nI w') 2))], [some (.ref 119), some (.int (nI n')), some (.int (nI s')), some (.int (nI w')), none, none, none, none, none, none, none], M0) _
          refine sW_if_ne 52 d_Mo_drawn_46 (by decide) (fun c_46 => ?_) (fun c_46 => ?_)
          · skip
            replace c_46 := tf_nz.mp c_46
            refine sW_go b_Mo_drawn_52 (st' := ([.ref 119], [some (.ref 119), some (.int (nI n')), some (.int (nI s')), some (.int (nI w')), none, none, none, none, none, none, none], M0)) (φ := True) rfl trivial ?_
            refine sW_callV 10 [] [] d_Mo_drawn_53 c_Mo_drawn_53 ⟨rfl, rfl, rfl, Nat.le_of_ble_eq_true rfl, rfl, rfl⟩ oc_119 (k_layThen G hR) ?_
            rintro _ M1 ⟨rfl, f1, t1⟩
            show sW G m_Mo_drawn 56 ([], [some (.ref 119), some (.int (nI n')), some (.int (nI s')), some (.int (nI w')), none, none, none, none, none, none, none], M1) _
            refine sW_go b_Mo_drawn_56 (st' := ([], [some (.ref 119), some (.int (nI n')), some (.int (nI s')), some (.int (nI w')), some (.long (nI s').toInt64), none, some (.int (nI 0)), none, none, none, none], M1)) (φ := True) rfl trivial ?_
            refine sW_eq (st' := ([], [some (.ref 119), some (.int (nI n')), some (.int (nI s')), some (.int (nI w')), some (.long (lN s')), none, some (.int (nI 0)), none, none, none, none], M1)) (by simp (disch := omega) only [e64]) ?_
            rw [if_neg c_9]
            have hpos : 0 < (gH σ).1 := by omega
            refine mx_ind (α := Nat × mx_M) (fun a => n' - a.1) (fun a => a.1 ≤ n' → (drI (s', gH σ) a.1).1 < 2147483647 → WHs (drI (s', gH σ) a.1).2 → (drI (s', gH σ) a.1).2.1 = (gH σ).1 → RowAt a.2 125 0 (drI (s', gH σ) a.1).2 → MFr M0 a.2 [125] [] → sW G m_Mo_drawn 63 ([], [some (.ref 119), some (.int (nI n')), some (.int (nI s')), some (.int (nI w')), some (.long (lN (drI (s', gH σ) a.1).1)), none, some (.int (nI a.1)), none, none, none, none], a.2) _) ?_ (0, M1) (Nat.zero_le _) (show s' < 2147483647 by omega) hg.1 rfl t1 f1
            rintro ⟨k, M2⟩ ih hk b1 b2 b3 b4 b5
            dsimp only at ih hk b1 b2 b3 b4 b5 ⊢
            have hst : drI (s', gH σ) (k + 1) = ((drI (s', gH σ) k).1 * 16807 % 2147483647, drwH (drI (s', gH σ) k).2 ((drI (s', gH σ) k).1 * 16807 % 2147483647)) := rfl
            by_cases hkn : k < n'
            · generalize hx : (drI (s', gH σ) k).1 = x at b1 hst ⊢
              generalize hHk : (drI (s', gH σ) k).2 = H at b2 b3 b4 hst ⊢
              have hml := Nat.mod_lt (x * 16807) (show 2147483647 > 0 by decide)
              have e1 : lN x * lN 16807 = lN (x * 16807) := lN_mul _ _
              have e2 : lN (x * 16807) - lN (x * 16807) / lN 2147483647 * lN 2147483647 = lN (x * 16807 % 2147483647) := lN_rem (by omega) (by decide)
              generalize hX : x * 16807 % 2147483647 = X at hml e2 hst
              have w8 := b2.1.1
              have dk := drwH_w b2 (by omega) X
              have hkk := Nat.mod_lt X (show H.1 > 0 by omega)
              have z := b4.n
              have e00 : (nI H.1).toInt64 = lN H.1 := nI_l (by omega)
              have n0 : ¬ lN H.1 = 0 := fun q => by
                have := congrArg Int64.toInt q
                rw [lN_ti (by omega)] at this
                have h1 : (0 : Int64).toInt = 0 := by decide
                omega
              have r1 : lN X - lN X / lN H.1 * lN H.1 = lN (X % H.1) := lN_rem (by omega) (by omega)
              have d8 : lN X / lN 8 = lN (X / 8) := lN_div (by omega) (by omega)
              have d64 : lN X / lN 64 = lN (X / 64) := lN_div (by omega) (by omega)
              have d512 : lN X / lN 512 = lN (X / 512) := lN_div (by omega) (by omega)
              have r2 : lN (X / 8) - lN (X / 8) / lN 6 * lN 6 = lN (X / 8 % 6) := lN_rem (by omega) (by omega)
              have r3 : lN (X / 64) - lN (X / 64) / lN 8 * lN 8 = lN (X / 64 % 8) := lN_rem (by omega) (by omega)
              have r4 : lN (X / 512) - lN (X / 512) / lN 8 * lN 8 = lN (X / 512 % 8) := lN_rem (by omega) (by omega)
              have i1 : (lN (X % H.1)).toInt32 = nI (X % H.1) := lN_i _
              have i2 : (lN (X / 8 % 6)).toInt32 = nI (X / 8 % 6) := lN_i _
              have i3 : (lN (X / 64 % 8)).toInt32 = nI (X / 64 % 8) := lN_i _
              have i4 : (lN (X / 512 % 8)).toInt32 = nI (X / 512 % 8) := lN_i _
              have q := fun M3 => ih (k + 1, M3) (by dsimp only; omega) (by dsimp only; omega)
              dsimp only at q
              rw [hst] at q
              dsimp only at q
              have nxt : ∀ M3, RowAt M3 125 0 (drwH H X) → MFr M2 M3 [125] [] → sW G m_Mo_drawn 63 ([], [some (.ref 119), some (.int (nI n')), some (.int (nI s')), some (.int (nI w')), some (.long (lN X)), none, some (.int (nI (k + 1))), none, none, none, none], M3) (MOk M (cif (nI w' = nI 0) (nI (gH σ).1 - nI (pop (empM (drI (s', gH σ) n').2))) (nI (cntK (Kw (drI (s', gH σ) n').2) 256)), σ)) := fun M3 a b => q M3 hml dk.1 (dk.2.trans b3) a (b5.tr b)
              refine sW_go b_Mo_drawn_63 (st' := ([.int (nI n'), .int (nI k)], [some (.ref 119), some (.int (nI n')), some (.int (nI s')), some (.int (nI w')), some (.long (lN x)), none, some (.int (nI k)), none, none, none, none], M2)) (φ := True) rfl trivial ?_
              refine sW_ic_ge 202 d_Mo_drawn_66 (by decide) (fun c_66 => ?_) (fun c_66 => ?_)
              · skip
                simp (disch := omega) only [nI_leI] at c_66
                omega
              · skip
                simp (disch := omega) only [nI_leI] at c_66
                refine sW_go b_Mo_drawn_69 (st' := ([.int ((((lN x * lN 16807) - (lN x * lN 16807) / lN 2147483647 * lN 2147483647) / lN 512) - (((lN x * lN 16807) - (lN x * lN 16807) / lN 2147483647 * lN 2147483647) / lN 512) / lN 8 * lN 8).toInt32, .int ((((lN x * lN 16807) - (lN x * lN 16807) / lN 2147483647 * lN 2147483647) / lN 64) - (((lN x * lN 16807) - (lN x * lN 16807) / lN 2147483647 * lN 2147483647) / lN 64) / lN 8 * lN 8).toInt32, .int ((((lN x * lN 16807) - (lN x * lN 16807) / lN 2147483647 * lN 2147483647) / lN 8) - (((lN x * lN 16807) - (lN x * lN 16807) / lN 2147483647 * lN 2147483647) / lN 8) / lN 6 * lN 6).toInt32, .int (((lN x * lN 16807) - (lN x * lN 16807) / lN 2147483647 * lN 2147483647) - ((lN x * lN 16807) - (lN x * lN 16807) / lN 2147483647 * lN 2147483647) / (M2 125 (nI 0).toNatClampNeg).toInt64 * (M2 125 (nI 0).toNatClampNeg).toInt64).toInt32, .int (M2 125 (nI 0).toNatClampNeg)], [some (.ref 119), some (.int (nI n')), some (.int (nI s')), some (.int (nI w')), some (.long ((lN x * lN 16807) - (lN x * lN 16807) / lN 2147483647 * lN 2147483647)), none, some (.int (nI k)), some (.int (((lN x * lN 16807) - (lN x * lN 16807) / lN 2147483647 * lN 2147483647) - ((lN x * lN 16807) - (lN x * lN 16807) / lN 2147483647 * lN 2147483647) / (M2 125 (nI 0).toNatClampNeg).toInt64 * (M2 125 (nI 0).toNatClampNeg).toInt64).toInt32), some (.int ((((lN x * lN 16807) - (lN x * lN 16807) / lN 2147483647 * lN 2147483647) / lN 8) - (((lN x * lN 16807) - (lN x * lN 16807) / lN 2147483647 * lN 2147483647) / lN 8) / lN 6 * lN 6).toInt32), some (.int ((((lN x * lN 16807) - (lN x * lN 16807) / lN 2147483647 * lN 2147483647) / lN 64) - (((lN x * lN 16807) - (lN x * lN 16807) / lN 2147483647 * lN 2147483647) / lN 64) / lN 8 * lN 8).toInt32), some (.int ((((lN x * lN 16807) - (lN x * lN 16807) / lN 2147483647 * lN 2147483647) / lN 512) - (((lN x * lN 16807) - (lN x * lN 16807) / lN 2147483647 * lN 2147483647) / lN 512) / lN 8 * lN 8).toInt32)], M2)) (φ := ¬ (lN 2147483647) = 0 ∧ mx_ocl LAY 119 = 10 ∧ vp_in (nI 0) (mx_len LAY false 125) ∧ ¬ (M2 125 (nI 0).toNatClampNeg).toInt64 = 0 ∧ ¬ (lN 8) = 0 ∧ ¬ (lN 6) = 0 ∧ ¬ (lN 64) = 0 ∧ ¬ (lN 8) = 0 ∧ ¬ (lN 512) = 0 ∧ ¬ (lN 8) = 0 ∧ mx_ocl LAY 119 = 10 ∧ vp_in (nI 0) (mx_len LAY false 125) ∧ True) rfl ⟨(by decide +kernel), oc_119, (by simp (disch := omega) only [ln_125]; exact vp_in_nI (by omega) (by decide)), (by simp (disch := omega) only [nI_clamp, z, e00]; exact n0), (by decide +kernel), (by decide +kernel), (by decide +kernel), (by decide +kernel), (by decide +kernel), (by decide +kernel), oc_119, (by simp (disch := omega) only [ln_125]; exact vp_in_nI (by omega) (by decide)), trivial⟩ ?_
                refine sW_eq (st' := ([.int (nI (X / 512 % 8)), .int (nI (X / 64 % 8)), .int (nI (X / 8 % 6)), .int (nI (X % H.1)), .int (nI H.1)], [some (.ref 119), some (.int (nI n')), some (.int (nI s')), some (.int (nI w')), some (.long (lN X)), none, some (.int (nI k)), some (.int (nI (X % H.1))), some (.int (nI (X / 8 % 6))), some (.int (nI (X / 64 % 8))), some (.int (nI (X / 512 % 8)))], M2)) (by simp (disch := omega) only [d512, d64, d8, e00, e1, e2, i1, i2, i3, i4, nI_clamp, r1, r2, r3, r4, z]) ?_
                refine sW_callS [.int (nI H.1), .int (nI (X % H.1)), .int (nI (X / 8 % 6)), .int (nI (X / 64 % 8)), .int (nI (X / 512 % 8))] [] d_Mo_drawn_147 c_Mo_drawn_147 ⟨rfl, rfl, Nat.le_of_ble_eq_true rfl, rfl, rfl⟩ (k_may G hkk w8 (show X / 8 % 6 < 6 by omega) (nI (X / 64 % 8)) (nI (X / 512 % 8))) ?_
                rintro _ M₁ ⟨rfl, h₁⟩
                rw [h₁]
                show sW G m_Mo_drawn 150 ([.int (tf (mayP H.1 (nI (X % H.1)) (nI (X / 8 % 6)) (nI (X / 64 % 8)) (nI (X / 512 % 8))))], [some (.ref 119), some (.int (nI n')), some (.int (nI s')), some (.int (nI w')), some (.long (lN X)), none, some (.int (nI k)), some (.int (nI (X % H.1))), some (.int (nI (X / 8 % 6))), some (.int (nI (X / 64 % 8))), some (.int (nI (X / 512 % 8)))], M2) _
                refine sW_if_eq 196 d_Mo_drawn_150 (by decide) (fun c_150 => ?_) (fun c_150 => ?_)
                · skip
                  replace c_150 := tf_z.mp c_150
                  refine sW_go b_Mo_drawn_196 (st' := ([], [some (.ref 119), some (.int (nI n')), some (.int (nI s')), some (.int (nI w')), some (.long (lN X)), none, some (.int (nI k + nI 1)), some (.int (nI (X % H.1))), some (.int (nI (X / 8 % 6))), some (.int (nI (X / 64 % 8))), some (.int (nI (X / 512 % 8)))], M2)) (φ := True) rfl trivial ?_
                  refine sW_eq (st' := ([], [some (.ref 119), some (.int (nI n')), some (.int (nI s')), some (.int (nI w')), some (.long (lN X)), none, some (.int (nI (k + 1))), some (.int (nI (X % H.1))), some (.int (nI (X / 8 % 6))), some (.int (nI (X / 64 % 8))), some (.int (nI (X / 512 % 8)))], M2)) (by simp (disch := omega) only [nI_add]) ?_
                  refine sW_goto 63 d_Mo_drawn_199 (by decide) ?_
                  refine sW_fg [false, false, false, false, false, false, false, true, true, true, true] ?_
                  show sW G m_Mo_drawn 63 ([], [some (.ref 119), some (.int (nI n')), some (.int (nI s')), some (.int (nI w')), some (.long (lN X)), none, some (.int (nI (k + 1))), none, none, none, none], M2) _
                  refine nxt M2 ?_ MFr.rf
                  unfold drwH
                  rw [cif_f c_150]
                  exact b4
                · skip
                  replace c_150 := tf_nz.mp c_150
                  refine sW_go b_Mo_drawn_153 (st' := ([], [some (.ref 119), some (.int (nI n')), some (.int (nI s')), some (.int (nI w')), some (.long (lN X)), none, some (.int (nI k)), some (.int (nI (X % H.1))), some (.int (nI (X / 8 % 6))), some (.int (nI (X / 64 % 8))), some (.int (nI (X / 512 % 8)))], mx_wr (mx_wr (mx_wr M2 125 (nI 2 + (nI 3 * nI (X % H.1))).toNatClampNeg (nI (X / 8 % 6))) 125 ((nI 2 + (nI 3 * nI (X % H.1))) + nI 1).toNatClampNeg (nI (X / 64 % 8))) 125 ((nI 2 + (nI 3 * nI (X % H.1))) + nI 2).toNatClampNeg (nI (X / 512 % 8)))) (φ := mx_ocl LAY 119 = 10 ∧ vp_in (nI 2 + (nI 3 * nI (X % H.1))) (mx_len LAY false 125) ∧ mx_ocl LAY 119 = 10 ∧ vp_in ((nI 2 + (nI 3 * nI (X % H.1))) + nI 1) (mx_len LAY false 125) ∧ mx_ocl LAY 119 = 10 ∧ vp_in ((nI 2 + (nI 3 * nI (X % H.1))) + nI 2) (mx_len LAY false 125) ∧ True) rfl ⟨oc_119, (by simp (disch := omega) only [nI_add, pk_mul, ln_125]; exact vp_in_nI (by omega) (by decide)), oc_119, (by simp (disch := omega) only [nI_add, pk_mul, ln_125]; exact vp_in_nI (by omega) (by decide)), oc_119, (by simp (disch := omega) only [nI_add, pk_mul, ln_125]; exact vp_in_nI (by omega) (by decide)), trivial⟩ ?_
                  refine sW_eq (st' := ([], [some (.ref 119), some (.int (nI n')), some (.int (nI s')), some (.int (nI w')), some (.long (lN X)), none, some (.int (nI k)), some (.int (nI (X % H.1))), some (.int (nI (X / 8 % 6))), some (.int (nI (X / 64 % 8))), some (.int (nI (X / 512 % 8)))], mx_wr (mx_wr (mx_wr M2 125 (2 + 3 * (X % H.1)) (nI (X / 8 % 6))) 125 (2 + 3 * (X % H.1) + 1) (nI (X / 64 % 8))) 125 (2 + 3 * (X % H.1) + 2) (nI (X / 512 % 8)))) (by simp (disch := omega) only [nI_add, nI_clamp, pk_mul]) ?_
                  refine sW_go b_Mo_drawn_196 (st' := ([], [some (.ref 119), some (.int (nI n')), some (.int (nI s')), some (.int (nI w')), some (.long (lN X)), none, some (.int (nI k + nI 1)), some (.int (nI (X % H.1))), some (.int (nI (X / 8 % 6))), some (.int (nI (X / 64 % 8))), some (.int (nI (X / 512 % 8)))], mx_wr (mx_wr (mx_wr M2 125 (2 + 3 * (X % H.1)) (nI (X / 8 % 6))) 125 (2 + 3 * (X % H.1) + 1) (nI (X / 64 % 8))) 125 (2 + 3 * (X % H.1) + 2) (nI (X / 512 % 8)))) (φ := True) rfl trivial ?_
                  refine sW_eq (st' := ([], [some (.ref 119), some (.int (nI n')), some (.int (nI s')), some (.int (nI w')), some (.long (lN X)), none, some (.int (nI (k + 1))), some (.int (nI (X % H.1))), some (.int (nI (X / 8 % 6))), some (.int (nI (X / 64 % 8))), some (.int (nI (X / 512 % 8)))], mx_wr (mx_wr (mx_wr M2 125 (2 + 3 * (X % H.1)) (nI (X / 8 % 6))) 125 (2 + 3 * (X % H.1) + 1) (nI (X / 64 % 8))) 125 (2 + 3 * (X % H.1) + 2) (nI (X / 512 % 8)))) (by simp (disch := omega) only [nI_add]) ?_
                  refine sW_goto 63 d_Mo_drawn_199 (by decide) ?_
                  refine sW_fg [false, false, false, false, false, false, false, true, true, true, true] ?_
                  show sW G m_Mo_drawn 63 ([], [some (.ref 119), some (.int (nI n')), some (.int (nI s')), some (.int (nI w')), some (.long (lN X)), none, some (.int (nI (k + 1))), none, none, none, none], mx_wr (mx_wr (mx_wr M2 125 (2 + 3 * (X % H.1)) (nI (X / 8 % 6))) 125 (2 + 3 * (X % H.1) + 1) (nI (X / 64 % 8))) 125 (2 + 3 * (X % H.1) + 2) (nI (X / 512 % 8))) _
                  refine nxt (mx_wr (mx_wr (mx_wr M2 125 (2 + 3 * (X % H.1)) (nI (X / 8 % 6))) 125 (2 + 3 * (X % H.1) + 1) (nI (X / 64 % 8))) 125 (2 + 3 * (X % H.1) + 2) (nI (X / 512 % 8))) ?_ (((MFr.rf.wr (by decide) (by decide)).wr (by decide) (by decide)).wr (by decide) (by decide))
                  unfold drwH
                  rw [cif_t c_150]
                  exact b4.tell
            · have hke : k = n' := by omega
              subst hke
              generalize hx : (drI (s', gH σ) k).1 = x at b1 hst ⊢
              refine sW_go b_Mo_drawn_63 (st' := ([.int (nI k), .int (nI k)], [some (.ref 119), some (.int (nI k)), some (.int (nI s')), some (.int (nI w')), some (.long (lN x)), none, some (.int (nI k)), none, none, none, none], M2)) (φ := True) rfl trivial ?_
              refine sW_ic_ge 202 d_Mo_drawn_66 (by decide) (fun c_66 => ?_) (fun c_66 => ?_)
              · skip
                simp (disch := omega) only [nI_leI] at c_66
                exact k_mdrawn202 G (f0.tr (b5.fr (by decide))) (h0.scr (b5.mono (by decide) (by decide))) b4 b2 b3 (by omega) (by omega)
              · skip
                simp (disch := omega) only [nI_leI] at c_66
                omega
          · skip
            replace c_46 := tf_z.mp c_46
            refine sW_go b_Mo_drawn_49 (st' := ([.int (-1000001)], [some (.ref 119), some (.int (nI n')), some (.int (nI s')), some (.int (nI w')), none, none, none, none, none, none, none], M0)) (φ := True) rfl trivial ?_
            refine sW_retI d_Mo_drawn_51 rfl (vp_nar_int _) ?_
            exact absurd h4 c_46
    · skip
      replace c_9 := tf_z.mp c_9
      refine sW_go b_Mo_drawn_12 (st' := ([.int (-1000002)], [some (.ref 119), some (.int (nI n')), some (.int (nI s')), some (.int (nI w')), none, none, none, none, none, none, none], M0)) (φ := True) rfl trivial ?_
      refine sW_retI d_Mo_drawn_14 rfl (vp_nar_int _) ?_
      rw [if_pos (Classical.not_not.mp c_9)]
      exact ⟨rfl, f0, h0⟩
  · unfold sp_drawn
    rw [cif_f hc]
    refine sOk_of ⟨by decide +kernel, by decide +kernel, Nat.le_of_ble_eq_true rfl⟩ ?_
    show sW G m_Mo_drawn 0 ([], [some (.ref 119), some (.int n), some (.int s), some (.int w), none, none, none, none, none, none, none], M) _
    refine sW_go b_Mo_drawn_0 (st' := ([.ref 119], [some (.ref 119), some (.int n), some (.int s), some (.int w), none, none, none, none, none, none, none], mx_wr M 119 0 (nI 0))) (φ := mx_ocl LAY 119 = 10 ∧ True) rfl ⟨oc_119, trivial⟩ ?_
    refine sW_eq (st' := ([.ref 119], [some (.ref 119), some (.int n), some (.int s), some (.int w), none, none, none, none, none, none, none], M0)) (by simp (disch := omega) only [e0]) ?_
    refine sW_callV 10 [] [] d_Mo_drawn_6 c_Mo_drawn_6 ⟨rfl, rfl, rfl, Nat.le_of_ble_eq_true rfl, rfl, rfl⟩ oc_119 (k_isThere G hR h8) ?_
    rintro _ M₁ ⟨rfl, h₁⟩
    rw [h₁]
    show sW G m_Mo_drawn 9 ([.int (tf ((gH σ).1 ≠ 0))], [some (.ref 119), some (.int n), some (.int s), some (.int w), none, none, none, none, none, none, none], M0) _
    refine sW_if_ne 15 d_Mo_drawn_9 (by decide) (fun c_9 => ?_) (fun c_9 => ?_)
    · skip
      replace c_9 := tf_nz.mp c_9
      refine sW_go b_Mo_drawn_15 (st' := ([.long (lN 20), .long (lN 0), .long n.toInt64], [some (.ref 119), some (.int n), some (.int s), some (.int w), none, none, none, none, none, none, none], M0)) (φ := True) rfl trivial ?_
      refine sW_callS [.long n.toInt64, .long (lN 0), .long (lN 20)] [] d_Mo_drawn_21 c_Mo_drawn_21 ⟨rfl, rfl, Nat.le_of_ble_eq_true rfl, rfl, rfl⟩ (k_in0 G n 20 (by decide)) ?_
      rintro _ M₁ ⟨rfl, h₁⟩
      rw [h₁]
      show sW G m_Mo_drawn 24 ([.int (tf (vp_in n 21))], [some (.ref 119), some (.int n), some (.int s), some (.int w), none, none, none, none, none, none, none], M0) _
      refine sW_if_eq 49 d_Mo_drawn_24 (by decide) (fun c_24 => ?_) (fun c_24 => ?_)
      · skip
        replace c_24 := tf_z.mp c_24
        refine sW_go b_Mo_drawn_49 (st' := ([.int (-1000001)], [some (.ref 119), some (.int n), some (.int s), some (.int w), none, none, none, none, none, none, none], M0)) (φ := True) rfl trivial ?_
        refine sW_retI d_Mo_drawn_51 rfl (vp_nar_int _) ?_
        rw [if_neg c_9]; exact ⟨rfl, f0, h0⟩
      · skip
        replace c_24 := tf_nz.mp c_24
        refine sW_go b_Mo_drawn_27 (st' := ([.long (lN 999999), .long (lN 1), .long s.toInt64], [some (.ref 119), some (.int n), some (.int s), some (.int w), none, none, none, none, none, none, none], M0)) (φ := True) rfl trivial ?_
        refine sW_callS [.long s.toInt64, .long (lN 1), .long (lN 999999)] [] d_Mo_drawn_33 c_Mo_drawn_33 ⟨rfl, rfl, Nat.le_of_ble_eq_true rfl, rfl, rfl⟩ (k_in1 G s 999999 (by decide)) ?_
        rintro _ M₁ ⟨rfl, h₁⟩
        rw [h₁]
        show sW G m_Mo_drawn 36 ([.int (tf (nI 1 ≤ s ∧ s ≤ nI 999999))], [some (.ref 119), some (.int n), some (.int s), some (.int w), none, none, none, none, none, none, none], M0) _
        refine sW_if_eq 49 d_Mo_drawn_36 (by decide) (fun c_36 => ?_) (fun c_36 => ?_)
        · skip
          replace c_36 := tf_z.mp c_36
          refine sW_go b_Mo_drawn_49 (st' := ([.int (-1000001)], [some (.ref 119), some (.int n), some (.int s), some (.int w), none, none, none, none, none, none, none], M0)) (φ := True) rfl trivial ?_
          refine sW_retI d_Mo_drawn_51 rfl (vp_nar_int _) ?_
          rw [if_neg c_9]; exact ⟨rfl, f0, h0⟩
        · skip
          replace c_36 := tf_nz.mp c_36
          refine sW_go b_Mo_drawn_39 (st' := ([.long (lN 1), .long (lN 0), .long w.toInt64], [some (.ref 119), some (.int n), some (.int s), some (.int w), none, none, none, none, none, none, none], M0)) (φ := True) rfl trivial ?_
          refine sW_callS [.long w.toInt64, .long (lN 0), .long (lN 1)] [] d_Mo_drawn_43 c_Mo_drawn_43 ⟨rfl, rfl, Nat.le_of_ble_eq_true rfl, rfl, rfl⟩ (k_in0 G w 1 (by decide)) ?_
          rintro _ M₁ ⟨rfl, h₁⟩
          rw [h₁]
          show sW G m_Mo_drawn 46 ([.int (tf (vp_in w 2))], [some (.ref 119), some (.int n), some (.int s), some (.int w), none, none, none, none, none, none, none], M0) _
          refine sW_if_ne 52 d_Mo_drawn_46 (by decide) (fun c_46 => ?_) (fun c_46 => ?_)
          · skip
            replace c_46 := tf_nz.mp c_46
            exact absurd ⟨c_24, c_36, c_46⟩ hc
          · skip
            replace c_46 := tf_z.mp c_46
            refine sW_go b_Mo_drawn_49 (st' := ([.int (-1000001)], [some (.ref 119), some (.int n), some (.int s), some (.int w), none, none, none, none, none, none, none], M0)) (φ := True) rfl trivial ?_
            refine sW_retI d_Mo_drawn_51 rfl (vp_nar_int _) ?_
            rw [if_neg c_9]; exact ⟨rfl, f0, h0⟩
    · skip
      replace c_9 := tf_z.mp c_9
      refine sW_go b_Mo_drawn_12 (st' := ([.int (-1000002)], [some (.ref 119), some (.int n), some (.int s), some (.int w), none, none, none, none, none, none, none], M0)) (φ := True) rfl trivial ?_
      refine sW_retI d_Mo_drawn_14 rfl (vp_nar_int _) ?_
      rw [if_pos (Classical.not_not.mp c_9)]; exact ⟨rfl, f0, h0⟩

