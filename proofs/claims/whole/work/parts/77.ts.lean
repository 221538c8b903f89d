theorem ts_drawn (G : mx_G) {M : mx_M} {σ : Sg} (h : CInv M σ) (hg : GOk σ) (n s w : Int32) : sOk G m_TS_drawn [.ref 0, .int n, .int s, .int w] M (COk M (sp_drawn σ n s w)) := by
  have hH := h.2.2.1
  have h8 := hg.1.1.1
  have m0 : (0 : Int32).toInt = 0 := by decide
  by_cases hc : vp_in n 21 ∧ (nI 1 ≤ s ∧ s ≤ nI 999999) ∧ vp_in w 2
  · obtain ⟨h1, ⟨h2, h3⟩, h4⟩ := id hc
    obtain ⟨n', hn, rfl⟩ := vp_in_of h1 (by decide)
    obtain ⟨w', hw, rfl⟩ := vp_in_of h4 (by decide)
    have hs : ∃ s' : Nat, 1 ≤ s' ∧ s' ≤ 999999 ∧ s = nI s' := by
      rw [Int32.le_iff_toInt_le, nI_toInt (by decide)] at h2 h3
      obtain ⟨k, hk, rfl⟩ := nat_of (i := s) (by omega)
      rw [nI_toInt hk] at h2 h3
      exact ⟨k, by omega, by omega, rfl⟩
    obtain ⟨s', s1, s2, rfl⟩ := hs
    have hn0 : ¬ nI n' < 0 := fun q => h1 (Or.inl q)
    have hw0 : ¬ nI w' < 0 := fun q => h4 (Or.inl q)
    unfold sp_drawn
    rw [cif_t hc, show tn (nI n') = n' from nI_clamp (by omega), show tn (nI s') = s' from nI_clamp (by omega)]
    have e64 : (nI s').toInt64 = lN s' := nI_l (by omega)
    refine sOk_of ⟨by decide +kernel, by decide +kernel, Nat.le_of_ble_eq_true rfl⟩ ?_
    show sW G m_TS_drawn 0 ([], [some (.ref 0), some (.int (nI n')), some (.int (nI s')), some (.int (nI w')), none, none, none], M) _
    refine sW_go b_TS_drawn_0 (st' := ([.ref 7], [some (.ref 0), some (.int (nI n')), some (.int (nI s')), some (.int (nI w')), none, none, none], M)) (φ := mx_ocl LAY 0 = 9 ∧ True) rfl ⟨oc_0, trivial⟩ ?_
    refine sW_callV 3 [] [] d_TS_drawn_4 c_TS_drawn_4 ⟨rfl, rfl, rfl, Nat.le_of_ble_eq_true rfl, rfl, rfl⟩ oc_7 (k_House_isNone G oc_7 hH.1 h8) ?_
    rintro _ M₁ ⟨rfl, h₁⟩
    rw [h₁]
    show sW G m_TS_drawn 7 ([.int (tf ((gH σ).1 = 0))], [some (.ref 0), some (.int (nI n')), some (.int (nI s')), some (.int (nI w')), none, none, none], M) _
    refine sW_if_eq 13 d_TS_drawn_7 (by decide) (fun c_7 => ?_) (fun c_7 => ?_)
    · skip
      replace c_7 := tf_z.mp c_7
      refine sW_go b_TS_drawn_13 (st' := ([.int (nI n')], [some (.ref 0), some (.int (nI n')), some (.int (nI s')), some (.int (nI w')), none, none, none], M)) (φ := True) rfl trivial ?_
      refine sW_if_lt 43 d_TS_drawn_14 (by decide) (fun c_14 => ?_) (fun c_14 => ?_)
      · skip
        refine sW_go b_TS_drawn_43 (st' := ([.int (-1000001)], [some (.ref 0), some (.int (nI n')), some (.int (nI s')), some (.int (nI w')), none, none, none], M)) (φ := True) rfl trivial ?_
        refine sW_retI d_TS_drawn_45 rfl (vp_nar_int _) ?_
        exact absurd c_14 hn0
      · skip
        refine sW_go b_TS_drawn_17 (st' := ([.int (nI 20), .int (nI n')], [some (.ref 0), some (.int (nI n')), some (.int (nI s')), some (.int (nI w')), none, none, none], M)) (φ := True) rfl trivial ?_
        refine sW_ic_gt 43 d_TS_drawn_20 (by decide) (fun c_20 => ?_) (fun c_20 => ?_)
        · skip
          simp (disch := omega) only [nI_ltI] at c_20
          refine sW_go b_TS_drawn_43 (st' := ([.int (-1000001)], [some (.ref 0), some (.int (nI n')), some (.int (nI s')), some (.int (nI w')), none, none, none], M)) (φ := True) rfl trivial ?_
          refine sW_retI d_TS_drawn_45 rfl (vp_nar_int _) ?_
          omega
        · skip
          simp (disch := omega) only [nI_ltI] at c_20
          refine sW_go b_TS_drawn_23 (st' := ([.int (nI 1), .int (nI s')], [some (.ref 0), some (.int (nI n')), some (.int (nI s')), some (.int (nI w')), none, none, none], M)) (φ := True) rfl trivial ?_
          refine sW_ic_lt 43 d_TS_drawn_25 (by decide) (fun c_25 => ?_) (fun c_25 => ?_)
          · skip
            simp (disch := omega) only [nI_ltI] at c_25
            refine sW_go b_TS_drawn_43 (st' := ([.int (-1000001)], [some (.ref 0), some (.int (nI n')), some (.int (nI s')), some (.int (nI w')), none, none, none], M)) (φ := True) rfl trivial ?_
            refine sW_retI d_TS_drawn_45 rfl (vp_nar_int _) ?_
            omega
          · skip
            simp (disch := omega) only [nI_ltI] at c_25
            refine sW_go b_TS_drawn_28 (st' := ([.int (nI 999999), .int (nI s')], [some (.ref 0), some (.int (nI n')), some (.int (nI s')), some (.int (nI w')), none, none, none], M)) (φ := True) rfl trivial ?_
            refine sW_ic_gt 43 d_TS_drawn_31 (by decide) (fun c_31 => ?_) (fun c_31 => ?_)
            · skip
              simp (disch := omega) only [nI_ltI] at c_31
              refine sW_go b_TS_drawn_43 (st' := ([.int (-1000001)], [some (.ref 0), some (.int (nI n')), some (.int (nI s')), some (.int (nI w')), none, none, none], M)) (φ := True) rfl trivial ?_
              refine sW_retI d_TS_drawn_45 rfl (vp_nar_int _) ?_
              omega
            · skip
              simp (disch := omega) only [nI_ltI] at c_31
              refine sW_go b_TS_drawn_34 (st' := ([.int (nI w')], [some (.ref 0), some (.int (nI n')), some (.int (nI s')), some (.int (nI w')), none, none, none], M)) (φ := True) rfl trivial ?_
              refine sW_if_lt 43 d_TS_drawn_35 (by decide) (fun c_35 => ?_) (fun c_35 => ?_)
              · skip
                refine sW_go b_TS_drawn_43 (st' := ([.int (-1000001)], [some (.ref 0), some (.int (nI n')), some (.int (nI s')), some (.int (nI w')), none, none, none], M)) (φ := True) rfl trivial ?_
                refine sW_retI d_TS_drawn_45 rfl (vp_nar_int _) ?_
                exact absurd c_35 hw0
              · skip
                refine sW_go b_TS_drawn_38 (st' := ([.int (nI 1), .int (nI w')], [some (.ref 0), some (.int (nI n')), some (.int (nI s')), some (.int (nI w')), none, none, none], M)) (φ := True) rfl trivial ?_
                refine sW_ic_le 46 d_TS_drawn_40 (by decide) (fun c_40 => ?_) (fun c_40 => ?_)
                · skip
                  simp (disch := omega) only [nI_leI] at c_40
                  refine sW_go b_TS_drawn_46 (st' := ([.ref 7, .ref 11], [some (.ref 0), some (.int (nI n')), some (.int (nI s')), some (.int (nI w')), none, none, none], M)) (φ := mx_ocl LAY 0 = 9 ∧ mx_ocl LAY 0 = 9 ∧ True) rfl ⟨oc_0, oc_0, trivial⟩ ?_
                  refine sW_callV 3 [.ref 7] [] d_TS_drawn_54 c_TS_drawn_54 ⟨rfl, rfl, rfl, Nat.le_of_ble_eq_true rfl, rfl, rfl⟩ oc_11 (k_House_takeFrom G oc_11 oc_7 (by decide)) ?_
                  rintro _ M1 ⟨rfl, f1, a1, a2, a3⟩
                  show sW G m_TS_drawn 57 ([], [some (.ref 0), some (.int (nI n')), some (.int (nI s')), some (.int (nI w')), none, none, none], M1) _
                  refine sW_go b_TS_drawn_57 (st' := ([], [some (.ref 0), some (.int (nI n')), some (.int (nI s')), some (.int (nI w')), some (.long (nI s').toInt64), none, some (.int (nI 0))], M1)) (φ := True) rfl trivial ?_
                  refine sW_eq (st' := ([], [some (.ref 0), some (.int (nI n')), some (.int (nI s')), some (.int (nI w')), some (.long (lN s')), none, some (.int (nI 0))], M1)) (by simp (disch := omega) only [e64]) ?_
                  rw [if_neg c_7]
                  refine mx_ind (α := Nat × mx_M) (fun a => n' - a.1) (fun a => a.1 ≤ n' → (drI (s', gH σ) a.1).1 < 2147483647 → HsOk (drI (s', gH σ) a.1).2 → (drI (s', gH σ) a.1).2.1 = (gH σ).1 → HsAt a.2 11 (drI (s', gH σ) a.1).2 → Fr M a.2 0 119 → CInv a.2 σ → sW G m_TS_drawn 64 ([], [some (.ref 0), some (.int (nI n')), some (.int (nI s')), some (.int (nI w')), some (.long (lN (drI (s', gH σ) a.1).1)), none, some (.int (nI a.1))], a.2) _) ?_ (0, M1) (Nat.zero_le _) (by show s' < 2147483647; omega) hg.1.1 rfl (hH.take h8 a1 a2 a3) (f1.mono (by decide) (by decide)) (h.trial f1)
                  rintro ⟨k, M2⟩ ih hk b1 b2 b3 b4 b5 b6
                  dsimp only at ih hk b1 b2 b3 b4 b5 b6 ⊢
                  have hst : drI (s', gH σ) (k + 1) = ((drI (s', gH σ) k).1 * 16807 % 2147483647, drwH (drI (s', gH σ) k).2 ((drI (s', gH σ) k).1 * 16807 % 2147483647)) := rfl
                  by_cases hkn : k < n'
                  · generalize hx : (drI (s', gH σ) k).1 = x at b1 hst ⊢
                    generalize hHk : (drI (s', gH σ) k).2 = Hk at b2 b3 b4 hst ⊢
                    have hml := Nat.mod_lt (x * 16807) (show 2147483647 > 0 by decide)
                    have e1 : lN x * lN 16807 = lN (x * 16807) := lN_mul _ _
                    have e2 : lN (x * 16807) - lN (x * 16807) / lN 2147483647 * lN 2147483647 = lN (x * 16807 % 2147483647) := lN_rem (by omega) (by decide)
                    have dk := drwH_ok b2 (x * 16807 % 2147483647)
                    refine sW_go b_TS_drawn_64 (st' := ([.int (nI n'), .int (nI k)], [some (.ref 0), some (.int (nI n')), some (.int (nI s')), some (.int (nI w')), some (.long (lN x)), none, some (.int (nI k))], M2)) (φ := True) rfl trivial ?_
                    refine sW_ic_ge 94 d_TS_drawn_67 (by decide) (fun c_67 => ?_) (fun c_67 => ?_)
                    · skip
                      simp (disch := omega) only [nI_leI] at c_67
                      omega
                    · skip
                      simp (disch := omega) only [nI_leI] at c_67
                      refine sW_go b_TS_drawn_70 (st' := ([.long ((lN x * lN 16807) - (lN x * lN 16807) / lN 2147483647 * lN 2147483647), .ref 0], [some (.ref 0), some (.int (nI n')), some (.int (nI s')), some (.int (nI w')), some (.long ((lN x * lN 16807) - (lN x * lN 16807) / lN 2147483647 * lN 2147483647)), none, some (.int (nI k))], M2)) (φ := ¬ (lN 2147483647) = 0 ∧ True) rfl ⟨(by decide +kernel), trivial⟩ ?_
                      refine sW_eq (st' := ([.long (lN (x * 16807 % 2147483647)), .ref 0], [some (.ref 0), some (.int (nI n')), some (.int (nI s')), some (.int (nI w')), some (.long (lN (x * 16807 % 2147483647))), none, some (.int (nI k))], M2)) (by simp (disch := omega) only [e1, e2]) ?_
                      refine sW_callV 9 [.long (lN (x * 16807 % 2147483647))] [] d_TS_drawn_85 c_TS_drawn_85 ⟨rfl, rfl, rfl, Nat.le_of_ble_eq_true rfl, rfl, rfl⟩ oc_0 (k_drawEq G b4 b2 (by omega) (by omega)) ?_
                      rintro _ M3 ⟨rfl, f3, g3⟩
                      show sW G m_TS_drawn 88 ([], [some (.ref 0), some (.int (nI n')), some (.int (nI s')), some (.int (nI w')), some (.long (lN (x * 16807 % 2147483647))), none, some (.int (nI k))], M3) _
                      refine sW_go b_TS_drawn_88 (st' := ([], [some (.ref 0), some (.int (nI n')), some (.int (nI s')), some (.int (nI w')), some (.long (lN (x * 16807 % 2147483647))), none, some (.int (nI k + nI 1))], M3)) (φ := True) rfl trivial ?_
                      refine sW_eq (st' := ([], [some (.ref 0), some (.int (nI n')), some (.int (nI s')), some (.int (nI w')), some (.long (lN (x * 16807 % 2147483647))), none, some (.int (nI (k + 1)))], M3)) (by simp (disch := omega) only [nI_add]) ?_
                      refine sW_goto 64 d_TS_drawn_91 (by decide) ?_
                      have q := ih (k + 1, M3) (by dsimp only; omega) (by dsimp only; omega)
                      dsimp only at q
                      rw [hst] at q
                      exact q hml dk.1 (dk.2.trans b3) g3 (b5.tr (f3.mono (by decide) (by decide))) (b6.trial f3)
                  · have hke : k = n' := by omega
                    subst hke
                    generalize hx : (drI (s', gH σ) k).1 = x at b1 hst ⊢
                    refine sW_go b_TS_drawn_64 (st' := ([.int (nI k), .int (nI k)], [some (.ref 0), some (.int (nI k)), some (.int (nI s')), some (.int (nI w')), some (.long (lN x)), none, some (.int (nI k))], M2)) (φ := True) rfl trivial ?_
                    refine sW_ic_ge 94 d_TS_drawn_67 (by decide) (fun c_67 => ?_) (fun c_67 => ?_)
                    · skip
                      simp (disch := omega) only [nI_leI] at c_67
                      exact k_drawn94 G b6 b5 b4 b2 b3 (by omega)
                    · skip
                      simp (disch := omega) only [nI_leI] at c_67
                      omega
                · skip
                  simp (disch := omega) only [nI_leI] at c_40
                  refine sW_go b_TS_drawn_43 (st' := ([.int (-1000001)], [some (.ref 0), some (.int (nI n')), some (.int (nI s')), some (.int (nI w')), none, none, none], M)) (φ := True) rfl trivial ?_
                  refine sW_retI d_TS_drawn_45 rfl (vp_nar_int _) ?_
                  omega
    · skip
      replace c_7 := tf_nz.mp c_7
      refine sW_go b_TS_drawn_10 (st' := ([.int (-1000002)], [some (.ref 0), some (.int (nI n')), some (.int (nI s')), some (.int (nI w')), none, none, none], M)) (φ := True) rfl trivial ?_
      refine sW_retI d_TS_drawn_12 rfl (vp_nar_int _) ?_
      rw [if_pos c_7]
      exact ⟨rfl, Fr.rf, h⟩
  · have hc2 := hc
    unfold sp_drawn
    rw [cif_f hc]
    refine sOk_of ⟨by decide +kernel, by decide +kernel, Nat.le_of_ble_eq_true rfl⟩ ?_
    show sW G m_TS_drawn 0 ([], [some (.ref 0), some (.int n), some (.int s), some (.int w), none, none, none], M) _
    refine sW_go b_TS_drawn_0 (st' := ([.ref 7], [some (.ref 0), some (.int n), some (.int s), some (.int w), none, none, none], M)) (φ := mx_ocl LAY 0 = 9 ∧ True) rfl ⟨oc_0, trivial⟩ ?_
    refine sW_callV 3 [] [] d_TS_drawn_4 c_TS_drawn_4 ⟨rfl, rfl, rfl, Nat.le_of_ble_eq_true rfl, rfl, rfl⟩ oc_7 (k_House_isNone G oc_7 hH.1 h8) ?_
    rintro _ M₁ ⟨rfl, h₁⟩
    rw [h₁]
    show sW G m_TS_drawn 7 ([.int (tf ((gH σ).1 = 0))], [some (.ref 0), some (.int n), some (.int s), some (.int w), none, none, none], M) _
    refine sW_if_eq 13 d_TS_drawn_7 (by decide) (fun c_7 => ?_) (fun c_7 => ?_)
    · skip
      replace c_7 := tf_z.mp c_7
      refine sW_go b_TS_drawn_13 (st' := ([.int n], [some (.ref 0), some (.int n), some (.int s), some (.int w), none, none, none], M)) (φ := True) rfl trivial ?_
      refine sW_if_lt 43 d_TS_drawn_14 (by decide) (fun c_14 => ?_) (fun c_14 => ?_)
      · skip
        refine sW_go b_TS_drawn_43 (st' := ([.int (-1000001)], [some (.ref 0), some (.int n), some (.int s), some (.int w), none, none, none], M)) (φ := True) rfl trivial ?_
        refine sW_retI d_TS_drawn_45 rfl (vp_nar_int _) ?_
        rw [if_neg c_7]; exact ⟨rfl, Fr.rf, h⟩
      · skip
        refine sW_go b_TS_drawn_17 (st' := ([.int (nI 20), .int n], [some (.ref 0), some (.int n), some (.int s), some (.int w), none, none, none], M)) (φ := True) rfl trivial ?_
        refine sW_ic_gt 43 d_TS_drawn_20 (by decide) (fun c_20 => ?_) (fun c_20 => ?_)
        · skip
          refine sW_go b_TS_drawn_43 (st' := ([.int (-1000001)], [some (.ref 0), some (.int n), some (.int s), some (.int w), none, none, none], M)) (φ := True) rfl trivial ?_
          refine sW_retI d_TS_drawn_45 rfl (vp_nar_int _) ?_
          rw [if_neg c_7]; exact ⟨rfl, Fr.rf, h⟩
        · skip
          refine sW_go b_TS_drawn_23 (st' := ([.int (nI 1), .int s], [some (.ref 0), some (.int n), some (.int s), some (.int w), none, none, none], M)) (φ := True) rfl trivial ?_
          refine sW_ic_lt 43 d_TS_drawn_25 (by decide) (fun c_25 => ?_) (fun c_25 => ?_)
          · skip
            refine sW_go b_TS_drawn_43 (st' := ([.int (-1000001)], [some (.ref 0), some (.int n), some (.int s), some (.int w), none, none, none], M)) (φ := True) rfl trivial ?_
            refine sW_retI d_TS_drawn_45 rfl (vp_nar_int _) ?_
            rw [if_neg c_7]; exact ⟨rfl, Fr.rf, h⟩
          · skip
            refine sW_go b_TS_drawn_28 (st' := ([.int (nI 999999), .int s], [some (.ref 0), some (.int n), some (.int s), some (.int w), none, none, none], M)) (φ := True) rfl trivial ?_
            refine sW_ic_gt 43 d_TS_drawn_31 (by decide) (fun c_31 => ?_) (fun c_31 => ?_)
            · skip
              refine sW_go b_TS_drawn_43 (st' := ([.int (-1000001)], [some (.ref 0), some (.int n), some (.int s), some (.int w), none, none, none], M)) (φ := True) rfl trivial ?_
              refine sW_retI d_TS_drawn_45 rfl (vp_nar_int _) ?_
              rw [if_neg c_7]; exact ⟨rfl, Fr.rf, h⟩
            · skip
              refine sW_go b_TS_drawn_34 (st' := ([.int w], [some (.ref 0), some (.int n), some (.int s), some (.int w), none, none, none], M)) (φ := True) rfl trivial ?_
              refine sW_if_lt 43 d_TS_drawn_35 (by decide) (fun c_35 => ?_) (fun c_35 => ?_)
              · skip
                refine sW_go b_TS_drawn_43 (st' := ([.int (-1000001)], [some (.ref 0), some (.int n), some (.int s), some (.int w), none, none, none], M)) (φ := True) rfl trivial ?_
                refine sW_retI d_TS_drawn_45 rfl (vp_nar_int _) ?_
                rw [if_neg c_7]; exact ⟨rfl, Fr.rf, h⟩
              · skip
                refine sW_go b_TS_drawn_38 (st' := ([.int (nI 1), .int w], [some (.ref 0), some (.int n), some (.int s), some (.int w), none, none, none], M)) (φ := True) rfl trivial ?_
                refine sW_ic_le 46 d_TS_drawn_40 (by decide) (fun c_40 => ?_) (fun c_40 => ?_)
                · skip
                  exact absurd ⟨vp_in_iff.mpr (by
                    rw [Int32.lt_iff_toInt_lt] at c_14
                    rw [Int32.lt_iff_toInt_lt, nI_toInt (by decide)] at c_20
                    omega), ⟨(by rw [Int32.le_iff_toInt_le]; rw [Int32.lt_iff_toInt_lt] at c_25; omega), (by rw [Int32.le_iff_toInt_le]; rw [Int32.lt_iff_toInt_lt] at c_31; omega)⟩, vp_in_iff.mpr (by
                    rw [Int32.lt_iff_toInt_lt] at c_35
                    rw [Int32.le_iff_toInt_le, nI_toInt (by decide)] at c_40
                    omega)⟩ hc
                · skip
                  refine sW_go b_TS_drawn_43 (st' := ([.int (-1000001)], [some (.ref 0), some (.int n), some (.int s), some (.int w), none, none, none], M)) (φ := True) rfl trivial ?_
                  refine sW_retI d_TS_drawn_45 rfl (vp_nar_int _) ?_
                  rw [if_neg c_7]; exact ⟨rfl, Fr.rf, h⟩
    · skip
      replace c_7 := tf_nz.mp c_7
      refine sW_go b_TS_drawn_10 (st' := ([.int (-1000002)], [some (.ref 0), some (.int n), some (.int s), some (.int w), none, none, none], M)) (φ := True) rfl trivial ?_
      refine sW_retI d_TS_drawn_12 rfl (vp_nar_int _) ?_
      rw [if_pos c_7]; exact ⟨rfl, Fr.rf, h⟩

