theorem ts_who (G : mx_G) {M : mx_M} {σ : Sg} (h : CInv M σ) (hg : GOk σ) (t w r i n : Int32) : sOk G m_TS_who [.ref 0, .int t, .int w, .int r, .int i, .int n] M (COk M (sp_who σ t w r i n)) := by
  have hH := h.2.2.1
  have h8 := hg.1.1.1
  have zt : M 7 3 = nI (gH σ).1 := hH.1
  have m0 : (0 : Int32).toInt = 0 := by decide
  by_cases hc : vp_in t (gH σ).1 ∧ vp_in w 3 ∧ vp_in r 8 ∧ nI 1 ≤ n ∧ n ≤ nI (gH σ).1
  · obtain ⟨h1, h2, h3, h4, h5⟩ := id hc
    obtain ⟨t', ht, rfl⟩ := vp_in_of h1 (by omega)
    obtain ⟨w', hw, rfl⟩ := vp_in_of h2 (by decide)
    obtain ⟨r', hr, rfl⟩ := vp_in_of h3 (by decide)
    have hn : ∃ n' : Nat, 1 ≤ n' ∧ n' ≤ (gH σ).1 ∧ n = nI n' := by
      rw [Int32.le_iff_toInt_le, nI_toInt (by decide)] at h4
      rw [Int32.le_iff_toInt_le, nI_toInt (by omega)] at h5
      obtain ⟨k, hk, rfl⟩ := nat_of (i := n) (by omega)
      rw [nI_toInt hk] at h4 h5
      exact ⟨k, by omega, by omega, rfl⟩
    obtain ⟨n', n1, n2, rfl⟩ := hn
    have hw0 : ¬ nI w' < 0 := fun q => h2 (Or.inl q)
    have hle := fndN_le (gR σ) r' i (nI n')
    have kf := k_findingAt G h.1 hr i (nI n')
    unfold sp_who
    rw [cif_t hc, show tn (nI t') = t' from nI_clamp (by omega), show tn (nI w') = w' from nI_clamp (by omega), show tn (nI r') = r' from nI_clamp (by omega), show tn (nI n') = n' from nI_clamp (by omega)]
    refine sOk_of ⟨by decide +kernel, by decide +kernel, Nat.le_of_ble_eq_true rfl⟩ ?_
    show sW G m_TS_who 0 ([], [some (.ref 0), some (.int (nI t')), some (.int (nI w')), some (.int (nI r')), some (.int i), some (.int (nI n')), none, none, none, none], M) _
    refine sW_go b_TS_who_0 (st' := ([.int (nI t'), .ref 7], [some (.ref 0), some (.int (nI t')), some (.int (nI w')), some (.int (nI r')), some (.int i), some (.int (nI n')), none, none, none, none], M)) (φ := mx_ocl LAY 0 = 9 ∧ True) rfl ⟨oc_0, trivial⟩ ?_
    refine sW_callV 3 [.int (nI t')] [] d_TS_who_5 c_TS_who_5 ⟨rfl, rfl, rfl, Nat.le_of_ble_eq_true rfl, rfl, rfl⟩ oc_7 (k_House_has G oc_7 hH.1 h8 (nI t')) ?_
    rintro _ M₁ ⟨rfl, h₁⟩
    rw [h₁]
    show sW G m_TS_who 8 ([.int (tf (vp_in (nI t') (gH σ).1))], [some (.ref 0), some (.int (nI t')), some (.int (nI w')), some (.int (nI r')), some (.int i), some (.int (nI n')), none, none, none, none], M) _
    refine sW_if_eq 45 d_TS_who_8 (by decide) (fun c_8 => ?_) (fun c_8 => ?_)
    · skip
      replace c_8 := tf_z.mp c_8
      refine sW_go b_TS_who_45 (st' := ([.int (-1000001)], [some (.ref 0), some (.int (nI t')), some (.int (nI w')), some (.int (nI r')), some (.int i), some (.int (nI n')), none, none, none, none], M)) (φ := True) rfl trivial ?_
      refine sW_retI d_TS_who_47 rfl (vp_nar_int _) ?_
      exact absurd h1 c_8
    · skip
      replace c_8 := tf_nz.mp c_8
      refine sW_go b_TS_who_11 (st' := ([.int (nI w')], [some (.ref 0), some (.int (nI t')), some (.int (nI w')), some (.int (nI r')), some (.int i), some (.int (nI n')), none, none, none, none], M)) (φ := True) rfl trivial ?_
      refine sW_if_lt 45 d_TS_who_12 (by decide) (fun c_12 => ?_) (fun c_12 => ?_)
      · skip
        refine sW_go b_TS_who_45 (st' := ([.int (-1000001)], [some (.ref 0), some (.int (nI t')), some (.int (nI w')), some (.int (nI r')), some (.int i), some (.int (nI n')), none, none, none, none], M)) (φ := True) rfl trivial ?_
        refine sW_retI d_TS_who_47 rfl (vp_nar_int _) ?_
        exact absurd c_12 hw0
      · skip
        refine sW_go b_TS_who_15 (st' := ([.int (nI 2), .int (nI w')], [some (.ref 0), some (.int (nI t')), some (.int (nI w')), some (.int (nI r')), some (.int i), some (.int (nI n')), none, none, none, none], M)) (φ := True) rfl trivial ?_
        refine sW_ic_gt 45 d_TS_who_17 (by decide) (fun c_17 => ?_) (fun c_17 => ?_)
        · skip
          simp (disch := omega) only [nI_ltI] at c_17
          refine sW_go b_TS_who_45 (st' := ([.int (-1000001)], [some (.ref 0), some (.int (nI t')), some (.int (nI w')), some (.int (nI r')), some (.int i), some (.int (nI n')), none, none, none, none], M)) (φ := True) rfl trivial ?_
          refine sW_retI d_TS_who_47 rfl (vp_nar_int _) ?_
          omega
        · skip
          simp (disch := omega) only [nI_ltI] at c_17
          refine sW_go b_TS_who_20 (st' := ([.int (nI r')], [some (.ref 0), some (.int (nI t')), some (.int (nI w')), some (.int (nI r')), some (.int i), some (.int (nI n')), none, none, none, none], M)) (φ := True) rfl trivial ?_
          refine sW_callS [.int (nI r')] [] d_TS_who_21 c_TS_who_21 ⟨rfl, rfl, Nat.le_of_ble_eq_true rfl, rfl, rfl⟩ (k_isNumber G (nI r')) ?_
          rintro _ M₁ ⟨rfl, h₁⟩
          rw [h₁]
          show sW G m_TS_who 24 ([.int (tf (vp_in (nI r') 8))], [some (.ref 0), some (.int (nI t')), some (.int (nI w')), some (.int (nI r')), some (.int i), some (.int (nI n')), none, none, none, none], M) _
          refine sW_if_eq 45 d_TS_who_24 (by decide) (fun c_24 => ?_) (fun c_24 => ?_)
          · skip
            replace c_24 := tf_z.mp c_24
            refine sW_go b_TS_who_45 (st' := ([.int (-1000001)], [some (.ref 0), some (.int (nI t')), some (.int (nI w')), some (.int (nI r')), some (.int i), some (.int (nI n')), none, none, none, none], M)) (φ := True) rfl trivial ?_
            refine sW_retI d_TS_who_47 rfl (vp_nar_int _) ?_
            exact absurd h3 c_24
          · skip
            replace c_24 := tf_nz.mp c_24
            refine sW_go b_TS_who_27 (st' := ([.int (nI 1), .int (nI n')], [some (.ref 0), some (.int (nI t')), some (.int (nI w')), some (.int (nI r')), some (.int i), some (.int (nI n')), none, none, none, none], M)) (φ := True) rfl trivial ?_
            refine sW_ic_lt 45 d_TS_who_30 (by decide) (fun c_30 => ?_) (fun c_30 => ?_)
            · skip
              simp (disch := omega) only [nI_ltI] at c_30
              refine sW_go b_TS_who_45 (st' := ([.int (-1000001)], [some (.ref 0), some (.int (nI t')), some (.int (nI w')), some (.int (nI r')), some (.int i), some (.int (nI n')), none, none, none, none], M)) (φ := True) rfl trivial ?_
              refine sW_retI d_TS_who_47 rfl (vp_nar_int _) ?_
              omega
            · skip
              simp (disch := omega) only [nI_ltI] at c_30
              refine sW_go b_TS_who_33 (st' := ([.int (M 7 3), .int (nI n')], [some (.ref 0), some (.int (nI t')), some (.int (nI w')), some (.int (nI r')), some (.int i), some (.int (nI n')), none, none, none, none], M)) (φ := mx_ocl LAY 0 = 9 ∧ mx_ocl LAY 7 = 3 ∧ True) rfl ⟨oc_0, oc_7, trivial⟩ ?_
              refine sW_eq (st' := ([.int (nI (gH σ).1), .int (nI n')], [some (.ref 0), some (.int (nI t')), some (.int (nI w')), some (.int (nI r')), some (.int i), some (.int (nI n')), none, none, none, none], M)) (by simp (disch := omega) only [zt]) ?_
              refine sW_ic_le 48 d_TS_who_42 (by decide) (fun c_42 => ?_) (fun c_42 => ?_)
              · skip
                simp (disch := omega) only [nI_leI] at c_42
                by_cases hf : fndN (gR σ) r' i (nI n') = 0
                · rw [hf] at kf
                  rw [cif_t hf]
                  obtain ⟨p1, p2, p3, p4⟩ := fnd0 hf
                  obtain ⟨k, hk, rfl⟩ := nat_of p2
                  rw [nI_toInt hk, nI_toInt (by omega)] at p4
                  rw [show tn (nI k) = k from nI_clamp hk]
                  have z : (mx_wr M 0 13 (nI 0)) 0 13 = nI 0 := wr13
                  have h' := h.st 0
                  have hg' : GOk (ws σ 0) := ⟨hg.1, hg.2.1, hg.2.2.1, hg.2.2.2.1, hg.2.2.2.2.1, Nat.zero_le 5, hg.2.2.2.2.2.2⟩
                  have f' : Fr M (mx_wr M 0 13 (nI 0)) 0 119 := Fr.rf.wr (by decide) (by decide)
                  have hbl : bsum (rwBit (gR σ) r' k) n' < 256 := bsum_lt8 (rwBit_le (gR σ) r' k) (by omega)
                  have kb := k_bits G (R := gR σ) h'.1 hr p1 (n := n') (i := k) (by omega) (by omega)
                  generalize hwd : bsum (rwBit (gR σ) r' k) n' = wd at hbl ⊢
                  have kb : sOk G m_Rows_bits [.ref 1, .int (nI r'), .int (nI k), .int (nI n')] (mx_wr M 0 13 (nI 0)) (fun q M' => q = some (.int (nI wd)) ∧ M' = mx_wr M 0 13 (nI 0)) := by rw [← hwd]; exact kb
                  refine sW_go b_TS_who_48 (st' := ([.int (nI n'), .int (nI k), .int (nI r'), .ref 1, .ref 0], [some (.ref 0), some (.int (nI t')), some (.int (nI w')), some (.int (nI r')), some (.int (nI k)), some (.int (nI n')), none, none, none, none], M)) (φ := mx_ocl LAY 0 = 9 ∧ True) rfl ⟨oc_0, trivial⟩ ?_
                  refine sW_callV 5 [.int (nI r'), .int (nI k), .int (nI n')] [.ref 0] d_TS_who_58 c_TS_who_58 ⟨rfl, rfl, rfl, Nat.le_of_ble_eq_true rfl, rfl, rfl⟩ oc_1 (kf) ?_
                  rintro _ M₁ ⟨rfl, h₁⟩
                  rw [h₁]
                  show sW G m_TS_who 61 ([.int (nI 0), .ref 0], [some (.ref 0), some (.int (nI t')), some (.int (nI w')), some (.int (nI r')), some (.int (nI k)), some (.int (nI n')), none, none, none, none], M) _
                  refine sW_go b_TS_who_61 (st' := ([.int ((mx_wr M 0 13 (nI 0)) 0 13)], [some (.ref 0), some (.int (nI t')), some (.int (nI w')), some (.int (nI r')), some (.int (nI k)), some (.int (nI n')), none, none, none, none], mx_wr M 0 13 (nI 0))) (φ := mx_ocl LAY 0 = 9 ∧ mx_ocl LAY 0 = 9 ∧ True) rfl ⟨oc_0, oc_0, trivial⟩ ?_
                  refine sW_eq (st' := ([.int (nI 0)], [some (.ref 0), some (.int (nI t')), some (.int (nI w')), some (.int (nI r')), some (.int (nI k)), some (.int (nI n')), none, none, none, none], mx_wr M 0 13 (nI 0))) (by simp (disch := omega) only [z]) ?_
                  refine sW_if_eq 79 d_TS_who_68 (by decide) (fun c_68 => ?_) (fun c_68 => ?_)
                  · skip
                    simp (disch := omega) only [nI_z] at c_68
                    refine sW_go b_TS_who_79 (st' := ([.int (nI n'), .int (nI k), .int (nI r'), .ref 1], [some (.ref 0), some (.int (nI t')), some (.int (nI w')), some (.int (nI r')), some (.int (nI k)), some (.int (nI n')), none, none, none, none], mx_wr M 0 13 (nI 0))) (φ := mx_ocl LAY 0 = 9 ∧ True) rfl ⟨oc_0, trivial⟩ ?_
                    refine sW_callV 5 [.int (nI r'), .int (nI k), .int (nI n')] [] d_TS_who_88 c_TS_who_88 ⟨rfl, rfl, rfl, Nat.le_of_ble_eq_true rfl, rfl, rfl⟩ oc_1 (kb) ?_
                    rintro _ M₁ ⟨rfl, h₁⟩
                    rw [h₁]
                    show sW G m_TS_who 91 ([.int (nI wd)], [some (.ref 0), some (.int (nI t')), some (.int (nI w')), some (.int (nI r')), some (.int (nI k)), some (.int (nI n')), none, none, none, none], mx_wr M 0 13 (nI 0)) _
                    refine sW_go b_TS_who_91 (st' := ([.int (nI w')], [some (.ref 0), some (.int (nI t')), some (.int (nI w')), some (.int (nI r')), some (.int (nI k)), some (.int (nI n')), some (.int (nI wd)), none, none, none], mx_wr M 0 13 (nI 0))) (φ := True) rfl trivial ?_
                    refine sW_if_ne 102 d_TS_who_94 (by decide) (fun c_94 => ?_) (fun c_94 => ?_)
                    · skip
                      simp (disch := omega) only [nI_z] at c_94
                      refine sW_go b_TS_who_102 (st' := ([.int (nI 8)], [some (.ref 0), some (.int (nI t')), some (.int (nI w')), some (.int (nI r')), some (.int (nI k)), some (.int (nI n')), some (.int (nI wd)), none, none, none], mx_wr M 0 13 (nI 0))) (φ := True) rfl trivial ?_
                      refine sW_go b_TS_who_104 (st' := ([], [some (.ref 0), some (.int (nI t')), some (.int (nI w')), some (.int (nI r')), some (.int (nI k)), some (.int (nI n')), some (.int (nI wd)), some (.int (nI 8)), some (.int (nI 0)), some (.int (nI 0))], mx_wr M 0 13 (nI 0))) (φ := True) rfl trivial ?_
                      exact k_who112 G h' f' hg' ht (by omega) (by omega) hbl (by rw [if_neg c_94])
                    · skip
                      simp (disch := omega) only [nI_z] at c_94
                      refine sW_go b_TS_who_97 (st' := ([.int (nI 6)], [some (.ref 0), some (.int (nI t')), some (.int (nI w')), some (.int (nI r')), some (.int (nI k)), some (.int (nI n')), some (.int (nI wd)), none, none, none], mx_wr M 0 13 (nI 0))) (φ := True) rfl trivial ?_
                      refine sW_goto 104 d_TS_who_99 (by decide) ?_
                      refine sW_go b_TS_who_104 (st' := ([], [some (.ref 0), some (.int (nI t')), some (.int (nI w')), some (.int (nI r')), some (.int (nI k)), some (.int (nI n')), some (.int (nI wd)), some (.int (nI 6)), some (.int (nI 0)), some (.int (nI 0))], mx_wr M 0 13 (nI 0))) (φ := True) rfl trivial ?_
                      exact k_who112 G h' f' hg' ht (by omega) (by omega) hbl (by rw [if_pos c_94])
                  · skip
                    simp (disch := omega) only [nI_z] at c_68
                    refine sW_go b_TS_who_71 (st' := ([.int ((-1000010) - (mx_wr M 0 13 (nI 0)) 0 13)], [some (.ref 0), some (.int (nI t')), some (.int (nI w')), some (.int (nI r')), some (.int (nI k)), some (.int (nI n')), none, none, none, none], mx_wr M 0 13 (nI 0))) (φ := mx_ocl LAY 0 = 9 ∧ True) rfl ⟨oc_0, trivial⟩ ?_
                    refine sW_eq (st' := ([.int ((-1000010) - nI 0)], [some (.ref 0), some (.int (nI t')), some (.int (nI w')), some (.int (nI r')), some (.int (nI k)), some (.int (nI n')), none, none, none, none], mx_wr M 0 13 (nI 0))) (by simp (disch := omega) only [z]) ?_
                    refine sW_retI d_TS_who_78 rfl (vp_nar_int _) ?_
                    exact absurd trivial c_68
                · rw [cif_f hf]
                  generalize hff : fndN (gR σ) r' i (nI n') = f at hf hle kf ⊢
                  have z : (mx_wr M 0 13 (nI f)) 0 13 = nI f := wr13
                  refine sW_go b_TS_who_48 (st' := ([.int (nI n'), .int i, .int (nI r'), .ref 1, .ref 0], [some (.ref 0), some (.int (nI t')), some (.int (nI w')), some (.int (nI r')), some (.int i), some (.int (nI n')), none, none, none, none], M)) (φ := mx_ocl LAY 0 = 9 ∧ True) rfl ⟨oc_0, trivial⟩ ?_
                  refine sW_callV 5 [.int (nI r'), .int i, .int (nI n')] [.ref 0] d_TS_who_58 c_TS_who_58 ⟨rfl, rfl, rfl, Nat.le_of_ble_eq_true rfl, rfl, rfl⟩ oc_1 (kf) ?_
                  rintro _ M₁ ⟨rfl, h₁⟩
                  rw [h₁]
                  show sW G m_TS_who 61 ([.int (nI f), .ref 0], [some (.ref 0), some (.int (nI t')), some (.int (nI w')), some (.int (nI r')), some (.int i), some (.int (nI n')), none, none, none, none], M) _
                  refine sW_go b_TS_who_61 (st' := ([.int ((mx_wr M 0 13 (nI f)) 0 13)], [some (.ref 0), some (.int (nI t')), some (.int (nI w')), some (.int (nI r')), some (.int i), some (.int (nI n')), none, none, none, none], mx_wr M 0 13 (nI f))) (φ := mx_ocl LAY 0 = 9 ∧ mx_ocl LAY 0 = 9 ∧ True) rfl ⟨oc_0, oc_0, trivial⟩ ?_
                  refine sW_eq (st' := ([.int (nI f)], [some (.ref 0), some (.int (nI t')), some (.int (nI w')), some (.int (nI r')), some (.int i), some (.int (nI n')), none, none, none, none], mx_wr M 0 13 (nI f))) (by simp (disch := omega) only [z]) ?_
                  refine sW_if_eq 79 d_TS_who_68 (by decide) (fun c_68 => ?_) (fun c_68 => ?_)
                  · skip
                    simp (disch := omega) only [nI_z] at c_68
                    exact absurd c_68 hf
                  · skip
                    simp (disch := omega) only [nI_z] at c_68
                    refine sW_go b_TS_who_71 (st' := ([.int ((-1000010) - (mx_wr M 0 13 (nI f)) 0 13)], [some (.ref 0), some (.int (nI t')), some (.int (nI w')), some (.int (nI r')), some (.int i), some (.int (nI n')), none, none, none, none], mx_wr M 0 13 (nI f))) (φ := mx_ocl LAY 0 = 9 ∧ True) rfl ⟨oc_0, trivial⟩ ?_
                    refine sW_eq (st' := ([.int ((-1000010) - nI f)], [some (.ref 0), some (.int (nI t')), some (.int (nI w')), some (.int (nI r')), some (.int i), some (.int (nI n')), none, none, none, none], mx_wr M 0 13 (nI f))) (by simp (disch := omega) only [z]) ?_
                    refine sW_retI d_TS_who_78 rfl (vp_nar_int _) ?_
                    exact ⟨rfl, Fr.rf.wr (by decide) (by decide), h.st f⟩
              · skip
                simp (disch := omega) only [nI_leI] at c_42
                refine sW_go b_TS_who_45 (st' := ([.int (-1000001)], [some (.ref 0), some (.int (nI t')), some (.int (nI w')), some (.int (nI r')), some (.int i), some (.int (nI n')), none, none, none, none], M)) (φ := True) rfl trivial ?_
                refine sW_retI d_TS_who_47 rfl (vp_nar_int _) ?_
                omega
  · have hc2 := hc
    unfold sp_who
    rw [cif_f hc]
    refine sOk_of ⟨by decide +kernel, by decide +kernel, Nat.le_of_ble_eq_true rfl⟩ ?_
    show sW G m_TS_who 0 ([], [some (.ref 0), some (.int t), some (.int w), some (.int r), some (.int i), some (.int n), none, none, none, none], M) _
    refine sW_go b_TS_who_0 (st' := ([.int t, .ref 7], [some (.ref 0), some (.int t), some (.int w), some (.int r), some (.int i), some (.int n), none, none, none, none], M)) (φ := mx_ocl LAY 0 = 9 ∧ True) rfl ⟨oc_0, trivial⟩ ?_
    refine sW_callV 3 [.int t] [] d_TS_who_5 c_TS_who_5 ⟨rfl, rfl, rfl, Nat.le_of_ble_eq_true rfl, rfl, rfl⟩ oc_7 (k_House_has G oc_7 hH.1 h8 t) ?_
    rintro _ M₁ ⟨rfl, h₁⟩
    rw [h₁]
    show sW G m_TS_who 8 ([.int (tf (vp_in t (gH σ).1))], [some (.ref 0), some (.int t), some (.int w), some (.int r), some (.int i), some (.int n), none, none, none, none], M) _
    refine sW_if_eq 45 d_TS_who_8 (by decide) (fun c_8 => ?_) (fun c_8 => ?_)
    · skip
      replace c_8 := tf_z.mp c_8
      refine sW_go b_TS_who_45 (st' := ([.int (-1000001)], [some (.ref 0), some (.int t), some (.int w), some (.int r), some (.int i), some (.int n), none, none, none, none], M)) (φ := True) rfl trivial ?_
      refine sW_retI d_TS_who_47 rfl (vp_nar_int _) ?_
      exact ⟨rfl, Fr.rf, h⟩
    · skip
      replace c_8 := tf_nz.mp c_8
      refine sW_go b_TS_who_11 (st' := ([.int w], [some (.ref 0), some (.int t), some (.int w), some (.int r), some (.int i), some (.int n), none, none, none, none], M)) (φ := True) rfl trivial ?_
      refine sW_if_lt 45 d_TS_who_12 (by decide) (fun c_12 => ?_) (fun c_12 => ?_)
      · skip
        refine sW_go b_TS_who_45 (st' := ([.int (-1000001)], [some (.ref 0), some (.int t), some (.int w), some (.int r), some (.int i), some (.int n), none, none, none, none], M)) (φ := True) rfl trivial ?_
        refine sW_retI d_TS_who_47 rfl (vp_nar_int _) ?_
        exact ⟨rfl, Fr.rf, h⟩
      · skip
        refine sW_go b_TS_who_15 (st' := ([.int (nI 2), .int w], [some (.ref 0), some (.int t), some (.int w), some (.int r), some (.int i), some (.int n), none, none, none, none], M)) (φ := True) rfl trivial ?_
        refine sW_ic_gt 45 d_TS_who_17 (by decide) (fun c_17 => ?_) (fun c_17 => ?_)
        · skip
          refine sW_go b_TS_who_45 (st' := ([.int (-1000001)], [some (.ref 0), some (.int t), some (.int w), some (.int r), some (.int i), some (.int n), none, none, none, none], M)) (φ := True) rfl trivial ?_
          refine sW_retI d_TS_who_47 rfl (vp_nar_int _) ?_
          exact ⟨rfl, Fr.rf, h⟩
        · skip
          refine sW_go b_TS_who_20 (st' := ([.int r], [some (.ref 0), some (.int t), some (.int w), some (.int r), some (.int i), some (.int n), none, none, none, none], M)) (φ := True) rfl trivial ?_
          refine sW_callS [.int r] [] d_TS_who_21 c_TS_who_21 ⟨rfl, rfl, Nat.le_of_ble_eq_true rfl, rfl, rfl⟩ (k_isNumber G r) ?_
          rintro _ M₁ ⟨rfl, h₁⟩
          rw [h₁]
          show sW G m_TS_who 24 ([.int (tf (vp_in r 8))], [some (.ref 0), some (.int t), some (.int w), some (.int r), some (.int i), some (.int n), none, none, none, none], M) _
          refine sW_if_eq 45 d_TS_who_24 (by decide) (fun c_24 => ?_) (fun c_24 => ?_)
          · skip
            replace c_24 := tf_z.mp c_24
            refine sW_go b_TS_who_45 (st' := ([.int (-1000001)], [some (.ref 0), some (.int t), some (.int w), some (.int r), some (.int i), some (.int n), none, none, none, none], M)) (φ := True) rfl trivial ?_
            refine sW_retI d_TS_who_47 rfl (vp_nar_int _) ?_
            exact ⟨rfl, Fr.rf, h⟩
          · skip
            replace c_24 := tf_nz.mp c_24
            refine sW_go b_TS_who_27 (st' := ([.int (nI 1), .int n], [some (.ref 0), some (.int t), some (.int w), some (.int r), some (.int i), some (.int n), none, none, none, none], M)) (φ := True) rfl trivial ?_
            refine sW_ic_lt 45 d_TS_who_30 (by decide) (fun c_30 => ?_) (fun c_30 => ?_)
            · skip
              refine sW_go b_TS_who_45 (st' := ([.int (-1000001)], [some (.ref 0), some (.int t), some (.int w), some (.int r), some (.int i), some (.int n), none, none, none, none], M)) (φ := True) rfl trivial ?_
              refine sW_retI d_TS_who_47 rfl (vp_nar_int _) ?_
              exact ⟨rfl, Fr.rf, h⟩
            · skip
              refine sW_go b_TS_who_33 (st' := ([.int (M 7 3), .int n], [some (.ref 0), some (.int t), some (.int w), some (.int r), some (.int i), some (.int n), none, none, none, none], M)) (φ := mx_ocl LAY 0 = 9 ∧ mx_ocl LAY 7 = 3 ∧ True) rfl ⟨oc_0, oc_7, trivial⟩ ?_
              refine sW_eq (st' := ([.int (nI (gH σ).1), .int n], [some (.ref 0), some (.int t), some (.int w), some (.int r), some (.int i), some (.int n), none, none, none, none], M)) (by simp (disch := omega) only [zt]) ?_
              refine sW_ic_le 48 d_TS_who_42 (by decide) (fun c_42 => ?_) (fun c_42 => ?_)
              · skip
                exact absurd ⟨c_8, vp_in_iff.mpr (by
                  rw [Int32.lt_iff_toInt_lt] at c_12
                  rw [Int32.lt_iff_toInt_lt, nI_toInt (by decide)] at c_17
                  omega), c_24, (by rw [Int32.le_iff_toInt_le]; rw [Int32.lt_iff_toInt_lt] at c_30; omega), c_42⟩ hc
              · skip
                refine sW_go b_TS_who_45 (st' := ([.int (-1000001)], [some (.ref 0), some (.int t), some (.int w), some (.int r), some (.int i), some (.int n), none, none, none, none], M)) (φ := True) rfl trivial ?_
                refine sW_retI d_TS_who_47 rfl (vp_nar_int _) ?_
                exact ⟨rfl, Fr.rf, h⟩

