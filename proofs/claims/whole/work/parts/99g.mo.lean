theorem mo_answers (G : mx_G) {M : mx_M} {σ : Sg} (h : MInv M σ) (hg : GOk σ) (f a : Int32) : sOk G m_Mo_answers [.ref 119, .int f, .int a] M (MOk M (sp_answers σ f a)) := by
  obtain ⟨M0, e0, h0, f0, g0⟩ := h.th
  have hR : RowAt M0 123 0 (gH σ) := h0.2.2.1.1
  have h8 := hg.1.1.1
  by_cases hc : vp_in f (gH σ).1 ∧ vp_in a (gH σ).1
  · obtain ⟨va, vb⟩ := id hc
    obtain ⟨x, hx, rfl⟩ := vp_in_of va (by omega)
    obtain ⟨y, hy, rfl⟩ := vp_in_of vb (by omega)
    have e : sp_answers σ (nI x) (nI y) = (nI (answM (gH σ) x y), σ) := by
      unfold sp_answers; rw [cif_t hc, show tn (nI x) = x from nI_clamp (by omega), show tn (nI y) = y from nI_clamp (by omega)]
    rw [e]
    refine sOk_of ⟨by decide +kernel, by decide +kernel, Nat.le_of_ble_eq_true rfl⟩ ?_
    show sW G m_Mo_answers 0 ([], [some (.ref 119), some (.int (nI x)), some (.int (nI y)), none, none], M) _
    refine sW_go b_Mo_answers_0 (st' := ([.int (nI x), .ref 119], [some (.ref 119), some (.int (nI x)), some (.int (nI y)), none, none], mx_wr M 119 0 (nI 0))) (φ := mx_ocl LAY 119 = 10 ∧ True) rfl ⟨oc_119, trivial⟩ ?_
    refine sW_eq (st' := ([.int (nI x), .ref 119], [some (.ref 119), some (.int (nI x)), some (.int (nI y)), none, none], M0)) (by simp (disch := omega) only [e0]) ?_
    refine sW_callV 10 [.int (nI x)] [] d_Mo_answers_7 c_Mo_answers_7 ⟨rfl, rfl, rfl, Nat.le_of_ble_eq_true rfl, rfl, rfl⟩ oc_119 (k_isType G hR h8 (nI x)) ?_
    rintro _ M₁ ⟨rfl, h₁⟩
    rw [h₁]
    show sW G m_Mo_answers 10 ([.int (tf (vp_in (nI x) (gH σ).1))], [some (.ref 119), some (.int (nI x)), some (.int (nI y)), none, none], M0) _
    refine sW_if_eq 21 d_Mo_answers_10 (by decide) (fun c_10 => ?_) (fun c_10 => ?_)
    · skip
      replace c_10 := tf_z.mp c_10
      refine sW_go b_Mo_answers_21 (st' := ([.int (-1000001)], [some (.ref 119), some (.int (nI x)), some (.int (nI y)), none, none], M0)) (φ := True) rfl trivial ?_
      refine sW_retI d_Mo_answers_23 rfl (vp_nar_int _) ?_
      exact absurd va c_10
    · skip
      replace c_10 := tf_nz.mp c_10
      refine sW_go b_Mo_answers_13 (st' := ([.int (nI y), .ref 119], [some (.ref 119), some (.int (nI x)), some (.int (nI y)), none, none], M0)) (φ := True) rfl trivial ?_
      refine sW_callV 10 [.int (nI y)] [] d_Mo_answers_15 c_Mo_answers_15 ⟨rfl, rfl, rfl, Nat.le_of_ble_eq_true rfl, rfl, rfl⟩ oc_119 (k_isType G hR h8 (nI y)) ?_
      rintro _ M₁ ⟨rfl, h₁⟩
      rw [h₁]
      show sW G m_Mo_answers 18 ([.int (tf (vp_in (nI y) (gH σ).1))], [some (.ref 119), some (.int (nI x)), some (.int (nI y)), none, none], M0) _
      refine sW_if_ne 24 d_Mo_answers_18 (by decide) (fun c_18 => ?_) (fun c_18 => ?_)
      · skip
        replace c_18 := tf_nz.mp c_18
        refine sW_go b_Mo_answers_24 (st' := ([.ref 123, .ref 119], [some (.ref 119), some (.int (nI x)), some (.int (nI y)), none, none], M0)) (φ := mx_ocl LAY 119 = 10 ∧ True) rfl ⟨oc_119, trivial⟩ ?_
        refine sW_callV 10 [.ref 123] [] d_Mo_answers_29 c_Mo_answers_29 ⟨rfl, rfl, rfl, Nat.le_of_ble_eq_true rfl, rfl, rfl⟩ oc_119 (k_rkH G h0 hg) ?_
        rintro _ M1 ⟨rfl, f1, h1, r1, q1⟩
        obtain ⟨n, H, S, hM⟩ := q1 (by omega)
        have hM : MC M1 (gH σ) n H S := hM
        show sW G m_Mo_answers 32 ([], [some (.ref 119), some (.int (nI x)), some (.int (nI y)), none, none], M1) _
        refine sW_go b_Mo_answers_32 (st' := ([.int (nI x), .ref 119], [some (.ref 119), some (.int (nI x)), some (.int (nI y)), none, none], M1)) (φ := True) rfl trivial ?_
        refine sW_callV 10 [.int (nI x)] [] d_Mo_answers_34 c_Mo_answers_34 ⟨rfl, rfl, rfl, Nat.le_of_ble_eq_true rfl, rfl, rfl⟩ oc_119 (k_isEmpty G hg.1.1 hM (by omega)) ?_
        rintro _ M₁ ⟨rfl, h₁⟩
        rw [h₁]
        show sW G m_Mo_answers 37 ([.int (tf (¬ HasV (gH σ) x))], [some (.ref 119), some (.int (nI x)), some (.int (nI y)), none, none], M1) _
        refine sW_if_eq 45 d_Mo_answers_37 (by decide) (fun c_37 => ?_) (fun c_37 => ?_)
        · skip
          replace c_37 := tf_z.mp c_37
          refine sW_go b_Mo_answers_45 (st' := ([], [some (.ref 119), some (.int (nI x)), some (.int (nI y)), some (.int (nI 0)), some (.int (nI 0))], M1)) (φ := True) rfl trivial ?_
          have er := r1.n
          have s8 := (srtV_bt (gH σ) x).2.2.2
          by_cases hs4 : srtV (gH σ) x = 4
          · have h4 := (srtV_4 (gH σ) x).mp hs4
            rw [← answ_4 hg.1.1 h4.1.1 h4.1.2]
            refine mx_ind (α := Nat × mx_M) (fun q => (gH σ).1 - q.1) (fun q => q.1 ≤ (gH σ).1 → MFr M1 q.2 [131, 132] [] → sW G m_Mo_answers 50 ([], [some (.ref 119), some (.int (nI x)), some (.int (nI y)), some (.int (nI (mkN (answP (gH σ) x y) q.1))), some (.int (nI q.1))], q.2) _) ?_ (0, M1) (Nat.zero_le _) MFr.rf
            rintro ⟨t, M2⟩ ih ht i1
            dsimp only at ih ht i1 ⊢
            have hlt := mkN_lt (answP (gH σ) x y) (n := t) (by omega)
            have r2 : RowAt M2 123 0 (gH σ) := r1.eq (i1.1 _ (by decide) (by decide))
            have er2 := r2.n
            have hM2 := hM.cs i1
            have h2 : MInv M2 σ := h1.scr (i1.mono (by decide) (by decide))
            by_cases htn : t < (gH σ).1
            · have q2 : nI 1 <<< (nI t &&& 31) = nI (1 * 2 ^ t) := sh_1 (by omega)
              refine sW_go b_Mo_answers_50 (st' := ([.int (M2 123 (nI 0).toNatClampNeg), .int (nI t)], [some (.ref 119), some (.int (nI x)), some (.int (nI y)), some (.int (nI (mkN (answP (gH σ) x y) t))), some (.int (nI t))], M2)) (φ := mx_ocl LAY 119 = 10 ∧ vp_in (nI 0) (mx_len LAY false 123) ∧ True) rfl ⟨oc_119, (by simp (disch := omega) only [ln_123]; exact vp_in_nI (by omega) (by decide)), trivial⟩ ?_
              refine sW_eq (st' := ([.int (nI (gH σ).1), .int (nI t)], [some (.ref 119), some (.int (nI x)), some (.int (nI y)), some (.int (nI (mkN (answP (gH σ) x y) t))), some (.int (nI t))], M2)) (by simp (disch := omega) only [er2, nI_clamp]) ?_
              refine sW_ic_ge 106 d_Mo_answers_58 (by decide) (fun c_58 => ?_) (fun c_58 => ?_)
              · skip
                simp (disch := omega) only [nI_leI] at c_58
                omega
              · skip
                simp (disch := omega) only [nI_leI] at c_58
                refine sW_go b_Mo_answers_61 (st' := ([.int (nI x), .ref 119], [some (.ref 119), some (.int (nI x)), some (.int (nI y)), some (.int (nI (mkN (answP (gH σ) x y) t))), some (.int (nI t))], M2)) (φ := True) rfl trivial ?_
                refine sW_callV 10 [.int (nI x)] [] d_Mo_answers_63 c_Mo_answers_63 ⟨rfl, rfl, rfl, Nat.le_of_ble_eq_true rfl, rfl, rfl⟩ oc_119 (k_sortsOf G hg.1.1 hM2 (by omega)) ?_
                rintro _ M₁ ⟨rfl, h₁⟩
                rw [h₁]
                show sW G m_Mo_answers 66 ([.int (nI (srtV (gH σ) x))], [some (.ref 119), some (.int (nI x)), some (.int (nI y)), some (.int (nI (mkN (answP (gH σ) x y) t))), some (.int (nI t))], M2) _
                refine sW_go b_Mo_answers_66 (st' := ([.int (nI 4), .int (nI (srtV (gH σ) x))], [some (.ref 119), some (.int (nI x)), some (.int (nI y)), some (.int (nI (mkN (answP (gH σ) x y) t))), some (.int (nI t))], M2)) (φ := True) rfl trivial ?_
                refine sW_ic_ne 106 d_Mo_answers_67 (by decide) (fun c_67 => ?_) (fun c_67 => ?_)
                · skip
                  simp (disch := omega) only [nI_eq] at c_67
                  exact absurd hs4 c_67
                · skip
                  simp (disch := omega) only [nI_eq] at c_67
                  refine sW_go b_Mo_answers_70 (st' := ([.int (nI t), .int (nI y), .ref 123, .ref 119], [some (.ref 119), some (.int (nI x)), some (.int (nI y)), some (.int (nI (mkN (answP (gH σ) x y) t))), some (.int (nI t))], M2)) (φ := mx_ocl LAY 119 = 10 ∧ True) rfl ⟨oc_119, trivial⟩ ?_
                  refine sW_callV 10 [.ref 123, .int (nI y), .int (nI t)] [] d_Mo_answers_78 c_Mo_answers_78 ⟨rfl, rfl, rfl, Nat.le_of_ble_eq_true rfl, rfl, rfl⟩ oc_119 (k_layCasesT G ln_123 (Or.inl rfl) r2 hg.1 hM2 (show t < 8 by omega) (show y < 8 by omega)) ?_
                  rintro _ M3 ⟨rfl, f3, b3⟩
                  have r3 : RowAt M3 123 0 (gH σ) := r2.eq (f3.1 _ (by decide) (by decide))
                  show sW G m_Mo_answers 81 ([], [some (.ref 119), some (.int (nI x)), some (.int (nI y)), some (.int (nI (mkN (answP (gH σ) x y) t))), some (.int (nI t))], M3) _
                  refine sW_go b_Mo_answers_81 (st' := ([.int (nI x), .ref 119, .int (nI (mkN (answP (gH σ) x y) t))], [some (.ref 119), some (.int (nI x)), some (.int (nI y)), some (.int (nI (mkN (answP (gH σ) x y) t))), some (.int (nI t))], M3)) (φ := True) rfl trivial ?_
                  refine sW_callV 10 [.int (nI x)] [.int (nI (mkN (answP (gH σ) x y) t))] d_Mo_answers_84 c_Mo_answers_84 ⟨rfl, rfl, rfl, Nat.le_of_ble_eq_true rfl, rfl, rfl⟩ oc_119 (k_isMarked G r3 hg.1 b3 (by omega)) ?_
                  rintro _ M₁ ⟨rfl, h₁⟩
                  rw [h₁]
                  show sW G m_Mo_answers 87 ([.int (tf (∃ v, v < 256 ∧ Jn (csT (gH σ) y (fun z => ¬ bt z t = 1)) (v + 256) ∧ bt (funC (gH σ) v) x = 1)), .int (nI (mkN (answP (gH σ) x y) t))], [some (.ref 119), some (.int (nI x)), some (.int (nI y)), some (.int (nI (mkN (answP (gH σ) x y) t))), some (.int (nI t))], M3) _
                  refine sW_if_eq 94 d_Mo_answers_87 (by decide) (fun c_87 => ?_) (fun c_87 => ?_)
                  · skip
                    replace c_87 := tf_z.mp c_87
                    refine sW_go b_Mo_answers_94 (st' := ([.int (nI 1 <<< (nI t &&& 31)), .int (nI (mkN (answP (gH σ) x y) t))], [some (.ref 119), some (.int (nI x)), some (.int (nI y)), some (.int (nI (mkN (answP (gH σ) x y) t))), some (.int (nI t))], M3)) (φ := True) rfl trivial ?_
                    refine sW_eq (st' := ([.int (nI (1 * 2 ^ t)), .int (nI (mkN (answP (gH σ) x y) t))], [some (.ref 119), some (.int (nI x)), some (.int (nI y)), some (.int (nI (mkN (answP (gH σ) x y) t))), some (.int (nI t))], M3)) (by simp (disch := omega) only [q2]) ?_
                    refine sW_go b_Mo_answers_98 (st' := ([], [some (.ref 119), some (.int (nI x)), some (.int (nI y)), some (.int (nI (mkN (answP (gH σ) x y) t) ||| nI (1 * 2 ^ t))), some (.int (nI t + nI 1))], M3)) (φ := True) rfl trivial ?_
                    refine sW_eq (st' := ([], [some (.ref 119), some (.int (nI x)), some (.int (nI y)), some (.int (nI (mkN (answP (gH σ) x y) t ||| (1 * 2 ^ t)))), some (.int (nI (t + 1)))], M3)) (by simp (disch := omega) only [nI_add, nx_or]) ?_
                    refine sW_goto 50 d_Mo_answers_103 (by decide) ?_
                    rw [mkN_1 (P := answP (gH σ) x y) c_87]
                    exact ih (t + 1, M3) (by dsimp only; omega) (by dsimp only; omega) (i1.tr f3)
                  · skip
                    replace c_87 := tf_nz.mp c_87
                    refine sW_go b_Mo_answers_90 (st' := ([.int (nI 0), .int (nI (mkN (answP (gH σ) x y) t))], [some (.ref 119), some (.int (nI x)), some (.int (nI y)), some (.int (nI (mkN (answP (gH σ) x y) t))), some (.int (nI t))], M3)) (φ := True) rfl trivial ?_
                    refine sW_goto 98 d_Mo_answers_91 (by decide) ?_
                    refine sW_go b_Mo_answers_98 (st' := ([], [some (.ref 119), some (.int (nI x)), some (.int (nI y)), some (.int (nI (mkN (answP (gH σ) x y) t) ||| nI 0)), some (.int (nI t + nI 1))], M3)) (φ := True) rfl trivial ?_
                    refine sW_eq (st' := ([], [some (.ref 119), some (.int (nI x)), some (.int (nI y)), some (.int (nI (mkN (answP (gH σ) x y) t ||| 0))), some (.int (nI (t + 1)))], M3)) (by simp (disch := omega) only [nI_add, nx_or]) ?_
                    refine sW_goto 50 d_Mo_answers_103 (by decide) ?_
                    rw [mkN_0 (P := answP (gH σ) x y) (fun q => q c_87)]
                    exact ih (t + 1, M3) (by dsimp only; omega) (by dsimp only; omega) (i1.tr f3)
            · have hte : t = (gH σ).1 := by omega
              subst hte
              refine sW_go b_Mo_answers_50 (st' := ([.int (M2 123 (nI 0).toNatClampNeg), .int (nI (gH σ).1)], [some (.ref 119), some (.int (nI x)), some (.int (nI y)), some (.int (nI (mkN (answP (gH σ) x y) (gH σ).1))), some (.int (nI (gH σ).1))], M2)) (φ := mx_ocl LAY 119 = 10 ∧ vp_in (nI 0) (mx_len LAY false 123) ∧ True) rfl ⟨oc_119, (by simp (disch := omega) only [ln_123]; exact vp_in_nI (by omega) (by decide)), trivial⟩ ?_
              refine sW_eq (st' := ([.int (nI (gH σ).1), .int (nI (gH σ).1)], [some (.ref 119), some (.int (nI x)), some (.int (nI y)), some (.int (nI (mkN (answP (gH σ) x y) (gH σ).1))), some (.int (nI (gH σ).1))], M2)) (by simp (disch := omega) only [er2, nI_clamp]) ?_
              refine sW_ic_ge 106 d_Mo_answers_58 (by decide) (fun c_58 => ?_) (fun c_58 => ?_)
              · skip
                simp (disch := omega) only [nI_leI] at c_58
                refine sW_go b_Mo_answers_106 (st' := ([.int (nI (mkN (answP (gH σ) x y) (gH σ).1))], [some (.ref 119), some (.int (nI x)), some (.int (nI y)), some (.int (nI (mkN (answP (gH σ) x y) (gH σ).1))), some (.int (nI (gH σ).1))], M2)) (φ := True) rfl trivial ?_
                refine sW_retI d_Mo_answers_107 rfl (vp_nar_int _) ?_
                exact ⟨rfl, f0.tr (f1.tr (i1.fr (by decide))), h2⟩
              · skip
                simp (disch := omega) only [nI_leI] at c_58
                omega
          · have hz : answM (gH σ) x y = 0 := mk8_0 (fun k q => hs4 ((srtV_4 (gH σ) x).mpr ⟨⟨q.2.1, q.2.2.1⟩, Classical.byContradiction (fun z => (HasV_iff x).mp (Classical.not_not.mp c_37) |>.elim q.2.1 (fun w => w.elim q.2.2.1 z))⟩))
            rw [hz]
            refine sW_go b_Mo_answers_50 (st' := ([.int (M1 123 (nI 0).toNatClampNeg), .int (nI 0)], [some (.ref 119), some (.int (nI x)), some (.int (nI y)), some (.int (nI 0)), some (.int (nI 0))], M1)) (φ := mx_ocl LAY 119 = 10 ∧ vp_in (nI 0) (mx_len LAY false 123) ∧ True) rfl ⟨oc_119, (by simp (disch := omega) only [ln_123]; exact vp_in_nI (by omega) (by decide)), trivial⟩ ?_
            refine sW_eq (st' := ([.int (nI (gH σ).1), .int (nI 0)], [some (.ref 119), some (.int (nI x)), some (.int (nI y)), some (.int (nI 0)), some (.int (nI 0))], M1)) (by simp (disch := omega) only [er, nI_clamp]) ?_
            refine sW_ic_ge 106 d_Mo_answers_58 (by decide) (fun c_58 => ?_) (fun c_58 => ?_)
            · skip
              simp (disch := omega) only [nI_leI] at c_58
              refine sW_go b_Mo_answers_106 (st' := ([.int (nI 0)], [some (.ref 119), some (.int (nI x)), some (.int (nI y)), some (.int (nI 0)), some (.int (nI 0))], M1)) (φ := True) rfl trivial ?_
              refine sW_retI d_Mo_answers_107 rfl (vp_nar_int _) ?_
              exact ⟨rfl, f0.tr f1, h1⟩
            · skip
              simp (disch := omega) only [nI_leI] at c_58
              refine sW_go b_Mo_answers_61 (st' := ([.int (nI x), .ref 119], [some (.ref 119), some (.int (nI x)), some (.int (nI y)), some (.int (nI 0)), some (.int (nI 0))], M1)) (φ := True) rfl trivial ?_
              refine sW_callV 10 [.int (nI x)] [] d_Mo_answers_63 c_Mo_answers_63 ⟨rfl, rfl, rfl, Nat.le_of_ble_eq_true rfl, rfl, rfl⟩ oc_119 (k_sortsOf G hg.1.1 hM (by omega)) ?_
              rintro _ M₁ ⟨rfl, h₁⟩
              rw [h₁]
              show sW G m_Mo_answers 66 ([.int (nI (srtV (gH σ) x))], [some (.ref 119), some (.int (nI x)), some (.int (nI y)), some (.int (nI 0)), some (.int (nI 0))], M1) _
              refine sW_go b_Mo_answers_66 (st' := ([.int (nI 4), .int (nI (srtV (gH σ) x))], [some (.ref 119), some (.int (nI x)), some (.int (nI y)), some (.int (nI 0)), some (.int (nI 0))], M1)) (φ := True) rfl trivial ?_
              refine sW_ic_ne 106 d_Mo_answers_67 (by decide) (fun c_67 => ?_) (fun c_67 => ?_)
              · skip
                simp (disch := omega) only [nI_eq] at c_67
                refine sW_go b_Mo_answers_106 (st' := ([.int (nI 0)], [some (.ref 119), some (.int (nI x)), some (.int (nI y)), some (.int (nI 0)), some (.int (nI 0))], M1)) (φ := True) rfl trivial ?_
                refine sW_retI d_Mo_answers_107 rfl (vp_nar_int _) ?_
                exact ⟨rfl, f0.tr f1, h1⟩
              · skip
                simp (disch := omega) only [nI_eq] at c_67
                exact absurd c_67 hs4
        · skip
          replace c_37 := tf_nz.mp c_37
          refine sW_go b_Mo_answers_40 (st' := ([.ref 119], [some (.ref 119), some (.int (nI x)), some (.int (nI y)), none, none], M1)) (φ := True) rfl trivial ?_
          refine sW_callV 10 [] [] d_Mo_answers_41 c_Mo_answers_41 ⟨rfl, rfl, rfl, Nat.le_of_ble_eq_true rfl, rfl, rfl⟩ oc_119 (k_everyType G r1 h8) ?_
          rintro _ M₁ ⟨rfl, h₁⟩
          rw [h₁]
          show sW G m_Mo_answers 44 ([.int (nI (2 ^ (gH σ).1 - 1))], [some (.ref 119), some (.int (nI x)), some (.int (nI y)), none, none], M1) _
          refine sW_retI d_Mo_answers_44 rfl (vp_nar_int _) ?_
          exact ⟨by rw [answ_e hg.1.1 c_37], f0.tr f1, h1⟩
      · skip
        replace c_18 := tf_z.mp c_18
        refine sW_go b_Mo_answers_21 (st' := ([.int (-1000001)], [some (.ref 119), some (.int (nI x)), some (.int (nI y)), none, none], M0)) (φ := True) rfl trivial ?_
        refine sW_retI d_Mo_answers_23 rfl (vp_nar_int _) ?_
        exact absurd vb c_18
  · have e : sp_answers σ f a = ((-1000001), σ) := by unfold sp_answers; rw [cif_f hc]
    rw [e]
    refine sOk_of ⟨by decide +kernel, by decide +kernel, Nat.le_of_ble_eq_true rfl⟩ ?_
    show sW G m_Mo_answers 0 ([], [some (.ref 119), some (.int f), some (.int a), none, none], M) _
    refine sW_go b_Mo_answers_0 (st' := ([.int f, .ref 119], [some (.ref 119), some (.int f), some (.int a), none, none], mx_wr M 119 0 (nI 0))) (φ := mx_ocl LAY 119 = 10 ∧ True) rfl ⟨oc_119, trivial⟩ ?_
    refine sW_eq (st' := ([.int f, .ref 119], [some (.ref 119), some (.int f), some (.int a), none, none], M0)) (by simp (disch := omega) only [e0]) ?_
    refine sW_callV 10 [.int f] [] d_Mo_answers_7 c_Mo_answers_7 ⟨rfl, rfl, rfl, Nat.le_of_ble_eq_true rfl, rfl, rfl⟩ oc_119 (k_isType G hR h8 f) ?_
    rintro _ M₁ ⟨rfl, h₁⟩
    rw [h₁]
    show sW G m_Mo_answers 10 ([.int (tf (vp_in f (gH σ).1))], [some (.ref 119), some (.int f), some (.int a), none, none], M0) _
    refine sW_if_eq 21 d_Mo_answers_10 (by decide) (fun c_10 => ?_) (fun c_10 => ?_)
    · skip
      replace c_10 := tf_z.mp c_10
      refine sW_go b_Mo_answers_21 (st' := ([.int (-1000001)], [some (.ref 119), some (.int f), some (.int a), none, none], M0)) (φ := True) rfl trivial ?_
      refine sW_retI d_Mo_answers_23 rfl (vp_nar_int _) ?_
      exact ⟨rfl, f0, h0⟩
    · skip
      replace c_10 := tf_nz.mp c_10
      refine sW_go b_Mo_answers_13 (st' := ([.int a, .ref 119], [some (.ref 119), some (.int f), some (.int a), none, none], M0)) (φ := True) rfl trivial ?_
      refine sW_callV 10 [.int a] [] d_Mo_answers_15 c_Mo_answers_15 ⟨rfl, rfl, rfl, Nat.le_of_ble_eq_true rfl, rfl, rfl⟩ oc_119 (k_isType G hR h8 a) ?_
      rintro _ M₁ ⟨rfl, h₁⟩
      rw [h₁]
      show sW G m_Mo_answers 18 ([.int (tf (vp_in a (gH σ).1))], [some (.ref 119), some (.int f), some (.int a), none, none], M0) _
      refine sW_if_ne 24 d_Mo_answers_18 (by decide) (fun c_18 => ?_) (fun c_18 => ?_)
      · skip
        replace c_18 := tf_nz.mp c_18
        exact absurd ⟨c_10, c_18⟩ hc
      · skip
        replace c_18 := tf_z.mp c_18
        refine sW_go b_Mo_answers_21 (st' := ([.int (-1000001)], [some (.ref 119), some (.int f), some (.int a), none, none], M0)) (φ := True) rfl trivial ?_
        refine sW_retI d_Mo_answers_23 rfl (vp_nar_int _) ?_
        exact ⟨rfl, f0, h0⟩
theorem mo_askable (G : mx_G) {M : mx_M} {σ : Sg} (h : MInv M σ) (hg : GOk σ) (f : Int32) : sOk G m_Mo_askable [.ref 119, .int f] M (MOk M (sp_askable σ f)) := by
  obtain ⟨M0, e0, h0, f0, g0⟩ := h.th
  have hR : RowAt M0 123 0 (gH σ) := h0.2.2.1.1
  have h8 := hg.1.1.1
  by_cases hc : vp_in f (gH σ).1
  · obtain ⟨x, hx, rfl⟩ := vp_in_of hc (by omega)
    have e : sp_askable σ (nI x) = (nI (askM (gH σ) x), σ) := by
      unfold sp_askable; rw [cif_t hc, show tn (nI x) = x from nI_clamp (by omega)]
    rw [e]
    refine sOk_of ⟨by decide +kernel, by decide +kernel, Nat.le_of_ble_eq_true rfl⟩ ?_
    show sW G m_Mo_askable 0 ([], [some (.ref 119), some (.int (nI x)), none, none], M) _
    refine sW_go b_Mo_askable_0 (st' := ([.int (nI x), .ref 119], [some (.ref 119), some (.int (nI x)), none, none], mx_wr M 119 0 (nI 0))) (φ := mx_ocl LAY 119 = 10 ∧ True) rfl ⟨oc_119, trivial⟩ ?_
    refine sW_eq (st' := ([.int (nI x), .ref 119], [some (.ref 119), some (.int (nI x)), none, none], M0)) (by simp (disch := omega) only [e0]) ?_
    refine sW_callV 10 [.int (nI x)] [] d_Mo_askable_7 c_Mo_askable_7 ⟨rfl, rfl, rfl, Nat.le_of_ble_eq_true rfl, rfl, rfl⟩ oc_119 (k_isType G hR h8 (nI x)) ?_
    rintro _ M₁ ⟨rfl, h₁⟩
    rw [h₁]
    show sW G m_Mo_askable 10 ([.int (tf (vp_in (nI x) (gH σ).1))], [some (.ref 119), some (.int (nI x)), none, none], M0) _
    refine sW_if_ne 16 d_Mo_askable_10 (by decide) (fun c_10 => ?_) (fun c_10 => ?_)
    · skip
      replace c_10 := tf_nz.mp c_10
      refine sW_go b_Mo_askable_16 (st' := ([.ref 123, .ref 119], [some (.ref 119), some (.int (nI x)), none, none], M0)) (φ := mx_ocl LAY 119 = 10 ∧ True) rfl ⟨oc_119, trivial⟩ ?_
      refine sW_callV 10 [.ref 123] [] d_Mo_askable_21 c_Mo_askable_21 ⟨rfl, rfl, rfl, Nat.le_of_ble_eq_true rfl, rfl, rfl⟩ oc_119 (k_rkH G h0 hg) ?_
      rintro _ M1 ⟨rfl, f1, h1, r1, q1⟩
      obtain ⟨n, H, S, hM⟩ := q1 (by omega)
      have hM : MC M1 (gH σ) n H S := hM
      show sW G m_Mo_askable 24 ([], [some (.ref 119), some (.int (nI x)), none, none], M1) _
      refine sW_go b_Mo_askable_24 (st' := ([.int (nI x), .ref 119], [some (.ref 119), some (.int (nI x)), none, none], M1)) (φ := True) rfl trivial ?_
      refine sW_callV 10 [.int (nI x)] [] d_Mo_askable_26 c_Mo_askable_26 ⟨rfl, rfl, rfl, Nat.le_of_ble_eq_true rfl, rfl, rfl⟩ oc_119 (k_isEmpty G hg.1.1 hM (by omega)) ?_
      rintro _ M₁ ⟨rfl, h₁⟩
      rw [h₁]
      show sW G m_Mo_askable 29 ([.int (tf (¬ HasV (gH σ) x))], [some (.ref 119), some (.int (nI x)), none, none], M1) _
      refine sW_if_eq 37 d_Mo_askable_29 (by decide) (fun c_29 => ?_) (fun c_29 => ?_)
      · skip
        replace c_29 := tf_z.mp c_29
        refine sW_go b_Mo_askable_37 (st' := ([], [some (.ref 119), some (.int (nI x)), some (.int (nI 0)), some (.int (nI 0))], M1)) (φ := True) rfl trivial ?_
        have er := r1.n
        have s8 := (srtV_bt (gH σ) x).2.2.2
        by_cases hs4 : srtV (gH σ) x = 4
        · have h4 := (srtV_4 (gH σ) x).mp hs4
          rw [← ask_4 hg.1.1 h4.1.1 h4.1.2]
          refine mx_ind (α := Nat × mx_M) (fun q => (gH σ).1 - q.1) (fun q => q.1 ≤ (gH σ).1 → MFr M1 q.2 [131, 132] [] → sW G m_Mo_askable 41 ([], [some (.ref 119), some (.int (nI x)), some (.int (nI (mkN (askP (gH σ) x) q.1))), some (.int (nI q.1))], q.2) _) ?_ (0, M1) (Nat.zero_le _) MFr.rf
          rintro ⟨t, M2⟩ ih ht i1
          dsimp only at ih ht i1 ⊢
          have hlt := mkN_lt (askP (gH σ) x) (n := t) (by omega)
          have r2 : RowAt M2 123 0 (gH σ) := r1.eq (i1.1 _ (by decide) (by decide))
          have er2 := r2.n
          have hM2 := hM.cs i1
          have h2 : MInv M2 σ := h1.scr (i1.mono (by decide) (by decide))
          by_cases htn : t < (gH σ).1
          · have q2 : nI 1 <<< (nI t &&& 31) = nI (1 * 2 ^ t) := sh_1 (by omega)
            refine sW_go b_Mo_askable_41 (st' := ([.int (M2 123 (nI 0).toNatClampNeg), .int (nI t)], [some (.ref 119), some (.int (nI x)), some (.int (nI (mkN (askP (gH σ) x) t))), some (.int (nI t))], M2)) (φ := mx_ocl LAY 119 = 10 ∧ vp_in (nI 0) (mx_len LAY false 123) ∧ True) rfl ⟨oc_119, (by simp (disch := omega) only [ln_123]; exact vp_in_nI (by omega) (by decide)), trivial⟩ ?_
            refine sW_eq (st' := ([.int (nI (gH σ).1), .int (nI t)], [some (.ref 119), some (.int (nI x)), some (.int (nI (mkN (askP (gH σ) x) t))), some (.int (nI t))], M2)) (by simp (disch := omega) only [er2, nI_clamp]) ?_
            refine sW_ic_ge 94 d_Mo_askable_48 (by decide) (fun c_48 => ?_) (fun c_48 => ?_)
            · skip
              simp (disch := omega) only [nI_leI] at c_48
              omega
            · skip
              simp (disch := omega) only [nI_leI] at c_48
              refine sW_go b_Mo_askable_51 (st' := ([.int (nI x), .ref 119], [some (.ref 119), some (.int (nI x)), some (.int (nI (mkN (askP (gH σ) x) t))), some (.int (nI t))], M2)) (φ := True) rfl trivial ?_
              refine sW_callV 10 [.int (nI x)] [] d_Mo_askable_53 c_Mo_askable_53 ⟨rfl, rfl, rfl, Nat.le_of_ble_eq_true rfl, rfl, rfl⟩ oc_119 (k_sortsOf G hg.1.1 hM2 (by omega)) ?_
              rintro _ M₁ ⟨rfl, h₁⟩
              rw [h₁]
              show sW G m_Mo_askable 56 ([.int (nI (srtV (gH σ) x))], [some (.ref 119), some (.int (nI x)), some (.int (nI (mkN (askP (gH σ) x) t))), some (.int (nI t))], M2) _
              refine sW_go b_Mo_askable_56 (st' := ([.int (nI 4), .int (nI (srtV (gH σ) x))], [some (.ref 119), some (.int (nI x)), some (.int (nI (mkN (askP (gH σ) x) t))), some (.int (nI t))], M2)) (φ := True) rfl trivial ?_
              refine sW_ic_ne 94 d_Mo_askable_57 (by decide) (fun c_57 => ?_) (fun c_57 => ?_)
              · skip
                simp (disch := omega) only [nI_eq] at c_57
                exact absurd hs4 c_57
              · skip
                simp (disch := omega) only [nI_eq] at c_57
                refine sW_go b_Mo_askable_60 (st' := ([.int (-1), .int (nI t), .ref 123, .ref 119], [some (.ref 119), some (.int (nI x)), some (.int (nI (mkN (askP (gH σ) x) t))), some (.int (nI t))], M2)) (φ := mx_ocl LAY 119 = 10 ∧ True) rfl ⟨oc_119, trivial⟩ ?_
                refine sW_callV 10 [.ref 123, .int (nI t), .int (-1)] [] d_Mo_askable_67 c_Mo_askable_67 ⟨rfl, rfl, rfl, Nat.le_of_ble_eq_true rfl, rfl, rfl⟩ oc_119 (k_layCasesN G ln_123 (Or.inl rfl) r2 hg.1 hM2 (show t < 8 by omega)) ?_
                rintro _ M3 ⟨rfl, f3, b3⟩
                have r3 : RowAt M3 123 0 (gH σ) := r2.eq (f3.1 _ (by decide) (by decide))
                show sW G m_Mo_askable 70 ([], [some (.ref 119), some (.int (nI x)), some (.int (nI (mkN (askP (gH σ) x) t))), some (.int (nI t))], M3) _
                refine sW_go b_Mo_askable_70 (st' := ([.int (nI x), .ref 119, .int (nI (mkN (askP (gH σ) x) t))], [some (.ref 119), some (.int (nI x)), some (.int (nI (mkN (askP (gH σ) x) t))), some (.int (nI t))], M3)) (φ := True) rfl trivial ?_
                refine sW_callV 10 [.int (nI x)] [.int (nI (mkN (askP (gH σ) x) t))] d_Mo_askable_73 c_Mo_askable_73 ⟨rfl, rfl, rfl, Nat.le_of_ble_eq_true rfl, rfl, rfl⟩ oc_119 (k_isMarked G r3 hg.1 b3 (by omega)) ?_
                rintro _ M₁ ⟨rfl, h₁⟩
                rw [h₁]
                show sW G m_Mo_askable 76 ([.int (tf (∃ v, v < 256 ∧ Jn (csT (gH σ) t (fun _ => False)) (v + 256) ∧ bt (funC (gH σ) v) x = 1)), .int (nI (mkN (askP (gH σ) x) t))], [some (.ref 119), some (.int (nI x)), some (.int (nI (mkN (askP (gH σ) x) t))), some (.int (nI t))], M3) _
                refine sW_if_eq 83 d_Mo_askable_76 (by decide) (fun c_76 => ?_) (fun c_76 => ?_)
                · skip
                  replace c_76 := tf_z.mp c_76
                  refine sW_go b_Mo_askable_83 (st' := ([.int (nI 1 <<< (nI t &&& 31)), .int (nI (mkN (askP (gH σ) x) t))], [some (.ref 119), some (.int (nI x)), some (.int (nI (mkN (askP (gH σ) x) t))), some (.int (nI t))], M3)) (φ := True) rfl trivial ?_
                  refine sW_eq (st' := ([.int (nI (1 * 2 ^ t)), .int (nI (mkN (askP (gH σ) x) t))], [some (.ref 119), some (.int (nI x)), some (.int (nI (mkN (askP (gH σ) x) t))), some (.int (nI t))], M3)) (by simp (disch := omega) only [q2]) ?_
                  refine sW_go b_Mo_askable_86 (st' := ([], [some (.ref 119), some (.int (nI x)), some (.int (nI (mkN (askP (gH σ) x) t) ||| nI (1 * 2 ^ t))), some (.int (nI t + nI 1))], M3)) (φ := True) rfl trivial ?_
                  refine sW_eq (st' := ([], [some (.ref 119), some (.int (nI x)), some (.int (nI (mkN (askP (gH σ) x) t ||| (1 * 2 ^ t)))), some (.int (nI (t + 1)))], M3)) (by simp (disch := omega) only [nI_add, nx_or]) ?_
                  refine sW_goto 41 d_Mo_askable_91 (by decide) ?_
                  rw [mkN_1 (P := askP (gH σ) x) c_76]
                  exact ih (t + 1, M3) (by dsimp only; omega) (by dsimp only; omega) (i1.tr f3)
                · skip
                  replace c_76 := tf_nz.mp c_76
                  refine sW_go b_Mo_askable_79 (st' := ([.int (nI 0), .int (nI (mkN (askP (gH σ) x) t))], [some (.ref 119), some (.int (nI x)), some (.int (nI (mkN (askP (gH σ) x) t))), some (.int (nI t))], M3)) (φ := True) rfl trivial ?_
                  refine sW_goto 86 d_Mo_askable_80 (by decide) ?_
                  refine sW_go b_Mo_askable_86 (st' := ([], [some (.ref 119), some (.int (nI x)), some (.int (nI (mkN (askP (gH σ) x) t) ||| nI 0)), some (.int (nI t + nI 1))], M3)) (φ := True) rfl trivial ?_
                  refine sW_eq (st' := ([], [some (.ref 119), some (.int (nI x)), some (.int (nI (mkN (askP (gH σ) x) t ||| 0))), some (.int (nI (t + 1)))], M3)) (by simp (disch := omega) only [nI_add, nx_or]) ?_
                  refine sW_goto 41 d_Mo_askable_91 (by decide) ?_
                  rw [mkN_0 (P := askP (gH σ) x) (fun q => q c_76)]
                  exact ih (t + 1, M3) (by dsimp only; omega) (by dsimp only; omega) (i1.tr f3)
          · have hte : t = (gH σ).1 := by omega
            subst hte
            refine sW_go b_Mo_askable_41 (st' := ([.int (M2 123 (nI 0).toNatClampNeg), .int (nI (gH σ).1)], [some (.ref 119), some (.int (nI x)), some (.int (nI (mkN (askP (gH σ) x) (gH σ).1))), some (.int (nI (gH σ).1))], M2)) (φ := mx_ocl LAY 119 = 10 ∧ vp_in (nI 0) (mx_len LAY false 123) ∧ True) rfl ⟨oc_119, (by simp (disch := omega) only [ln_123]; exact vp_in_nI (by omega) (by decide)), trivial⟩ ?_
            refine sW_eq (st' := ([.int (nI (gH σ).1), .int (nI (gH σ).1)], [some (.ref 119), some (.int (nI x)), some (.int (nI (mkN (askP (gH σ) x) (gH σ).1))), some (.int (nI (gH σ).1))], M2)) (by simp (disch := omega) only [er2, nI_clamp]) ?_
            refine sW_ic_ge 94 d_Mo_askable_48 (by decide) (fun c_48 => ?_) (fun c_48 => ?_)
            · skip
              simp (disch := omega) only [nI_leI] at c_48
              refine sW_go b_Mo_askable_94 (st' := ([.int (nI (mkN (askP (gH σ) x) (gH σ).1))], [some (.ref 119), some (.int (nI x)), some (.int (nI (mkN (askP (gH σ) x) (gH σ).1))), some (.int (nI (gH σ).1))], M2)) (φ := True) rfl trivial ?_
              refine sW_retI d_Mo_askable_95 rfl (vp_nar_int _) ?_
              exact ⟨rfl, f0.tr (f1.tr (i1.fr (by decide))), h2⟩
            · skip
              simp (disch := omega) only [nI_leI] at c_48
              omega
        · have hz : askM (gH σ) x = 0 := mk8_0 (fun k q => hs4 ((srtV_4 (gH σ) x).mpr ⟨⟨q.2.1, q.2.2.1⟩, Classical.byContradiction (fun z => (HasV_iff x).mp (Classical.not_not.mp c_29) |>.elim q.2.1 (fun w => w.elim q.2.2.1 z))⟩))
          rw [hz]
          refine sW_go b_Mo_askable_41 (st' := ([.int (M1 123 (nI 0).toNatClampNeg), .int (nI 0)], [some (.ref 119), some (.int (nI x)), some (.int (nI 0)), some (.int (nI 0))], M1)) (φ := mx_ocl LAY 119 = 10 ∧ vp_in (nI 0) (mx_len LAY false 123) ∧ True) rfl ⟨oc_119, (by simp (disch := omega) only [ln_123]; exact vp_in_nI (by omega) (by decide)), trivial⟩ ?_
          refine sW_eq (st' := ([.int (nI (gH σ).1), .int (nI 0)], [some (.ref 119), some (.int (nI x)), some (.int (nI 0)), some (.int (nI 0))], M1)) (by simp (disch := omega) only [er, nI_clamp]) ?_
          refine sW_ic_ge 94 d_Mo_askable_48 (by decide) (fun c_48 => ?_) (fun c_48 => ?_)
          · skip
            simp (disch := omega) only [nI_leI] at c_48
            refine sW_go b_Mo_askable_94 (st' := ([.int (nI 0)], [some (.ref 119), some (.int (nI x)), some (.int (nI 0)), some (.int (nI 0))], M1)) (φ := True) rfl trivial ?_
            refine sW_retI d_Mo_askable_95 rfl (vp_nar_int _) ?_
            exact ⟨rfl, f0.tr f1, h1⟩
          · skip
            simp (disch := omega) only [nI_leI] at c_48
            refine sW_go b_Mo_askable_51 (st' := ([.int (nI x), .ref 119], [some (.ref 119), some (.int (nI x)), some (.int (nI 0)), some (.int (nI 0))], M1)) (φ := True) rfl trivial ?_
            refine sW_callV 10 [.int (nI x)] [] d_Mo_askable_53 c_Mo_askable_53 ⟨rfl, rfl, rfl, Nat.le_of_ble_eq_true rfl, rfl, rfl⟩ oc_119 (k_sortsOf G hg.1.1 hM (by omega)) ?_
            rintro _ M₁ ⟨rfl, h₁⟩
            rw [h₁]
            show sW G m_Mo_askable 56 ([.int (nI (srtV (gH σ) x))], [some (.ref 119), some (.int (nI x)), some (.int (nI 0)), some (.int (nI 0))], M1) _
            refine sW_go b_Mo_askable_56 (st' := ([.int (nI 4), .int (nI (srtV (gH σ) x))], [some (.ref 119), some (.int (nI x)), some (.int (nI 0)), some (.int (nI 0))], M1)) (φ := True) rfl trivial ?_
            refine sW_ic_ne 94 d_Mo_askable_57 (by decide) (fun c_57 => ?_) (fun c_57 => ?_)
            · skip
              simp (disch := omega) only [nI_eq] at c_57
              refine sW_go b_Mo_askable_94 (st' := ([.int (nI 0)], [some (.ref 119), some (.int (nI x)), some (.int (nI 0)), some (.int (nI 0))], M1)) (φ := True) rfl trivial ?_
              refine sW_retI d_Mo_askable_95 rfl (vp_nar_int _) ?_
              exact ⟨rfl, f0.tr f1, h1⟩
            · skip
              simp (disch := omega) only [nI_eq] at c_57
              exact absurd c_57 hs4
      · skip
        replace c_29 := tf_nz.mp c_29
        refine sW_go b_Mo_askable_32 (st' := ([.ref 119], [some (.ref 119), some (.int (nI x)), none, none], M1)) (φ := True) rfl trivial ?_
        refine sW_callV 10 [] [] d_Mo_askable_33 c_Mo_askable_33 ⟨rfl, rfl, rfl, Nat.le_of_ble_eq_true rfl, rfl, rfl⟩ oc_119 (k_everyType G r1 h8) ?_
        rintro _ M₁ ⟨rfl, h₁⟩
        rw [h₁]
        show sW G m_Mo_askable 36 ([.int (nI (2 ^ (gH σ).1 - 1))], [some (.ref 119), some (.int (nI x)), none, none], M1) _
        refine sW_retI d_Mo_askable_36 rfl (vp_nar_int _) ?_
        exact ⟨by rw [ask_e hg.1.1 c_29], f0.tr f1, h1⟩
    · skip
      replace c_10 := tf_z.mp c_10
      refine sW_go b_Mo_askable_13 (st' := ([.int (-1000001)], [some (.ref 119), some (.int (nI x)), none, none], M0)) (φ := True) rfl trivial ?_
      refine sW_retI d_Mo_askable_15 rfl (vp_nar_int _) ?_
      exact absurd hc c_10
  · have e : sp_askable σ f = ((-1000001), σ) := by unfold sp_askable; rw [cif_f hc]
    rw [e]
    refine sOk_of ⟨by decide +kernel, by decide +kernel, Nat.le_of_ble_eq_true rfl⟩ ?_
    show sW G m_Mo_askable 0 ([], [some (.ref 119), some (.int f), none, none], M) _
    refine sW_go b_Mo_askable_0 (st' := ([.int f, .ref 119], [some (.ref 119), some (.int f), none, none], mx_wr M 119 0 (nI 0))) (φ := mx_ocl LAY 119 = 10 ∧ True) rfl ⟨oc_119, trivial⟩ ?_
    refine sW_eq (st' := ([.int f, .ref 119], [some (.ref 119), some (.int f), none, none], M0)) (by simp (disch := omega) only [e0]) ?_
    refine sW_callV 10 [.int f] [] d_Mo_askable_7 c_Mo_askable_7 ⟨rfl, rfl, rfl, Nat.le_of_ble_eq_true rfl, rfl, rfl⟩ oc_119 (k_isType G hR h8 f) ?_
    rintro _ M₁ ⟨rfl, h₁⟩
    rw [h₁]
    show sW G m_Mo_askable 10 ([.int (tf (vp_in f (gH σ).1))], [some (.ref 119), some (.int f), none, none], M0) _
    refine sW_if_ne 16 d_Mo_askable_10 (by decide) (fun c_10 => ?_) (fun c_10 => ?_)
    · skip
      replace c_10 := tf_nz.mp c_10
      exact absurd c_10 hc
    · skip
      replace c_10 := tf_z.mp c_10
      refine sW_go b_Mo_askable_13 (st' := ([.int (-1000001)], [some (.ref 119), some (.int f), none, none], M0)) (φ := True) rfl trivial ?_
      refine sW_retI d_Mo_askable_15 rfl (vp_nar_int _) ?_
      exact ⟨rfl, f0, h0⟩
/-- what the pairs of k that have been seen have on a side -/
def enI (hs : Hs) (L : List Nat) (k sd i j t : Nat) : Prop := ∀ a b, (a < i ∨ (a = i ∧ b < j)) → b < L.length → bt (pairC hs (L.getD a 0) (L.getD b 0)) k = 1 → bt (if sd = 0 then L.getD a 0 else L.getD b 0) t = 1
theorem enI_s {hs : Hs} {L : List Nat} {k sd i j t : Nat} (hj : j < L.length) : enI hs L k sd i (j + 1) t ↔ enI hs L k sd i j t ∧ (bt (pairC hs (L.getD i 0) (L.getD j 0)) k = 1 → bt (if sd = 0 then L.getD i 0 else L.getD j 0) t = 1) := by
  constructor
  · exact fun q => ⟨fun a b h1 h2 => q a b (by omega) h2, q i j (by omega) hj⟩
  · rintro ⟨q1, q2⟩ a b h1 h2
    by_cases hx : a = i ∧ b = j
    · obtain ⟨rfl, rfl⟩ := hx
      exact q2
    · exact q1 a b (by omega) h2
theorem enI_r {hs : Hs} {L : List Nat} {k sd i t : Nat} : enI hs L k sd i L.length t ↔ enI hs L k sd (i + 1) 0 t := ⟨fun q a b h1 h2 => q a b (by omega) h2, fun q a b h1 h2 => q a b (by omega) h2⟩
theorem mo_ends (G : mx_G) {M : mx_M} {σ : Sg} (h : MInv M σ) (hg : GOk σ) (a b : Int32) : sOk G m_Mo_ends [.ref 119, .int a, .int b] M (MOk M (sp_ends σ a b)) := by
  obtain ⟨M0, e0, h0, f0, g0⟩ := h.th
  have hR : RowAt M0 123 0 (gH σ) := h0.2.2.1.1
  have h8 := hg.1.1.1
  by_cases hc : vp_in a (gH σ).1 ∧ vp_in b 2
  · obtain ⟨va, vb⟩ := id hc
    obtain ⟨k, hk, rfl⟩ := vp_in_of va (by omega)
    obtain ⟨sd, hsd, rfl⟩ := vp_in_of vb (by decide)
    have e : sp_ends σ (nI k) (nI sd) = (nI (endM (gH σ) k sd), σ) := by
      unfold sp_ends; rw [cif_t hc, show tn (nI k) = k from nI_clamp (by omega), show tn (nI sd) = sd from nI_clamp (by omega)]
    rw [e]
    have s8 := (srtV_bt (gH σ) k).2.2.2
    refine sOk_of ⟨by decide +kernel, by decide +kernel, Nat.le_of_ble_eq_true rfl⟩ ?_
    show sW G m_Mo_ends 0 ([], [some (.ref 119), some (.int (nI k)), some (.int (nI sd)), none, none, none], M) _
    refine sW_go b_Mo_ends_0 (st' := ([.int (nI k), .ref 119], [some (.ref 119), some (.int (nI k)), some (.int (nI sd)), none, none, none], mx_wr M 119 0 (nI 0))) (φ := mx_ocl LAY 119 = 10 ∧ True) rfl ⟨oc_119, trivial⟩ ?_
    refine sW_eq (st' := ([.int (nI k), .ref 119], [some (.ref 119), some (.int (nI k)), some (.int (nI sd)), none, none, none], M0)) (by simp (disch := omega) only [e0]) ?_
    refine sW_callV 10 [.int (nI k)] [] d_Mo_ends_7 c_Mo_ends_7 ⟨rfl, rfl, rfl, Nat.le_of_ble_eq_true rfl, rfl, rfl⟩ oc_119 (k_isType G hR h8 (nI k)) ?_
    rintro _ M₁ ⟨rfl, h₁⟩
    rw [h₁]
    show sW G m_Mo_ends 10 ([.int (tf (vp_in (nI k) (gH σ).1))], [some (.ref 119), some (.int (nI k)), some (.int (nI sd)), none, none, none], M0) _
    refine sW_if_eq 23 d_Mo_ends_10 (by decide) (fun c_10 => ?_) (fun c_10 => ?_)
    · skip
      replace c_10 := tf_z.mp c_10
      refine sW_go b_Mo_ends_23 (st' := ([.int (-1000001)], [some (.ref 119), some (.int (nI k)), some (.int (nI sd)), none, none, none], M0)) (φ := True) rfl trivial ?_
      refine sW_retI d_Mo_ends_25 rfl (vp_nar_int _) ?_
      exact absurd va c_10
    · skip
      replace c_10 := tf_nz.mp c_10
      refine sW_go b_Mo_ends_13 (st' := ([.long (lN 1), .long (lN 0), .long (nI sd).toInt64], [some (.ref 119), some (.int (nI k)), some (.int (nI sd)), none, none, none], M0)) (φ := True) rfl trivial ?_
      refine sW_callS [.long (nI sd).toInt64, .long (lN 0), .long (lN 1)] [] d_Mo_ends_17 c_Mo_ends_17 ⟨rfl, rfl, Nat.le_of_ble_eq_true rfl, rfl, rfl⟩ (k_in0 G (nI sd) 1 (by decide)) ?_
      rintro _ M₁ ⟨rfl, h₁⟩
      rw [h₁]
      show sW G m_Mo_ends 20 ([.int (tf (vp_in (nI sd) 2))], [some (.ref 119), some (.int (nI k)), some (.int (nI sd)), none, none, none], M0) _
      refine sW_if_ne 26 d_Mo_ends_20 (by decide) (fun c_20 => ?_) (fun c_20 => ?_)
      · skip
        replace c_20 := tf_nz.mp c_20
        refine sW_go b_Mo_ends_26 (st' := ([.ref 123, .ref 119], [some (.ref 119), some (.int (nI k)), some (.int (nI sd)), none, none, none], M0)) (φ := mx_ocl LAY 119 = 10 ∧ True) rfl ⟨oc_119, trivial⟩ ?_
        refine sW_callV 10 [.ref 123] [] d_Mo_ends_31 c_Mo_ends_31 ⟨rfl, rfl, rfl, Nat.le_of_ble_eq_true rfl, rfl, rfl⟩ oc_119 (k_rkH G h0 hg) ?_
        rintro _ M1 ⟨rfl, f1, h1, r1, q1⟩
        obtain ⟨n, H, S, hM⟩ := q1 (by omega)
        have hM : MC M1 (gH σ) n H S := hM
        show sW G m_Mo_ends 34 ([], [some (.ref 119), some (.int (nI k)), some (.int (nI sd)), none, none, none], M1) _
        refine sW_go b_Mo_ends_34 (st' := ([.int (nI k), .ref 119], [some (.ref 119), some (.int (nI k)), some (.int (nI sd)), none, none, none], M1)) (φ := True) rfl trivial ?_
        refine sW_callV 10 [.int (nI k)] [] d_Mo_ends_36 c_Mo_ends_36 ⟨rfl, rfl, rfl, Nat.le_of_ble_eq_true rfl, rfl, rfl⟩ oc_119 (k_isEmpty G hg.1.1 hM (by omega)) ?_
        rintro _ M₁ ⟨rfl, h₁⟩
        rw [h₁]
        show sW G m_Mo_ends 39 ([.int (tf (¬ HasV (gH σ) k))], [some (.ref 119), some (.int (nI k)), some (.int (nI sd)), none, none, none], M1) _
        refine sW_if_eq 47 d_Mo_ends_39 (by decide) (fun c_39 => ?_) (fun c_39 => ?_)
        · skip
          replace c_39 := tf_z.mp c_39
          refine sW_go b_Mo_ends_47 (st' := ([.int (nI k), .ref 119], [some (.ref 119), some (.int (nI k)), some (.int (nI sd)), none, none, none], M1)) (φ := True) rfl trivial ?_
          refine sW_callV 10 [.int (nI k)] [] d_Mo_ends_49 c_Mo_ends_49 ⟨rfl, rfl, rfl, Nat.le_of_ble_eq_true rfl, rfl, rfl⟩ oc_119 (k_sortsOf G hg.1.1 hM (by omega)) ?_
          rintro _ M₁ ⟨rfl, h₁⟩
          rw [h₁]
          show sW G m_Mo_ends 52 ([.int (nI (srtV (gH σ) k))], [some (.ref 119), some (.int (nI k)), some (.int (nI sd)), none, none, none], M1) _
          refine sW_go b_Mo_ends_52 (st' := ([.int (nI 2), .int (nI (srtV (gH σ) k))], [some (.ref 119), some (.int (nI k)), some (.int (nI sd)), none, none, none], M1)) (φ := True) rfl trivial ?_
          refine sW_ic_eq 58 d_Mo_ends_53 (by decide) (fun c_53 => ?_) (fun c_53 => ?_)
          · skip
            simp (disch := omega) only [nI_eq] at c_53
            refine sW_go b_Mo_ends_58 (st' := ([.ref 119], [some (.ref 119), some (.int (nI k)), some (.int (nI sd)), none, none, none], M1)) (φ := True) rfl trivial ?_
            refine sW_callV 10 [] [] d_Mo_ends_59 c_Mo_ends_59 ⟨rfl, rfl, rfl, Nat.le_of_ble_eq_true rfl, rfl, rfl⟩ oc_119 (k_everyType G r1 h8) ?_
            rintro _ M₁ ⟨rfl, h₁⟩
            rw [h₁]
            show sW G m_Mo_ends 62 ([.int (nI (2 ^ (gH σ).1 - 1))], [some (.ref 119), some (.int (nI k)), some (.int (nI sd)), none, none, none], M1) _
            refine sW_go b_Mo_ends_62 (st' := ([], [some (.ref 119), some (.int (nI k)), some (.int (nI sd)), some (.int (nI (2 ^ (gH σ).1 - 1))), some (.int (nI 0)), none], M1)) (φ := True) rfl trivial ?_
            have h2 := (srtV_2 (gH σ) k).mp c_53
            obtain ⟨hn, c1, c2, c3, c4, c5, c6⟩ := id hM
            have hlen := gat_len H
            have e22 := c3.1
            refine mx_ind (α := Nat × Nat) (fun q => (gat H).length - q.1) (fun q => q.1 ≤ (gat H).length → q.2 < 256 → (∀ t, t < 8 → (bt q.2 t = 1 ↔ t < (gH σ).1 ∧ enI (gH σ) (gat H) k sd q.1 0 t)) → sW G m_Mo_ends 66 ([], [some (.ref 119), some (.int (nI k)), some (.int (nI sd)), some (.int (nI q.2)), some (.int (nI q.1)), none], M1) _) ?_ (0, 2 ^ (gH σ).1 - 1) (Nat.zero_le _) (all8 h8) (fun t _ => by dsimp only; rw [bt_all]; exact ⟨fun q => ⟨q, fun x y h1 => absurd h1 (by omega)⟩, fun q => q.1⟩)
            rintro ⟨i, s⟩ ih hi hs8 hb
            dsimp only at ih hi hs8 hb ⊢
            by_cases hin : i < (gat H).length
            · skip
              refine sW_go b_Mo_ends_66 (st' := ([.int (M1 119 22), .int (nI i)], [some (.ref 119), some (.int (nI k)), some (.int (nI sd)), some (.int (nI s)), some (.int (nI i)), none], M1)) (φ := mx_ocl LAY 119 = 10 ∧ True) rfl ⟨oc_119, trivial⟩ ?_
              refine sW_eq (st' := ([.int (nI (gat H).length), .int (nI i)], [some (.ref 119), some (.int (nI k)), some (.int (nI sd)), some (.int (nI s)), some (.int (nI i)), none], M1)) (by simp (disch := omega) only [e22]) ?_
              refine sW_ic_ge 146 d_Mo_ends_72 (by decide) (fun c_72 => ?_) (fun c_72 => ?_)
              · skip
                simp (disch := omega) only [nI_leI] at c_72
                refine sW_go b_Mo_ends_146 (st' := ([.int (nI s)], [some (.ref 119), some (.int (nI k)), some (.int (nI sd)), some (.int (nI s)), some (.int (nI i)), none], M1)) (φ := True) rfl trivial ?_
                refine sW_retI d_Mo_ends_147 rfl (vp_nar_int _) ?_
                omega
              · skip
                simp (disch := omega) only [nI_leI] at c_72
                refine sW_go b_Mo_ends_75 (st' := ([], [some (.ref 119), some (.int (nI k)), some (.int (nI sd)), some (.int (nI s)), some (.int (nI i)), some (.int (nI 0))], M1)) (φ := True) rfl trivial ?_
                refine mx_ind (α := Nat × Nat) (fun q => (gat H).length - q.1) (fun q => q.1 ≤ (gat H).length → q.2 < 256 → (∀ t, t < 8 → (bt q.2 t = 1 ↔ t < (gH σ).1 ∧ enI (gH σ) (gat H) k sd i q.1 t)) → sW G m_Mo_ends 78 ([], [some (.ref 119), some (.int (nI k)), some (.int (nI sd)), some (.int (nI q.2)), some (.int (nI i)), some (.int (nI q.1))], M1) _) ?_ (0, s) (Nat.zero_le _) hs8 hb
                rintro ⟨j, s2⟩ ih2 hj hs28 hb2
                dsimp only at ih2 hj hs28 hb2 ⊢
                by_cases hjn : j < (gat H).length
                · have ex := c3.2 i hin
                  have ey := c3.2 j hjn
                  have hx := (gat_at hin).1
                  have hy := (gat_at hjn).1
                  obtain ⟨x, hxx⟩ : ∃ x, (gat H).getD i 0 = x := ⟨_, rfl⟩
                  obtain ⟨y, hyy⟩ : ∃ y, (gat H).getD j 0 = y := ⟨_, rfl⟩
                  rw [hxx] at ex hx
                  rw [hyy] at ey hy
                  have hpc := pairC_lt hg.1.1 x y
                  have es := fun t => enI_s (hs := gH σ) (k := k) (sd := sd) (i := i) (t := t) hjn
                  rw [hxx, hyy] at es
                  have yes : bt (pairC (gH σ) x y) k = 1 → ∀ z, z = (if sd = 0 then x else y) → sW G m_Mo_ends 78 ([], [some (.ref 119), some (.int (nI k)), some (.int (nI sd)), some (.int (nI (s2 &&& z))), some (.int (nI i)), some (.int (nI (j + 1)))], M1) (MOk M (nI (endM (gH σ) k sd), σ)) := fun q z hz => by
                    refine ih2 (j + 1, s2 &&& z) (by dsimp only; omega) (by dsimp only; omega) (Nat.lt_of_le_of_lt Nat.and_le_left hs28) (fun t ht => ?_)
                    dsimp only
                    rw [bt_and, hb2 t ht, es t, hz]
                    exact ⟨fun w => ⟨w.1.1, w.1.2, fun _ => w.2⟩, fun w => ⟨⟨w.1, w.2.1⟩, w.2.2 q⟩⟩
                  refine sW_go b_Mo_ends_78 (st' := ([.int (M1 119 22), .int (nI j)], [some (.ref 119), some (.int (nI k)), some (.int (nI sd)), some (.int (nI s2)), some (.int (nI i)), some (.int (nI j))], M1)) (φ := mx_ocl LAY 119 = 10 ∧ True) rfl ⟨oc_119, trivial⟩ ?_
                  refine sW_eq (st' := ([.int (nI (gat H).length), .int (nI j)], [some (.ref 119), some (.int (nI k)), some (.int (nI sd)), some (.int (nI s2)), some (.int (nI i)), some (.int (nI j))], M1)) (by simp (disch := omega) only [e22]) ?_
                  refine sW_ic_ge 140 d_Mo_ends_84 (by decide) (fun c_84 => ?_) (fun c_84 => ?_)
                  · skip
                    simp (disch := omega) only [nI_leI] at c_84
                    omega
                  · skip
                    simp (disch := omega) only [nI_leI] at c_84
                    refine sW_go b_Mo_ends_87 (st' := ([.int (M1 130 (nI j).toNatClampNeg), .int (M1 130 (nI i).toNatClampNeg), .ref 123], [some (.ref 119), some (.int (nI k)), some (.int (nI sd)), some (.int (nI s2)), some (.int (nI i)), some (.int (nI j))], M1)) (φ := mx_ocl LAY 119 = 10 ∧ mx_ocl LAY 119 = 10 ∧ vp_in (nI i) (mx_len LAY false 130) ∧ mx_ocl LAY 119 = 10 ∧ vp_in (nI j) (mx_len LAY false 130) ∧ True) rfl ⟨oc_119, oc_119, (by simp (disch := omega) only [ln_130]; exact vp_in_nI (by omega) (by decide)), oc_119, (by simp (disch := omega) only [ln_130]; exact vp_in_nI (by omega) (by decide)), trivial⟩ ?_
                    refine sW_eq (st' := ([.int (nI y), .int (nI x), .ref 123], [some (.ref 119), some (.int (nI k)), some (.int (nI sd)), some (.int (nI s2)), some (.int (nI i)), some (.int (nI j))], M1)) (by simp (disch := omega) only [ex, ey, nI_clamp]) ?_
                    refine sW_callS [.ref 123, .int (nI x), .int (nI y)] [] d_Mo_ends_105 c_Mo_ends_105 ⟨rfl, rfl, Nat.le_of_ble_eq_true rfl, rfl, rfl⟩ (k_mpair G ln_123 r1 hg.1 hx hy) ?_
                    rintro _ M₁ ⟨rfl, h₁⟩
                    rw [h₁]
                    show sW G m_Mo_ends 108 ([.int (nI (pairC (gH σ) x y))], [some (.ref 119), some (.int (nI k)), some (.int (nI sd)), some (.int (nI s2)), some (.int (nI i)), some (.int (nI j))], M1) _
                    refine sW_go b_Mo_ends_108 (st' := ([.int (nI k), .int (nI (pairC (gH σ) x y))], [some (.ref 119), some (.int (nI k)), some (.int (nI sd)), some (.int (nI s2)), some (.int (nI i)), some (.int (nI j))], M1)) (φ := True) rfl trivial ?_
                    refine sW_callS [.int (nI (pairC (gH σ) x y)), .int (nI k)] [] d_Mo_ends_109 c_Mo_ends_109 ⟨rfl, rfl, Nat.le_of_ble_eq_true rfl, rfl, rfl⟩ (k_has G (by omega) (by omega)) ?_
                    rintro _ M₁ ⟨rfl, h₁⟩
                    rw [h₁]
                    show sW G m_Mo_ends 112 ([.int (tf (bt (pairC (gH σ) x y) k = 1))], [some (.ref 119), some (.int (nI k)), some (.int (nI sd)), some (.int (nI s2)), some (.int (nI i)), some (.int (nI j))], M1) _
                    refine sW_if_eq 134 d_Mo_ends_112 (by decide) (fun c_112 => ?_) (fun c_112 => ?_)
                    · skip
                      replace c_112 := tf_z.mp c_112
                      refine sW_go b_Mo_ends_134 (st' := ([], [some (.ref 119), some (.int (nI k)), some (.int (nI sd)), some (.int (nI s2)), some (.int (nI i)), some (.int (nI j + nI 1))], M1)) (φ := True) rfl trivial ?_
                      refine sW_eq (st' := ([], [some (.ref 119), some (.int (nI k)), some (.int (nI sd)), some (.int (nI s2)), some (.int (nI i)), some (.int (nI (j + 1)))], M1)) (by simp (disch := omega) only [nI_add]) ?_
                      refine sW_goto 78 d_Mo_ends_137 (by decide) ?_
                      refine ih2 (j + 1, s2) (by dsimp only; omega) (by dsimp only; omega) hs28 (fun t ht => ?_)
                      dsimp only
                      rw [hb2 t ht, es t]
                      exact ⟨fun w => ⟨w.1, w.2, fun z => absurd z c_112⟩, fun w => ⟨w.1, w.2.1⟩⟩
                    · skip
                      replace c_112 := tf_nz.mp c_112
                      refine sW_go b_Mo_ends_115 (st' := ([.int (nI sd), .ref 130, .int (nI s2)], [some (.ref 119), some (.int (nI k)), some (.int (nI sd)), some (.int (nI s2)), some (.int (nI i)), some (.int (nI j))], M1)) (φ := mx_ocl LAY 119 = 10 ∧ True) rfl ⟨oc_119, trivial⟩ ?_
                      refine sW_if_ne 129 d_Mo_ends_121 (by decide) (fun c_121 => ?_) (fun c_121 => ?_)
                      · skip
                        simp (disch := omega) only [nI_z] at c_121
                        refine sW_go b_Mo_ends_129 (st' := ([.int (nI j), .ref 130, .int (nI s2)], [some (.ref 119), some (.int (nI k)), some (.int (nI sd)), some (.int (nI s2)), some (.int (nI i)), some (.int (nI j))], M1)) (φ := True) rfl trivial ?_
                        refine sW_go b_Mo_ends_131 (st' := ([], [some (.ref 119), some (.int (nI k)), some (.int (nI sd)), some (.int (nI s2 &&& M1 130 (nI j).toNatClampNeg)), some (.int (nI i)), some (.int (nI j))], M1)) (φ := vp_in (nI j) (mx_len LAY false 130) ∧ True) rfl ⟨(by simp (disch := omega) only [ln_130]; exact vp_in_nI (by omega) (by decide)), trivial⟩ ?_
                        refine sW_eq (st' := ([], [some (.ref 119), some (.int (nI k)), some (.int (nI sd)), some (.int (nI (s2 &&& y))), some (.int (nI i)), some (.int (nI j))], M1)) (by simp (disch := omega) only [ey, nI_clamp, nx_and]) ?_
                        refine sW_go b_Mo_ends_134 (st' := ([], [some (.ref 119), some (.int (nI k)), some (.int (nI sd)), some (.int (nI (s2 &&& y))), some (.int (nI i)), some (.int (nI j + nI 1))], M1)) (φ := True) rfl trivial ?_
                        refine sW_eq (st' := ([], [some (.ref 119), some (.int (nI k)), some (.int (nI sd)), some (.int (nI (s2 &&& y))), some (.int (nI i)), some (.int (nI (j + 1)))], M1)) (by simp (disch := omega) only [nI_add]) ?_
                        refine sW_goto 78 d_Mo_ends_137 (by decide) ?_
                        exact yes c_112 y (by rw [if_neg c_121])
                      · skip
                        simp (disch := omega) only [nI_z] at c_121
                        refine sW_go b_Mo_ends_124 (st' := ([.int (nI i), .ref 130, .int (nI s2)], [some (.ref 119), some (.int (nI k)), some (.int (nI sd)), some (.int (nI s2)), some (.int (nI i)), some (.int (nI j))], M1)) (φ := True) rfl trivial ?_
                        refine sW_goto 131 d_Mo_ends_126 (by decide) ?_
                        refine sW_go b_Mo_ends_131 (st' := ([], [some (.ref 119), some (.int (nI k)), some (.int (nI sd)), some (.int (nI s2 &&& M1 130 (nI i).toNatClampNeg)), some (.int (nI i)), some (.int (nI j))], M1)) (φ := vp_in (nI i) (mx_len LAY false 130) ∧ True) rfl ⟨(by simp (disch := omega) only [ln_130]; exact vp_in_nI (by omega) (by decide)), trivial⟩ ?_
                        refine sW_eq (st' := ([], [some (.ref 119), some (.int (nI k)), some (.int (nI sd)), some (.int (nI (s2 &&& x))), some (.int (nI i)), some (.int (nI j))], M1)) (by simp (disch := omega) only [ex, nI_clamp, nx_and]) ?_
                        refine sW_go b_Mo_ends_134 (st' := ([], [some (.ref 119), some (.int (nI k)), some (.int (nI sd)), some (.int (nI (s2 &&& x))), some (.int (nI i)), some (.int (nI j + nI 1))], M1)) (φ := True) rfl trivial ?_
                        refine sW_eq (st' := ([], [some (.ref 119), some (.int (nI k)), some (.int (nI sd)), some (.int (nI (s2 &&& x))), some (.int (nI i)), some (.int (nI (j + 1)))], M1)) (by simp (disch := omega) only [nI_add]) ?_
                        refine sW_goto 78 d_Mo_ends_137 (by decide) ?_
                        exact yes c_112 x (by rw [if_pos c_121])
                · obtain rfl : j = (gat H).length := by omega
                  refine sW_go b_Mo_ends_78 (st' := ([.int (M1 119 22), .int (nI (gat H).length)], [some (.ref 119), some (.int (nI k)), some (.int (nI sd)), some (.int (nI s2)), some (.int (nI i)), some (.int (nI (gat H).length))], M1)) (φ := mx_ocl LAY 119 = 10 ∧ True) rfl ⟨oc_119, trivial⟩ ?_
                  refine sW_eq (st' := ([.int (nI (gat H).length), .int (nI (gat H).length)], [some (.ref 119), some (.int (nI k)), some (.int (nI sd)), some (.int (nI s2)), some (.int (nI i)), some (.int (nI (gat H).length))], M1)) (by simp (disch := omega) only [e22]) ?_
                  refine sW_ic_ge 140 d_Mo_ends_84 (by decide) (fun c_84 => ?_) (fun c_84 => ?_)
                  · skip
                    simp (disch := omega) only [nI_leI] at c_84
                    refine sW_go b_Mo_ends_140 (st' := ([], [some (.ref 119), some (.int (nI k)), some (.int (nI sd)), some (.int (nI s2)), some (.int (nI i + nI 1)), some (.int (nI (gat H).length))], M1)) (φ := True) rfl trivial ?_
                    refine sW_eq (st' := ([], [some (.ref 119), some (.int (nI k)), some (.int (nI sd)), some (.int (nI s2)), some (.int (nI (i + 1))), some (.int (nI (gat H).length))], M1)) (by simp (disch := omega) only [nI_add]) ?_
                    refine sW_goto 66 d_Mo_ends_143 (by decide) ?_
                    refine sW_fg [false, false, false, false, false, true] ?_
                    show sW G m_Mo_ends 66 ([], [some (.ref 119), some (.int (nI k)), some (.int (nI sd)), some (.int (nI s2)), some (.int (nI (i + 1))), none], M1) _
                    exact ih (i + 1, s2) (by dsimp only; omega) (by dsimp only; omega) hs28 (fun t ht => by dsimp only; rw [hb2 t ht, enI_r])
                  · skip
                    simp (disch := omega) only [nI_leI] at c_84
                    omega
            · obtain rfl : i = (gat H).length := by omega
              have hee : s = endM (gH σ) k sd := mk8_of hs8 (fun t ht => by
                rw [hb t ht]
                constructor
                · rintro ⟨q1, q2⟩
                  refine ⟨q1, h2.1.1, h2.1.2, fun x y hx hy hp => ?_⟩
                  obtain ⟨i1, u1, u2⟩ := mem_at ((hM.mem hg.1.1 x).mpr hx)
                  obtain ⟨j1, v1, v2⟩ := mem_at ((hM.mem hg.1.1 y).mpr hy)
                  have := q2 i1 j1 (Or.inl u1) v1
                  rw [u2, v2] at this
                  exact this hp
                · rintro ⟨q1, _, _, q2⟩
                  refine ⟨q1, fun x y h1 h2' hp => ?_⟩
                  have hx : x < (gat H).length := by omega
                  exact q2 _ _ ((hM.mem hg.1.1 _).mp (getD_mem hx)) ((hM.mem hg.1.1 _).mp (getD_mem h2')) hp)
              refine sW_go b_Mo_ends_66 (st' := ([.int (M1 119 22), .int (nI (gat H).length)], [some (.ref 119), some (.int (nI k)), some (.int (nI sd)), some (.int (nI s)), some (.int (nI (gat H).length)), none], M1)) (φ := mx_ocl LAY 119 = 10 ∧ True) rfl ⟨oc_119, trivial⟩ ?_
              refine sW_eq (st' := ([.int (nI (gat H).length), .int (nI (gat H).length)], [some (.ref 119), some (.int (nI k)), some (.int (nI sd)), some (.int (nI s)), some (.int (nI (gat H).length)), none], M1)) (by simp (disch := omega) only [e22]) ?_
              refine sW_ic_ge 146 d_Mo_ends_72 (by decide) (fun c_72 => ?_) (fun c_72 => ?_)
              · skip
                simp (disch := omega) only [nI_leI] at c_72
                refine sW_go b_Mo_ends_146 (st' := ([.int (nI s)], [some (.ref 119), some (.int (nI k)), some (.int (nI sd)), some (.int (nI s)), some (.int (nI (gat H).length)), none], M1)) (φ := True) rfl trivial ?_
                refine sW_retI d_Mo_ends_147 rfl (vp_nar_int _) ?_
                exact ⟨by rw [hee], f0.tr f1, h1⟩
              · skip
                simp (disch := omega) only [nI_leI] at c_72
                omega
          · skip
            simp (disch := omega) only [nI_eq] at c_53
            refine sW_go b_Mo_ends_56 (st' := ([.int (nI 0)], [some (.ref 119), some (.int (nI k)), some (.int (nI sd)), none, none, none], M1)) (φ := True) rfl trivial ?_
            refine sW_retI d_Mo_ends_57 rfl (vp_nar_int _) ?_
            have hz : endM (gH σ) k sd = 0 := mk8_0 (fun t q => c_53 ((srtV_2 (gH σ) k).mpr ⟨⟨q.2.1, q.2.2.1⟩, Classical.byContradiction (fun z => (HasV_iff k).mp (Classical.not_not.mp c_39) |>.elim q.2.1 (fun w => w.elim z q.2.2.1))⟩))
            rw [hz]
            exact ⟨rfl, f0.tr f1, h1⟩
        · skip
          replace c_39 := tf_nz.mp c_39
          refine sW_go b_Mo_ends_42 (st' := ([.ref 119], [some (.ref 119), some (.int (nI k)), some (.int (nI sd)), none, none, none], M1)) (φ := True) rfl trivial ?_
          refine sW_callV 10 [] [] d_Mo_ends_43 c_Mo_ends_43 ⟨rfl, rfl, rfl, Nat.le_of_ble_eq_true rfl, rfl, rfl⟩ oc_119 (k_everyType G r1 h8) ?_
          rintro _ M₁ ⟨rfl, h₁⟩
          rw [h₁]
          show sW G m_Mo_ends 46 ([.int (nI (2 ^ (gH σ).1 - 1))], [some (.ref 119), some (.int (nI k)), some (.int (nI sd)), none, none, none], M1) _
          refine sW_retI d_Mo_ends_46 rfl (vp_nar_int _) ?_
          exact ⟨by rw [end_e hg.1.1 c_39], f0.tr f1, h1⟩
      · skip
        replace c_20 := tf_z.mp c_20
        refine sW_go b_Mo_ends_23 (st' := ([.int (-1000001)], [some (.ref 119), some (.int (nI k)), some (.int (nI sd)), none, none, none], M0)) (φ := True) rfl trivial ?_
        refine sW_retI d_Mo_ends_25 rfl (vp_nar_int _) ?_
        exact absurd vb c_20
  · have e : sp_ends σ a b = ((-1000001), σ) := by unfold sp_ends; rw [cif_f hc]
    rw [e]
    refine sOk_of ⟨by decide +kernel, by decide +kernel, Nat.le_of_ble_eq_true rfl⟩ ?_
    show sW G m_Mo_ends 0 ([], [some (.ref 119), some (.int a), some (.int b), none, none, none], M) _
    refine sW_go b_Mo_ends_0 (st' := ([.int a, .ref 119], [some (.ref 119), some (.int a), some (.int b), none, none, none], mx_wr M 119 0 (nI 0))) (φ := mx_ocl LAY 119 = 10 ∧ True) rfl ⟨oc_119, trivial⟩ ?_
    refine sW_eq (st' := ([.int a, .ref 119], [some (.ref 119), some (.int a), some (.int b), none, none, none], M0)) (by simp (disch := omega) only [e0]) ?_
    refine sW_callV 10 [.int a] [] d_Mo_ends_7 c_Mo_ends_7 ⟨rfl, rfl, rfl, Nat.le_of_ble_eq_true rfl, rfl, rfl⟩ oc_119 (k_isType G hR h8 a) ?_
    rintro _ M₁ ⟨rfl, h₁⟩
    rw [h₁]
    show sW G m_Mo_ends 10 ([.int (tf (vp_in a (gH σ).1))], [some (.ref 119), some (.int a), some (.int b), none, none, none], M0) _
    refine sW_if_eq 23 d_Mo_ends_10 (by decide) (fun c_10 => ?_) (fun c_10 => ?_)
    · skip
      replace c_10 := tf_z.mp c_10
      refine sW_go b_Mo_ends_23 (st' := ([.int (-1000001)], [some (.ref 119), some (.int a), some (.int b), none, none, none], M0)) (φ := True) rfl trivial ?_
      refine sW_retI d_Mo_ends_25 rfl (vp_nar_int _) ?_
      exact ⟨rfl, f0, h0⟩
    · skip
      replace c_10 := tf_nz.mp c_10
      refine sW_go b_Mo_ends_13 (st' := ([.long (lN 1), .long (lN 0), .long b.toInt64], [some (.ref 119), some (.int a), some (.int b), none, none, none], M0)) (φ := True) rfl trivial ?_
      refine sW_callS [.long b.toInt64, .long (lN 0), .long (lN 1)] [] d_Mo_ends_17 c_Mo_ends_17 ⟨rfl, rfl, Nat.le_of_ble_eq_true rfl, rfl, rfl⟩ (k_in0 G b 1 (by decide)) ?_
      rintro _ M₁ ⟨rfl, h₁⟩
      rw [h₁]
      show sW G m_Mo_ends 20 ([.int (tf (vp_in b 2))], [some (.ref 119), some (.int a), some (.int b), none, none, none], M0) _
      refine sW_if_ne 26 d_Mo_ends_20 (by decide) (fun c_20 => ?_) (fun c_20 => ?_)
      · skip
        replace c_20 := tf_nz.mp c_20
        exact absurd ⟨c_10, c_20⟩ hc
      · skip
        replace c_20 := tf_z.mp c_20
        refine sW_go b_Mo_ends_23 (st' := ([.int (-1000001)], [some (.ref 119), some (.int a), some (.int b), none, none, none], M0)) (φ := True) rfl trivial ?_
        refine sW_retI d_Mo_ends_25 rfl (vp_nar_int _) ?_
        exact ⟨rfl, f0, h0⟩

