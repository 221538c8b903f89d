/-! ===== TypeSets: drawn ===== -/
noncomputable def drwH (H : Hs) (x : Nat) : Hs := cif (mayP H.1 (nI (x % H.1)) (nI (x / 8 % 6)) (nI (x / 64 % 8)) (nI (x / 512 % 8))) (hsTell H (x % H.1) (x / 8 % 6) (x / 64 % 8) (x / 512 % 8)) H
theorem k_drawEq (G : mx_G) {M : mx_M} {H : Hs} {x : Nat} (hH : HsAt M 11 H) (hw : HsOk H) (h0 : 0 < H.1) (hx : x < 2 ^ 31) : sOk G m_TS_drawEquation [.ref 0, .long (lN x)] M (fun r M' => r = none ∧ Fr M M' 11 15 ∧ HsAt M' 11 (drwH H x)) := by
  have h8 := hw.1
  have z : M 11 3 = nI H.1 := hH.1
  have e0 : (nI H.1).toInt64 = lN H.1 := nI_l (by omega)
  have n0 : ¬ lN H.1 = 0 := fun q => by
    have := congrArg Int64.toInt q
    rw [lN_ti (by omega)] at this
    have h1 : (0 : Int64).toInt = 0 := by decide
    omega
  have r1 : lN x - lN x / lN H.1 * lN H.1 = lN (x % H.1) := lN_rem (by omega) (by omega)
  have d8 : lN x / lN 8 = lN (x / 8) := lN_div (by omega) (by omega)
  have d64 : lN x / lN 64 = lN (x / 64) := lN_div (by omega) (by omega)
  have d512 : lN x / lN 512 = lN (x / 512) := lN_div (by omega) (by omega)
  have r2 : lN (x / 8) - lN (x / 8) / lN 6 * lN 6 = lN (x / 8 % 6) := lN_rem (by omega) (by omega)
  have r3 : lN (x / 64) - lN (x / 64) / lN 8 * lN 8 = lN (x / 64 % 8) := lN_rem (by omega) (by omega)
  have r4 : lN (x / 512) - lN (x / 512) / lN 8 * lN 8 = lN (x / 512 % 8) := lN_rem (by omega) (by omega)
  have i1 : (lN (x % H.1)).toInt32 = nI (x % H.1) := lN_i _
  have i2 : (lN (x / 8 % 6)).toInt32 = nI (x / 8 % 6) := lN_i _
  have i3 : (lN (x / 64 % 8)).toInt32 = nI (x / 64 % 8) := lN_i _
  have i4 : (lN (x / 512 % 8)).toInt32 = nI (x / 512 % 8) := lN_i _
  have hk := Nat.mod_lt x h0
  refine sOk_of ⟨by decide +kernel, by decide +kernel, Nat.le_of_ble_eq_true rfl⟩ ?_
  show sW G m_TS_drawEquation 0 ([], [some (.ref 0), some (.long (lN x)), none, none, none, none, none], M) _
  refine sW_go b_TS_drawEquation_0 (st' := ([.int (nI 1), .int (M 11 3)], [some (.ref 0), some (.long (lN x)), none, none, none, none, none], M)) (φ := mx_ocl LAY 0 = 9 ∧ mx_ocl LAY 11 = 3 ∧ True) rfl ⟨oc_0, oc_11, trivial⟩ ?_
  refine sW_eq (st' := ([.int (nI 1), .int (nI H.1)], [some (.ref 0), some (.long (lN x)), none, none, none, none, none], M)) (by simp (disch := omega) only [z]) ?_
  refine sW_ic_ge 12 d_TS_drawEquation_8 (by decide) (fun c_8 => ?_) (fun c_8 => ?_)
  · skip
    simp (disch := omega) only [nI_leI] at c_8
    refine sW_go b_TS_drawEquation_12 (st' := ([.int ((lN x / lN 512) - (lN x / lN 512) / lN 8 * lN 8).toInt32, .int ((lN x / lN 64) - (lN x / lN 64) / lN 8 * lN 8).toInt32, .int ((lN x / lN 8) - (lN x / lN 8) / lN 6 * lN 6).toInt32, .int (lN x - lN x / (M 11 3).toInt64 * (M 11 3).toInt64).toInt32, .ref 11], [some (.ref 0), some (.long (lN x)), none, some (.int (lN x - lN x / (M 11 3).toInt64 * (M 11 3).toInt64).toInt32), some (.int ((lN x / lN 8) - (lN x / lN 8) / lN 6 * lN 6).toInt32), some (.int ((lN x / lN 64) - (lN x / lN 64) / lN 8 * lN 8).toInt32), some (.int ((lN x / lN 512) - (lN x / lN 512) / lN 8 * lN 8).toInt32)], M)) (φ := mx_ocl LAY 0 = 9 ∧ mx_ocl LAY 11 = 3 ∧ ¬ (M 11 3).toInt64 = 0 ∧ ¬ (lN 8) = 0 ∧ ¬ (lN 6) = 0 ∧ ¬ (lN 64) = 0 ∧ ¬ (lN 8) = 0 ∧ ¬ (lN 512) = 0 ∧ ¬ (lN 8) = 0 ∧ mx_ocl LAY 0 = 9 ∧ True) rfl ⟨oc_0, oc_11, (by first | decide +kernel | (rw [z, e0]; exact n0)), (by decide +kernel), (by decide +kernel), (by decide +kernel), (by decide +kernel), (by decide +kernel), (by decide +kernel), oc_0, trivial⟩ ?_
    refine sW_eq (st' := ([.int (nI (x / 512 % 8)), .int (nI (x / 64 % 8)), .int (nI (x / 8 % 6)), .int (nI (x % H.1)), .ref 11], [some (.ref 0), some (.long (lN x)), none, some (.int (nI (x % H.1))), some (.int (nI (x / 8 % 6))), some (.int (nI (x / 64 % 8))), some (.int (nI (x / 512 % 8)))], M)) (by simp (disch := omega) only [d512, d64, d8, e0, i1, i2, i3, i4, r1, r2, r3, r4, z]) ?_
    refine sW_callV 3 [.int (nI (x % H.1)), .int (nI (x / 8 % 6)), .int (nI (x / 64 % 8)), .int (nI (x / 512 % 8))] [] d_TS_drawEquation_71 c_TS_drawEquation_71 ⟨rfl, rfl, rfl, Nat.le_of_ble_eq_true rfl, rfl, rfl⟩ oc_11 (k_House_mayStand G oc_11 hH.1 h8 (nI (x % H.1)) (nI (x / 8 % 6)) (nI (x / 64 % 8)) (nI (x / 512 % 8))) ?_
    rintro _ M₁ ⟨rfl, h₁⟩
    rw [h₁]
    show sW G m_TS_drawEquation 74 ([.int (tf (mayP H.1 (nI (x % H.1)) (nI (x / 8 % 6)) (nI (x / 64 % 8)) (nI (x / 512 % 8))))], [some (.ref 0), some (.long (lN x)), none, some (.int (nI (x % H.1))), some (.int (nI (x / 8 % 6))), some (.int (nI (x / 64 % 8))), some (.int (nI (x / 512 % 8)))], M) _
    refine sW_if_eq 91 d_TS_drawEquation_74 (by decide) (fun c_74 => ?_) (fun c_74 => ?_)
    · skip
      replace c_74 := tf_z.mp c_74
      refine sW_retV d_TS_drawEquation_91 rfl ?_
      unfold drwH
      rw [cif_f c_74]
      exact ⟨rfl, Fr.rf, hH⟩
    · skip
      replace c_74 := tf_nz.mp c_74
      refine sW_go b_TS_drawEquation_77 (st' := ([.int (nI (x / 512 % 8)), .int (nI (x / 64 % 8)), .int (nI (x / 8 % 6)), .int (nI (x % H.1)), .ref 11], [some (.ref 0), some (.long (lN x)), none, some (.int (nI (x % H.1))), some (.int (nI (x / 8 % 6))), some (.int (nI (x / 64 % 8))), some (.int (nI (x / 512 % 8)))], M)) (φ := mx_ocl LAY 0 = 9 ∧ True) rfl ⟨oc_0, trivial⟩ ?_
      refine sW_callV 3 [.int (nI (x % H.1)), .int (nI (x / 8 % 6)), .int (nI (x / 64 % 8)), .int (nI (x / 512 % 8))] [] d_TS_drawEquation_88 c_TS_drawEquation_88 ⟨rfl, rfl, rfl, Nat.le_of_ble_eq_true rfl, rfl, rfl⟩ oc_11 (k_House_tell G oc_11 (by omega) (nI (x / 8 % 6)) (nI (x / 64 % 8)) (nI (x / 512 % 8))) ?_
      rintro _ M2 ⟨rfl, g2⟩
      show sW G m_TS_drawEquation 91 ([], [some (.ref 0), some (.long (lN x)), none, some (.int (nI (x % H.1))), some (.int (nI (x / 8 % 6))), some (.int (nI (x / 64 % 8))), some (.int (nI (x / 512 % 8)))], M2) _
      refine sW_retV d_TS_drawEquation_91 rfl ?_
      unfold drwH
      rw [cif_t c_74, g2]
      exact ⟨rfl, ((Fr.rf.wr (by decide) (by decide)).wr (by decide) (by decide)).wr (by decide) (by decide), hH.tell hk⟩
  · skip
    simp (disch := omega) only [nI_leI] at c_8
    refine sW_retV d_TS_drawEquation_11 rfl ?_
    omega

