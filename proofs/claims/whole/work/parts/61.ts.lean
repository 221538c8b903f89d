/-! ===== TypeSets: rows ===== -/
abbrev tn (x : Int32) : Nat := x.toNatClampNeg
theorem wr13 {M : mx_M} {v : Int32} : (mx_wr M 0 13 v) 0 13 = v := by rw [mx_wr_s, pk_us]
noncomputable def sp_row (σ : Sg) (r l n : Int32) : Int32 × Sg := cif (vp_in r 8 ∧ vp_in l 3 ∧ n ≤ nI 40) (cif (n < 0) ((-1000010) - nI 4, ws σ 4) (n, wR (ws σ 0) (rwMake (gR σ) (tn r) l (tn n)))) ((-1000001), σ)
theorem ts_row (G : mx_G) {M : mx_M} {σ : Sg} (h : CInv M σ) (r l n : Int32) : sOk G m_TS_row [.ref 0, .int r, .int l, .int n] M (COk M (sp_row σ r l n)) := by
  by_cases hc : vp_in r 8 ∧ vp_in l 3 ∧ n ≤ nI 40
  · obtain ⟨hr, hl, hn⟩ := id hc
    obtain ⟨j, hj, rfl⟩ := vp_in_of hr (by decide)
    by_cases hz : n < 0
    · have e : sp_row σ (nI j) l n = ((-1000010) - nI 4, ws σ 4) := by unfold sp_row; rw [cif_t hc, cif_t hz]
      have z : (mx_wr M 0 13 (nI 4)) 0 13 = nI 4 := wr13
      rw [e]
      refine sOk_of ⟨by decide +kernel, by decide +kernel, Nat.le_of_ble_eq_true rfl⟩ ?_
      show sW G m_TS_row 0 ([], [some (.ref 0), some (.int (nI j)), some (.int l), some (.int n)], M) _
      refine sW_go b_TS_row_0 (st' := ([.int (nI j)], [some (.ref 0), some (.int (nI j)), some (.int l), some (.int n)], M)) (φ := True) rfl trivial ?_
      refine sW_callS [.int (nI j)] [] d_TS_row_1 c_TS_row_1 ⟨rfl, rfl, Nat.le_of_ble_eq_true rfl, rfl, rfl⟩ (k_isNumber G (nI j)) ?_
      rintro _ M₁ ⟨rfl, h₁⟩
      rw [h₁]
      show sW G m_TS_row 4 ([.int (tf (vp_in (nI j) 8))], [some (.ref 0), some (.int (nI j)), some (.int l), some (.int n)], M) _
      refine sW_if_eq 20 d_TS_row_4 (by decide) (fun c_4 => ?_) (fun c_4 => ?_)
      · skip
        replace c_4 := tf_z.mp c_4
        refine sW_go b_TS_row_20 (st' := ([.int (-1000001)], [some (.ref 0), some (.int (nI j)), some (.int l), some (.int n)], M)) (φ := True) rfl trivial ?_
        refine sW_retI d_TS_row_22 rfl (vp_nar_int _) ?_
        exact absurd hr c_4
      · skip
        replace c_4 := tf_nz.mp c_4
        refine sW_go b_TS_row_7 (st' := ([.int l], [some (.ref 0), some (.int (nI j)), some (.int l), some (.int n)], M)) (φ := True) rfl trivial ?_
        refine sW_callS [.int l] [] d_TS_row_8 c_TS_row_8 ⟨rfl, rfl, Nat.le_of_ble_eq_true rfl, rfl, rfl⟩ (k_isLane G l) ?_
        rintro _ M₁ ⟨rfl, h₁⟩
        rw [h₁]
        show sW G m_TS_row 11 ([.int (tf (vp_in l 3))], [some (.ref 0), some (.int (nI j)), some (.int l), some (.int n)], M) _
        refine sW_if_eq 20 d_TS_row_11 (by decide) (fun c_11 => ?_) (fun c_11 => ?_)
        · skip
          replace c_11 := tf_z.mp c_11
          refine sW_go b_TS_row_20 (st' := ([.int (-1000001)], [some (.ref 0), some (.int (nI j)), some (.int l), some (.int n)], M)) (φ := True) rfl trivial ?_
          refine sW_retI d_TS_row_22 rfl (vp_nar_int _) ?_
          exact absurd hl c_11
        · skip
          replace c_11 := tf_nz.mp c_11
          refine sW_go b_TS_row_14 (st' := ([.int (nI 40), .int n], [some (.ref 0), some (.int (nI j)), some (.int l), some (.int n)], M)) (φ := True) rfl trivial ?_
          refine sW_ic_le 23 d_TS_row_17 (by decide) (fun c_17 => ?_) (fun c_17 => ?_)
          · skip
            refine sW_go b_TS_row_23 (st' := ([.int n, .ref 0], [some (.ref 0), some (.int (nI j)), some (.int l), some (.int n)], M)) (φ := True) rfl trivial ?_
            refine sW_if_ge 32 d_TS_row_25 (by decide) (fun c_25 => ?_) (fun c_25 => ?_)
            · skip
              exact absurd hz (by rw [Int32.lt_iff_toInt_lt]; rw [Int32.le_iff_toInt_le] at c_25; omega)
            · skip
              refine sW_go b_TS_row_28 (st' := ([.int (nI 4), .ref 0], [some (.ref 0), some (.int (nI j)), some (.int l), some (.int n)], M)) (φ := True) rfl trivial ?_
              refine sW_goto 33 d_TS_row_29 (by decide) ?_
              refine sW_go b_TS_row_33 (st' := ([.int ((mx_wr M 0 13 (nI 4)) 0 13)], [some (.ref 0), some (.int (nI j)), some (.int l), some (.int n)], mx_wr M 0 13 (nI 4))) (φ := mx_ocl LAY 0 = 9 ∧ mx_ocl LAY 0 = 9 ∧ True) rfl ⟨oc_0, oc_0, trivial⟩ ?_
              refine sW_eq (st' := ([.int (nI 4)], [some (.ref 0), some (.int (nI j)), some (.int l), some (.int n)], mx_wr M 0 13 (nI 4))) (by simp (disch := omega) only [z]) ?_
              refine sW_if_eq 51 d_TS_row_40 (by decide) (fun c_40 => ?_) (fun c_40 => ?_)
              · skip
                simp (disch := omega) only [nI_z] at c_40
                refine sW_go b_TS_row_51 (st' := ([.int n, .int l, .int (nI j), .ref 1], [some (.ref 0), some (.int (nI j)), some (.int l), some (.int n)], mx_wr M 0 13 (nI 4))) (φ := mx_ocl LAY 0 = 9 ∧ True) rfl ⟨oc_0, trivial⟩ ?_
                exact absurd c_40 (by decide)
              · skip
                simp (disch := omega) only [nI_z] at c_40
                refine sW_go b_TS_row_43 (st' := ([.int ((-1000010) - (mx_wr M 0 13 (nI 4)) 0 13)], [some (.ref 0), some (.int (nI j)), some (.int l), some (.int n)], mx_wr M 0 13 (nI 4))) (φ := mx_ocl LAY 0 = 9 ∧ True) rfl ⟨oc_0, trivial⟩ ?_
                refine sW_eq (st' := ([.int ((-1000010) - nI 4)], [some (.ref 0), some (.int (nI j)), some (.int l), some (.int n)], mx_wr M 0 13 (nI 4))) (by simp (disch := omega) only [z]) ?_
                refine sW_retI d_TS_row_50 rfl (vp_nar_int _) ?_
                exact ⟨rfl, Fr.rf.wr (by decide) (by decide), h.st 4⟩
          · skip
            refine sW_go b_TS_row_20 (st' := ([.int (-1000001)], [some (.ref 0), some (.int (nI j)), some (.int l), some (.int n)], M)) (φ := True) rfl trivial ?_
            refine sW_retI d_TS_row_22 rfl (vp_nar_int _) ?_
            exact absurd hn c_17
    · obtain ⟨k, hk, rfl⟩ := nI_of hz
      have hk40 : k ≤ 40 := by rw [nI_leI hk (by decide)] at hn; exact hn
      have e : sp_row σ (nI j) l (nI k) = (nI k, wR (ws σ 0) (rwMake (gR σ) j l k)) := by unfold sp_row tn; rw [cif_t hc, cif_f hz, nI_clamp (by omega), nI_clamp hk]
      have z : (mx_wr M 0 13 (nI 0)) 0 13 = nI 0 := wr13
      have h' := h.st 0
      rw [e]
      refine sOk_of ⟨by decide +kernel, by decide +kernel, Nat.le_of_ble_eq_true rfl⟩ ?_
      show sW G m_TS_row 0 ([], [some (.ref 0), some (.int (nI j)), some (.int l), some (.int (nI k))], M) _
      refine sW_go b_TS_row_0 (st' := ([.int (nI j)], [some (.ref 0), some (.int (nI j)), some (.int l), some (.int (nI k))], M)) (φ := True) rfl trivial ?_
      refine sW_callS [.int (nI j)] [] d_TS_row_1 c_TS_row_1 ⟨rfl, rfl, Nat.le_of_ble_eq_true rfl, rfl, rfl⟩ (k_isNumber G (nI j)) ?_
      rintro _ M₁ ⟨rfl, h₁⟩
      rw [h₁]
      show sW G m_TS_row 4 ([.int (tf (vp_in (nI j) 8))], [some (.ref 0), some (.int (nI j)), some (.int l), some (.int (nI k))], M) _
      refine sW_if_eq 20 d_TS_row_4 (by decide) (fun c_4 => ?_) (fun c_4 => ?_)
      · skip
        replace c_4 := tf_z.mp c_4
        refine sW_go b_TS_row_20 (st' := ([.int (-1000001)], [some (.ref 0), some (.int (nI j)), some (.int l), some (.int (nI k))], M)) (φ := True) rfl trivial ?_
        refine sW_retI d_TS_row_22 rfl (vp_nar_int _) ?_
        exact absurd hr c_4
      · skip
        replace c_4 := tf_nz.mp c_4
        refine sW_go b_TS_row_7 (st' := ([.int l], [some (.ref 0), some (.int (nI j)), some (.int l), some (.int (nI k))], M)) (φ := True) rfl trivial ?_
        refine sW_callS [.int l] [] d_TS_row_8 c_TS_row_8 ⟨rfl, rfl, Nat.le_of_ble_eq_true rfl, rfl, rfl⟩ (k_isLane G l) ?_
        rintro _ M₁ ⟨rfl, h₁⟩
        rw [h₁]
        show sW G m_TS_row 11 ([.int (tf (vp_in l 3))], [some (.ref 0), some (.int (nI j)), some (.int l), some (.int (nI k))], M) _
        refine sW_if_eq 20 d_TS_row_11 (by decide) (fun c_11 => ?_) (fun c_11 => ?_)
        · skip
          replace c_11 := tf_z.mp c_11
          refine sW_go b_TS_row_20 (st' := ([.int (-1000001)], [some (.ref 0), some (.int (nI j)), some (.int l), some (.int (nI k))], M)) (φ := True) rfl trivial ?_
          refine sW_retI d_TS_row_22 rfl (vp_nar_int _) ?_
          exact absurd hl c_11
        · skip
          replace c_11 := tf_nz.mp c_11
          refine sW_go b_TS_row_14 (st' := ([.int (nI 40), .int (nI k)], [some (.ref 0), some (.int (nI j)), some (.int l), some (.int (nI k))], M)) (φ := True) rfl trivial ?_
          refine sW_ic_le 23 d_TS_row_17 (by decide) (fun c_17 => ?_) (fun c_17 => ?_)
          · skip
            simp (disch := omega) only [nI_leI] at c_17
            refine sW_go b_TS_row_23 (st' := ([.int (nI k), .ref 0], [some (.ref 0), some (.int (nI j)), some (.int l), some (.int (nI k))], M)) (φ := True) rfl trivial ?_
            refine sW_if_ge 32 d_TS_row_25 (by decide) (fun c_25 => ?_) (fun c_25 => ?_)
            · skip
              refine sW_go b_TS_row_32 (st' := ([.int (nI 0), .ref 0], [some (.ref 0), some (.int (nI j)), some (.int l), some (.int (nI k))], M)) (φ := True) rfl trivial ?_
              refine sW_go b_TS_row_33 (st' := ([.int ((mx_wr M 0 13 (nI 0)) 0 13)], [some (.ref 0), some (.int (nI j)), some (.int l), some (.int (nI k))], mx_wr M 0 13 (nI 0))) (φ := mx_ocl LAY 0 = 9 ∧ mx_ocl LAY 0 = 9 ∧ True) rfl ⟨oc_0, oc_0, trivial⟩ ?_
              refine sW_eq (st' := ([.int (nI 0)], [some (.ref 0), some (.int (nI j)), some (.int l), some (.int (nI k))], mx_wr M 0 13 (nI 0))) (by simp (disch := omega) only [z]) ?_
              refine sW_if_eq 51 d_TS_row_40 (by decide) (fun c_40 => ?_) (fun c_40 => ?_)
              · skip
                simp (disch := omega) only [nI_z] at c_40
                refine sW_go b_TS_row_51 (st' := ([.int (nI k), .int l, .int (nI j), .ref 1], [some (.ref 0), some (.int (nI j)), some (.int l), some (.int (nI k))], mx_wr M 0 13 (nI 0))) (φ := mx_ocl LAY 0 = 9 ∧ True) rfl ⟨oc_0, trivial⟩ ?_
                refine sW_callV 5 [.int (nI j), .int l, .int (nI k)] [] d_TS_row_58 c_TS_row_58 ⟨rfl, rfl, rfl, Nat.le_of_ble_eq_true rfl, rfl, rfl⟩ oc_1 (k_make G h'.1 hj hk40 hl) ?_
                rintro _ M2 ⟨rfl, g1, g2⟩
                show sW G m_TS_row 61 ([], [some (.ref 0), some (.int (nI j)), some (.int l), some (.int (nI k))], M2) _
                refine sW_go b_TS_row_61 (st' := ([.int (nI k)], [some (.ref 0), some (.int (nI j)), some (.int l), some (.int (nI k))], M2)) (φ := True) rfl trivial ?_
                refine sW_retI d_TS_row_62 rfl (vp_nar_int _) ?_
                exact ⟨rfl, (Fr.rf.wr (by decide) (by decide)).tr (g1.mono (by decide) (by decide)), h'.rows g1 g2⟩
              · skip
                simp (disch := omega) only [nI_z] at c_40
                refine sW_go b_TS_row_43 (st' := ([.int ((-1000010) - (mx_wr M 0 13 (nI 0)) 0 13)], [some (.ref 0), some (.int (nI j)), some (.int l), some (.int (nI k))], mx_wr M 0 13 (nI 0))) (φ := mx_ocl LAY 0 = 9 ∧ True) rfl ⟨oc_0, trivial⟩ ?_
                refine sW_eq (st' := ([.int ((-1000010) - nI 0)], [some (.ref 0), some (.int (nI j)), some (.int l), some (.int (nI k))], mx_wr M 0 13 (nI 0))) (by simp (disch := omega) only [z]) ?_
                refine sW_retI d_TS_row_50 rfl (vp_nar_int _) ?_
                exact absurd trivial c_40
            · skip
              exact absurd c_25 (fun q => hz (by rw [Int32.lt_iff_toInt_lt]; rw [Int32.le_iff_toInt_le] at q; omega))
          · skip
            simp (disch := omega) only [nI_leI] at c_17
            refine sW_go b_TS_row_20 (st' := ([.int (-1000001)], [some (.ref 0), some (.int (nI j)), some (.int l), some (.int (nI k))], M)) (φ := True) rfl trivial ?_
            refine sW_retI d_TS_row_22 rfl (vp_nar_int _) ?_
            omega
  · have e : sp_row σ r l n = ((-1000001), σ) := by unfold sp_row; rw [cif_f hc]
    rw [e]
    refine sOk_of ⟨by decide +kernel, by decide +kernel, Nat.le_of_ble_eq_true rfl⟩ ?_
    show sW G m_TS_row 0 ([], [some (.ref 0), some (.int r), some (.int l), some (.int n)], M) _
    refine sW_go b_TS_row_0 (st' := ([.int r], [some (.ref 0), some (.int r), some (.int l), some (.int n)], M)) (φ := True) rfl trivial ?_
    refine sW_callS [.int r] [] d_TS_row_1 c_TS_row_1 ⟨rfl, rfl, Nat.le_of_ble_eq_true rfl, rfl, rfl⟩ (k_isNumber G r) ?_
    rintro _ M₁ ⟨rfl, h₁⟩
    rw [h₁]
    show sW G m_TS_row 4 ([.int (tf (vp_in r 8))], [some (.ref 0), some (.int r), some (.int l), some (.int n)], M) _
    refine sW_if_eq 20 d_TS_row_4 (by decide) (fun c_4 => ?_) (fun c_4 => ?_)
    · skip
      replace c_4 := tf_z.mp c_4
      refine sW_go b_TS_row_20 (st' := ([.int (-1000001)], [some (.ref 0), some (.int r), some (.int l), some (.int n)], M)) (φ := True) rfl trivial ?_
      refine sW_retI d_TS_row_22 rfl (vp_nar_int _) ?_
      exact ⟨rfl, Fr.rf, h⟩
    · skip
      replace c_4 := tf_nz.mp c_4
      refine sW_go b_TS_row_7 (st' := ([.int l], [some (.ref 0), some (.int r), some (.int l), some (.int n)], M)) (φ := True) rfl trivial ?_
      refine sW_callS [.int l] [] d_TS_row_8 c_TS_row_8 ⟨rfl, rfl, Nat.le_of_ble_eq_true rfl, rfl, rfl⟩ (k_isLane G l) ?_
      rintro _ M₁ ⟨rfl, h₁⟩
      rw [h₁]
      show sW G m_TS_row 11 ([.int (tf (vp_in l 3))], [some (.ref 0), some (.int r), some (.int l), some (.int n)], M) _
      refine sW_if_eq 20 d_TS_row_11 (by decide) (fun c_11 => ?_) (fun c_11 => ?_)
      · skip
        replace c_11 := tf_z.mp c_11
        refine sW_go b_TS_row_20 (st' := ([.int (-1000001)], [some (.ref 0), some (.int r), some (.int l), some (.int n)], M)) (φ := True) rfl trivial ?_
        refine sW_retI d_TS_row_22 rfl (vp_nar_int _) ?_
        exact ⟨rfl, Fr.rf, h⟩
      · skip
        replace c_11 := tf_nz.mp c_11
        refine sW_go b_TS_row_14 (st' := ([.int (nI 40), .int n], [some (.ref 0), some (.int r), some (.int l), some (.int n)], M)) (φ := True) rfl trivial ?_
        refine sW_ic_le 23 d_TS_row_17 (by decide) (fun c_17 => ?_) (fun c_17 => ?_)
        · skip
          exact absurd ⟨c_4, c_11, c_17⟩ hc
        · skip
          refine sW_go b_TS_row_20 (st' := ([.int (-1000001)], [some (.ref 0), some (.int r), some (.int l), some (.int n)], M)) (φ := True) rfl trivial ?_
          refine sW_retI d_TS_row_22 rfl (vp_nar_int _) ?_
          exact ⟨rfl, Fr.rf, h⟩

