theorem mo_drop (G : mx_G) {M : mx_M} {σ : Sg} (h : MInv M σ) (r : Int32) : sOk G m_Mo_drop [.ref 119, .int r] M (MOk M (sp_drop σ r)) := by
  obtain ⟨M0, e0, h0, f0, g0⟩ := h.th
  by_cases hr : vp_in r 8
  · obtain ⟨j, hj, rfl⟩ := vp_in_of hr (by decide)
    have ct : tn (nI j) = j := nI_clamp (by omega)
    obtain ⟨M1, e1, h1, f1, s1⟩ := h0.st0
    obtain ⟨a1, a2, a3, a4, a5⟩ := h1.1 j hj
    have hR : gR (ws σ 0) = gR σ := rfl
    rw [hR] at a1 a2 a3 a4 a5
    have z1 : mx_wr M0 119 1 (nI 0) 120 j = (gR σ).1 j := by rw [e1]; exact a1
    have hln := lane_neg a2
    by_cases hl : (gR σ).1 j = -1
    · have e : sp_drop σ (nI j) = ((-1000010) - nI 1, ws σ 1) := by unfold sp_drop; rw [cif_t hr, ct, cif_t hl]
      rw [e]
      refine sOk_of ⟨by decide +kernel, by decide +kernel, Nat.le_of_ble_eq_true rfl⟩ ?_
      show sW G m_Mo_drop 0 ([], [some (.ref 119), some (.int (nI j))], M) _
      refine sW_go b_Mo_drop_0 (st' := ([.int (nI j)], [some (.ref 119), some (.int (nI j))], mx_wr M 119 0 (nI 0))) (φ := mx_ocl LAY 119 = 10 ∧ True) rfl ⟨oc_119, trivial⟩ ?_
      refine sW_eq (st' := ([.int (nI j)], [some (.ref 119), some (.int (nI j))], M0)) (by simp (disch := omega) only [e0]) ?_
      refine sW_callS [.int (nI j)] [] d_Mo_drop_6 c_Mo_drop_6 ⟨rfl, rfl, Nat.le_of_ble_eq_true rfl, rfl, rfl⟩ (k_isRow G (nI j)) ?_
      rintro _ M₁ ⟨rfl, h₁⟩
      rw [h₁]
      show sW G m_Mo_drop 9 ([.int (tf (vp_in (nI j) 8))], [some (.ref 119), some (.int (nI j))], M0) _
      refine sW_if_ne 15 d_Mo_drop_9 (by decide) (fun c_9 => ?_) (fun c_9 => ?_)
      · skip
        replace c_9 := tf_nz.mp c_9
        refine sW_go b_Mo_drop_15 (st' := ([.int ((mx_wr M0 119 1 (nI 0)) 120 (nI j).toNatClampNeg)], [some (.ref 119), some (.int (nI j))], mx_wr M0 119 1 (nI 0))) (φ := mx_ocl LAY 119 = 10 ∧ mx_ocl LAY 119 = 10 ∧ vp_in (nI j) (mx_len LAY false 120) ∧ True) rfl ⟨oc_119, oc_119, (by simp (disch := omega) only [ln_120]; exact vp_in_nI (by omega) (by decide)), trivial⟩ ?_
        refine sW_eq (st' := ([.int ((gR σ).1 j)], [some (.ref 119), some (.int (nI j))], M1)) (by simp (disch := omega) only [e1, nI_clamp, z1, a1]) ?_
        refine sW_if_ge 35 d_Mo_drop_26 (by decide) (fun c_26 => ?_) (fun c_26 => ?_)
        · skip
          exact absurd (hln.mpr hl) (le_nlt.mp c_26)
        · skip
          refine sW_go b_Mo_drop_29 (st' := ([.int (nI 1), .ref 119], [some (.ref 119), some (.int (nI j))], M1)) (φ := True) rfl trivial ?_
          refine sW_callV 10 [.int (nI 1)] [] d_Mo_drop_31 c_Mo_drop_31 ⟨rfl, rfl, rfl, Nat.le_of_ble_eq_true rfl, rfl, rfl⟩ oc_119 (k_finding G 1) ?_
          rintro _ M2 ⟨rfl, g2⟩
          show sW G m_Mo_drop 34 ([.int ((-1000010) - nI 1)], [some (.ref 119), some (.int (nI j))], M2) _
          refine sW_retI d_Mo_drop_34 rfl (vp_nar_int _) ?_
          exact MOk.find h0 f0 f1 g2
      · skip
        replace c_9 := tf_z.mp c_9
        refine sW_go b_Mo_drop_12 (st' := ([.int (-1000001)], [some (.ref 119), some (.int (nI j))], M0)) (φ := True) rfl trivial ?_
        refine sW_retI d_Mo_drop_14 rfl (vp_nar_int _) ?_
        exact absurd hr c_9
    · have e : sp_drop σ (nI j) = (nI ((gR σ).2.1 j), wR (ws σ 0) (rwLose (gR σ) j)) := by unfold sp_drop; rw [cif_t hr, ct, cif_f hl]
      rw [e]
      have z2 : mx_wr M1 120 j (-1) 121 j = nI ((gR σ).2.1 j) := by rw [mx_wr_n _ _ _ (by decide)]; exact a3
      refine sOk_of ⟨by decide +kernel, by decide +kernel, Nat.le_of_ble_eq_true rfl⟩ ?_
      show sW G m_Mo_drop 0 ([], [some (.ref 119), some (.int (nI j))], M) _
      refine sW_go b_Mo_drop_0 (st' := ([.int (nI j)], [some (.ref 119), some (.int (nI j))], mx_wr M 119 0 (nI 0))) (φ := mx_ocl LAY 119 = 10 ∧ True) rfl ⟨oc_119, trivial⟩ ?_
      refine sW_eq (st' := ([.int (nI j)], [some (.ref 119), some (.int (nI j))], M0)) (by simp (disch := omega) only [e0]) ?_
      refine sW_callS [.int (nI j)] [] d_Mo_drop_6 c_Mo_drop_6 ⟨rfl, rfl, Nat.le_of_ble_eq_true rfl, rfl, rfl⟩ (k_isRow G (nI j)) ?_
      rintro _ M₁ ⟨rfl, h₁⟩
      rw [h₁]
      show sW G m_Mo_drop 9 ([.int (tf (vp_in (nI j) 8))], [some (.ref 119), some (.int (nI j))], M0) _
      refine sW_if_ne 15 d_Mo_drop_9 (by decide) (fun c_9 => ?_) (fun c_9 => ?_)
      · skip
        replace c_9 := tf_nz.mp c_9
        refine sW_go b_Mo_drop_15 (st' := ([.int ((mx_wr M0 119 1 (nI 0)) 120 (nI j).toNatClampNeg)], [some (.ref 119), some (.int (nI j))], mx_wr M0 119 1 (nI 0))) (φ := mx_ocl LAY 119 = 10 ∧ mx_ocl LAY 119 = 10 ∧ vp_in (nI j) (mx_len LAY false 120) ∧ True) rfl ⟨oc_119, oc_119, (by simp (disch := omega) only [ln_120]; exact vp_in_nI (by omega) (by decide)), trivial⟩ ?_
        refine sW_eq (st' := ([.int ((gR σ).1 j)], [some (.ref 119), some (.int (nI j))], M1)) (by simp (disch := omega) only [e1, nI_clamp, z1, a1]) ?_
        refine sW_if_ge 35 d_Mo_drop_26 (by decide) (fun c_26 => ?_) (fun c_26 => ?_)
        · skip
          refine sW_go b_Mo_drop_35 (st' := ([.int ((mx_wr M1 120 (nI j).toNatClampNeg (-1)) 121 (nI j).toNatClampNeg)], [some (.ref 119), some (.int (nI j))], mx_wr M1 120 (nI j).toNatClampNeg (-1))) (φ := mx_ocl LAY 119 = 10 ∧ vp_in (nI j) (mx_len LAY false 120) ∧ mx_ocl LAY 119 = 10 ∧ vp_in (nI j) (mx_len LAY false 121) ∧ True) rfl ⟨oc_119, (by simp (disch := omega) only [ln_120]; exact vp_in_nI (by omega) (by decide)), oc_119, (by simp (disch := omega) only [ln_121]; exact vp_in_nI (by omega) (by decide)), trivial⟩ ?_
          refine sW_eq (st' := ([.int (nI ((gR σ).2.1 j))], [some (.ref 119), some (.int (nI j))], mx_wr M1 120 j (-1))) (by simp (disch := omega) only [nI_clamp, z2]) ?_
          refine sW_retI d_Mo_drop_48 rfl (vp_nar_int _) ?_
          have fa : MFr M0 (mx_wr M1 120 j (-1)) [120, 121, 122] [0, 1] := (f1.mono (by decide) (by decide)).wr (by decide) (by decide)
          exact ⟨rfl, f0.tr (fa.fr (by decide)), h0.rows fa (h1.1.lose (by decide) j) (by rw [mx_wr_n _ _ _ (by decide)]; exact s1)⟩
        · skip
          exact absurd (hln.mp (Classical.not_not.mp (fun w => c_26 (le_nlt.mpr w)))) hl
      · skip
        replace c_9 := tf_z.mp c_9
        exact absurd hr c_9
  · have e : sp_drop σ r = ((-1000001), σ) := by unfold sp_drop; rw [cif_f hr]
    rw [e]
    refine sOk_of ⟨by decide +kernel, by decide +kernel, Nat.le_of_ble_eq_true rfl⟩ ?_
    show sW G m_Mo_drop 0 ([], [some (.ref 119), some (.int r)], M) _
    refine sW_go b_Mo_drop_0 (st' := ([.int r], [some (.ref 119), some (.int r)], mx_wr M 119 0 (nI 0))) (φ := mx_ocl LAY 119 = 10 ∧ True) rfl ⟨oc_119, trivial⟩ ?_
    refine sW_eq (st' := ([.int r], [some (.ref 119), some (.int r)], M0)) (by simp (disch := omega) only [e0]) ?_
    refine sW_callS [.int r] [] d_Mo_drop_6 c_Mo_drop_6 ⟨rfl, rfl, Nat.le_of_ble_eq_true rfl, rfl, rfl⟩ (k_isRow G r) ?_
    rintro _ M₁ ⟨rfl, h₁⟩
    rw [h₁]
    show sW G m_Mo_drop 9 ([.int (tf (vp_in r 8))], [some (.ref 119), some (.int r)], M0) _
    refine sW_if_ne 15 d_Mo_drop_9 (by decide) (fun c_9 => ?_) (fun c_9 => ?_)
    · skip
      replace c_9 := tf_nz.mp c_9
      exact absurd c_9 hr
    · skip
      replace c_9 := tf_z.mp c_9
      refine sW_go b_Mo_drop_12 (st' := ([.int (-1000001)], [some (.ref 119), some (.int r)], M0)) (φ := True) rfl trivial ?_
      refine sW_retI d_Mo_drop_14 rfl (vp_nar_int _) ?_
      exact ⟨rfl, f0, h0⟩
theorem add64 (a b : Int32) : (a.toInt64 + b.toInt64).toInt = a.toInt + b.toInt := by
  have h1 := Int32.toInt_lt a
  have h2 := Int32.le_toInt a
  have h3 := Int32.toInt_lt b
  have h4 := Int32.le_toInt b
  rw [Int64.toInt_add, i2l_ti, i2l_ti]
  exact Int.bmod_eq_of_le (by omega) (by omega)
theorem over_gt {a b : Int32} {n : Nat} (hn : n < 2 ^ 31) : 0 < lg_cmp (a.toInt64 + b.toInt64) (nI n).toInt64 ↔ (n : Int) < a.toInt + b.toInt := by
  rw [lg_cmp_gt, Int64.lt_iff_toInt_lt, add64, i2l_ti, nI_toInt hn]
theorem over_le {a b : Int32} {n : Nat} (hn : n < 2 ^ 31) : lg_cmp (a.toInt64 + b.toInt64) (nI n).toInt64 ≤ 0 ↔ a.toInt + b.toInt ≤ (n : Int) := by
  rw [lg_cmp_le, Int64.le_iff_toInt_le, add64, i2l_ti, nI_toInt hn]
theorem neg_ti {a : Int32} : a < 0 ↔ a.toInt < 0 := by
  rw [Int32.lt_iff_toInt_lt, Int32.toInt_zero]
/-- n items, from the lowest on, or from the highest down -/
theorem k_copy143 (G : mx_G) {M M0 M1 : mx_M} {σ : Sg} (h0 : MInv M0 σ) (f0 : Fr M M0 119 139) (h1 : MInv M1 (ws σ 0)) (f1 : MFr M0 M1 [] [0, 1]) (s1 : M1 119 1 = nI 0) {x y i j n : Nat} (hx : x < 8) (hy : y < 8) (b1 : i + n ≤ (gR σ).2.1 x) (b2 : j + n ≤ (gR σ).2.1 y) (hla : (gR σ).1 x ≠ -1) (up : Nat) (hup : up = if j ≤ i then 1 else 0) :
  sW G m_Mo_copy 143 ([], [some (.ref 119), some (.int (nI x)), some (.int (nI i)), some (.int (nI y)), some (.int (nI j)), some (.int (nI n)), some (.int (nI up)), some (.int (nI 0)), none], M1) (MOk M (nI n, wR (ws σ 0) (rwMove (gR σ) x i y j n))) := by
  have q1 := (h1.1 x hx).2.2.2.1
  have q2 := (h1.1 y hy).2.2.2.1
  have hR : gR (ws σ 0) = gR σ := rfl
  rw [hR] at q1 q2
  have fin : ∀ M2 : mx_M, (∀ a, a ≠ 122 → M2 a = M1 a) → (∀ k, M2 122 k = va_cpy (M1 122) (M1 122) (x * 40 + i) (y * 40 + j) n k) → MOk M (nI n, wR (ws σ 0) (rwMove (gR σ) x i y j n)) (some (.int (nI n))) M2 := fun M2 i1 i2 => by
    have fa : MFr M0 M2 [120, 121, 122] [0, 1] := (f1.mono (by decide) (by decide)).tr (MFr.one i1 (by decide) (by decide))
    exact ⟨rfl, f0.tr (fa.fr (by decide)), h0.rows fa (h1.1.move (i1 _ (by decide)) (i1 _ (by decide)) hx hy b1 b2 hla i2) (by rw [i1 119 (by decide)]; exact s1)⟩
  by_cases hij : j ≤ i
  · rw [if_pos hij] at hup
    subst hup
    refine mx_ind (α := Nat × mx_M) (fun q => n - q.1) (fun q => q.1 ≤ n → (∀ a, a ≠ 122 → q.2 a = M1 a) → (∀ k, q.2 122 k = va_cpy (M1 122) (M1 122) (x * 40 + i) (y * 40 + j) q.1 k) → sW G m_Mo_copy 143 ([], [some (.ref 119), some (.int (nI x)), some (.int (nI i)), some (.int (nI y)), some (.int (nI j)), some (.int (nI n)), some (.int (nI 1)), some (.int (nI q.1)), none], q.2) _) ?_ (0, M1) (Nat.zero_le _) (fun _ _ => rfl) (fun k => (pk_cpy_out (by omega)).symm)
    rintro ⟨q, M2⟩ ih hq i1 i2
    dsimp only at ih hq i1 i2 ⊢
    by_cases hqn : q < n
    · have er : M2 122 (40 * x + i + q) = M1 122 (40 * x + i + q) := by
        rw [i2, pk_cpy_out (by omega)]
      refine sW_go b_Mo_copy_143 (st' := ([.int (nI n), .int (nI q)], [some (.ref 119), some (.int (nI x)), some (.int (nI i)), some (.int (nI y)), some (.int (nI j)), some (.int (nI n)), some (.int (nI 1)), some (.int (nI q)), none], M2)) (φ := True) rfl trivial ?_
      refine sW_ic_ge 204 d_Mo_copy_147 (by decide) (fun c_147 => ?_) (fun c_147 => ?_)
      · skip
        simp (disch := omega) only [nI_leI] at c_147
        omega
      · skip
        simp (disch := omega) only [nI_leI] at c_147
        refine sW_go b_Mo_copy_150 (st' := ([.int (nI 1)], [some (.ref 119), some (.int (nI x)), some (.int (nI i)), some (.int (nI y)), some (.int (nI j)), some (.int (nI n)), some (.int (nI 1)), some (.int (nI q)), none], M2)) (φ := True) rfl trivial ?_
        refine sW_if_eq 160 d_Mo_copy_152 (by decide) (fun c_152 => ?_) (fun c_152 => ?_)
        · skip
          exact absurd c_152 (by decide +kernel)
        · skip
          simp (disch := omega) only [nI_z] at c_152
          refine sW_go b_Mo_copy_155 (st' := ([.int (nI q)], [some (.ref 119), some (.int (nI x)), some (.int (nI i)), some (.int (nI y)), some (.int (nI j)), some (.int (nI n)), some (.int (nI 1)), some (.int (nI q)), none], M2)) (φ := True) rfl trivial ?_
          refine sW_goto 167 d_Mo_copy_157 (by decide) ?_
          refine sW_go b_Mo_copy_167 (st' := ([], [some (.ref 119), some (.int (nI x)), some (.int (nI i)), some (.int (nI y)), some (.int (nI j)), some (.int (nI n)), some (.int (nI 1)), some (.int (nI q + nI 1)), some (.int (nI q))], mx_wr M2 122 (((nI 40 * nI y) + nI j) + nI q).toNatClampNeg (M2 122 (((nI 40 * nI x) + nI i) + nI q).toNatClampNeg))) (φ := mx_ocl LAY 119 = 10 ∧ mx_ocl LAY 119 = 10 ∧ vp_in (((nI 40 * nI x) + nI i) + nI q) (mx_len LAY false 122) ∧ vp_in (((nI 40 * nI y) + nI j) + nI q) (mx_len LAY false 122) ∧ True) rfl ⟨oc_119, oc_119, (by simp (disch := omega) only [nI_add, pk_mul, ln_122]; exact vp_in_nI (by omega) (by decide)), (by simp (disch := omega) only [nI_add, pk_mul, ln_122]; exact vp_in_nI (by omega) (by decide)), trivial⟩ ?_
          refine sW_eq (st' := ([], [some (.ref 119), some (.int (nI x)), some (.int (nI i)), some (.int (nI y)), some (.int (nI j)), some (.int (nI n)), some (.int (nI 1)), some (.int (nI (q + 1))), some (.int (nI q))], mx_wr M2 122 (40 * y + j + q) (M1 122 (40 * x + i + q)))) (by simp (disch := omega) only [er, nI_add, nI_clamp, pk_mul]) ?_
          refine sW_goto 143 d_Mo_copy_201 (by decide) ?_
          refine sW_fg [false, false, false, false, false, false, false, false, true] ?_
          show sW G m_Mo_copy 143 ([], [some (.ref 119), some (.int (nI x)), some (.int (nI i)), some (.int (nI y)), some (.int (nI j)), some (.int (nI n)), some (.int (nI 1)), some (.int (nI (q + 1))), none], mx_wr M2 122 (40 * y + j + q) (M1 122 (40 * x + i + q))) _
          refine ih (q + 1, (mx_wr M2 122 (40 * y + j + q) (M1 122 (40 * x + i + q)))) (by dsimp only; omega) (by dsimp only; omega) (fun a ha => ?_) (fun k => ?_)
          · dsimp only
            rw [mx_wr_n _ _ _ ha]; exact i1 a ha
          · dsimp only
            rw [mx_wr_s]
            by_cases hk : k = 40 * y + j + q
            · rw [hk, pk_us, pk_cpy_in (by omega) (by omega)]
              congr 1
              omega
            · rw [pk_un hk, i2]
              by_cases hk2 : y * 40 + j ≤ k ∧ k < y * 40 + j + q
              · rw [pk_cpy_in hk2.1 hk2.2, pk_cpy_in hk2.1 (by omega)]
              · rw [pk_cpy_out (by omega), pk_cpy_out (by omega)]
    · obtain rfl : q = n := by omega
      refine sW_go b_Mo_copy_143 (st' := ([.int (nI q), .int (nI q)], [some (.ref 119), some (.int (nI x)), some (.int (nI i)), some (.int (nI y)), some (.int (nI j)), some (.int (nI q)), some (.int (nI 1)), some (.int (nI q)), none], M2)) (φ := True) rfl trivial ?_
      refine sW_ic_ge 204 d_Mo_copy_147 (by decide) (fun c_147 => ?_) (fun c_147 => ?_)
      · skip
        simp (disch := omega) only [nI_leI] at c_147
        refine sW_go b_Mo_copy_204 (st' := ([.int (nI q)], [some (.ref 119), some (.int (nI x)), some (.int (nI i)), some (.int (nI y)), some (.int (nI j)), some (.int (nI q)), some (.int (nI 1)), some (.int (nI q)), none], M2)) (φ := True) rfl trivial ?_
        refine sW_retI d_Mo_copy_206 rfl (vp_nar_int _) ?_
        exact fin M2 i1 i2
      · skip
        simp (disch := omega) only [nI_leI] at c_147
        omega
  · rw [if_neg hij] at hup
    subst hup
    refine mx_ind (α := Nat × mx_M) (fun q => n - q.1) (fun q => q.1 ≤ n → (∀ a, a ≠ 122 → q.2 a = M1 a) → (∀ k, q.2 122 k = if y * 40 + j + (n - q.1) ≤ k ∧ k < y * 40 + j + n then M1 122 (x * 40 + i + (k - (y * 40 + j))) else M1 122 k) → sW G m_Mo_copy 143 ([], [some (.ref 119), some (.int (nI x)), some (.int (nI i)), some (.int (nI y)), some (.int (nI j)), some (.int (nI n)), some (.int (nI 0)), some (.int (nI q.1)), none], q.2) _) ?_ (0, M1) (Nat.zero_le _) (fun _ _ => rfl) (fun k => (if_neg (by dsimp only; omega)).symm)
    rintro ⟨q, M2⟩ ih hq i1 i2
    dsimp only at ih hq i1 i2 ⊢
    by_cases hqn : q < n
    · have er : M2 122 (40 * x + i + (n - 1 - q)) = M1 122 (40 * x + i + (n - 1 - q)) := by
        rw [i2, if_neg (by omega)]
      have en : nI n - nI 1 - nI q = nI (n - 1 - q) := by rw [nI_sub (by omega), nI_sub (by omega)]
      refine sW_go b_Mo_copy_143 (st' := ([.int (nI n), .int (nI q)], [some (.ref 119), some (.int (nI x)), some (.int (nI i)), some (.int (nI y)), some (.int (nI j)), some (.int (nI n)), some (.int (nI 0)), some (.int (nI q)), none], M2)) (φ := True) rfl trivial ?_
      refine sW_ic_ge 204 d_Mo_copy_147 (by decide) (fun c_147 => ?_) (fun c_147 => ?_)
      · skip
        simp (disch := omega) only [nI_leI] at c_147
        omega
      · skip
        simp (disch := omega) only [nI_leI] at c_147
        refine sW_go b_Mo_copy_150 (st' := ([.int (nI 0)], [some (.ref 119), some (.int (nI x)), some (.int (nI i)), some (.int (nI y)), some (.int (nI j)), some (.int (nI n)), some (.int (nI 0)), some (.int (nI q)), none], M2)) (φ := True) rfl trivial ?_
        refine sW_if_eq 160 d_Mo_copy_152 (by decide) (fun c_152 => ?_) (fun c_152 => ?_)
        · skip
          simp (disch := omega) only [nI_z] at c_152
          refine sW_go b_Mo_copy_160 (st' := ([.int ((nI n - nI 1) - nI q)], [some (.ref 119), some (.int (nI x)), some (.int (nI i)), some (.int (nI y)), some (.int (nI j)), some (.int (nI n)), some (.int (nI 0)), some (.int (nI q)), none], M2)) (φ := True) rfl trivial ?_
          refine sW_eq (st' := ([.int (nI (n - 1 - q))], [some (.ref 119), some (.int (nI x)), some (.int (nI i)), some (.int (nI y)), some (.int (nI j)), some (.int (nI n)), some (.int (nI 0)), some (.int (nI q)), none], M2)) (by simp (disch := omega) only [en]) ?_
          refine sW_go b_Mo_copy_167 (st' := ([], [some (.ref 119), some (.int (nI x)), some (.int (nI i)), some (.int (nI y)), some (.int (nI j)), some (.int (nI n)), some (.int (nI 0)), some (.int (nI q + nI 1)), some (.int (nI (n - 1 - q)))], mx_wr M2 122 (((nI 40 * nI y) + nI j) + nI (n - 1 - q)).toNatClampNeg (M2 122 (((nI 40 * nI x) + nI i) + nI (n - 1 - q)).toNatClampNeg))) (φ := mx_ocl LAY 119 = 10 ∧ mx_ocl LAY 119 = 10 ∧ vp_in (((nI 40 * nI x) + nI i) + nI (n - 1 - q)) (mx_len LAY false 122) ∧ vp_in (((nI 40 * nI y) + nI j) + nI (n - 1 - q)) (mx_len LAY false 122) ∧ True) rfl ⟨oc_119, oc_119, (by simp (disch := omega) only [nI_add, pk_mul, ln_122]; exact vp_in_nI (by omega) (by decide)), (by simp (disch := omega) only [nI_add, pk_mul, ln_122]; exact vp_in_nI (by omega) (by decide)), trivial⟩ ?_
          refine sW_eq (st' := ([], [some (.ref 119), some (.int (nI x)), some (.int (nI i)), some (.int (nI y)), some (.int (nI j)), some (.int (nI n)), some (.int (nI 0)), some (.int (nI (q + 1))), some (.int (nI (n - 1 - q)))], mx_wr M2 122 (40 * y + j + (n - 1 - q)) (M1 122 (40 * x + i + (n - 1 - q))))) (by simp (disch := omega) only [er, nI_add, nI_clamp, pk_mul]) ?_
          refine sW_goto 143 d_Mo_copy_201 (by decide) ?_
          refine sW_fg [false, false, false, false, false, false, false, false, true] ?_
          show sW G m_Mo_copy 143 ([], [some (.ref 119), some (.int (nI x)), some (.int (nI i)), some (.int (nI y)), some (.int (nI j)), some (.int (nI n)), some (.int (nI 0)), some (.int (nI (q + 1))), none], mx_wr M2 122 (40 * y + j + (n - 1 - q)) (M1 122 (40 * x + i + (n - 1 - q)))) _
          refine ih (q + 1, (mx_wr M2 122 (40 * y + j + (n - 1 - q)) (M1 122 (40 * x + i + (n - 1 - q))))) (by dsimp only; omega) (by dsimp only; omega) (fun a ha => ?_) (fun k => ?_)
          · dsimp only
            rw [mx_wr_n _ _ _ ha]; exact i1 a ha
          · dsimp only
            rw [mx_wr_s]
            by_cases hk : k = 40 * y + j + (n - 1 - q)
            · rw [hk, pk_us, if_pos (by omega)]
              congr 1
              omega
            · rw [pk_un hk, i2]
              by_cases hk2 : y * 40 + j + (n - q) ≤ k ∧ k < y * 40 + j + n
              · rw [if_pos hk2, if_pos (by omega)]
              · rw [if_neg hk2, if_neg (by omega)]
        · skip
          exact absurd (by decide +kernel) c_152
    · obtain rfl : q = n := by omega
      refine sW_go b_Mo_copy_143 (st' := ([.int (nI q), .int (nI q)], [some (.ref 119), some (.int (nI x)), some (.int (nI i)), some (.int (nI y)), some (.int (nI j)), some (.int (nI q)), some (.int (nI 0)), some (.int (nI q)), none], M2)) (φ := True) rfl trivial ?_
      refine sW_ic_ge 204 d_Mo_copy_147 (by decide) (fun c_147 => ?_) (fun c_147 => ?_)
      · skip
        simp (disch := omega) only [nI_leI] at c_147
        refine sW_go b_Mo_copy_204 (st' := ([.int (nI q)], [some (.ref 119), some (.int (nI x)), some (.int (nI i)), some (.int (nI y)), some (.int (nI j)), some (.int (nI q)), some (.int (nI 0)), some (.int (nI q)), none], M2)) (φ := True) rfl trivial ?_
        refine sW_retI d_Mo_copy_206 rfl (vp_nar_int _) ?_
        refine fin M2 i1 (fun k => ?_)
        rw [i2, Nat.sub_self, Nat.add_zero]
        rfl
      · skip
        simp (disch := omega) only [nI_leI] at c_147
        omega
theorem mo_copy (G : mx_G) {M : mx_M} {σ : Sg} (h : MInv M σ) (a i b j n : Int32) : sOk G m_Mo_copy [.ref 119, .int a, .int i, .int b, .int j, .int n] M (MOk M (sp_copy σ a i b j n)) := by
  obtain ⟨M0, e0, h0, f0, g0⟩ := h.th
  by_cases hr : vp_in a 8 ∧ vp_in b 8
  · obtain ⟨ra, rb⟩ := id hr
    obtain ⟨x, hx, rfl⟩ := vp_in_of ra (by decide)
    obtain ⟨y, hy, rfl⟩ := vp_in_of rb (by decide)
    have cx : tn (nI x) = x := nI_clamp (by omega)
    have cy : tn (nI y) = y := nI_clamp (by omega)
    obtain ⟨M1, e1, h1, f1, s1⟩ := h0.st0
    obtain ⟨a1, a2, a3, a4, a5⟩ := h1.1 x hx
    obtain ⟨d1, d2, d3, d4, d5⟩ := h1.1 y hy
    have hR : gR (ws σ 0) = gR σ := rfl
    rw [hR] at a1 a2 a3 a4 a5 d1 d2 d3 d4 d5
    have z1 : mx_wr M0 119 1 (nI 0) 120 x = (gR σ).1 x := by rw [e1]; exact a1
    have hlx := lane_neg a2
    have hly := lane_neg d2
    have bad : ∀ (k : Nat) (M2 : mx_M), k ≠ 0 → fndM (gR σ) x i y j n = k → M2 = mx_wr M1 119 1 (nI k) → MOk M (sp_copy σ (nI x) i (nI y) j n) (some (.int ((-1000010) - nI k))) M2 := fun k M2 hk hf g2 => by
      have e : sp_copy σ (nI x) i (nI y) j n = ((-1000010) - nI k, ws σ k) := by
        unfold sp_copy; rw [cif_t hr, cx, cy, hf, cif_f hk]
      rw [e]
      exact MOk.find h0 f0 f1 g2
    have two : ¬ (gR σ).1 x < 0 → ¬ (gR σ).1 y < 0 → (gR σ).1 x = (gR σ).1 y → ¬ (placeP ((gR σ).2.1 x) i n ∧ placeP ((gR σ).2.1 y) j n) → fndM (gR σ) x i y j n = 2 := fun w1 w2 w3 w4 => by
      unfold fndM
      rw [cif_f (fun q => q.elim (fun z => w1 (hlx.mpr z)) (fun z => w2 (hly.mpr z))), cif_t w3, cif_f w4]
    refine sOk_of ⟨by decide +kernel, by decide +kernel, Nat.le_of_ble_eq_true rfl⟩ ?_
    show sW G m_Mo_copy 0 ([], [some (.ref 119), some (.int (nI x)), some (.int i), some (.int (nI y)), some (.int j), some (.int n), none, none, none], M) _
    refine sW_go b_Mo_copy_0 (st' := ([.int (nI x)], [some (.ref 119), some (.int (nI x)), some (.int i), some (.int (nI y)), some (.int j), some (.int n), none, none, none], mx_wr M 119 0 (nI 0))) (φ := mx_ocl LAY 119 = 10 ∧ True) rfl ⟨oc_119, trivial⟩ ?_
    refine sW_eq (st' := ([.int (nI x)], [some (.ref 119), some (.int (nI x)), some (.int i), some (.int (nI y)), some (.int j), some (.int n), none, none, none], M0)) (by simp (disch := omega) only [e0]) ?_
    refine sW_callS [.int (nI x)] [] d_Mo_copy_6 c_Mo_copy_6 ⟨rfl, rfl, Nat.le_of_ble_eq_true rfl, rfl, rfl⟩ (k_isRow G (nI x)) ?_
    rintro _ M₁ ⟨rfl, h₁⟩
    rw [h₁]
    show sW G m_Mo_copy 9 ([.int (tf (vp_in (nI x) 8))], [some (.ref 119), some (.int (nI x)), some (.int i), some (.int (nI y)), some (.int j), some (.int n), none, none, none], M0) _
    refine sW_if_eq 19 d_Mo_copy_9 (by decide) (fun c_9 => ?_) (fun c_9 => ?_)
    · skip
      replace c_9 := tf_z.mp c_9
      refine sW_go b_Mo_copy_19 (st' := ([.int (-1000001)], [some (.ref 119), some (.int (nI x)), some (.int i), some (.int (nI y)), some (.int j), some (.int n), none, none, none], M0)) (φ := True) rfl trivial ?_
      refine sW_retI d_Mo_copy_21 rfl (vp_nar_int _) ?_
      exact absurd ra c_9
    · skip
      replace c_9 := tf_nz.mp c_9
      refine sW_go b_Mo_copy_12 (st' := ([.int (nI y)], [some (.ref 119), some (.int (nI x)), some (.int i), some (.int (nI y)), some (.int j), some (.int n), none, none, none], M0)) (φ := True) rfl trivial ?_
      refine sW_callS [.int (nI y)] [] d_Mo_copy_13 c_Mo_copy_13 ⟨rfl, rfl, Nat.le_of_ble_eq_true rfl, rfl, rfl⟩ (k_isRow G (nI y)) ?_
      rintro _ M₁ ⟨rfl, h₁⟩
      rw [h₁]
      show sW G m_Mo_copy 16 ([.int (tf (vp_in (nI y) 8))], [some (.ref 119), some (.int (nI x)), some (.int i), some (.int (nI y)), some (.int j), some (.int n), none, none, none], M0) _
      refine sW_if_ne 22 d_Mo_copy_16 (by decide) (fun c_16 => ?_) (fun c_16 => ?_)
      · skip
        replace c_16 := tf_nz.mp c_16
        refine sW_go b_Mo_copy_22 (st' := ([.int ((mx_wr M0 119 1 (nI 0)) 120 (nI x).toNatClampNeg)], [some (.ref 119), some (.int (nI x)), some (.int i), some (.int (nI y)), some (.int j), some (.int n), none, none, none], mx_wr M0 119 1 (nI 0))) (φ := mx_ocl LAY 119 = 10 ∧ mx_ocl LAY 119 = 10 ∧ vp_in (nI x) (mx_len LAY false 120) ∧ True) rfl ⟨oc_119, oc_119, (by simp (disch := omega) only [ln_120]; exact vp_in_nI (by omega) (by decide)), trivial⟩ ?_
        refine sW_eq (st' := ([.int ((gR σ).1 x)], [some (.ref 119), some (.int (nI x)), some (.int i), some (.int (nI y)), some (.int j), some (.int n), none, none, none], M1)) (by simp (disch := omega) only [e1, nI_clamp, z1, a1]) ?_
        refine sW_if_lt 45 d_Mo_copy_33 (by decide) (fun c_33 => ?_) (fun c_33 => ?_)
        · skip
          refine sW_go b_Mo_copy_45 (st' := ([.int (nI 1), .ref 119], [some (.ref 119), some (.int (nI x)), some (.int i), some (.int (nI y)), some (.int j), some (.int n), none, none, none], M1)) (φ := True) rfl trivial ?_
          refine sW_callV 10 [.int (nI 1)] [] d_Mo_copy_47 c_Mo_copy_47 ⟨rfl, rfl, rfl, Nat.le_of_ble_eq_true rfl, rfl, rfl⟩ oc_119 (k_finding G 1) ?_
          rintro _ M2 ⟨rfl, g2⟩
          show sW G m_Mo_copy 50 ([.int ((-1000010) - nI 1)], [some (.ref 119), some (.int (nI x)), some (.int i), some (.int (nI y)), some (.int j), some (.int n), none, none, none], M2) _
          refine sW_retI d_Mo_copy_50 rfl (vp_nar_int _) ?_
          exact bad 1 M2 (by decide) (by unfold fndM; rw [cif_t (Or.inl (hlx.mp c_33))]) g2
        · skip
          refine sW_go b_Mo_copy_36 (st' := ([.int (M1 120 (nI y).toNatClampNeg)], [some (.ref 119), some (.int (nI x)), some (.int i), some (.int (nI y)), some (.int j), some (.int n), none, none, none], M1)) (φ := mx_ocl LAY 119 = 10 ∧ vp_in (nI y) (mx_len LAY false 120) ∧ True) rfl ⟨oc_119, (by simp (disch := omega) only [ln_120]; exact vp_in_nI (by omega) (by decide)), trivial⟩ ?_
          refine sW_eq (st' := ([.int ((gR σ).1 y)], [some (.ref 119), some (.int (nI x)), some (.int i), some (.int (nI y)), some (.int j), some (.int n), none, none, none], M1)) (by simp (disch := omega) only [d1, nI_clamp]) ?_
          refine sW_if_ge 51 d_Mo_copy_42 (by decide) (fun c_42 => ?_) (fun c_42 => ?_)
          · skip
            refine sW_go b_Mo_copy_51 (st' := ([.int (M1 120 (nI y).toNatClampNeg), .int (M1 120 (nI x).toNatClampNeg)], [some (.ref 119), some (.int (nI x)), some (.int i), some (.int (nI y)), some (.int j), some (.int n), none, none, none], M1)) (φ := mx_ocl LAY 119 = 10 ∧ vp_in (nI x) (mx_len LAY false 120) ∧ mx_ocl LAY 119 = 10 ∧ vp_in (nI y) (mx_len LAY false 120) ∧ True) rfl ⟨oc_119, (by simp (disch := omega) only [ln_120]; exact vp_in_nI (by omega) (by decide)), oc_119, (by simp (disch := omega) only [ln_120]; exact vp_in_nI (by omega) (by decide)), trivial⟩ ?_
            refine sW_eq (st' := ([.int ((gR σ).1 y), .int ((gR σ).1 x)], [some (.ref 119), some (.int (nI x)), some (.int i), some (.int (nI y)), some (.int j), some (.int n), none, none, none], M1)) (by simp (disch := omega) only [a1, d1, nI_clamp]) ?_
            refine sW_ic_eq 72 d_Mo_copy_63 (by decide) (fun c_63 => ?_) (fun c_63 => ?_)
            · skip
              refine sW_go b_Mo_copy_72 (st' := ([.int i], [some (.ref 119), some (.int (nI x)), some (.int i), some (.int (nI y)), some (.int j), some (.int n), none, none, none], M1)) (φ := True) rfl trivial ?_
              refine sW_if_lt 121 d_Mo_copy_73 (by decide) (fun c_73 => ?_) (fun c_73 => ?_)
              · skip
                refine sW_go b_Mo_copy_121 (st' := ([.int (nI 2), .ref 119], [some (.ref 119), some (.int (nI x)), some (.int i), some (.int (nI y)), some (.int j), some (.int n), none, none, none], M1)) (φ := True) rfl trivial ?_
                refine sW_callV 10 [.int (nI 2)] [] d_Mo_copy_123 c_Mo_copy_123 ⟨rfl, rfl, rfl, Nat.le_of_ble_eq_true rfl, rfl, rfl⟩ oc_119 (k_finding G 2) ?_
                rintro _ M2 ⟨rfl, g2⟩
                show sW G m_Mo_copy 126 ([.int ((-1000010) - nI 2)], [some (.ref 119), some (.int (nI x)), some (.int i), some (.int (nI y)), some (.int j), some (.int n), none, none, none], M2) _
                refine sW_retI d_Mo_copy_126 rfl (vp_nar_int _) ?_
                exact bad 2 M2 (by decide) (two c_33 (le_nlt.mp c_42) c_63 (fun w => by have := w.1.1; rw [neg_ti] at c_73; omega)) g2
              · skip
                refine sW_go b_Mo_copy_76 (st' := ([.int j], [some (.ref 119), some (.int (nI x)), some (.int i), some (.int (nI y)), some (.int j), some (.int n), none, none, none], M1)) (φ := True) rfl trivial ?_
                refine sW_if_lt 121 d_Mo_copy_78 (by decide) (fun c_78 => ?_) (fun c_78 => ?_)
                · skip
                  refine sW_go b_Mo_copy_121 (st' := ([.int (nI 2), .ref 119], [some (.ref 119), some (.int (nI x)), some (.int i), some (.int (nI y)), some (.int j), some (.int n), none, none, none], M1)) (φ := True) rfl trivial ?_
                  refine sW_callV 10 [.int (nI 2)] [] d_Mo_copy_123 c_Mo_copy_123 ⟨rfl, rfl, rfl, Nat.le_of_ble_eq_true rfl, rfl, rfl⟩ oc_119 (k_finding G 2) ?_
                  rintro _ M2 ⟨rfl, g2⟩
                  show sW G m_Mo_copy 126 ([.int ((-1000010) - nI 2)], [some (.ref 119), some (.int (nI x)), some (.int i), some (.int (nI y)), some (.int j), some (.int n), none, none, none], M2) _
                  refine sW_retI d_Mo_copy_126 rfl (vp_nar_int _) ?_
                  exact bad 2 M2 (by decide) (two c_33 (le_nlt.mp c_42) c_63 (fun w => by have := w.2.1; rw [neg_ti] at c_78; omega)) g2
                · skip
                  refine sW_go b_Mo_copy_81 (st' := ([.int n], [some (.ref 119), some (.int (nI x)), some (.int i), some (.int (nI y)), some (.int j), some (.int n), none, none, none], M1)) (φ := True) rfl trivial ?_
                  refine sW_if_lt 121 d_Mo_copy_83 (by decide) (fun c_83 => ?_) (fun c_83 => ?_)
                  · skip
                    refine sW_go b_Mo_copy_121 (st' := ([.int (nI 2), .ref 119], [some (.ref 119), some (.int (nI x)), some (.int i), some (.int (nI y)), some (.int j), some (.int n), none, none, none], M1)) (φ := True) rfl trivial ?_
                    refine sW_callV 10 [.int (nI 2)] [] d_Mo_copy_123 c_Mo_copy_123 ⟨rfl, rfl, rfl, Nat.le_of_ble_eq_true rfl, rfl, rfl⟩ oc_119 (k_finding G 2) ?_
                    rintro _ M2 ⟨rfl, g2⟩
                    show sW G m_Mo_copy 126 ([.int ((-1000010) - nI 2)], [some (.ref 119), some (.int (nI x)), some (.int i), some (.int (nI y)), some (.int j), some (.int n), none, none, none], M2) _
                    refine sW_retI d_Mo_copy_126 rfl (vp_nar_int _) ?_
                    exact bad 2 M2 (by decide) (two c_33 (le_nlt.mp c_42) c_63 (fun w => by have := w.1.2.1; rw [neg_ti] at c_83; omega)) g2
                  · skip
                    refine sW_go b_Mo_copy_86 (st' := ([.int (lg_cmp (i.toInt64 + n.toInt64) (M1 121 (nI x).toNatClampNeg).toInt64)], [some (.ref 119), some (.int (nI x)), some (.int i), some (.int (nI y)), some (.int j), some (.int n), none, none, none], M1)) (φ := mx_ocl LAY 119 = 10 ∧ vp_in (nI x) (mx_len LAY false 121) ∧ True) rfl ⟨oc_119, (by simp (disch := omega) only [ln_121]; exact vp_in_nI (by omega) (by decide)), trivial⟩ ?_
                    refine sW_eq (st' := ([.int (lg_cmp (i.toInt64 + n.toInt64) (nI ((gR σ).2.1 x)).toInt64)], [some (.ref 119), some (.int (nI x)), some (.int i), some (.int (nI y)), some (.int j), some (.int n), none, none, none], M1)) (by simp (disch := omega) only [a3, nI_clamp]) ?_
                    refine sW_if_gt 121 d_Mo_copy_100 (by decide) (fun c_100 => ?_) (fun c_100 => ?_)
                    · skip
                      refine sW_go b_Mo_copy_121 (st' := ([.int (nI 2), .ref 119], [some (.ref 119), some (.int (nI x)), some (.int i), some (.int (nI y)), some (.int j), some (.int n), none, none, none], M1)) (φ := True) rfl trivial ?_
                      refine sW_callV 10 [.int (nI 2)] [] d_Mo_copy_123 c_Mo_copy_123 ⟨rfl, rfl, rfl, Nat.le_of_ble_eq_true rfl, rfl, rfl⟩ oc_119 (k_finding G 2) ?_
                      rintro _ M2 ⟨rfl, g2⟩
                      show sW G m_Mo_copy 126 ([.int ((-1000010) - nI 2)], [some (.ref 119), some (.int (nI x)), some (.int i), some (.int (nI y)), some (.int j), some (.int n), none, none, none], M2) _
                      refine sW_retI d_Mo_copy_126 rfl (vp_nar_int _) ?_
                      exact bad 2 M2 (by decide) (two c_33 (le_nlt.mp c_42) c_63 (fun w => by have := w.1.2.2; rw [over_gt (by omega)] at c_100; omega)) g2
                    · skip
                      refine sW_go b_Mo_copy_103 (st' := ([.int (lg_cmp (j.toInt64 + n.toInt64) (M1 121 (nI y).toNatClampNeg).toInt64)], [some (.ref 119), some (.int (nI x)), some (.int i), some (.int (nI y)), some (.int j), some (.int n), none, none, none], M1)) (φ := mx_ocl LAY 119 = 10 ∧ vp_in (nI y) (mx_len LAY false 121) ∧ True) rfl ⟨oc_119, (by simp (disch := omega) only [ln_121]; exact vp_in_nI (by omega) (by decide)), trivial⟩ ?_
                      refine sW_eq (st' := ([.int (lg_cmp (j.toInt64 + n.toInt64) (nI ((gR σ).2.1 y)).toInt64)], [some (.ref 119), some (.int (nI x)), some (.int i), some (.int (nI y)), some (.int j), some (.int n), none, none, none], M1)) (by simp (disch := omega) only [d3, nI_clamp]) ?_
                      refine sW_if_le 127 d_Mo_copy_118 (by decide) (fun c_118 => ?_) (fun c_118 => ?_)
                      · skip
                        rw [neg_ti] at c_73 c_78 c_83
                        rw [over_gt (by omega)] at c_100
                        rw [over_le (by omega)] at c_118
                        obtain ⟨i', hi', rfl⟩ := nat_of (i := i) (by omega)
                        obtain ⟨j', hj', rfl⟩ := nat_of (i := j) (by omega)
                        obtain ⟨n', hn', rfl⟩ := nat_of (i := n) (by omega)
                        rw [nI_toInt hi'] at c_73 c_100
                        rw [nI_toInt hj'] at c_78 c_118
                        rw [nI_toInt hn'] at c_83 c_100 c_118
                        have b1 : i' + n' ≤ (gR σ).2.1 x := by omega
                        have b2 : j' + n' ≤ (gR σ).2.1 y := by omega
                        have hnx : (gR σ).1 x ≠ -1 := fun z => c_33 (hlx.mpr z)
                        have hny : (gR σ).1 y ≠ -1 := fun z => le_nlt.mp c_42 (hly.mpr z)
                        have p1 : placeP ((gR σ).2.1 x) (nI i') (nI n') := by
                          unfold placeP
                          rw [nI_toInt hi', nI_toInt hn']
                          omega
                        have p2 : placeP ((gR σ).2.1 y) (nI j') (nI n') := by
                          unfold placeP
                          rw [nI_toInt hj', nI_toInt hn']
                          omega
                        have hf : fndM (gR σ) x (nI i') y (nI j') (nI n') = 0 := by
                          unfold fndM
                          rw [cif_f (fun q => q.elim hnx hny), cif_t c_63, cif_t ⟨p1, p2⟩]
                        have e : sp_copy σ (nI x) (nI i') (nI y) (nI j') (nI n') = (nI n', wR (ws σ 0) (rwMove (gR σ) x i' y j' n')) := by
                          unfold sp_copy; rw [cif_t hr, cx, cy, cif_t hf, show tn (nI i') = i' from nI_clamp hi', show tn (nI j') = j' from nI_clamp hj', show tn (nI n') = n' from nI_clamp hn']
                        rw [e]
                        refine sW_go b_Mo_copy_127 (st' := ([.int (nI j'), .int (nI i')], [some (.ref 119), some (.int (nI x)), some (.int (nI i')), some (.int (nI y)), some (.int (nI j')), some (.int (nI n')), none, none, none], M1)) (φ := True) rfl trivial ?_
                        refine sW_ic_lt 137 d_Mo_copy_130 (by decide) (fun c_130 => ?_) (fun c_130 => ?_)
                        · skip
                          simp (disch := omega) only [nI_ltI] at c_130
                          refine sW_go b_Mo_copy_137 (st' := ([.int (nI 0)], [some (.ref 119), some (.int (nI x)), some (.int (nI i')), some (.int (nI y)), some (.int (nI j')), some (.int (nI n')), none, none, none], M1)) (φ := True) rfl trivial ?_
                          refine sW_go b_Mo_copy_138 (st' := ([], [some (.ref 119), some (.int (nI x)), some (.int (nI i')), some (.int (nI y)), some (.int (nI j')), some (.int (nI n')), some (.int (nI 0)), some (.int (nI 0)), none], M1)) (φ := True) rfl trivial ?_
                          exact k_copy143 G h0 f0 h1 f1 s1 hx hy b1 b2 hnx 0 (by rw [if_neg (by omega)])
                        · skip
                          simp (disch := omega) only [nI_ltI] at c_130
                          refine sW_go b_Mo_copy_133 (st' := ([.int (nI 1)], [some (.ref 119), some (.int (nI x)), some (.int (nI i')), some (.int (nI y)), some (.int (nI j')), some (.int (nI n')), none, none, none], M1)) (φ := True) rfl trivial ?_
                          refine sW_goto 138 d_Mo_copy_134 (by decide) ?_
                          refine sW_go b_Mo_copy_138 (st' := ([], [some (.ref 119), some (.int (nI x)), some (.int (nI i')), some (.int (nI y)), some (.int (nI j')), some (.int (nI n')), some (.int (nI 1)), some (.int (nI 0)), none], M1)) (φ := True) rfl trivial ?_
                          exact k_copy143 G h0 f0 h1 f1 s1 hx hy b1 b2 hnx 1 (by rw [if_pos (by omega)])
                      · skip
                        refine sW_go b_Mo_copy_121 (st' := ([.int (nI 2), .ref 119], [some (.ref 119), some (.int (nI x)), some (.int i), some (.int (nI y)), some (.int j), some (.int n), none, none, none], M1)) (φ := True) rfl trivial ?_
                        refine sW_callV 10 [.int (nI 2)] [] d_Mo_copy_123 c_Mo_copy_123 ⟨rfl, rfl, rfl, Nat.le_of_ble_eq_true rfl, rfl, rfl⟩ oc_119 (k_finding G 2) ?_
                        rintro _ M2 ⟨rfl, g2⟩
                        show sW G m_Mo_copy 126 ([.int ((-1000010) - nI 2)], [some (.ref 119), some (.int (nI x)), some (.int i), some (.int (nI y)), some (.int j), some (.int n), none, none, none], M2) _
                        refine sW_retI d_Mo_copy_126 rfl (vp_nar_int _) ?_
                        exact bad 2 M2 (by decide) (two c_33 (le_nlt.mp c_42) c_63 (fun w => by have := w.2.2.2; rw [over_le (by omega)] at c_118; omega)) g2
            · skip
              refine sW_go b_Mo_copy_66 (st' := ([.int (nI 5), .ref 119], [some (.ref 119), some (.int (nI x)), some (.int i), some (.int (nI y)), some (.int j), some (.int n), none, none, none], M1)) (φ := True) rfl trivial ?_
              refine sW_callV 10 [.int (nI 5)] [] d_Mo_copy_68 c_Mo_copy_68 ⟨rfl, rfl, rfl, Nat.le_of_ble_eq_true rfl, rfl, rfl⟩ oc_119 (k_finding G 5) ?_
              rintro _ M2 ⟨rfl, g2⟩
              show sW G m_Mo_copy 71 ([.int ((-1000010) - nI 5)], [some (.ref 119), some (.int (nI x)), some (.int i), some (.int (nI y)), some (.int j), some (.int n), none, none, none], M2) _
              refine sW_retI d_Mo_copy_71 rfl (vp_nar_int _) ?_
              exact bad 5 M2 (by decide) (by unfold fndM; rw [cif_f (fun q => q.elim (fun z => c_33 (hlx.mpr z)) (fun z => le_nlt.mp c_42 (hly.mpr z))), cif_f c_63]) g2
          · skip
            refine sW_go b_Mo_copy_45 (st' := ([.int (nI 1), .ref 119], [some (.ref 119), some (.int (nI x)), some (.int i), some (.int (nI y)), some (.int j), some (.int n), none, none, none], M1)) (φ := True) rfl trivial ?_
            refine sW_callV 10 [.int (nI 1)] [] d_Mo_copy_47 c_Mo_copy_47 ⟨rfl, rfl, rfl, Nat.le_of_ble_eq_true rfl, rfl, rfl⟩ oc_119 (k_finding G 1) ?_
            rintro _ M2 ⟨rfl, g2⟩
            show sW G m_Mo_copy 50 ([.int ((-1000010) - nI 1)], [some (.ref 119), some (.int (nI x)), some (.int i), some (.int (nI y)), some (.int j), some (.int n), none, none, none], M2) _
            refine sW_retI d_Mo_copy_50 rfl (vp_nar_int _) ?_
            exact bad 1 M2 (by decide) (by unfold fndM; rw [cif_t (Or.inr (hly.mp (Classical.not_not.mp (fun w => c_42 (le_nlt.mpr w)))))]) g2
      · skip
        replace c_16 := tf_z.mp c_16
        refine sW_go b_Mo_copy_19 (st' := ([.int (-1000001)], [some (.ref 119), some (.int (nI x)), some (.int i), some (.int (nI y)), some (.int j), some (.int n), none, none, none], M0)) (φ := True) rfl trivial ?_
        refine sW_retI d_Mo_copy_21 rfl (vp_nar_int _) ?_
        exact absurd rb c_16
  · have e : sp_copy σ a i b j n = ((-1000001), σ) := by unfold sp_copy; rw [cif_f hr]
    rw [e]
    refine sOk_of ⟨by decide +kernel, by decide +kernel, Nat.le_of_ble_eq_true rfl⟩ ?_
    show sW G m_Mo_copy 0 ([], [some (.ref 119), some (.int a), some (.int i), some (.int b), some (.int j), some (.int n), none, none, none], M) _
    refine sW_go b_Mo_copy_0 (st' := ([.int a], [some (.ref 119), some (.int a), some (.int i), some (.int b), some (.int j), some (.int n), none, none, none], mx_wr M 119 0 (nI 0))) (φ := mx_ocl LAY 119 = 10 ∧ True) rfl ⟨oc_119, trivial⟩ ?_
    refine sW_eq (st' := ([.int a], [some (.ref 119), some (.int a), some (.int i), some (.int b), some (.int j), some (.int n), none, none, none], M0)) (by simp (disch := omega) only [e0]) ?_
    refine sW_callS [.int a] [] d_Mo_copy_6 c_Mo_copy_6 ⟨rfl, rfl, Nat.le_of_ble_eq_true rfl, rfl, rfl⟩ (k_isRow G a) ?_
    rintro _ M₁ ⟨rfl, h₁⟩
    rw [h₁]
    show sW G m_Mo_copy 9 ([.int (tf (vp_in a 8))], [some (.ref 119), some (.int a), some (.int i), some (.int b), some (.int j), some (.int n), none, none, none], M0) _
    refine sW_if_eq 19 d_Mo_copy_9 (by decide) (fun c_9 => ?_) (fun c_9 => ?_)
    · skip
      replace c_9 := tf_z.mp c_9
      refine sW_go b_Mo_copy_19 (st' := ([.int (-1000001)], [some (.ref 119), some (.int a), some (.int i), some (.int b), some (.int j), some (.int n), none, none, none], M0)) (φ := True) rfl trivial ?_
      refine sW_retI d_Mo_copy_21 rfl (vp_nar_int _) ?_
      exact ⟨rfl, f0, h0⟩
    · skip
      replace c_9 := tf_nz.mp c_9
      refine sW_go b_Mo_copy_12 (st' := ([.int b], [some (.ref 119), some (.int a), some (.int i), some (.int b), some (.int j), some (.int n), none, none, none], M0)) (φ := True) rfl trivial ?_
      refine sW_callS [.int b] [] d_Mo_copy_13 c_Mo_copy_13 ⟨rfl, rfl, Nat.le_of_ble_eq_true rfl, rfl, rfl⟩ (k_isRow G b) ?_
      rintro _ M₁ ⟨rfl, h₁⟩
      rw [h₁]
      show sW G m_Mo_copy 16 ([.int (tf (vp_in b 8))], [some (.ref 119), some (.int a), some (.int i), some (.int b), some (.int j), some (.int n), none, none, none], M0) _
      refine sW_if_ne 22 d_Mo_copy_16 (by decide) (fun c_16 => ?_) (fun c_16 => ?_)
      · skip
        replace c_16 := tf_nz.mp c_16
        exact absurd ⟨c_9, c_16⟩ hr
      · skip
        replace c_16 := tf_z.mp c_16
        refine sW_go b_Mo_copy_19 (st' := ([.int (-1000001)], [some (.ref 119), some (.int a), some (.int i), some (.int b), some (.int j), some (.int n), none, none, none], M0)) (φ := True) rfl trivial ?_
        refine sW_retI d_Mo_copy_21 rfl (vp_nar_int _) ?_
        exact ⟨rfl, f0, h0⟩

