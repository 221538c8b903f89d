/-! ===== TypeSets: pick ===== -/
theorem half_mul {a b : Nat} (hb : b ≠ 0) (h : b ≤ a) : 2 * (b * (a % b)) ≤ a * b := by
  have h1 := Nat.div_add_mod a b
  have h2 : 1 ≤ a / b := (Nat.one_le_div_iff (by omega)).mpr h
  have h3 : b * 1 ≤ b * (a / b) := Nat.mul_le_mul (Nat.le_refl b) h2
  have h4 := Nat.mod_lt a (show b > 0 by omega)
  have h5 : 2 * (a % b) ≤ a := by omega
  have h6 := Nat.mul_le_mul h5 (Nat.le_refl b)
  have e : 2 * (b * (a % b)) = 2 * (a % b) * b := by rw [Nat.mul_comm b, Nat.mul_assoc]
  omega
theorem k_gcd (G : mx_G) {M : mx_M} {a b : Nat} (ha : a < 2 ^ 20) (hb : b < 2 ^ 20) : sOk G m_TS_greatestDivisor [.int (nI a), .int (nI b)] M (fun r M' => r = some (.int (nI (Nat.gcd a b))) ∧ M' = M) := by
  refine sOk_of ⟨by decide +kernel, by decide +kernel, Nat.le_of_ble_eq_true rfl⟩ ?_
  show sW G m_TS_greatestDivisor 0 ([], [some (.int (nI a)), some (.int (nI b)), none, none, none, none], M) _
  refine sW_go b_TS_greatestDivisor_0 (st' := ([], [some (.int (nI a)), some (.int (nI b)), some (.int (nI a)), some (.int (nI b)), some (.int (nI 0)), none], M)) (φ := True) rfl trivial ?_
  refine mx_ind (α := Nat × Nat × Nat) (fun q => 64 - q.1) (fun q => q.1 ≤ 64 → q.2.1 < 2 ^ 20 → q.2.2 < 2 ^ 20 → Nat.gcd q.2.1 q.2.2 = Nat.gcd a b → (1 ≤ q.1 → q.2.2 ≤ q.2.1 ∧ q.2.1 * q.2.2 < 2 ^ (63 - q.1)) → sW G m_TS_greatestDivisor 7 ([], [some (.int (nI a)), some (.int (nI b)), some (.int (nI q.2.1)), some (.int (nI q.2.2)), some (.int (nI q.1)), none], M) _) ?_ (0, a, b) (Nat.zero_le _) ha hb rfl (fun w => absurd w (Nat.not_succ_le_zero 0))
  rintro ⟨i, x, y⟩ ih hi hx hy hgc hpr
  dsimp only at ih hi hx hy hgc hpr ⊢
  refine sW_go b_TS_greatestDivisor_7 (st' := ([.int (nI 64), .int (nI i)], [some (.int (nI a)), some (.int (nI b)), some (.int (nI x)), some (.int (nI y)), some (.int (nI i)), none], M)) (φ := True) rfl trivial ?_
  refine sW_ic_ge 34 d_TS_greatestDivisor_11 (by decide) (fun c_11 => ?_) (fun c_11 => ?_)
  · skip
    simp (disch := omega) only [nI_leI] at c_11
    refine sW_go b_TS_greatestDivisor_34 (st' := ([.int (nI x)], [some (.int (nI a)), some (.int (nI b)), some (.int (nI x)), some (.int (nI y)), some (.int (nI i)), none], M)) (φ := True) rfl trivial ?_
    refine sW_retI d_TS_greatestDivisor_35 rfl (vp_nar_int _) ?_
    have hz : y = 0 := by
      obtain ⟨p1, p2⟩ := hpr (by omega)
      rw [show 63 - i = 0 by omega] at p2
      by_cases hy0 : y = 0
      · exact hy0
      · have : 1 * 1 ≤ x * y := Nat.mul_le_mul (by omega) (by omega)
        omega
    rw [← hgc, hz, Nat.gcd_zero_right]
    exact ⟨rfl, rfl⟩
  · skip
    simp (disch := omega) only [nI_leI] at c_11
    refine sW_go b_TS_greatestDivisor_14 (st' := ([.int (nI y)], [some (.int (nI a)), some (.int (nI b)), some (.int (nI x)), some (.int (nI y)), some (.int (nI i)), none], M)) (φ := True) rfl trivial ?_
    refine sW_if_eq 34 d_TS_greatestDivisor_15 (by decide) (fun c_15 => ?_) (fun c_15 => ?_)
    · skip
      simp (disch := omega) only [nI_z] at c_15
      refine sW_go b_TS_greatestDivisor_34 (st' := ([.int (nI x)], [some (.int (nI a)), some (.int (nI b)), some (.int (nI x)), some (.int (nI y)), some (.int (nI i)), none], M)) (φ := True) rfl trivial ?_
      refine sW_retI d_TS_greatestDivisor_35 rfl (vp_nar_int _) ?_
      rw [← hgc, c_15, Nat.gcd_zero_right]
      exact ⟨rfl, rfl⟩
    · skip
      simp (disch := omega) only [nI_z] at c_15
      have hrem : nI x - nI x / nI y * nI y = nI (x % y) := pk_rem (by omega) (by omega) (by omega)
      have hnz : ¬ nI y = 0 := fun q => c_15 ((nI_z (by omega)).mp q)
      have hml := Nat.mod_lt x (show y > 0 by omega)
      refine sW_go b_TS_greatestDivisor_18 (st' := ([], [some (.int (nI a)), some (.int (nI b)), some (.int (nI y)), some (.int (nI x - nI x / nI y * nI y)), some (.int (nI i + nI 1)), some (.int (nI x - nI x / nI y * nI y))], M)) (φ := ¬ (nI y) = 0 ∧ True) rfl ⟨(by assumption), trivial⟩ ?_
      refine sW_eq (st' := ([], [some (.int (nI a)), some (.int (nI b)), some (.int (nI y)), some (.int (nI (x % y))), some (.int (nI (i + 1))), some (.int (nI (x % y)))], M)) (by simp (disch := omega) only [hrem, nI_add]) ?_
      refine sW_goto 7 d_TS_greatestDivisor_31 (by decide) ?_
      refine sW_fg [false, false, false, false, false, true] ?_
      show sW G m_TS_greatestDivisor 7 ([], [some (.int (nI a)), some (.int (nI b)), some (.int (nI y)), some (.int (nI (x % y))), some (.int (nI (i + 1))), none], M) _
      refine ih (i + 1, y, x % y) (by dsimp only; omega) (by dsimp only; omega) hy (by dsimp only; omega) ?_ (fun _ => ⟨by dsimp only; omega, ?_⟩)
      · dsimp only
        rw [← hgc, Nat.gcd_comm y, ← Nat.gcd_rec, Nat.gcd_comm]
      · dsimp only
        by_cases h0 : i = 0
        · subst h0
          have := Nat.mul_lt_mul'' hy (Nat.lt_trans hml hy)
          exact Nat.lt_of_lt_of_le this (by decide)
        · obtain ⟨p1, p2⟩ := hpr (by omega)
          have hh := half_mul c_15 p1
          by_cases h62 : i < 63
          · rw [show 63 - i = (63 - (i + 1)) + 1 by omega, Nat.pow_succ] at p2
            omega
          · rw [show 63 - i = 0 by omega] at p2
            have : 1 * 1 ≤ x * y := Nat.mul_le_mul (by omega) (by omega)
            omega
noncomputable def sp_pick (σ : Sg) (t k w : Int32) : Int32 × Sg := (cif (vp_in t (gH σ).1 ∧ (nI 1 ≤ k ∧ k ≤ nI 4) ∧ vp_in w 2) (nI ((cif (w = nI 0) (PS (gH σ) (tn k) (fun x => bt x (tn t))) (PS (gH σ) (tn k) (fun _ => 1))) / Nat.gcd (PS (gH σ) (tn k) (fun x => bt x (tn t))) (PS (gH σ) (tn k) (fun _ => 1)))) (-1000001), σ)

