def SumI (M M2 : mx_M) (p h : Nat) (T : Nat) (S : Nat → Nat) : Prop := Fr M M2 (p + 1) (p + 3) ∧ M2 (p + 2) h = nI T ∧ (∀ t, t < 8 → M2 (p + 1) (h * 8 + t) = nI (S t)) ∧ (∀ j, j ≠ h → M2 (p + 2) j = M (p + 2) j) ∧ ∀ j, (j < h * 8 ∨ h * 8 + 8 ≤ j) → M2 (p + 1) j = M (p + 1) j
theorem k_sumUp (G : mx_G) {M : mx_M} {p h : Nat} {L : List Nat} {f : Nat → Nat} (ho : mx_ocl LAY p = 4) (hh : h < 4) (hA : SetsAt M (p + 3) L f) (h1 : M (p + 2) h = nI 0) (h2 : ∀ t, t < 8 → M (p + 1) (h * 8 + t) = nI 0) (hB : Iw f (fun _ => 1) ≤ 163220) :
  sOk G m_Plain_sumUp [.ref p, .int (nI h)] M (fun r M' => r = none ∧ SumI M M' p h (Iw f (fun _ => 1)) (fun t => Iw f (fun x => bt x t))) := by
  have lL := hA.len
  have hB' : ls (fun x => f x * 1) L ≤ 163220 := by rw [Iw_list hA] at hB; exact hB
  refine sOk_of ⟨by decide +kernel, by decide +kernel, Nat.le_of_ble_eq_true rfl⟩ ?_
  show sW G m_Plain_sumUp 0 ([], [some (.ref p), some (.int (nI h)), none, none, none, none], M) _
  refine sW_go b_Plain_sumUp_0 (st' := ([], [some (.ref p), some (.int (nI h)), some (.int (nI 0)), none, none, none], M)) (φ := True) rfl trivial ?_
  refine mx_ind (α := Nat × mx_M) (fun q => L.length - q.1) (fun q => q.1 ≤ L.length → SumI M q.2 p h (ls (fun x => f x * 1) (L.take q.1)) (fun t => ls (fun x => f x * bt x t) (L.take q.1)) → sW G m_Plain_sumUp 2 ([], [some (.ref p), some (.int (nI h)), some (.int (nI q.1)), none, none, none], q.2) _) ?_ (0, M) (Nat.zero_le _) ⟨Fr.rf, h1, h2, fun _ _ => rfl, fun _ _ => rfl⟩
  rintro ⟨k, M4⟩ ih hk ⟨f4, i1, i2, i3, i4⟩
  dsimp only at ih hk f4 i1 i2 i3 i4 ⊢
  have cc := hA.fr f4 (by omega)
  have z0 : M4 (p + 3) 2 = nI L.length := cc.1
  by_cases hkn : k < L.length
  · have z1 : M4 (p + 4) k = nI (L.getD k 0) := cc.2.2.2.1 k hkn
    have z2 := (cc.lt hkn).1
    have z3 := (cc.lt hkn).2
    have z5 := (cc.2.2.2.2.1 _ z2)
    have z6 : M4 (p + 5) (L.getD k 0) = nI (f (L.getD k 0)) := z5.1
    have hs1 := fun φ : Nat → Nat => ls_take (fun x => f x * φ x) hkn
    have hst1 := ls_take_le (fun x => f x * 1) L (k + 1)
    rw [ls_take _ hkn] at hst1
    have hst2 : ∀ t, ls (fun x => f x * bt x t) (L.take k) ≤ ls (fun x => f x * 1) (L.take k) := fun t => ls_le (fun x _ => Nat.mul_le_mul (Nat.le_refl _) (bt_le x t))
    generalize hg : L.getD k 0 = a at z1 z2 z3 z5 z6 hs1 hst1
    generalize hfa : f a = fa at z5 z6 hs1 hst1
    have hs3 := hs1 (fun _ => 1)
    have hs4 := fun t => hs1 (fun x => bt x t)
    generalize hT : ls (fun x => f x * 1) (L.take k) = T at i1 hst1 hst2 hs3
    have b3 : fa < 2 ^ 20 := by omega
    have b4 : T + fa ≤ 163220 := by omega
    clear hst1 hs1
    refine sW_go b_Plain_sumUp_2 (st' := ([.int (M4 (p + 3) 2), .int (nI k)], [some (.ref p), some (.int (nI h)), some (.int (nI k)), none, none, none], M4)) (φ := mx_ocl LAY p = 4 ∧ mx_ocl LAY (p + 3) = 6 ∧ True) rfl ⟨ho, (oc_Plain_byCell ho), trivial⟩ ?_
    refine sW_eq (st' := ([.int (nI L.length), .int (nI k)], [some (.ref p), some (.int (nI h)), some (.int (nI k)), none, none, none], M4)) (by simp (disch := omega) only [z0]) ?_
    refine sW_ic_ge 91 d_Plain_sumUp_10 (by decide) (fun c_10 => ?_) (fun c_10 => ?_)
    · skip
      simp (disch := omega) only [nI_leI] at c_10
      refine sW_retV d_Plain_sumUp_91 rfl ?_
      omega
    · skip
      simp (disch := omega) only [nI_leI] at c_10
      refine sW_go b_Plain_sumUp_13 (st' := ([], [some (.ref p), some (.int (nI h)), some (.int (nI k)), some (.int (M4 (p + 4) (nI k).toNatClampNeg)), some (.int (M4 (p + 5) (M4 (p + 4) (nI k).toNatClampNeg).toNatClampNeg)), some (.int (nI 0))], mx_wr M4 (p + 2) (nI h).toNatClampNeg (M4 (p + 2) (nI h).toNatClampNeg + M4 (p + 5) (M4 (p + 4) (nI k).toNatClampNeg).toNatClampNeg))) (φ := mx_ocl LAY p = 4 ∧ mx_ocl LAY (p + 3) = 6 ∧ vp_in (nI k) (mx_len LAY false (p + 4)) ∧ mx_ocl LAY p = 4 ∧ mx_ocl LAY (p + 3) = 6 ∧ vp_in (M4 (p + 4) (nI k).toNatClampNeg) (mx_len LAY false (p + 5)) ∧ mx_ocl LAY p = 4 ∧ vp_in (nI h) (mx_len LAY false (p + 2)) ∧ vp_in (nI h) (mx_len LAY false (p + 2)) ∧ True) rfl ⟨ho, (oc_Plain_byCell ho), (by simp (disch := omega) only [(ln_Sets_at (oc_Plain_byCell ho))]; exact vp_in_nI (by omega) (by decide)), ho, (oc_Plain_byCell ho), (by simp (disch := omega) only [nI_clamp, z1, (ln_Sets_number (oc_Plain_byCell ho))]; exact vp_in_nI (by omega) (by decide)), ho, (by simp (disch := omega) only [(ln_Plain_total ho)]; exact vp_in_nI (by omega) (by decide)), (by simp (disch := omega) only [(ln_Plain_total ho)]; exact vp_in_nI (by omega) (by decide)), trivial⟩ ?_
      refine sW_eq (st' := ([], [some (.ref p), some (.int (nI h)), some (.int (nI k)), some (.int (nI a)), some (.int (nI fa)), some (.int (nI 0))], mx_wr M4 (p + 2) h (nI (T + fa)))) (by simp (disch := omega) only [i1, nI_add, nI_clamp, z1, z6]) ?_
      refine mx_ind (α := Nat × mx_M) (fun q => 8 - q.1) (fun q => q.1 ≤ 8 → SumI M q.2 p h (T + fa) (fun t => if t < q.1 then ls (fun x => f x * bt x t) (L.take k) + fa * bt a t else ls (fun x => f x * bt x t) (L.take k)) → sW G m_Plain_sumUp 48 ([], [some (.ref p), some (.int (nI h)), some (.int (nI k)), some (.int (nI a)), some (.int (nI fa)), some (.int (nI q.1))], q.2) _) ?_ (0, (mx_wr M4 (p + 2) h (nI (T + fa)))) (Nat.zero_le _) ⟨f4.wr (by omega) (by omega), by dsimp only; rw [mx_wr_s, pk_us], fun t ht => by dsimp only; rw [mx_wr_n _ _ _ (show p + 1 ≠ p + 2 by omega), i2 t ht, if_neg (Nat.not_lt_zero t)], fun j hj => by dsimp only; rw [mx_wr_s, pk_un hj]; exact i3 j hj, fun j hj => by dsimp only; rw [mx_wr_n _ _ _ (show p + 1 ≠ p + 2 by omega)]; exact i4 j hj⟩
      rintro ⟨t, M5⟩ iht ht ⟨f5, j1, j2, j3, j4⟩
      dsimp only at iht ht f5 j1 j2 j3 j4 ⊢
      by_cases htn : t < 8
      · have y1 := j2 t htn
        rw [if_neg (Nat.lt_irrefl t)] at y1
        have y2 := hst2 t
        have y3 := bt_le a t
        have p1 : (nI a >>> (nI t &&& 31)) &&& nI 1 = nI (bt a t) := sh_b (by omega) (by omega)
        have y4 : bt a t * fa ≤ fa := by
          have := Nat.mul_le_mul y3 (Nat.le_refl fa)
          omega
        generalize hO : ls (fun x => f x * bt x t) (L.take k) = O at y1 y2
        generalize hbt : bt a t = b at y3 p1 y4
        refine sW_go b_Plain_sumUp_48 (st' := ([.int (nI 8), .int (nI t)], [some (.ref p), some (.int (nI h)), some (.int (nI k)), some (.int (nI a)), some (.int (nI fa)), some (.int (nI t))], M5)) (φ := True) rfl trivial ?_
        refine sW_ic_ge 85 d_Plain_sumUp_52 (by decide) (fun c_52 => ?_) (fun c_52 => ?_)
        · skip
          simp (disch := omega) only [nI_leI] at c_52
          omega
        · skip
          simp (disch := omega) only [nI_leI] at c_52
          refine sW_go b_Plain_sumUp_55 (st' := ([], [some (.ref p), some (.int (nI h)), some (.int (nI k)), some (.int (nI a)), some (.int (nI fa)), some (.int (nI t + nI 1))], mx_wr M5 (p + 1) ((nI h * nI 8) + nI t).toNatClampNeg (M5 (p + 1) ((nI h * nI 8) + nI t).toNatClampNeg + (((nI a >>> (nI t &&& 31)) &&& nI 1) * nI fa)))) (φ := mx_ocl LAY p = 4 ∧ vp_in ((nI h * nI 8) + nI t) (mx_len LAY false (p + 1)) ∧ vp_in ((nI h * nI 8) + nI t) (mx_len LAY false (p + 1)) ∧ True) rfl ⟨ho, (by simp (disch := omega) only [nI_add, pk_mul, (ln_Plain_ofType ho)]; exact vp_in_nI (by omega) (by decide)), (by simp (disch := omega) only [nI_add, pk_mul, (ln_Plain_ofType ho)]; exact vp_in_nI (by omega) (by decide)), trivial⟩ ?_
          refine sW_eq (st' := ([], [some (.ref p), some (.int (nI h)), some (.int (nI k)), some (.int (nI a)), some (.int (nI fa)), some (.int (nI (t + 1)))], mx_wr M5 (p + 1) (h * 8 + t) (nI (O + b * fa)))) (by simp (disch := omega) only [nI_add, nI_clamp, p1, pk_mul, y1]) ?_
          refine sW_goto 48 d_Plain_sumUp_82 (by decide) ?_
          refine iht (t + 1, (mx_wr M5 (p + 1) (h * 8 + t) (nI (O + b * fa)))) (by dsimp only; omega) (by dsimp only; omega) ⟨f5.wr (by omega) (by omega), by dsimp only; rw [mx_wr_n _ _ _ (show p + 2 ≠ p + 1 by omega)]; exact j1, fun t' ht' => ?_, fun j hj => by dsimp only; rw [mx_wr_n _ _ _ (show p + 2 ≠ p + 1 by omega)]; exact j3 j hj, fun j hj => by dsimp only; rw [mx_wr_s, pk_un (by omega)]; exact j4 j hj⟩
          dsimp only
          rw [mx_wr_s]
          by_cases hx : t' = t
          · rw [hx, pk_us, if_pos (by omega), hO, hbt, Nat.mul_comm b fa]
          · rw [pk_un (by omega), j2 t' ht']
            by_cases hlt : t' < t
            · rw [if_pos hlt, if_pos (by omega)]
            · rw [if_neg hlt, if_neg (by omega)]
      · have hte : t = 8 := by omega
        subst hte
        refine sW_go b_Plain_sumUp_48 (st' := ([.int (nI 8), .int (nI 8)], [some (.ref p), some (.int (nI h)), some (.int (nI k)), some (.int (nI a)), some (.int (nI fa)), some (.int (nI 8))], M5)) (φ := True) rfl trivial ?_
        refine sW_ic_ge 85 d_Plain_sumUp_52 (by decide) (fun c_52 => ?_) (fun c_52 => ?_)
        · skip
          simp (disch := omega) only [nI_leI] at c_52
          refine sW_go b_Plain_sumUp_85 (st' := ([], [some (.ref p), some (.int (nI h)), some (.int (nI k + nI 1)), some (.int (nI a)), some (.int (nI fa)), some (.int (nI 8))], M5)) (φ := True) rfl trivial ?_
          refine sW_eq (st' := ([], [some (.ref p), some (.int (nI h)), some (.int (nI (k + 1))), some (.int (nI a)), some (.int (nI fa)), some (.int (nI 8))], M5)) (by simp (disch := omega) only [nI_add]) ?_
          refine sW_goto 2 d_Plain_sumUp_88 (by decide) ?_
          refine sW_fg [false, false, false, true, true, true] ?_
          show sW G m_Plain_sumUp 2 ([], [some (.ref p), some (.int (nI h)), some (.int (nI (k + 1))), none, none, none], M5) _
          refine ih (k + 1, M5) (by dsimp only; omega) (by dsimp only; omega) ⟨f5, ?_, fun t' ht' => ?_, j3, j4⟩
          · dsimp only
            rw [j1, hs3, Nat.mul_one]
          · dsimp only
            rw [j2 t' ht', if_pos ht', hs4]
        · skip
          simp (disch := omega) only [nI_leI] at c_52
          exact absurd c_52 (by decide)
  · have hke : k = L.length := by omega
    subst hke
    refine sW_go b_Plain_sumUp_2 (st' := ([.int (M4 (p + 3) 2), .int (nI L.length)], [some (.ref p), some (.int (nI h)), some (.int (nI L.length)), none, none, none], M4)) (φ := mx_ocl LAY p = 4 ∧ mx_ocl LAY (p + 3) = 6 ∧ True) rfl ⟨ho, (oc_Plain_byCell ho), trivial⟩ ?_
    refine sW_eq (st' := ([.int (nI L.length), .int (nI L.length)], [some (.ref p), some (.int (nI h)), some (.int (nI L.length)), none, none, none], M4)) (by simp (disch := omega) only [z0]) ?_
    refine sW_ic_ge 91 d_Plain_sumUp_10 (by decide) (fun c_10 => ?_) (fun c_10 => ?_)
    · skip
      simp (disch := omega) only [nI_leI] at c_10
      refine sW_retV d_Plain_sumUp_91 rfl ?_
      refine ⟨rfl, f4, ?_, fun t ht => ?_, i3, i4⟩
      · rw [i1, List.take_length, Iw_list hA]
      · dsimp only
        rw [i2 t ht, List.take_length, Iw_list hA]
    · skip
      simp (disch := omega) only [nI_leI] at c_10
      exact absurd c_10 (by omega)

