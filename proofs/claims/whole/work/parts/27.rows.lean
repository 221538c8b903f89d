noncomputable def narL (l v : Int32) : Int32 := cif (l = 0) v.toInt8.toInt32 (cif (l = nI 1) v.toInt16.toInt32 v)
theorem RowsAt.put {M : mx_M} {la le it : Nat} {R : Rw} (hA : RowsAt M la le it R) (hd : la ≠ it ∧ le ≠ it) {r i : Nat} (hr : r < 8) (hi : i < R.2.1 r) (v : Int32) : RowsAt (mx_wr M it (r * 40 + i) v) la le it (rwPut R r i v) := by
  intro a ha
  obtain ⟨a1, a2, a3, a4, a5⟩ := hA a ha
  have hr4 := (hA r hr).2.2.2.1
  have e1 : (rwPut R r i v).1 = R.1 := rfl
  have e2 : (rwPut R r i v).2.1 = R.2.1 := rfl
  rw [e1, e2, mx_wr_n _ _ _ hd.1, mx_wr_n _ _ _ hd.2, mx_wr_s]
  refine ⟨a1, a2, a3, a4, fun q k hk => ?_⟩
  show upd (M it) (r * 40 + i) v (a * 40 + k) = (if a = r then upd (R.2.2 r) i v else R.2.2 a) k
  by_cases hx : a = r
  · subst hx
    rw [if_pos rfl]
    by_cases hy : k = i
    · rw [hy, pk_us, pk_us]
    · rw [pk_un (by omega), pk_un hy]
      exact a5 q k hk
  · rw [if_neg hx, pk_un (by omega)]
    exact a5 q k hk
theorem k_put (G : mx_G) {M : mx_M} {R : Rw} (hA : RowsAt M 2 3 4 R) {r i : Nat} (hr : r < 8) (hi : i < R.2.1 r) (v : Int32) : sOk G m_Rows_put [.ref 1, .int (nI r), .int (nI i), .int v] M (fun q M' => q = some (.int (narL (R.1 r) v)) ∧ M' = mx_wr M 4 (r * 40 + i) (narL (R.1 r) v)) := by
  obtain ⟨a1, a2, a3, a4, a5⟩ := hA r hr
  refine sOk_of ⟨by decide +kernel, by decide +kernel, Nat.le_of_ble_eq_true rfl⟩ ?_
  show sW G m_Rows_put 0 ([], [some (.ref 1), some (.int (nI r)), some (.int (nI i)), some (.int v), none, none], M) _
  refine sW_go b_Rows_put_0 (st' := ([.int (M 2 (nI r).toNatClampNeg)], [some (.ref 1), some (.int (nI r)), some (.int (nI i)), some (.int v), some (.int (M 2 (nI r).toNatClampNeg)), none], M)) (φ := mx_ocl LAY 1 = 5 ∧ vp_in (nI r) (mx_len LAY false 2) ∧ True) rfl ⟨oc_1, (by simp (disch := omega) only [ln_2]; exact vp_in_nI (by omega) (by decide)), trivial⟩ ?_
  refine sW_eq (st' := ([.int (R.1 r)], [some (.ref 1), some (.int (nI r)), some (.int (nI i)), some (.int v), some (.int (R.1 r)), none], M)) (by simp (disch := omega) only [a1, nI_clamp]) ?_
  refine sW_if_ne 18 d_Rows_put_10 (by decide) (fun c_10 => ?_) (fun c_10 => ?_)
  · skip
    refine sW_go b_Rows_put_18 (st' := ([.int (nI 1), .int (R.1 r)], [some (.ref 1), some (.int (nI r)), some (.int (nI i)), some (.int v), some (.int (R.1 r)), none], M)) (φ := True) rfl trivial ?_
    refine sW_ic_ne 29 d_Rows_put_21 (by decide) (fun c_21 => ?_) (fun c_21 => ?_)
    · skip
      refine sW_go b_Rows_put_29 (st' := ([.int v], [some (.ref 1), some (.int (nI r)), some (.int (nI i)), some (.int v), some (.int (R.1 r)), none], M)) (φ := True) rfl trivial ?_
      refine sW_go b_Rows_put_30 (st' := ([.int v], [some (.ref 1), some (.int (nI r)), some (.int (nI i)), some (.int v), some (.int (R.1 r)), some (.int v)], mx_wr M 4 ((nI r * nI 40) + nI i).toNatClampNeg v)) (φ := mx_ocl LAY 1 = 5 ∧ vp_in ((nI r * nI 40) + nI i) (mx_len LAY false 4) ∧ True) rfl ⟨oc_1, (by simp (disch := omega) only [nI_add, pk_mul, ln_4]; exact vp_in_nI (by omega) (by decide)), trivial⟩ ?_
      refine sW_eq (st' := ([.int v], [some (.ref 1), some (.int (nI r)), some (.int (nI i)), some (.int v), some (.int (R.1 r)), some (.int v)], mx_wr M 4 (r * 40 + i) v)) (by simp (disch := omega) only [nI_add, nI_clamp, pk_mul]) ?_
      refine sW_retI d_Rows_put_47 rfl (vp_nar_int _) ?_
      have e : narL (R.1 r) v = v := by unfold narL; rw [cif_f c_10, cif_f c_21]
      rw [e]
      exact ⟨rfl, rfl⟩
    · skip
      refine sW_go b_Rows_put_24 (st' := ([.int v.toInt16.toInt32], [some (.ref 1), some (.int (nI r)), some (.int (nI i)), some (.int v), some (.int (R.1 r)), none], M)) (φ := True) rfl trivial ?_
      refine sW_goto 30 d_Rows_put_26 (by decide) ?_
      refine sW_go b_Rows_put_30 (st' := ([.int v.toInt16.toInt32], [some (.ref 1), some (.int (nI r)), some (.int (nI i)), some (.int v), some (.int (R.1 r)), some (.int v.toInt16.toInt32)], mx_wr M 4 ((nI r * nI 40) + nI i).toNatClampNeg v.toInt16.toInt32)) (φ := mx_ocl LAY 1 = 5 ∧ vp_in ((nI r * nI 40) + nI i) (mx_len LAY false 4) ∧ True) rfl ⟨oc_1, (by simp (disch := omega) only [nI_add, pk_mul, ln_4]; exact vp_in_nI (by omega) (by decide)), trivial⟩ ?_
      refine sW_eq (st' := ([.int v.toInt16.toInt32], [some (.ref 1), some (.int (nI r)), some (.int (nI i)), some (.int v), some (.int (R.1 r)), some (.int v.toInt16.toInt32)], mx_wr M 4 (r * 40 + i) v.toInt16.toInt32)) (by simp (disch := omega) only [nI_add, nI_clamp, pk_mul]) ?_
      refine sW_retI d_Rows_put_47 rfl (vp_nar_int _) ?_
      have e : narL (R.1 r) v = v.toInt16.toInt32 := by unfold narL; rw [cif_f c_10, cif_t c_21]
      rw [e]
      exact ⟨rfl, rfl⟩
  · skip
    refine sW_go b_Rows_put_13 (st' := ([.int v.toInt8.toInt32], [some (.ref 1), some (.int (nI r)), some (.int (nI i)), some (.int v), some (.int (R.1 r)), none], M)) (φ := True) rfl trivial ?_
    refine sW_goto 30 d_Rows_put_15 (by decide) ?_
    refine sW_go b_Rows_put_30 (st' := ([.int v.toInt8.toInt32], [some (.ref 1), some (.int (nI r)), some (.int (nI i)), some (.int v), some (.int (R.1 r)), some (.int v.toInt8.toInt32)], mx_wr M 4 ((nI r * nI 40) + nI i).toNatClampNeg v.toInt8.toInt32)) (φ := mx_ocl LAY 1 = 5 ∧ vp_in ((nI r * nI 40) + nI i) (mx_len LAY false 4) ∧ True) rfl ⟨oc_1, (by simp (disch := omega) only [nI_add, pk_mul, ln_4]; exact vp_in_nI (by omega) (by decide)), trivial⟩ ?_
    refine sW_eq (st' := ([.int v.toInt8.toInt32], [some (.ref 1), some (.int (nI r)), some (.int (nI i)), some (.int v), some (.int (R.1 r)), some (.int v.toInt8.toInt32)], mx_wr M 4 (r * 40 + i) v.toInt8.toInt32)) (by simp (disch := omega) only [nI_add, nI_clamp, pk_mul]) ?_
    refine sW_retI d_Rows_put_47 rfl (vp_nar_int _) ?_
    have e : narL (R.1 r) v = v.toInt8.toInt32 := by unfold narL; rw [cif_t c_10]
    rw [e]
    exact ⟨rfl, rfl⟩
theorem RowsAt.move {M M' : mx_M} {la le it : Nat} {R : Rw} (hA : RowsAt M la le it R) (h1 : M' la = M la) (h2 : M' le = M le) {a i b j n : Nat} (ha : a < 8) (hb : b < 8) (hi : i + n ≤ R.2.1 a) (hj : j + n ≤ R.2.1 b) (hla : R.1 a ≠ -1)
    (h3 : ∀ k, M' it k = va_cpy (M it) (M it) (a * 40 + i) (b * 40 + j) n k) : RowsAt M' la le it (rwMove R a i b j n) := by
  intro q hq
  obtain ⟨a1, a2, a3, a4, a5⟩ := hA q hq
  obtain ⟨c1, c2, c3, c4, c5⟩ := hA a ha
  have hb4 := (hA b hb).2.2.2.1
  have e1 : (rwMove R a i b j n).1 = R.1 := rfl
  have e2 : (rwMove R a i b j n).2.1 = R.2.1 := rfl
  rw [e1, e2, h1, h2]
  refine ⟨a1, a2, a3, a4, fun w k hk => ?_⟩
  rw [h3]
  show _ = (if q = b then va_cpy (R.2.2 a) (R.2.2 b) i j n else R.2.2 q) k
  by_cases hx : q = b
  · subst hx
    rw [if_pos rfl]
    by_cases hy : j ≤ k ∧ k < j + n
    · rw [pk_cpy_in (by omega) (by omega), pk_cpy_in hy.1 hy.2, ← c5 hla (i + (k - j)) (by omega)]
      congr 1
      omega
    · rw [pk_cpy_out (by omega), pk_cpy_out (by omega)]
      exact a5 w k hk
  · rw [if_neg hx, pk_cpy_out (by omega)]
    exact a5 w k hk
theorem k_move (G : mx_G) {M : mx_M} {R : Rw} (hA : RowsAt M 2 3 4 R) {a i b j n : Nat} (ha : a < 8) (hb : b < 8) (hi : i + n ≤ R.2.1 a) (hj : j + n ≤ R.2.1 b) : sOk G m_Rows_move [.ref 1, .int (nI a), .int (nI i), .int (nI b), .int (nI j), .int (nI n)] M (fun q M' => q = none ∧ M' = mx_cp M 4 4 (a * 40 + i) (b * 40 + j) n) := by
  have ha4 := (hA a ha).2.2.2.1
  have hb4 := (hA b hb).2.2.2.1
  refine sOk_of ⟨by decide +kernel, by decide +kernel, Nat.le_of_ble_eq_true rfl⟩ ?_
  show sW G m_Rows_move 0 ([], [some (.ref 1), some (.int (nI a)), some (.int (nI i)), some (.int (nI b)), some (.int (nI j)), some (.int (nI n))], M) _
  refine sW_go b_Rows_move_0 (st' := ([.int (nI n), .int ((nI b * nI 40) + nI j), .ref 4, .int ((nI a * nI 40) + nI i), .ref 4], [some (.ref 1), some (.int (nI a)), some (.int (nI i)), some (.int (nI b)), some (.int (nI j)), some (.int (nI n))], M)) (φ := mx_ocl LAY 1 = 5 ∧ mx_ocl LAY 1 = 5 ∧ True) rfl ⟨oc_1, oc_1, trivial⟩ ?_
  refine sW_eq (st' := ([.int (nI n), .int (nI (b * 40 + j)), .ref 4, .int (nI (a * 40 + i)), .ref 4], [some (.ref 1), some (.int (nI a)), some (.int (nI i)), some (.int (nI b)), some (.int (nI j)), some (.int (nI n))], M)) (by simp (disch := omega) only [nI_add, pk_mul]) ?_
  refine sW_copy d_Rows_move_23 c_Rows_move_23 ⟨rfl, Nat.le_of_ble_eq_true rfl⟩ (by rw [ln_4]; decide) (by rw [ln_4]; decide) (by first | exact nI_pos (by omega) | (rw [nI_clamp (by omega), nI_clamp (by omega), ln_4]; omega)) (by first | exact nI_pos (by omega) | (rw [nI_clamp (by omega), nI_clamp (by omega), ln_4]; omega)) (by first | exact nI_pos (by omega) | (rw [nI_clamp (by omega), nI_clamp (by omega), ln_4]; omega)) (by first | exact nI_pos (by omega) | (rw [nI_clamp (by omega), nI_clamp (by omega), ln_4]; omega)) (by first | exact nI_pos (by omega) | (rw [nI_clamp (by omega), nI_clamp (by omega), ln_4]; omega)) ?_
  refine sW_eq (st' := ([], [some (.ref 1), some (.int (nI a)), some (.int (nI i)), some (.int (nI b)), some (.int (nI j)), some (.int (nI n))], mx_cp M 4 4 (a * 40 + i) (b * 40 + j) n)) (by simp (disch := omega) only [nI_clamp]) ?_
  refine sW_retV d_Rows_move_26 rfl ?_
  exact ⟨rfl, rfl⟩
theorem k_lose (G : mx_G) {M : mx_M} {R : Rw} (hA : RowsAt M 2 3 4 R) {r : Nat} (hr : r < 8) : sOk G m_Rows_lose [.ref 1, .int (nI r)] M (fun q M' => q = some (.int (nI (R.2.1 r))) ∧ M' = mx_wr M 2 r (-1)) := by
  obtain ⟨a1, a2, a3, a4, a5⟩ := hA r hr
  have e : (mx_wr M 2 r (-1)) 3 r = nI (R.2.1 r) := by rw [mx_wr_n _ _ _ (by decide)]; exact a3
  refine sOk_of ⟨by decide +kernel, by decide +kernel, Nat.le_of_ble_eq_true rfl⟩ ?_
  show sW G m_Rows_lose 0 ([], [some (.ref 1), some (.int (nI r))], M) _
  refine sW_go b_Rows_lose_0 (st' := ([.int ((mx_wr M 2 (nI r).toNatClampNeg (-1)) 3 (nI r).toNatClampNeg)], [some (.ref 1), some (.int (nI r))], mx_wr M 2 (nI r).toNatClampNeg (-1))) (φ := mx_ocl LAY 1 = 5 ∧ vp_in (nI r) (mx_len LAY false 2) ∧ mx_ocl LAY 1 = 5 ∧ vp_in (nI r) (mx_len LAY false 3) ∧ True) rfl ⟨oc_1, (by simp (disch := omega) only [ln_2]; exact vp_in_nI (by omega) (by decide)), oc_1, (by simp (disch := omega) only [ln_3]; exact vp_in_nI (by omega) (by decide)), trivial⟩ ?_
  refine sW_eq (st' := ([.int (nI (R.2.1 r))], [some (.ref 1), some (.int (nI r))], mx_wr M 2 r (-1))) (by simp (disch := omega) only [e, nI_clamp]) ?_
  refine sW_retI d_Rows_lose_13 rfl (vp_nar_int _) ?_
  exact ⟨rfl, rfl⟩
theorem RowsAt.lose {M : mx_M} {la le it : Nat} {R : Rw} (hA : RowsAt M la le it R) (hd : le ≠ la ∧ it ≠ la) (r : Nat) : RowsAt (mx_wr M la r (-1)) la le it (rwLose R r) := by
  intro a ha
  obtain ⟨a1, a2, a3, a4, a5⟩ := hA a ha
  have e2 : (rwLose R r).2.1 = R.2.1 := rfl
  have e3 : (rwLose R r).2.2 = R.2.2 := rfl
  rw [e2, e3, mx_wr_s, mx_wr_n _ _ _ hd.1, mx_wr_n _ _ _ hd.2]
  show upd (M la) r (-1) a = upd R.1 r (-1) a ∧ _
  by_cases hx : a = r
  · subst hx
    have e1 : (rwLose R a).1 a = -1 := pk_us
    rw [e1, pk_us, pk_us]
    exact ⟨rfl, Or.inl rfl, a3, a4, fun q => absurd rfl q⟩
  · have e1 : (rwLose R r).1 a = R.1 a := pk_un hx
    rw [e1, pk_un hx, pk_un hx]
    exact ⟨a1, a2, a3, a4, a5⟩
/-- how many rows there are below k -/
noncomputable def rwCnt (R : Rw) : Nat → Nat
  | 0 => 0
  | k + 1 => rwCnt R k + cif (R.1 k = -1) 0 1
theorem rwCnt_le (R : Rw) : ∀ k, rwCnt R k ≤ k
  | 0 => Nat.le_refl _
  | k + 1 => by
    have h1 := rwCnt_le R k
    have h2 : (cif (R.1 k = -1) 0 1 : Nat) ≤ 1 := by
      by_cases h : R.1 k = -1
      · rw [cif_t h]; omega
      · rw [cif_f h]; omega
    show rwCnt R k + _ ≤ k + 1
    omega
theorem k_present (G : mx_G) {M : mx_M} {R : Rw} (hA : RowsAt M 2 3 4 R) : sOk G m_Rows_present [.ref 1] M (fun q M' => q = some (.int (nI (rwCnt R 8))) ∧ M' = M) := by
  refine sOk_of ⟨by decide +kernel, by decide +kernel, Nat.le_of_ble_eq_true rfl⟩ ?_
  show sW G m_Rows_present 0 ([], [some (.ref 1), none, none], M) _
  refine sW_go b_Rows_present_0 (st' := ([], [some (.ref 1), some (.int (nI 0)), some (.int (nI 0))], M)) (φ := True) rfl trivial ?_
  refine mx_ind (α := Nat × Nat) (fun a => 8 - a.1) (fun a => a.1 ≤ 8 → a.2 = rwCnt R a.1 → sW G m_Rows_present 4 ([], [some (.ref 1), some (.int (nI a.2)), some (.int (nI a.1))], M) _) ?_ (0, 0) (Nat.zero_le _) rfl
  rintro ⟨k, c⟩ ih hk hc
  dsimp only at ih hk hc ⊢
  by_cases hkn : k < 8
  · have a1 := (hA k hkn).1
    refine sW_go b_Rows_present_4 (st' := ([.int (nI 8), .int (nI k)], [some (.ref 1), some (.int (nI c)), some (.int (nI k))], M)) (φ := True) rfl trivial ?_
    refine sW_ic_ge 34 d_Rows_present_7 (by decide) (fun c_7 => ?_) (fun c_7 => ?_)
    · skip
      simp (disch := omega) only [nI_leI] at c_7
      refine sW_go b_Rows_present_34 (st' := ([.int (nI c)], [some (.ref 1), some (.int (nI c)), some (.int (nI k))], M)) (φ := True) rfl trivial ?_
      refine sW_retI d_Rows_present_35 rfl (vp_nar_int _) ?_
      omega
    · skip
      simp (disch := omega) only [nI_leI] at c_7
      refine sW_go b_Rows_present_10 (st' := ([.int (-1), .int (M 2 (nI k).toNatClampNeg), .int (nI c)], [some (.ref 1), some (.int (nI c)), some (.int (nI k))], M)) (φ := mx_ocl LAY 1 = 5 ∧ vp_in (nI k) (mx_len LAY false 2) ∧ True) rfl ⟨oc_1, (by simp (disch := omega) only [ln_2]; exact vp_in_nI (by omega) (by decide)), trivial⟩ ?_
      refine sW_eq (st' := ([.int (-1), .int (R.1 k), .int (nI c)], [some (.ref 1), some (.int (nI c)), some (.int (nI k))], M)) (by simp (disch := omega) only [a1, nI_clamp]) ?_
      refine sW_ic_eq 25 d_Rows_present_18 (by decide) (fun c_18 => ?_) (fun c_18 => ?_)
      · skip
        refine sW_go b_Rows_present_25 (st' := ([.int (nI 0), .int (nI c)], [some (.ref 1), some (.int (nI c)), some (.int (nI k))], M)) (φ := True) rfl trivial ?_
        refine sW_go b_Rows_present_26 (st' := ([], [some (.ref 1), some (.int (nI c + nI 0)), some (.int (nI k + nI 1))], M)) (φ := True) rfl trivial ?_
        refine sW_eq (st' := ([], [some (.ref 1), some (.int (nI c)), some (.int (nI (k + 1)))], M)) (by simp (disch := omega) only [Nat.add_zero, nI_add]) ?_
        refine sW_goto 4 d_Rows_present_31 (by decide) ?_
        exact ih (k + 1, c) (by dsimp only; omega) (by dsimp only; omega) (by dsimp only; rw [hc]; show _ = rwCnt R k + _; rw [cif_t c_18]; rfl)
      · skip
        refine sW_go b_Rows_present_21 (st' := ([.int (nI 1), .int (nI c)], [some (.ref 1), some (.int (nI c)), some (.int (nI k))], M)) (φ := True) rfl trivial ?_
        refine sW_goto 26 d_Rows_present_22 (by decide) ?_
        refine sW_go b_Rows_present_26 (st' := ([], [some (.ref 1), some (.int (nI c + nI 1)), some (.int (nI k + nI 1))], M)) (φ := True) rfl trivial ?_
        refine sW_eq (st' := ([], [some (.ref 1), some (.int (nI (c + 1))), some (.int (nI (k + 1)))], M)) (by simp (disch := omega) only [nI_add]) ?_
        refine sW_goto 4 d_Rows_present_31 (by decide) ?_
        exact ih (k + 1, c + 1) (by dsimp only; omega) (by dsimp only; omega) (by dsimp only; rw [hc]; show _ = rwCnt R k + _; rw [cif_f c_18])
  · have hke : k = 8 := by omega
    subst hke
    refine sW_go b_Rows_present_4 (st' := ([.int (nI 8), .int (nI 8)], [some (.ref 1), some (.int (nI c)), some (.int (nI 8))], M)) (φ := True) rfl trivial ?_
    refine sW_ic_ge 34 d_Rows_present_7 (by decide) (fun c_7 => ?_) (fun c_7 => ?_)
    · skip
      simp (disch := omega) only [nI_leI] at c_7
      refine sW_go b_Rows_present_34 (st' := ([.int (nI c)], [some (.ref 1), some (.int (nI c)), some (.int (nI 8))], M)) (φ := True) rfl trivial ?_
      refine sW_retI d_Rows_present_35 rfl (vp_nar_int _) ?_
      exact ⟨by rw [hc], rfl⟩
    · skip
      simp (disch := omega) only [nI_leI] at c_7
      exact absurd c_7 (by decide)
noncomputable def rwBit (R : Rw) (r i k : Nat) : Nat := cif (R.2.2 r (i + k) = 0) 0 1
theorem rwBit_le (R : Rw) (r i k : Nat) : rwBit R r i k ≤ 1 := by
  unfold rwBit
  by_cases h : R.2.2 r (i + k) = 0
  · rw [cif_t h]; omega
  · rw [cif_f h]; omega
theorem k_bits (G : mx_G) {M : mx_M} {R : Rw} (hA : RowsAt M 2 3 4 R) {r i n : Nat} (hr : r < 8) (hl : R.1 r ≠ -1) (hn : n ≤ 8) (hi : i + n ≤ R.2.1 r) : sOk G m_Rows_bits [.ref 1, .int (nI r), .int (nI i), .int (nI n)] M (fun q M' => q = some (.int (nI (bsum (rwBit R r i) n))) ∧ M' = M) := by
  obtain ⟨a1, a2, a3, a4, a5⟩ := hA r hr
  refine sOk_of ⟨by decide +kernel, by decide +kernel, Nat.le_of_ble_eq_true rfl⟩ ?_
  show sW G m_Rows_bits 0 ([], [some (.ref 1), some (.int (nI r)), some (.int (nI i)), some (.int (nI n)), none, none], M) _
  refine sW_go b_Rows_bits_0 (st' := ([], [some (.ref 1), some (.int (nI r)), some (.int (nI i)), some (.int (nI n)), some (.int (nI 0)), some (.int (nI 0))], M)) (φ := True) rfl trivial ?_
  refine mx_ind (α := Nat × Nat) (fun a => n - a.1) (fun a => a.1 ≤ n → a.2 = bsum (rwBit R r i) a.1 → sW G m_Rows_bits 6 ([], [some (.ref 1), some (.int (nI r)), some (.int (nI i)), some (.int (nI n)), some (.int (nI a.2)), some (.int (nI a.1))], M) _) ?_ (0, 0) (Nat.zero_le _) rfl
  rintro ⟨k, c⟩ ih hk hc
  dsimp only at ih hk hc ⊢
  by_cases hkn : k < n
  · have e1 : M 4 (r * 40 + i + k) = R.2.2 r (i + k) := by rw [Nat.add_assoc]; exact a5 hl (i + k) (by omega)
    have q3 : nI 1 <<< (nI k &&& 31) = nI (1 * 2 ^ k) := sh_l (Nat.le_refl _) (by omega)
    have hst : ∀ x, rwBit R r i k = x → c ||| x * 2 ^ k = bsum (rwBit R r i) (k + 1) := by
      intro x hx
      subst hx
      subst hc
      rfl
    refine sW_go b_Rows_bits_6 (st' := ([.int (nI n), .int (nI k)], [some (.ref 1), some (.int (nI r)), some (.int (nI i)), some (.int (nI n)), some (.int (nI c)), some (.int (nI k))], M)) (φ := True) rfl trivial ?_
    refine sW_ic_ge 48 d_Rows_bits_9 (by decide) (fun c_9 => ?_) (fun c_9 => ?_)
    · skip
      simp (disch := omega) only [nI_leI] at c_9
      refine sW_go b_Rows_bits_48 (st' := ([.int (nI c)], [some (.ref 1), some (.int (nI r)), some (.int (nI i)), some (.int (nI n)), some (.int (nI c)), some (.int (nI k))], M)) (φ := True) rfl trivial ?_
      refine sW_retI d_Rows_bits_50 rfl (vp_nar_int _) ?_
      omega
    · skip
      simp (disch := omega) only [nI_leI] at c_9
      refine sW_go b_Rows_bits_12 (st' := ([.int (M 4 (((nI r * nI 40) + nI i) + nI k).toNatClampNeg), .int (nI c)], [some (.ref 1), some (.int (nI r)), some (.int (nI i)), some (.int (nI n)), some (.int (nI c)), some (.int (nI k))], M)) (φ := mx_ocl LAY 1 = 5 ∧ vp_in (((nI r * nI 40) + nI i) + nI k) (mx_len LAY false 4) ∧ True) rfl ⟨oc_1, (by simp (disch := omega) only [nI_add, pk_mul, ln_4]; exact vp_in_nI (by omega) (by decide)), trivial⟩ ?_
      refine sW_eq (st' := ([.int (R.2.2 r (i + k)), .int (nI c)], [some (.ref 1), some (.int (nI r)), some (.int (nI i)), some (.int (nI n)), some (.int (nI c)), some (.int (nI k))], M)) (by simp (disch := omega) only [e1, nI_add, nI_clamp, pk_mul]) ?_
      refine sW_if_eq 38 d_Rows_bits_28 (by decide) (fun c_28 => ?_) (fun c_28 => ?_)
      · skip
        refine sW_go b_Rows_bits_38 (st' := ([.int (nI 0), .int (nI c)], [some (.ref 1), some (.int (nI r)), some (.int (nI i)), some (.int (nI n)), some (.int (nI c)), some (.int (nI k))], M)) (φ := True) rfl trivial ?_
        refine sW_go b_Rows_bits_39 (st' := ([], [some (.ref 1), some (.int (nI r)), some (.int (nI i)), some (.int (nI n)), some (.int (nI c ||| nI 0)), some (.int (nI k + nI 1))], M)) (φ := True) rfl trivial ?_
        refine sW_eq (st' := ([], [some (.ref 1), some (.int (nI r)), some (.int (nI i)), some (.int (nI n)), some (.int (nI (c ||| 0))), some (.int (nI (k + 1)))], M)) (by simp (disch := omega) only [nI_add, nx_or]) ?_
        refine sW_goto 6 d_Rows_bits_45 (by decide) ?_
        refine ih (k + 1, c ||| 0) (by dsimp only; omega) (by dsimp only; omega) ?_
        have := hst 0 (by unfold rwBit; rw [cif_t c_28])
        simpa using this
      · skip
        refine sW_go b_Rows_bits_31 (st' := ([.int (nI 1 <<< (nI k &&& 31)), .int (nI c)], [some (.ref 1), some (.int (nI r)), some (.int (nI i)), some (.int (nI n)), some (.int (nI c)), some (.int (nI k))], M)) (φ := True) rfl trivial ?_
        refine sW_eq (st' := ([.int (nI (1 * 2 ^ k)), .int (nI c)], [some (.ref 1), some (.int (nI r)), some (.int (nI i)), some (.int (nI n)), some (.int (nI c)), some (.int (nI k))], M)) (by simp (disch := omega) only [q3]) ?_
        refine sW_goto 39 d_Rows_bits_35 (by decide) ?_
        refine sW_go b_Rows_bits_39 (st' := ([], [some (.ref 1), some (.int (nI r)), some (.int (nI i)), some (.int (nI n)), some (.int (nI c ||| nI (1 * 2 ^ k))), some (.int (nI k + nI 1))], M)) (φ := True) rfl trivial ?_
        refine sW_eq (st' := ([], [some (.ref 1), some (.int (nI r)), some (.int (nI i)), some (.int (nI n)), some (.int (nI (c ||| (1 * 2 ^ k)))), some (.int (nI (k + 1)))], M)) (by simp (disch := omega) only [nI_add, nx_or]) ?_
        refine sW_goto 6 d_Rows_bits_45 (by decide) ?_
        exact ih (k + 1, _) (by dsimp only; omega) (by dsimp only; omega) (hst 1 (by unfold rwBit; rw [cif_f c_28]))
  · have hke : k = n := by omega
    subst hke
    refine sW_go b_Rows_bits_6 (st' := ([.int (nI k), .int (nI k)], [some (.ref 1), some (.int (nI r)), some (.int (nI i)), some (.int (nI k)), some (.int (nI c)), some (.int (nI k))], M)) (φ := True) rfl trivial ?_
    refine sW_ic_ge 48 d_Rows_bits_9 (by decide) (fun c_9 => ?_) (fun c_9 => ?_)
    · skip
      simp (disch := omega) only [nI_leI] at c_9
      refine sW_go b_Rows_bits_48 (st' := ([.int (nI c)], [some (.ref 1), some (.int (nI r)), some (.int (nI i)), some (.int (nI k)), some (.int (nI c)), some (.int (nI k))], M)) (φ := True) rfl trivial ?_
      refine sW_retI d_Rows_bits_50 rfl (vp_nar_int _) ?_
      exact ⟨by rw [hc], rfl⟩
    · skip
      simp (disch := omega) only [nI_leI] at c_9
      exact absurd c_9 (by omega)

