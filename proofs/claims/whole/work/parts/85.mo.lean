/-! ===== the model: rows ===== -/
theorem MFr.one {M M' : mx_M} {cs ss : List Nat} {c : Nat} (h : ∀ a, a ≠ c → M' a = M a) (hc : c ∈ cs) (hn : c ≠ 119) : MFr M M' cs ss := ⟨fun a _ h2 => h a (fun q => h2 (q ▸ hc)), fun j _ => by rw [h 119 (Ne.symm hn)]⟩
theorem lane_neg {l : Int32} (h : l = -1 ∨ vp_in l 3) : l < 0 ↔ l = -1 := by
  rcases h with rfl | h
  · exact ⟨fun _ => rfl, fun _ => by decide +kernel⟩
  · refine ⟨fun q => absurd h (vi_neg q), fun q => ?_⟩
    rw [q] at h
    exact absurd (vp_in_iff.mp h).1 (by decide +kernel)
theorem le_nlt {l : Int32} : 0 ≤ l ↔ ¬ l < 0 := by
  rw [Int32.le_iff_toInt_le, Int32.lt_iff_toInt_lt]
  omega
theorem MInv.st0 {M0 : mx_M} {σ : Sg} (h0 : MInv M0 σ) : ∃ M1, mx_wr M0 119 1 (nI 0) = M1 ∧ MInv M1 (ws σ 0) ∧ MFr M0 M1 [] [0, 1] ∧ M1 119 1 = nI 0 := by
  have f : MFr M0 (mx_wr M0 119 1 (nI 0)) [] [0, 1] := MFr.rf.wo (by decide)
  have e : (mx_wr M0 119 1 (nI 0)) 119 1 = nI 0 := by rw [mx_wr_s, pk_us]
  exact ⟨_, rfl, h0.stat f e, f, e⟩
theorem MOk.find {M M0 M1 M2 : mx_M} {σ : Sg} {k : Nat} (h0 : MInv M0 σ) (f0 : Fr M M0 119 139) (f1 : MFr M0 M1 [] [0, 1]) (g2 : M2 = mx_wr M1 119 1 (nI k)) : MOk M ((-1000010) - nI k, ws σ k) (some (.int ((-1000010) - nI k))) M2 := by
  have f2 : MFr M0 M2 [] [0, 1] := by rw [g2]; exact f1.wo (by decide)
  exact ⟨rfl, f0.tr (f2.fr (by decide)), h0.stat f2 (by rw [g2, mx_wr_s, pk_us])⟩
theorem RowsAt.make {M M' : mx_M} {la le it : Nat} {R : Rw} (hA : RowsAt M la le it R) {r k : Nat} (hr : r < 8) (hn : k ≤ 40) {l : Int32} (hl : vp_in l 3) (i1 : M' la = upd (M la) r l) (i2 : M' le = upd (M le) r (nI k)) (i4 : ∀ i, i < 40 → M' it (r * 40 + i) = 0) (i5 : ∀ i, (i < r * 40 ∨ r * 40 + 40 ≤ i) → M' it i = M it i) : RowsAt M' la le it (rwMake R r l k) := by
  intro a ha
  obtain ⟨a1, a2, a3, a4, a5⟩ := hA a ha
  by_cases hx : a = r
  · subst hx
    refine ⟨by rw [i1, pk_us]; exact pk_us.symm, Or.inr ?_, ?_, ?_, fun _ i hi => ?_⟩
    · show vp_in (upd R.1 a l a) 3
      rw [pk_us]; exact hl
    · rw [i2, pk_us]
      show nI k = nI (updN R.2.1 a k a)
      rw [updN_s]
    · show updN R.2.1 a k a ≤ 40
      rw [updN_s]; exact hn
    · have hi' : i < updN R.2.1 a k a := hi
      rw [updN_s] at hi'
      rw [i4 i (by omega)]
      show (0 : Int32) = (if a = a then fun _ => 0 else R.2.2 a) i
      rw [if_pos rfl]
  · have e1 : (rwMake R r l k).1 a = R.1 a := pk_un hx
    have e2 : (rwMake R r l k).2.1 a = R.2.1 a := updN_n _ _ hx
    have e3 : (rwMake R r l k).2.2 a = R.2.2 a := if_neg hx
    rw [e1, e2, e3, i1, i2, pk_un hx, pk_un hx]
    refine ⟨a1, a2, a3, a4, fun q i hi => ?_⟩
    rw [i5 _ (by omega)]
    exact a5 q i hi
theorem mo_row (G : mx_G) {M : mx_M} {σ : Sg} (h : MInv M σ) (r l n : Int32) : sOk G m_Mo_row [.ref 119, .int r, .int l, .int n] M (MOk M (sp_row σ r l n)) := by
  obtain ⟨M0, e0, h0, f0, g0⟩ := h.th
  by_cases hc : vp_in r 8 ∧ vp_in l 3 ∧ n ≤ nI 40
  · obtain ⟨hr, hl, hn⟩ := id hc
    obtain ⟨j, hj, rfl⟩ := vp_in_of hr (by decide)
    obtain ⟨M1, e1, h1, f1, s1⟩ := h0.st0
    by_cases hz : n < 0
    · have e : sp_row σ (nI j) l n = ((-1000010) - nI 4, ws σ 4) := by unfold sp_row; rw [cif_t hc, cif_t hz]
      rw [e]
      refine sOk_of ⟨by decide +kernel, by decide +kernel, Nat.le_of_ble_eq_true rfl⟩ ?_
      show sW G m_Mo_row 0 ([], [some (.ref 119), some (.int (nI j)), some (.int l), some (.int n), none], M) _
      refine sW_go b_Mo_row_0 (st' := ([.int (nI j)], [some (.ref 119), some (.int (nI j)), some (.int l), some (.int n), none], mx_wr M 119 0 (nI 0))) (φ := mx_ocl LAY 119 = 10 ∧ True) rfl ⟨oc_119, trivial⟩ ?_
      refine sW_eq (st' := ([.int (nI j)], [some (.ref 119), some (.int (nI j)), some (.int l), some (.int n), none], M0)) (by simp (disch := omega) only [e0]) ?_
      refine sW_callS [.int (nI j)] [] d_Mo_row_6 c_Mo_row_6 ⟨rfl, rfl, Nat.le_of_ble_eq_true rfl, rfl, rfl⟩ (k_isRow G (nI j)) ?_
      rintro _ M₁ ⟨rfl, h₁⟩
      rw [h₁]
      show sW G m_Mo_row 9 ([.int (tf (vp_in (nI j) 8))], [some (.ref 119), some (.int (nI j)), some (.int l), some (.int n), none], M0) _
      refine sW_if_eq 30 d_Mo_row_9 (by decide) (fun c_9 => ?_) (fun c_9 => ?_)
      · skip
        replace c_9 := tf_z.mp c_9
        refine sW_go b_Mo_row_30 (st' := ([.int (-1000001)], [some (.ref 119), some (.int (nI j)), some (.int l), some (.int n), none], M0)) (φ := True) rfl trivial ?_
        refine sW_retI d_Mo_row_32 rfl (vp_nar_int _) ?_
        exact absurd hr c_9
      · skip
        replace c_9 := tf_nz.mp c_9
        refine sW_go b_Mo_row_12 (st' := ([.long (lN 2), .long (lN 0), .long l.toInt64], [some (.ref 119), some (.int (nI j)), some (.int l), some (.int n), none], M0)) (φ := True) rfl trivial ?_
        refine sW_callS [.long l.toInt64, .long (lN 0), .long (lN 2)] [] d_Mo_row_18 c_Mo_row_18 ⟨rfl, rfl, Nat.le_of_ble_eq_true rfl, rfl, rfl⟩ (k_in0 G l 2 (by decide)) ?_
        rintro _ M₁ ⟨rfl, h₁⟩
        rw [h₁]
        show sW G m_Mo_row 21 ([.int (tf (vp_in l 3))], [some (.ref 119), some (.int (nI j)), some (.int l), some (.int n), none], M0) _
        refine sW_if_eq 30 d_Mo_row_21 (by decide) (fun c_21 => ?_) (fun c_21 => ?_)
        · skip
          replace c_21 := tf_z.mp c_21
          refine sW_go b_Mo_row_30 (st' := ([.int (-1000001)], [some (.ref 119), some (.int (nI j)), some (.int l), some (.int n), none], M0)) (φ := True) rfl trivial ?_
          refine sW_retI d_Mo_row_32 rfl (vp_nar_int _) ?_
          exact absurd hl c_21
        · skip
          replace c_21 := tf_nz.mp c_21
          refine sW_go b_Mo_row_24 (st' := ([.int (nI 40), .int n], [some (.ref 119), some (.int (nI j)), some (.int l), some (.int n), none], M0)) (φ := True) rfl trivial ?_
          refine sW_ic_le 33 d_Mo_row_27 (by decide) (fun c_27 => ?_) (fun c_27 => ?_)
          · skip
            refine sW_go b_Mo_row_33 (st' := ([.int n], [some (.ref 119), some (.int (nI j)), some (.int l), some (.int n), none], mx_wr M0 119 1 (nI 0))) (φ := mx_ocl LAY 119 = 10 ∧ True) rfl ⟨oc_119, trivial⟩ ?_
            refine sW_eq (st' := ([.int n], [some (.ref 119), some (.int (nI j)), some (.int l), some (.int n), none], M1)) (by simp (disch := omega) only [e1]) ?_
            refine sW_if_ge 48 d_Mo_row_39 (by decide) (fun c_39 => ?_) (fun c_39 => ?_)
            · skip
              exact absurd hz (le_nlt.mp c_39)
            · skip
              refine sW_go b_Mo_row_42 (st' := ([.int (nI 4), .ref 119], [some (.ref 119), some (.int (nI j)), some (.int l), some (.int n), none], M1)) (φ := True) rfl trivial ?_
              refine sW_callV 10 [.int (nI 4)] [] d_Mo_row_44 c_Mo_row_44 ⟨rfl, rfl, rfl, Nat.le_of_ble_eq_true rfl, rfl, rfl⟩ oc_119 (k_finding G 4) ?_
              rintro _ M2 ⟨rfl, g2⟩
              show sW G m_Mo_row 47 ([.int ((-1000010) - nI 4)], [some (.ref 119), some (.int (nI j)), some (.int l), some (.int n), none], M2) _
              refine sW_retI d_Mo_row_47 rfl (vp_nar_int _) ?_
              exact MOk.find h0 f0 f1 g2
          · skip
            refine sW_go b_Mo_row_30 (st' := ([.int (-1000001)], [some (.ref 119), some (.int (nI j)), some (.int l), some (.int n), none], M0)) (φ := True) rfl trivial ?_
            refine sW_retI d_Mo_row_32 rfl (vp_nar_int _) ?_
            exact absurd hn c_27
    · obtain ⟨k, hk, rfl⟩ := nI_of hz
      have hk40 : k ≤ 40 := by rw [nI_leI hk (by decide)] at hn; exact hn
      have e : sp_row σ (nI j) l (nI k) = (nI k, wR (ws σ 0) (rwMake (gR σ) j l k)) := by unfold sp_row tn; rw [cif_t hc, cif_f hz, nI_clamp (by omega), nI_clamp hk]
      rw [e]
      refine sOk_of ⟨by decide +kernel, by decide +kernel, Nat.le_of_ble_eq_true rfl⟩ ?_
      show sW G m_Mo_row 0 ([], [some (.ref 119), some (.int (nI j)), some (.int l), some (.int (nI k)), none], M) _
      refine sW_go b_Mo_row_0 (st' := ([.int (nI j)], [some (.ref 119), some (.int (nI j)), some (.int l), some (.int (nI k)), none], mx_wr M 119 0 (nI 0))) (φ := mx_ocl LAY 119 = 10 ∧ True) rfl ⟨oc_119, trivial⟩ ?_
      refine sW_eq (st' := ([.int (nI j)], [some (.ref 119), some (.int (nI j)), some (.int l), some (.int (nI k)), none], M0)) (by simp (disch := omega) only [e0]) ?_
      refine sW_callS [.int (nI j)] [] d_Mo_row_6 c_Mo_row_6 ⟨rfl, rfl, Nat.le_of_ble_eq_true rfl, rfl, rfl⟩ (k_isRow G (nI j)) ?_
      rintro _ M₁ ⟨rfl, h₁⟩
      rw [h₁]
      show sW G m_Mo_row 9 ([.int (tf (vp_in (nI j) 8))], [some (.ref 119), some (.int (nI j)), some (.int l), some (.int (nI k)), none], M0) _
      refine sW_if_eq 30 d_Mo_row_9 (by decide) (fun c_9 => ?_) (fun c_9 => ?_)
      · skip
        replace c_9 := tf_z.mp c_9
        refine sW_go b_Mo_row_30 (st' := ([.int (-1000001)], [some (.ref 119), some (.int (nI j)), some (.int l), some (.int (nI k)), none], M0)) (φ := True) rfl trivial ?_
        refine sW_retI d_Mo_row_32 rfl (vp_nar_int _) ?_
        exact absurd hr c_9
      · skip
        replace c_9 := tf_nz.mp c_9
        refine sW_go b_Mo_row_12 (st' := ([.long (lN 2), .long (lN 0), .long l.toInt64], [some (.ref 119), some (.int (nI j)), some (.int l), some (.int (nI k)), none], M0)) (φ := True) rfl trivial ?_
        refine sW_callS [.long l.toInt64, .long (lN 0), .long (lN 2)] [] d_Mo_row_18 c_Mo_row_18 ⟨rfl, rfl, Nat.le_of_ble_eq_true rfl, rfl, rfl⟩ (k_in0 G l 2 (by decide)) ?_
        rintro _ M₁ ⟨rfl, h₁⟩
        rw [h₁]
        show sW G m_Mo_row 21 ([.int (tf (vp_in l 3))], [some (.ref 119), some (.int (nI j)), some (.int l), some (.int (nI k)), none], M0) _
        refine sW_if_eq 30 d_Mo_row_21 (by decide) (fun c_21 => ?_) (fun c_21 => ?_)
        · skip
          replace c_21 := tf_z.mp c_21
          refine sW_go b_Mo_row_30 (st' := ([.int (-1000001)], [some (.ref 119), some (.int (nI j)), some (.int l), some (.int (nI k)), none], M0)) (φ := True) rfl trivial ?_
          refine sW_retI d_Mo_row_32 rfl (vp_nar_int _) ?_
          exact absurd hl c_21
        · skip
          replace c_21 := tf_nz.mp c_21
          refine sW_go b_Mo_row_24 (st' := ([.int (nI 40), .int (nI k)], [some (.ref 119), some (.int (nI j)), some (.int l), some (.int (nI k)), none], M0)) (φ := True) rfl trivial ?_
          refine sW_ic_le 33 d_Mo_row_27 (by decide) (fun c_27 => ?_) (fun c_27 => ?_)
          · skip
            simp (disch := omega) only [nI_leI] at c_27
            refine sW_go b_Mo_row_33 (st' := ([.int (nI k)], [some (.ref 119), some (.int (nI j)), some (.int l), some (.int (nI k)), none], mx_wr M0 119 1 (nI 0))) (φ := mx_ocl LAY 119 = 10 ∧ True) rfl ⟨oc_119, trivial⟩ ?_
            refine sW_eq (st' := ([.int (nI k)], [some (.ref 119), some (.int (nI j)), some (.int l), some (.int (nI k)), none], M1)) (by simp (disch := omega) only [e1]) ?_
            refine sW_if_ge 48 d_Mo_row_39 (by decide) (fun c_39 => ?_) (fun c_39 => ?_)
            · skip
              refine sW_go b_Mo_row_48 (st' := ([], [some (.ref 119), some (.int (nI j)), some (.int l), some (.int (nI k)), some (.int (nI 0))], mx_wr (mx_wr M1 120 (nI j).toNatClampNeg l) 121 (nI j).toNatClampNeg (nI k))) (φ := mx_ocl LAY 119 = 10 ∧ vp_in (nI j) (mx_len LAY false 120) ∧ mx_ocl LAY 119 = 10 ∧ vp_in (nI j) (mx_len LAY false 121) ∧ True) rfl ⟨oc_119, (by simp (disch := omega) only [ln_120]; exact vp_in_nI (by omega) (by decide)), oc_119, (by simp (disch := omega) only [ln_121]; exact vp_in_nI (by omega) (by decide)), trivial⟩ ?_
              refine sW_eq (st' := ([], [some (.ref 119), some (.int (nI j)), some (.int l), some (.int (nI k)), some (.int (nI 0))], mx_wr (mx_wr M1 120 j l) 121 j (nI k))) (by simp (disch := omega) only [nI_clamp]) ?_
              obtain ⟨M3, e3⟩ : ∃ M3, M3 = (mx_wr (mx_wr M1 120 j l) 121 j (nI k)) := ⟨_, rfl⟩
              rw [← e3]
              have a1 : M3 120 = upd (M1 120) j l := by rw [e3, mx_wr_n _ _ _ (by decide), mx_wr_s]
              have a2 : M3 121 = upd (M1 121) j (nI k) := by rw [e3, mx_wr_s, mx_wr_n _ _ _ (by decide)]
              have a3 : M3 122 = M1 122 := by rw [e3, mx_wr_n _ _ _ (by decide), mx_wr_n _ _ _ (by decide)]
              have a4 : MFr M0 M3 [120, 121, 122] [0, 1] := by rw [e3]; exact ((f1.mono (by decide) (by decide)).wr (by decide) (by decide)).wr (by decide) (by decide)
              have a5 : M3 119 1 = nI 0 := by rw [e3, mx_wr_n _ _ _ (by decide), mx_wr_n _ _ _ (by decide)]; exact s1
              refine mx_ind (α := Nat × mx_M) (fun q => 40 - q.1) (fun q => q.1 ≤ 40 → (∀ a, a ≠ 122 → q.2 a = M3 a) → (∀ i, i < q.1 → q.2 122 (j * 40 + i) = 0) → (∀ i, (i < j * 40 ∨ j * 40 + 40 ≤ i) → q.2 122 i = M3 122 i) → sW G m_Mo_row 65 ([], [some (.ref 119), some (.int (nI j)), some (.int l), some (.int (nI k)), some (.int (nI q.1))], q.2) _) ?_ (0, M3) (Nat.zero_le _) (fun _ _ => rfl) (fun i hi => absurd hi (Nat.not_lt_zero i)) (fun _ _ => rfl)
              rintro ⟨q, M2⟩ ih hq i1 i2 i3
              dsimp only at ih hq i1 i2 i3 ⊢
              by_cases hqn : q < 40
              · skip
                refine sW_go b_Mo_row_65 (st' := ([.int (nI 40), .int (nI q)], [some (.ref 119), some (.int (nI j)), some (.int l), some (.int (nI k)), some (.int (nI q))], M2)) (φ := True) rfl trivial ?_
                refine sW_ic_ge 91 d_Mo_row_69 (by decide) (fun c_69 => ?_) (fun c_69 => ?_)
                · skip
                  simp (disch := omega) only [nI_leI] at c_69
                  omega
                · skip
                  simp (disch := omega) only [nI_leI] at c_69
                  refine sW_go b_Mo_row_72 (st' := ([], [some (.ref 119), some (.int (nI j)), some (.int l), some (.int (nI k)), some (.int (nI q + nI 1))], mx_wr M2 122 ((nI 40 * nI j) + nI q).toNatClampNeg (nI 0))) (φ := mx_ocl LAY 119 = 10 ∧ vp_in ((nI 40 * nI j) + nI q) (mx_len LAY false 122) ∧ True) rfl ⟨oc_119, (by simp (disch := omega) only [nI_add, pk_mul, ln_122]; exact vp_in_nI (by omega) (by decide)), trivial⟩ ?_
                  refine sW_eq (st' := ([], [some (.ref 119), some (.int (nI j)), some (.int l), some (.int (nI k)), some (.int (nI (q + 1)))], mx_wr M2 122 (40 * j + q) (nI 0))) (by simp (disch := omega) only [nI_add, nI_clamp, pk_mul]) ?_
                  refine sW_goto 65 d_Mo_row_88 (by decide) ?_
                  refine ih (q + 1, (mx_wr M2 122 (40 * j + q) (nI 0))) (by dsimp only; omega) (by dsimp only; omega) (fun a ha => ?_) (fun i hi => ?_) (fun i hi => ?_)
                  · dsimp only
                    rw [mx_wr_n _ _ _ ha]; exact i1 a ha
                  · dsimp only at hi ⊢
                    rw [mx_wr_s]
                    by_cases hx : i = q
                    · rw [hx, show 40 * j + q = j * 40 + q by omega, pk_us]; rfl
                    · rw [pk_un (by omega)]
                      exact i2 i (by omega)
                  · dsimp only at hi ⊢
                    rw [mx_wr_s, pk_un (by omega)]
                    exact i3 i hi
              · obtain rfl : q = 40 := by omega
                refine sW_go b_Mo_row_65 (st' := ([.int (nI 40), .int (nI 40)], [some (.ref 119), some (.int (nI j)), some (.int l), some (.int (nI k)), some (.int (nI 40))], M2)) (φ := True) rfl trivial ?_
                refine sW_ic_ge 91 d_Mo_row_69 (by decide) (fun c_69 => ?_) (fun c_69 => ?_)
                · skip
                  simp (disch := omega) only [nI_leI] at c_69
                  refine sW_go b_Mo_row_91 (st' := ([.int (nI k)], [some (.ref 119), some (.int (nI j)), some (.int l), some (.int (nI k)), some (.int (nI 40))], M2)) (φ := True) rfl trivial ?_
                  refine sW_retI d_Mo_row_92 rfl (vp_nar_int _) ?_
                  have fa : MFr M0 M2 [120, 121, 122] [0, 1] := a4.tr (MFr.one i1 (by decide) (by decide))
                  refine ⟨rfl, f0.tr (fa.fr (by decide)), h0.rows fa (RowsAt.make h1.1 hj hk40 hl ?_ ?_ i2 (fun i hi => (i3 i hi).trans (by rw [a3]))) ?_⟩
                  · rw [i1 120 (by decide)]; exact a1
                  · rw [i1 121 (by decide)]; exact a2
                  · rw [i1 119 (by decide)]; exact a5
                · skip
                  exact absurd (by decide +kernel) c_69
            · skip
              refine sW_go b_Mo_row_42 (st' := ([.int (nI 4), .ref 119], [some (.ref 119), some (.int (nI j)), some (.int l), some (.int (nI k)), none], M1)) (φ := True) rfl trivial ?_
              refine sW_callV 10 [.int (nI 4)] [] d_Mo_row_44 c_Mo_row_44 ⟨rfl, rfl, rfl, Nat.le_of_ble_eq_true rfl, rfl, rfl⟩ oc_119 (k_finding G 4) ?_
              rintro _ M2 ⟨rfl, g2⟩
              show sW G m_Mo_row 47 ([.int ((-1000010) - nI 4)], [some (.ref 119), some (.int (nI j)), some (.int l), some (.int (nI k)), none], M2) _
              refine sW_retI d_Mo_row_47 rfl (vp_nar_int _) ?_
              exact absurd (le_nlt.mpr hz) c_39
          · skip
            simp (disch := omega) only [nI_leI] at c_27
            refine sW_go b_Mo_row_30 (st' := ([.int (-1000001)], [some (.ref 119), some (.int (nI j)), some (.int l), some (.int (nI k)), none], M0)) (φ := True) rfl trivial ?_
            refine sW_retI d_Mo_row_32 rfl (vp_nar_int _) ?_
            omega
  · have e : sp_row σ r l n = ((-1000001), σ) := by unfold sp_row; rw [cif_f hc]
    rw [e]
    refine sOk_of ⟨by decide +kernel, by decide +kernel, Nat.le_of_ble_eq_true rfl⟩ ?_
    show sW G m_Mo_row 0 ([], [some (.ref 119), some (.int r), some (.int l), some (.int n), none], M) _
    refine sW_go b_Mo_row_0 (st' := ([.int r], [some (.ref 119), some (.int r), some (.int l), some (.int n), none], mx_wr M 119 0 (nI 0))) (φ := mx_ocl LAY 119 = 10 ∧ True) rfl ⟨oc_119, trivial⟩ ?_
    refine sW_eq (st' := ([.int r], [some (.ref 119), some (.int r), some (.int l), some (.int n), none], M0)) (by simp (disch := omega) only [e0]) ?_
    refine sW_callS [.int r] [] d_Mo_row_6 c_Mo_row_6 ⟨rfl, rfl, Nat.le_of_ble_eq_true rfl, rfl, rfl⟩ (k_isRow G r) ?_
    rintro _ M₁ ⟨rfl, h₁⟩
    rw [h₁]
    show sW G m_Mo_row 9 ([.int (tf (vp_in r 8))], [some (.ref 119), some (.int r), some (.int l), some (.int n), none], M0) _
    refine sW_if_eq 30 d_Mo_row_9 (by decide) (fun c_9 => ?_) (fun c_9 => ?_)
    · skip
      replace c_9 := tf_z.mp c_9
      refine sW_go b_Mo_row_30 (st' := ([.int (-1000001)], [some (.ref 119), some (.int r), some (.int l), some (.int n), none], M0)) (φ := True) rfl trivial ?_
      refine sW_retI d_Mo_row_32 rfl (vp_nar_int _) ?_
      exact ⟨rfl, f0, h0⟩
    · skip
      replace c_9 := tf_nz.mp c_9
      refine sW_go b_Mo_row_12 (st' := ([.long (lN 2), .long (lN 0), .long l.toInt64], [some (.ref 119), some (.int r), some (.int l), some (.int n), none], M0)) (φ := True) rfl trivial ?_
      refine sW_callS [.long l.toInt64, .long (lN 0), .long (lN 2)] [] d_Mo_row_18 c_Mo_row_18 ⟨rfl, rfl, Nat.le_of_ble_eq_true rfl, rfl, rfl⟩ (k_in0 G l 2 (by decide)) ?_
      rintro _ M₁ ⟨rfl, h₁⟩
      rw [h₁]
      show sW G m_Mo_row 21 ([.int (tf (vp_in l 3))], [some (.ref 119), some (.int r), some (.int l), some (.int n), none], M0) _
      refine sW_if_eq 30 d_Mo_row_21 (by decide) (fun c_21 => ?_) (fun c_21 => ?_)
      · skip
        replace c_21 := tf_z.mp c_21
        refine sW_go b_Mo_row_30 (st' := ([.int (-1000001)], [some (.ref 119), some (.int r), some (.int l), some (.int n), none], M0)) (φ := True) rfl trivial ?_
        refine sW_retI d_Mo_row_32 rfl (vp_nar_int _) ?_
        exact ⟨rfl, f0, h0⟩
      · skip
        replace c_21 := tf_nz.mp c_21
        refine sW_go b_Mo_row_24 (st' := ([.int (nI 40), .int n], [some (.ref 119), some (.int r), some (.int l), some (.int n), none], M0)) (φ := True) rfl trivial ?_
        refine sW_ic_le 33 d_Mo_row_27 (by decide) (fun c_27 => ?_) (fun c_27 => ?_)
        · skip
          exact absurd ⟨c_9, c_21, c_27⟩ hc
        · skip
          refine sW_go b_Mo_row_30 (st' := ([.int (-1000001)], [some (.ref 119), some (.int r), some (.int l), some (.int n), none], M0)) (φ := True) rfl trivial ?_
          refine sW_retI d_Mo_row_32 rfl (vp_nar_int _) ?_
          exact ⟨rfl, f0, h0⟩
theorem place1 {len : Nat} {i : Int32} : placeP len i (nI 1) ↔ vp_in i len := by
  unfold placeP
  rw [vp_in_iff, nI_toInt (by decide)]
  omega
theorem mo_set (G : mx_G) {M : mx_M} {σ : Sg} (h : MInv M σ) (r i v : Int32) : sOk G m_Mo_set [.ref 119, .int r, .int i, .int v] M (MOk M (sp_set σ r i v)) := by
  obtain ⟨M0, e0, h0, f0, g0⟩ := h.th
  by_cases hr : vp_in r 8
  · obtain ⟨j, hj, rfl⟩ := vp_in_of hr (by decide)
    have ct : tn (nI j) = j := nI_clamp (by omega)
    obtain ⟨M1, e1, h1, f1, s1⟩ := h0.st0
    obtain ⟨a1, a2, a3, a4, a5⟩ := h1.1 j hj
    have hR : gR (ws σ 0) = gR σ := rfl
    rw [hR] at a1 a2 a3 a4 a5
    have z1 : mx_wr M0 119 1 (nI 0) 120 j = (gR σ).1 j := by rw [e1]; exact a1
    have hln := lane_neg a2
    by_cases hl : (gR σ).1 j = -1
    · have e : sp_set σ (nI j) i v = ((-1000010) - nI 1, ws σ 1) := by
        unfold sp_set
        have ef : fndN (gR σ) j i (nI 1) = 1 := by unfold fndN; rw [cif_t hl]
        rw [cif_t hr, ct, ef, cif_f (by decide)]
      rw [e]
      refine sOk_of ⟨by decide +kernel, by decide +kernel, Nat.le_of_ble_eq_true rfl⟩ ?_
      show sW G m_Mo_set 0 ([], [some (.ref 119), some (.int (nI j)), some (.int i), some (.int v)], M) _
      refine sW_go b_Mo_set_0 (st' := ([.int (nI j)], [some (.ref 119), some (.int (nI j)), some (.int i), some (.int v)], mx_wr M 119 0 (nI 0))) (φ := mx_ocl LAY 119 = 10 ∧ True) rfl ⟨oc_119, trivial⟩ ?_
      refine sW_eq (st' := ([.int (nI j)], [some (.ref 119), some (.int (nI j)), some (.int i), some (.int v)], M0)) (by simp (disch := omega) only [e0]) ?_
      refine sW_callS [.int (nI j)] [] d_Mo_set_6 c_Mo_set_6 ⟨rfl, rfl, Nat.le_of_ble_eq_true rfl, rfl, rfl⟩ (k_isRow G (nI j)) ?_
      rintro _ M₁ ⟨rfl, h₁⟩
      rw [h₁]
      show sW G m_Mo_set 9 ([.int (tf (vp_in (nI j) 8))], [some (.ref 119), some (.int (nI j)), some (.int i), some (.int v)], M0) _
      refine sW_if_ne 15 d_Mo_set_9 (by decide) (fun c_9 => ?_) (fun c_9 => ?_)
      · skip
        replace c_9 := tf_nz.mp c_9
        refine sW_go b_Mo_set_15 (st' := ([.int ((mx_wr M0 119 1 (nI 0)) 120 (nI j).toNatClampNeg)], [some (.ref 119), some (.int (nI j)), some (.int i), some (.int v)], mx_wr M0 119 1 (nI 0))) (φ := mx_ocl LAY 119 = 10 ∧ mx_ocl LAY 119 = 10 ∧ vp_in (nI j) (mx_len LAY false 120) ∧ True) rfl ⟨oc_119, oc_119, (by simp (disch := omega) only [ln_120]; exact vp_in_nI (by omega) (by decide)), trivial⟩ ?_
        refine sW_eq (st' := ([.int ((gR σ).1 j)], [some (.ref 119), some (.int (nI j)), some (.int i), some (.int v)], M1)) (by simp (disch := omega) only [e1, nI_clamp, z1, a1]) ?_
        refine sW_if_ge 35 d_Mo_set_26 (by decide) (fun c_26 => ?_) (fun c_26 => ?_)
        · skip
          exact absurd (hln.mpr hl) (le_nlt.mp c_26)
        · skip
          refine sW_go b_Mo_set_29 (st' := ([.int (nI 1), .ref 119], [some (.ref 119), some (.int (nI j)), some (.int i), some (.int v)], M1)) (φ := True) rfl trivial ?_
          refine sW_callV 10 [.int (nI 1)] [] d_Mo_set_31 c_Mo_set_31 ⟨rfl, rfl, rfl, Nat.le_of_ble_eq_true rfl, rfl, rfl⟩ oc_119 (k_finding G 1) ?_
          rintro _ M2 ⟨rfl, g2⟩
          show sW G m_Mo_set 34 ([.int ((-1000010) - nI 1)], [some (.ref 119), some (.int (nI j)), some (.int i), some (.int v)], M2) _
          refine sW_retI d_Mo_set_34 rfl (vp_nar_int _) ?_
          exact MOk.find h0 f0 f1 g2
      · skip
        replace c_9 := tf_z.mp c_9
        refine sW_go b_Mo_set_12 (st' := ([.int (-1000001)], [some (.ref 119), some (.int (nI j)), some (.int i), some (.int v)], M0)) (φ := True) rfl trivial ?_
        refine sW_retI d_Mo_set_14 rfl (vp_nar_int _) ?_
        exact absurd hr c_9
    · by_cases hp : vp_in i ((gR σ).2.1 j)
      · have hf : fndN (gR σ) j i (nI 1) = 0 := by unfold fndN; rw [cif_f hl, cif_t (place1.mpr hp)]
        obtain ⟨k, hk, rfl⟩ := vp_in_of hp (by omega)
        have e : sp_set σ (nI j) (nI k) v = (narL ((gR σ).1 j) v, wR (ws σ 0) (rwPut (gR σ) j k (narL ((gR σ).1 j) v))) := by
          unfold sp_set; rw [cif_t hr, ct, cif_t hf, show tn (nI k) = k from nI_clamp (by omega)]
        rw [e]
        have fin : ∀ w, w = narL ((gR σ).1 j) v → MOk M (narL ((gR σ).1 j) v, wR (ws σ 0) (rwPut (gR σ) j k (narL ((gR σ).1 j) v))) (some (.int w)) (mx_wr M1 122 (40 * j + k) w) := fun w hw => by
          rw [hw, show 40 * j + k = j * 40 + k by omega]
          have fa : MFr M0 (mx_wr M1 122 (j * 40 + k) (narL ((gR σ).1 j) v)) [120, 121, 122] [0, 1] := (f1.mono (by decide) (by decide)).wr (by decide) (by decide)
          exact ⟨rfl, f0.tr (fa.fr (by decide)), h0.rows fa (h1.1.put (by decide) hj hk _) (by rw [mx_wr_n _ _ _ (by decide)]; exact s1)⟩
        have zz : ∀ w : Int32, mx_wr M1 122 (40 * j + k) w 122 (40 * j + k) = w := fun w => by rw [mx_wr_s, pk_us]
        refine sOk_of ⟨by decide +kernel, by decide +kernel, Nat.le_of_ble_eq_true rfl⟩ ?_
        show sW G m_Mo_set 0 ([], [some (.ref 119), some (.int (nI j)), some (.int (nI k)), some (.int v)], M) _
        refine sW_go b_Mo_set_0 (st' := ([.int (nI j)], [some (.ref 119), some (.int (nI j)), some (.int (nI k)), some (.int v)], mx_wr M 119 0 (nI 0))) (φ := mx_ocl LAY 119 = 10 ∧ True) rfl ⟨oc_119, trivial⟩ ?_
        refine sW_eq (st' := ([.int (nI j)], [some (.ref 119), some (.int (nI j)), some (.int (nI k)), some (.int v)], M0)) (by simp (disch := omega) only [e0]) ?_
        refine sW_callS [.int (nI j)] [] d_Mo_set_6 c_Mo_set_6 ⟨rfl, rfl, Nat.le_of_ble_eq_true rfl, rfl, rfl⟩ (k_isRow G (nI j)) ?_
        rintro _ M₁ ⟨rfl, h₁⟩
        rw [h₁]
        show sW G m_Mo_set 9 ([.int (tf (vp_in (nI j) 8))], [some (.ref 119), some (.int (nI j)), some (.int (nI k)), some (.int v)], M0) _
        refine sW_if_ne 15 d_Mo_set_9 (by decide) (fun c_9 => ?_) (fun c_9 => ?_)
        · skip
          replace c_9 := tf_nz.mp c_9
          refine sW_go b_Mo_set_15 (st' := ([.int ((mx_wr M0 119 1 (nI 0)) 120 (nI j).toNatClampNeg)], [some (.ref 119), some (.int (nI j)), some (.int (nI k)), some (.int v)], mx_wr M0 119 1 (nI 0))) (φ := mx_ocl LAY 119 = 10 ∧ mx_ocl LAY 119 = 10 ∧ vp_in (nI j) (mx_len LAY false 120) ∧ True) rfl ⟨oc_119, oc_119, (by simp (disch := omega) only [ln_120]; exact vp_in_nI (by omega) (by decide)), trivial⟩ ?_
          refine sW_eq (st' := ([.int ((gR σ).1 j)], [some (.ref 119), some (.int (nI j)), some (.int (nI k)), some (.int v)], M1)) (by simp (disch := omega) only [e1, nI_clamp, z1, a1]) ?_
          refine sW_if_ge 35 d_Mo_set_26 (by decide) (fun c_26 => ?_) (fun c_26 => ?_)
          · skip
            refine sW_go b_Mo_set_35 (st' := ([.long (M1 121 (nI j).toNatClampNeg - nI 1).toInt64, .long (lN 0), .long (nI k).toInt64], [some (.ref 119), some (.int (nI j)), some (.int (nI k)), some (.int v)], M1)) (φ := mx_ocl LAY 119 = 10 ∧ vp_in (nI j) (mx_len LAY false 121) ∧ True) rfl ⟨oc_119, (by simp (disch := omega) only [ln_121]; exact vp_in_nI (by omega) (by decide)), trivial⟩ ?_
            refine sW_eq (st' := ([.long (nI ((gR σ).2.1 j) - nI 1).toInt64, .long (lN 0), .long (nI k).toInt64], [some (.ref 119), some (.int (nI j)), some (.int (nI k)), some (.int v)], M1)) (by simp (disch := omega) only [a3, nI_clamp]) ?_
            refine sW_callS [.long (nI k).toInt64, .long (lN 0), .long (nI ((gR σ).2.1 j) - nI 1).toInt64] [] d_Mo_set_47 c_Mo_set_47 ⟨rfl, rfl, Nat.le_of_ble_eq_true rfl, rfl, rfl⟩ (k_inB G (nI k) ((gR σ).2.1 j) (by omega)) ?_
            rintro _ M₁ ⟨rfl, h₁⟩
            rw [h₁]
            show sW G m_Mo_set 50 ([.int (tf (vp_in (nI k) ((gR σ).2.1 j)))], [some (.ref 119), some (.int (nI j)), some (.int (nI k)), some (.int v)], M1) _
            refine sW_if_ne 59 d_Mo_set_50 (by decide) (fun c_50 => ?_) (fun c_50 => ?_)
            · skip
              replace c_50 := tf_nz.mp c_50
              refine sW_go b_Mo_set_59 (st' := ([.int (M1 120 (nI j).toNatClampNeg), .int ((nI 40 * nI j) + nI k), .ref 122], [some (.ref 119), some (.int (nI j)), some (.int (nI k)), some (.int v)], M1)) (φ := mx_ocl LAY 119 = 10 ∧ mx_ocl LAY 119 = 10 ∧ vp_in (nI j) (mx_len LAY false 120) ∧ True) rfl ⟨oc_119, oc_119, (by simp (disch := omega) only [ln_120]; exact vp_in_nI (by omega) (by decide)), trivial⟩ ?_
              refine sW_eq (st' := ([.int ((gR σ).1 j), .int (nI (40 * j + k)), .ref 122], [some (.ref 119), some (.int (nI j)), some (.int (nI k)), some (.int v)], M1)) (by simp (disch := omega) only [a1, nI_add, nI_clamp, pk_mul]) ?_
              refine sW_if_ne 83 d_Mo_set_75 (by decide) (fun c_75 => ?_) (fun c_75 => ?_)
              · skip
                refine sW_go b_Mo_set_83 (st' := ([.int (nI 1), .int (M1 120 (nI j).toNatClampNeg), .int (nI (40 * j + k)), .ref 122], [some (.ref 119), some (.int (nI j)), some (.int (nI k)), some (.int v)], M1)) (φ := mx_ocl LAY 119 = 10 ∧ vp_in (nI j) (mx_len LAY false 120) ∧ True) rfl ⟨oc_119, (by simp (disch := omega) only [ln_120]; exact vp_in_nI (by omega) (by decide)), trivial⟩ ?_
                refine sW_eq (st' := ([.int (nI 1), .int ((gR σ).1 j), .int (nI (40 * j + k)), .ref 122], [some (.ref 119), some (.int (nI j)), some (.int (nI k)), some (.int v)], M1)) (by simp (disch := omega) only [a1, nI_clamp]) ?_
                refine sW_ic_ne 98 d_Mo_set_90 (by decide) (fun c_90 => ?_) (fun c_90 => ?_)
                · skip
                  refine sW_go b_Mo_set_98 (st' := ([.int v, .int (nI (40 * j + k)), .ref 122], [some (.ref 119), some (.int (nI j)), some (.int (nI k)), some (.int v)], M1)) (φ := True) rfl trivial ?_
                  refine sW_go b_Mo_set_99 (st' := ([.int ((mx_wr M1 122 (nI (40 * j + k)).toNatClampNeg v) 122 ((nI 40 * nI j) + nI k).toNatClampNeg)], [some (.ref 119), some (.int (nI j)), some (.int (nI k)), some (.int v)], mx_wr M1 122 (nI (40 * j + k)).toNatClampNeg v)) (φ := vp_in (nI (40 * j + k)) (mx_len LAY false 122) ∧ mx_ocl LAY 119 = 10 ∧ vp_in ((nI 40 * nI j) + nI k) (mx_len LAY false 122) ∧ True) rfl ⟨(by simp (disch := omega) only [ln_122]; exact vp_in_nI (by omega) (by decide)), oc_119, (by simp (disch := omega) only [nI_add, pk_mul, ln_122]; exact vp_in_nI (by omega) (by decide)), trivial⟩ ?_
                  refine sW_eq (st' := ([.int v], [some (.ref 119), some (.int (nI j)), some (.int (nI k)), some (.int v)], mx_wr M1 122 (40 * j + k) v)) (by simp (disch := omega) only [nI_add, nI_clamp, pk_mul, zz]) ?_
                  refine sW_retI d_Mo_set_111 rfl (vp_nar_int _) ?_
                  exact fin _ (by unfold narL; rw [cif_f c_75, cif_f c_90])
                · skip
                  refine sW_go b_Mo_set_93 (st' := ([.int v.toInt16.toInt32, .int (nI (40 * j + k)), .ref 122], [some (.ref 119), some (.int (nI j)), some (.int (nI k)), some (.int v)], M1)) (φ := True) rfl trivial ?_
                  refine sW_goto 99 d_Mo_set_95 (by decide) ?_
                  refine sW_go b_Mo_set_99 (st' := ([.int ((mx_wr M1 122 (nI (40 * j + k)).toNatClampNeg v.toInt16.toInt32) 122 ((nI 40 * nI j) + nI k).toNatClampNeg)], [some (.ref 119), some (.int (nI j)), some (.int (nI k)), some (.int v)], mx_wr M1 122 (nI (40 * j + k)).toNatClampNeg v.toInt16.toInt32)) (φ := vp_in (nI (40 * j + k)) (mx_len LAY false 122) ∧ mx_ocl LAY 119 = 10 ∧ vp_in ((nI 40 * nI j) + nI k) (mx_len LAY false 122) ∧ True) rfl ⟨(by simp (disch := omega) only [ln_122]; exact vp_in_nI (by omega) (by decide)), oc_119, (by simp (disch := omega) only [nI_add, pk_mul, ln_122]; exact vp_in_nI (by omega) (by decide)), trivial⟩ ?_
                  refine sW_eq (st' := ([.int v.toInt16.toInt32], [some (.ref 119), some (.int (nI j)), some (.int (nI k)), some (.int v)], mx_wr M1 122 (40 * j + k) v.toInt16.toInt32)) (by simp (disch := omega) only [nI_add, nI_clamp, pk_mul, zz]) ?_
                  refine sW_retI d_Mo_set_111 rfl (vp_nar_int _) ?_
                  exact fin _ (by unfold narL; rw [cif_f c_75, cif_t c_90])
              · skip
                refine sW_go b_Mo_set_78 (st' := ([.int v.toInt8.toInt32, .int (nI (40 * j + k)), .ref 122], [some (.ref 119), some (.int (nI j)), some (.int (nI k)), some (.int v)], M1)) (φ := True) rfl trivial ?_
                refine sW_goto 99 d_Mo_set_80 (by decide) ?_
                refine sW_go b_Mo_set_99 (st' := ([.int ((mx_wr M1 122 (nI (40 * j + k)).toNatClampNeg v.toInt8.toInt32) 122 ((nI 40 * nI j) + nI k).toNatClampNeg)], [some (.ref 119), some (.int (nI j)), some (.int (nI k)), some (.int v)], mx_wr M1 122 (nI (40 * j + k)).toNatClampNeg v.toInt8.toInt32)) (φ := vp_in (nI (40 * j + k)) (mx_len LAY false 122) ∧ mx_ocl LAY 119 = 10 ∧ vp_in ((nI 40 * nI j) + nI k) (mx_len LAY false 122) ∧ True) rfl ⟨(by simp (disch := omega) only [ln_122]; exact vp_in_nI (by omega) (by decide)), oc_119, (by simp (disch := omega) only [nI_add, pk_mul, ln_122]; exact vp_in_nI (by omega) (by decide)), trivial⟩ ?_
                refine sW_eq (st' := ([.int v.toInt8.toInt32], [some (.ref 119), some (.int (nI j)), some (.int (nI k)), some (.int v)], mx_wr M1 122 (40 * j + k) v.toInt8.toInt32)) (by simp (disch := omega) only [nI_add, nI_clamp, pk_mul, zz]) ?_
                refine sW_retI d_Mo_set_111 rfl (vp_nar_int _) ?_
                exact fin _ (by unfold narL; rw [cif_t c_75])
            · skip
              replace c_50 := tf_z.mp c_50
              exact absurd hp c_50
          · skip
            exact absurd (hln.mp (Classical.not_not.mp (fun w => c_26 (le_nlt.mpr w)))) hl
        · skip
          replace c_9 := tf_z.mp c_9
          exact absurd hr c_9
      · have hf : fndN (gR σ) j i (nI 1) = 2 := by unfold fndN; rw [cif_f hl, cif_f (fun w => hp (place1.mp w))]
        have e : sp_set σ (nI j) i v = ((-1000010) - nI 2, ws σ 2) := by
          unfold sp_set; rw [cif_t hr, ct, hf, cif_f (by decide)]
        rw [e]
        refine sOk_of ⟨by decide +kernel, by decide +kernel, Nat.le_of_ble_eq_true rfl⟩ ?_
        show sW G m_Mo_set 0 ([], [some (.ref 119), some (.int (nI j)), some (.int i), some (.int v)], M) _
        refine sW_go b_Mo_set_0 (st' := ([.int (nI j)], [some (.ref 119), some (.int (nI j)), some (.int i), some (.int v)], mx_wr M 119 0 (nI 0))) (φ := mx_ocl LAY 119 = 10 ∧ True) rfl ⟨oc_119, trivial⟩ ?_
        refine sW_eq (st' := ([.int (nI j)], [some (.ref 119), some (.int (nI j)), some (.int i), some (.int v)], M0)) (by simp (disch := omega) only [e0]) ?_
        refine sW_callS [.int (nI j)] [] d_Mo_set_6 c_Mo_set_6 ⟨rfl, rfl, Nat.le_of_ble_eq_true rfl, rfl, rfl⟩ (k_isRow G (nI j)) ?_
        rintro _ M₁ ⟨rfl, h₁⟩
        rw [h₁]
        show sW G m_Mo_set 9 ([.int (tf (vp_in (nI j) 8))], [some (.ref 119), some (.int (nI j)), some (.int i), some (.int v)], M0) _
        refine sW_if_ne 15 d_Mo_set_9 (by decide) (fun c_9 => ?_) (fun c_9 => ?_)
        · skip
          replace c_9 := tf_nz.mp c_9
          refine sW_go b_Mo_set_15 (st' := ([.int ((mx_wr M0 119 1 (nI 0)) 120 (nI j).toNatClampNeg)], [some (.ref 119), some (.int (nI j)), some (.int i), some (.int v)], mx_wr M0 119 1 (nI 0))) (φ := mx_ocl LAY 119 = 10 ∧ mx_ocl LAY 119 = 10 ∧ vp_in (nI j) (mx_len LAY false 120) ∧ True) rfl ⟨oc_119, oc_119, (by simp (disch := omega) only [ln_120]; exact vp_in_nI (by omega) (by decide)), trivial⟩ ?_
          refine sW_eq (st' := ([.int ((gR σ).1 j)], [some (.ref 119), some (.int (nI j)), some (.int i), some (.int v)], M1)) (by simp (disch := omega) only [e1, nI_clamp, z1, a1]) ?_
          refine sW_if_ge 35 d_Mo_set_26 (by decide) (fun c_26 => ?_) (fun c_26 => ?_)
          · skip
            refine sW_go b_Mo_set_35 (st' := ([.long (M1 121 (nI j).toNatClampNeg - nI 1).toInt64, .long (lN 0), .long i.toInt64], [some (.ref 119), some (.int (nI j)), some (.int i), some (.int v)], M1)) (φ := mx_ocl LAY 119 = 10 ∧ vp_in (nI j) (mx_len LAY false 121) ∧ True) rfl ⟨oc_119, (by simp (disch := omega) only [ln_121]; exact vp_in_nI (by omega) (by decide)), trivial⟩ ?_
            refine sW_eq (st' := ([.long (nI ((gR σ).2.1 j) - nI 1).toInt64, .long (lN 0), .long i.toInt64], [some (.ref 119), some (.int (nI j)), some (.int i), some (.int v)], M1)) (by simp (disch := omega) only [a3, nI_clamp]) ?_
            refine sW_callS [.long i.toInt64, .long (lN 0), .long (nI ((gR σ).2.1 j) - nI 1).toInt64] [] d_Mo_set_47 c_Mo_set_47 ⟨rfl, rfl, Nat.le_of_ble_eq_true rfl, rfl, rfl⟩ (k_inB G i ((gR σ).2.1 j) (by omega)) ?_
            rintro _ M₁ ⟨rfl, h₁⟩
            rw [h₁]
            show sW G m_Mo_set 50 ([.int (tf (vp_in i ((gR σ).2.1 j)))], [some (.ref 119), some (.int (nI j)), some (.int i), some (.int v)], M1) _
            refine sW_if_ne 59 d_Mo_set_50 (by decide) (fun c_50 => ?_) (fun c_50 => ?_)
            · skip
              replace c_50 := tf_nz.mp c_50
              exact absurd c_50 hp
            · skip
              replace c_50 := tf_z.mp c_50
              refine sW_go b_Mo_set_53 (st' := ([.int (nI 2), .ref 119], [some (.ref 119), some (.int (nI j)), some (.int i), some (.int v)], M1)) (φ := True) rfl trivial ?_
              refine sW_callV 10 [.int (nI 2)] [] d_Mo_set_55 c_Mo_set_55 ⟨rfl, rfl, rfl, Nat.le_of_ble_eq_true rfl, rfl, rfl⟩ oc_119 (k_finding G 2) ?_
              rintro _ M2 ⟨rfl, g2⟩
              show sW G m_Mo_set 58 ([.int ((-1000010) - nI 2)], [some (.ref 119), some (.int (nI j)), some (.int i), some (.int v)], M2) _
              refine sW_retI d_Mo_set_58 rfl (vp_nar_int _) ?_
              exact MOk.find h0 f0 f1 g2
          · skip
            exact absurd (hln.mp (Classical.not_not.mp (fun w => c_26 (le_nlt.mpr w)))) hl
        · skip
          replace c_9 := tf_z.mp c_9
          refine sW_go b_Mo_set_12 (st' := ([.int (-1000001)], [some (.ref 119), some (.int (nI j)), some (.int i), some (.int v)], M0)) (φ := True) rfl trivial ?_
          refine sW_retI d_Mo_set_14 rfl (vp_nar_int _) ?_
          exact absurd hr c_9
  · have e : sp_set σ r i v = ((-1000001), σ) := by unfold sp_set; rw [cif_f hr]
    rw [e]
    refine sOk_of ⟨by decide +kernel, by decide +kernel, Nat.le_of_ble_eq_true rfl⟩ ?_
    show sW G m_Mo_set 0 ([], [some (.ref 119), some (.int r), some (.int i), some (.int v)], M) _
    refine sW_go b_Mo_set_0 (st' := ([.int r], [some (.ref 119), some (.int r), some (.int i), some (.int v)], mx_wr M 119 0 (nI 0))) (φ := mx_ocl LAY 119 = 10 ∧ True) rfl ⟨oc_119, trivial⟩ ?_
    refine sW_eq (st' := ([.int r], [some (.ref 119), some (.int r), some (.int i), some (.int v)], M0)) (by simp (disch := omega) only [e0]) ?_
    refine sW_callS [.int r] [] d_Mo_set_6 c_Mo_set_6 ⟨rfl, rfl, Nat.le_of_ble_eq_true rfl, rfl, rfl⟩ (k_isRow G r) ?_
    rintro _ M₁ ⟨rfl, h₁⟩
    rw [h₁]
    show sW G m_Mo_set 9 ([.int (tf (vp_in r 8))], [some (.ref 119), some (.int r), some (.int i), some (.int v)], M0) _
    refine sW_if_ne 15 d_Mo_set_9 (by decide) (fun c_9 => ?_) (fun c_9 => ?_)
    · skip
      replace c_9 := tf_nz.mp c_9
      exact absurd c_9 hr
    · skip
      replace c_9 := tf_z.mp c_9
      refine sW_go b_Mo_set_12 (st' := ([.int (-1000001)], [some (.ref 119), some (.int r), some (.int i), some (.int v)], M0)) (φ := True) rfl trivial ?_
      refine sW_retI d_Mo_set_14 rfl (vp_nar_int _) ?_
      exact ⟨rfl, f0, h0⟩

