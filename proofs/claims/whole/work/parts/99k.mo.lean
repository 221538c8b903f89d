/-! ===== the model: who ===== -/
theorem k_rowFound (G : mx_G) {M : mx_M} {R : Rw} (hA : RowsAt M 120 121 122 R) {r n : Nat} (hr : r < 8) (hn1 : 1 ≤ n) (hn : n ≤ 8) (i : Int32) : sOk G m_Mo_rowFound [.ref 119, .int (nI r), .int i, .int (nI n)] M (fun q M' => q = some (.int (if fndN R r i (nI n) = 0 then nI 0 else (-1000010) - nI (fndN R r i (nI n)))) ∧ M' = mx_wr M 119 1 (nI (fndN R r i (nI n)))) := by
  obtain ⟨a1, a2, a3, a4, a5⟩ := hA r hr
  have hln := lane_neg a2
  have fin : ∀ (f : Nat) (M2 : mx_M), f ≠ 0 → fndN R r i (nI n) = f → M2 = mx_wr M 119 1 (nI f) → some (.int ((-1000010) - nI f)) = some (Value.int (if fndN R r i (nI n) = 0 then nI 0 else (-1000010) - nI (fndN R r i (nI n)))) ∧ M2 = mx_wr M 119 1 (nI (fndN R r i (nI n))) := fun f M2 h0 e g => by
    rw [e, if_neg h0]
    exact ⟨rfl, g⟩
  refine sOk_of ⟨by decide +kernel, by decide +kernel, Nat.le_of_ble_eq_true rfl⟩ ?_
  show sW G m_Mo_rowFound 0 ([], [some (.ref 119), some (.int (nI r)), some (.int i), some (.int (nI n))], M) _
  refine sW_go b_Mo_rowFound_0 (st' := ([.int (M 120 (nI r).toNatClampNeg)], [some (.ref 119), some (.int (nI r)), some (.int i), some (.int (nI n))], M)) (φ := mx_ocl LAY 119 = 10 ∧ vp_in (nI r) (mx_len LAY false 120) ∧ True) rfl ⟨oc_119, (by simp (disch := omega) only [ln_120]; exact vp_in_nI (by omega) (by decide)), trivial⟩ ?_
  refine sW_eq (st' := ([.int (R.1 r)], [some (.ref 119), some (.int (nI r)), some (.int i), some (.int (nI n))], M)) (by simp (disch := omega) only [a1, nI_clamp]) ?_
  refine sW_if_ge 15 d_Mo_rowFound_6 (by decide) (fun c_6 => ?_) (fun c_6 => ?_)
  · skip
    refine sW_go b_Mo_rowFound_15 (st' := ([.int i], [some (.ref 119), some (.int (nI r)), some (.int i), some (.int (nI n))], M)) (φ := True) rfl trivial ?_
    refine sW_if_lt 35 d_Mo_rowFound_16 (by decide) (fun c_16 => ?_) (fun c_16 => ?_)
    · skip
      refine sW_go b_Mo_rowFound_35 (st' := ([.int (nI 2), .ref 119], [some (.ref 119), some (.int (nI r)), some (.int i), some (.int (nI n))], M)) (φ := True) rfl trivial ?_
      refine sW_callV 10 [.int (nI 2)] [] d_Mo_rowFound_37 c_Mo_rowFound_37 ⟨rfl, rfl, rfl, Nat.le_of_ble_eq_true rfl, rfl, rfl⟩ oc_119 (k_finding G 2) ?_
      rintro _ M2 ⟨rfl, g2⟩
      show sW G m_Mo_rowFound 40 ([.int ((-1000010) - nI 2)], [some (.ref 119), some (.int (nI r)), some (.int i), some (.int (nI n))], M2) _
      refine sW_retI d_Mo_rowFound_40 rfl (vp_nar_int _) ?_
      exact fin 2 M2 (by decide) (by unfold fndN; rw [cif_f (fun q => le_nlt.mp c_6 (hln.mpr q)), cif_f (fun q => by have := q.1; rw [neg_ti] at c_16; omega)]) g2
    · skip
      refine sW_go b_Mo_rowFound_19 (st' := ([.int (lg_cmp (i.toInt64 + (nI n).toInt64) (M 121 (nI r).toNatClampNeg).toInt64)], [some (.ref 119), some (.int (nI r)), some (.int i), some (.int (nI n))], M)) (φ := mx_ocl LAY 119 = 10 ∧ vp_in (nI r) (mx_len LAY false 121) ∧ True) rfl ⟨oc_119, (by simp (disch := omega) only [ln_121]; exact vp_in_nI (by omega) (by decide)), trivial⟩ ?_
      refine sW_eq (st' := ([.int (lg_cmp (i.toInt64 + (nI n).toInt64) (nI (R.2.1 r)).toInt64)], [some (.ref 119), some (.int (nI r)), some (.int i), some (.int (nI n))], M)) (by simp (disch := omega) only [a3, nI_clamp]) ?_
      refine sW_if_le 41 d_Mo_rowFound_32 (by decide) (fun c_32 => ?_) (fun c_32 => ?_)
      · skip
        refine sW_go b_Mo_rowFound_41 (st' := ([.int (nI 0)], [some (.ref 119), some (.int (nI r)), some (.int i), some (.int (nI n))], mx_wr M 119 1 (nI 0))) (φ := mx_ocl LAY 119 = 10 ∧ True) rfl ⟨oc_119, trivial⟩ ?_
        refine sW_retI d_Mo_rowFound_47 rfl (vp_nar_int _) ?_
        rw [over_le (by omega), nI_toInt (by omega)] at c_32
        rw [neg_ti] at c_16
        have e : fndN R r i (nI n) = 0 := by
          unfold fndN
          rw [cif_f (fun q => le_nlt.mp c_6 (hln.mpr q)), cif_t]
          unfold placeP
          rw [nI_toInt (by omega)]
          omega
        rw [e, if_pos rfl]
        exact ⟨rfl, rfl⟩
      · skip
        refine sW_go b_Mo_rowFound_35 (st' := ([.int (nI 2), .ref 119], [some (.ref 119), some (.int (nI r)), some (.int i), some (.int (nI n))], M)) (φ := True) rfl trivial ?_
        refine sW_callV 10 [.int (nI 2)] [] d_Mo_rowFound_37 c_Mo_rowFound_37 ⟨rfl, rfl, rfl, Nat.le_of_ble_eq_true rfl, rfl, rfl⟩ oc_119 (k_finding G 2) ?_
        rintro _ M2 ⟨rfl, g2⟩
        show sW G m_Mo_rowFound 40 ([.int ((-1000010) - nI 2)], [some (.ref 119), some (.int (nI r)), some (.int i), some (.int (nI n))], M2) _
        refine sW_retI d_Mo_rowFound_40 rfl (vp_nar_int _) ?_
        rw [over_le (by omega), nI_toInt (by omega)] at c_32
        exact fin 2 M2 (by decide) (by
          unfold fndN
          rw [cif_f (fun q => le_nlt.mp c_6 (hln.mpr q)), cif_f (fun q => by
            have := q.2.2
            rw [nI_toInt (by omega)] at this
            omega)]) g2
  · skip
    refine sW_go b_Mo_rowFound_9 (st' := ([.int (nI 1), .ref 119], [some (.ref 119), some (.int (nI r)), some (.int i), some (.int (nI n))], M)) (φ := True) rfl trivial ?_
    refine sW_callV 10 [.int (nI 1)] [] d_Mo_rowFound_11 c_Mo_rowFound_11 ⟨rfl, rfl, rfl, Nat.le_of_ble_eq_true rfl, rfl, rfl⟩ oc_119 (k_finding G 1) ?_
    rintro _ M2 ⟨rfl, g2⟩
    show sW G m_Mo_rowFound 14 ([.int ((-1000010) - nI 1)], [some (.ref 119), some (.int (nI r)), some (.int i), some (.int (nI n))], M2) _
    refine sW_retI d_Mo_rowFound_14 rfl (vp_nar_int _) ?_
    exact fin 1 M2 (by decide) (by unfold fndN; rw [cif_t (hln.mp (Classical.not_not.mp (fun w => c_6 (le_nlt.mpr w))))]) g2
theorem RowAt.put1 {M : mx_M} {a j w v : Nat} {hs : Hs} (h : RowAt M a 0 hs) (hw : w ≤ 2) (hj : j < 8) : RowAt (mx_wr M a (2 + 3 * j + w) (nI v)) a 0 (hsTell hs j (if w = 0 then v else Sf hs j) (if w = 1 then v else Af hs j) (if w = 2 then v else Bf hs j)) := by
  refine RowAt.of ?_ ?_ (fun k hk => ?_)
  · rw [rd_n (by omega)]; exact h.n
  · rw [rd_n (by omega)]; exact h.c
  · show _ = nI (updN hs.2.2.1 j _ k) ∧ _ = nI (updN hs.2.2.2.1 j _ k) ∧ _ = nI (updN hs.2.2.2.2 j _ k)
    by_cases hx : k = j
    · subst hx
      rw [updN_s, updN_s, updN_s]
      rcases (by omega : w = 0 ∨ w = 1 ∨ w = 2) with rfl | rfl | rfl
      · exact ⟨rd_s, (rd_n (by omega)).trans (h.A hk), (rd_n (by omega)).trans (h.B hk)⟩
      · exact ⟨(rd_n (by omega)).trans (h.S hk), rd_s, (rd_n (by omega)).trans (h.B hk)⟩
      · exact ⟨(rd_n (by omega)).trans (h.S hk), (rd_n (by omega)).trans (h.A hk), rd_s⟩
    · rw [updN_n _ _ hx, updN_n _ _ hx, updN_n _ _ hx]
      exact ⟨(rd_n (by omega)).trans (h.S hk), (rd_n (by omega)).trans (h.A hk), (rd_n (by omega)).trans (h.B hk)⟩
theorem one_tf {P : Prop} : nI 1 = tf P ↔ P := by
  by_cases h : P
  · rw [tf_t h]; exact ⟨fun _ => h, fun _ => rfl⟩
  · rw [tf_f h]; exact ⟨fun q => absurd q (by decide +kernel), fun q => absurd q h⟩
theorem zero_tf {P : Prop} : nI 0 = tf P ↔ ¬ P := by
  by_cases h : P
  · rw [tf_t h]; exact ⟨fun q => absurd q (by decide +kernel), fun q => absurd h q⟩
  · rw [tf_f h]; exact ⟨fun _ => h, fun _ => rfl⟩
def lieQ (X : Hs) (R : Rw) (r i j t : Nat) : Prop := ∀ u, u < t → (R.2.2 r (i + u) ≠ 0 ↔ LiesIn X u j)
theorem rwBit_1 {R : Rw} {r i k : Nat} : rwBit R r i k = 1 ↔ R.2.2 r (i + k) ≠ 0 := by
  unfold rwBit
  by_cases h : R.2.2 r (i + k) = 0
  · rw [cif_t h]; exact ⟨fun q => absurd q (by decide), fun q => absurd h q⟩
  · rw [cif_f h]; exact ⟨fun _ => h, fun _ => rfl⟩
theorem lieQ_e {hs X : Hs} {R : Rw} {r i j n : Nat} (hn : n ≤ hs.1) (h8 : hs.1 ≤ 8) : lieQ X R r i j n ↔ (mk8 (fun k => k < hs.1 ∧ LiesIn X k j)) &&& (2 ^ n - 1) = bsum (rwBit R r i) n := by
  have hl : ∀ u, bt ((mk8 (fun k => k < hs.1 ∧ LiesIn X k j)) &&& (2 ^ n - 1)) u = 1 ↔ u < n ∧ LiesIn X u j := fun u => by
    rw [bt_and, mk8_bt, bt_all]
    exact ⟨fun q => ⟨q.2, q.1.2.2⟩, fun q => ⟨⟨by omega, by omega, q.2⟩, q.1⟩⟩
  have hr : ∀ u, bt (bsum (rwBit R r i) n) u = 1 ↔ u < n ∧ R.2.2 r (i + u) ≠ 0 := fun u => by
    rw [bsum_bt (rwBit_le R r i), rwBit_1]
  constructor
  · intro q
    refine bt_ext (fun u => ?_)
    rw [hl, hr]
    exact ⟨fun z => ⟨z.1, (q u z.1).mpr z.2⟩, fun z => ⟨z.1, (q u z.1).mp z.2⟩⟩
  · intro q u hu
    have h1 := hl u
    rw [q, hr u] at h1
    exact ⟨fun z => (h1.mp ⟨hu, z⟩).2, fun z => (h1.mpr ⟨hu, z⟩).2⟩

