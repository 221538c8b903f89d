/-! ===== the model: reading ===== -/
abbrev rS : List Nat := [12, 13, 14, 15, 16, 17]
def RdS (M : mx_M) (B : Nat → Nat) (n p : Nat) : Prop := MRd M B n (nxA B n p) ∧ TkM M B n p ∧ M 119 16 = nI 0 ∧ p ≤ n
def RdF (M : mx_M) (e : Nat × Nat) : Prop := M 119 16 = nI e.1 ∧ M 119 17 = nI e.2 ∧ 1 ≤ e.1 ∧ e.1 ≤ 4
theorem tk_range (B : Nat → Nat) (n p : Nat) : tkA B n p = 1001 ∨ tkA B n p = 1002 ∨ tkA B n p = 1003 ∨ (97 ≤ tkA B n p ∧ tkA B n p ≤ 122) ∨ tkA B n p = 44 ∨ tkA B n p = 59 := by
  unfold tkA
  split
  · split <;> omega
  · split
    · omega
    · split
      · rename_i h; rcases h with h | h | h <;> omega
      · omega
theorem mtk_le (t : Nat) : mtk t ≤ 4 := by
  unfold mtk
  repeat' split
  all_goals omega
theorem mtk_of {t : Nat} : (t = 1001 → mtk t = 3) ∧ (t = 1002 → mtk t = 1) ∧ (t = 1003 → mtk t = 0) ∧ (97 ≤ t → t ≤ 122 → mtk t = 2) ∧ (t = 44 → mtk t = 4) ∧ (t = 59 → mtk t = 4) := by
  refine ⟨fun h => by subst h; rfl, fun h => by subst h; rfl, fun h => by subst h; rfl, fun h1 h2 => ?_, fun h => by subst h; rfl, fun h => by subst h; rfl⟩
  unfold mtk
  rw [if_neg (by omega), if_neg (by omega), if_neg (by omega), if_neg (by omega)]
theorem mtk_inv (B : Nat → Nat) (n p : Nat) : (mtk (tkA B n p) = 3 → tkA B n p = 1001) ∧ (mtk (tkA B n p) = 1 → tkA B n p = 1002) ∧ (mtk (tkA B n p) = 2 → 97 ≤ tkA B n p ∧ tkA B n p ≤ 122) ∧ (mtk (tkA B n p) = 4 → tkA B n p = 44 ∨ tkA B n p = 59) := by
  have h1 := tk_range B n p
  obtain ⟨a1, a2, a3, a4, a5, a6⟩ := mtk_of (t := tkA B n p)
  rcases h1 with h | h | h | h | h | h
  · have := a1 h; omega
  · have := a2 h; omega
  · have := a3 h; omega
  · have := a4 h.1 h.2; omega
  · have := a5 h; omega
  · have := a6 h; omega
theorem RdS.of {M M' : mx_M} {B : Nat → Nat} {n p : Nat} (h : RdS M B n p) (f : MFr M M' [124] [0]) : RdS M' B n p := by
  obtain ⟨⟨h1, h2, h3, h4, h5⟩, ⟨k1, k2, k3, k4⟩, h7, h8⟩ := h
  obtain ⟨f1, f2⟩ := f
  refine ⟨⟨?_, h2, ?_, ?_, h5⟩, ⟨?_, ?_, ?_, ?_⟩, ?_, h8⟩
  · rw [f2 11 (by decide)]; exact h1
  · rw [f1 127 (by decide) (by decide)]; exact h3
  · rw [f2 12 (by decide)]; exact h4
  · rw [f2 13 (by decide)]; exact k1
  · rw [f2 14 (by decide)]; exact k2
  · rw [f2 15 (by decide)]; exact k3
  · rw [f2 15 (by decide)]; exact k4
  · rw [f2 16 (by decide)]; exact h7
theorem RdF.of {M M' : mx_M} {e : Nat × Nat} (h : RdF M e) (f : MFr M M' [124] [0]) : RdF M' e := ⟨(f.2 16 (by decide)).trans h.1, (f.2 17 (by decide)).trans h.2.1, h.2.2⟩
theorem k_bad0 (G : mx_G) {M : mx_M} {B : Nat → Nat} {n p k : Nat} (h : RdS M B n p) (h1 : 1 ≤ k) (h4 : k ≤ 4) : sOk G m_Mo_bad [.ref 119, .int (nI k)] M (fun r M' => r = none ∧ MFr M M' [] rS ∧ RdF M' (k, p)) := by
  have e1 := h.2.2.1
  have e2 := h.2.1.1
  have z : mx_wr M 119 16 (nI k) 119 13 = nI p := by rw [rd_n (by decide)]; exact e2
  refine sOk_of ⟨by decide +kernel, by decide +kernel, Nat.le_of_ble_eq_true rfl⟩ ?_
  show sW G m_Mo_bad 0 ([], [some (.ref 119), some (.int (nI k))], M) _
  refine sW_go b_Mo_bad_0 (st' := ([.int (M 119 16)], [some (.ref 119), some (.int (nI k))], M)) (φ := mx_ocl LAY 119 = 10 ∧ True) rfl ⟨oc_119, trivial⟩ ?_
  refine sW_eq (st' := ([.int (nI 0)], [some (.ref 119), some (.int (nI k))], M)) (by simp (disch := omega) only [e1]) ?_
  refine sW_if_ne 20 d_Mo_bad_4 (by decide) (fun c_4 => ?_) (fun c_4 => ?_)
  · skip
    exact absurd (by decide +kernel) c_4
  · skip
    simp (disch := omega) only [nI_z] at c_4
    refine sW_go b_Mo_bad_7 (st' := ([], [some (.ref 119), some (.int (nI k))], mx_wr (mx_wr M 119 16 (nI k)) 119 17 ((mx_wr M 119 16 (nI k)) 119 13))) (φ := mx_ocl LAY 119 = 10 ∧ mx_ocl LAY 119 = 10 ∧ mx_ocl LAY 119 = 10 ∧ True) rfl ⟨oc_119, oc_119, oc_119, trivial⟩ ?_
    refine sW_eq (st' := ([], [some (.ref 119), some (.int (nI k))], mx_wr (mx_wr M 119 16 (nI k)) 119 17 (nI p))) (by simp (disch := omega) only [z]) ?_
    refine sW_retV d_Mo_bad_20 rfl ?_
    exact ⟨rfl, (MFr.rf.wo (by decide)).wo (by decide), by rw [rd_n (by decide), rd_s], by rw [rd_s], h1, h4⟩
theorem RdF.ne {M : mx_M} {e : Nat × Nat} (h : RdF M e) : ¬ M 119 16 = 0 := by
  have h3 := h.2.2
  rw [h.1, nI_z (by omega)]
  omega
theorem k_badF (G : mx_G) {M : mx_M} {e : Nat × Nat} (h : RdF M e) (v : Int32) : sOk G m_Mo_bad [.ref 119, .int v] M (fun r M' => r = none ∧ M' = M) := by
  have e1 := h.ne
  refine sOk_of ⟨by decide +kernel, by decide +kernel, Nat.le_of_ble_eq_true rfl⟩ ?_
  show sW G m_Mo_bad 0 ([], [some (.ref 119), some (.int v)], M) _
  refine sW_go b_Mo_bad_0 (st' := ([.int (M 119 16)], [some (.ref 119), some (.int v)], M)) (φ := mx_ocl LAY 119 = 10 ∧ True) rfl ⟨oc_119, trivial⟩ ?_
  refine sW_if_ne 20 d_Mo_bad_4 (by decide) (fun c_4 => ?_) (fun c_4 => ?_)
  · skip
    refine sW_retV d_Mo_bad_20 rfl ?_
    exact ⟨rfl, rfl⟩
  · skip
    exact absurd c_4 e1
theorem k_mustF (G : mx_G) {M : mx_M} {e : Nat × Nat} (h : RdF M e) (v : Int32) : sOk G m_Mo_must [.ref 119, .int v] M (fun r M' => r = none ∧ M' = M) := by
  have e1 := h.ne
  refine sOk_of ⟨by decide +kernel, by decide +kernel, Nat.le_of_ble_eq_true rfl⟩ ?_
  show sW G m_Mo_must 0 ([], [some (.ref 119), some (.int v)], M) _
  refine sW_go b_Mo_must_0 (st' := ([.int v], [some (.ref 119), some (.int v)], M)) (φ := True) rfl trivial ?_
  refine sW_if_ne 9 d_Mo_must_1 (by decide) (fun c_1 => ?_) (fun c_1 => ?_)
  · skip
    refine sW_go b_Mo_must_9 (st' := ([.int (M 119 16)], [some (.ref 119), some (.int v)], M)) (φ := mx_ocl LAY 119 = 10 ∧ True) rfl ⟨oc_119, trivial⟩ ?_
    refine sW_if_ne 20 d_Mo_must_13 (by decide) (fun c_13 => ?_) (fun c_13 => ?_)
    · skip
      refine sW_retV d_Mo_must_20 rfl ?_
      exact ⟨rfl, rfl⟩
    · skip
      exact absurd c_13 e1
  · skip
    refine sW_go b_Mo_must_4 (st' := ([.int (nI 1), .ref 119], [some (.ref 119), some (.int v)], M)) (φ := True) rfl trivial ?_
    refine sW_callV 10 [.int (nI 1)] [] d_Mo_must_6 c_Mo_must_6 ⟨rfl, rfl, rfl, Nat.le_of_ble_eq_true rfl, rfl, rfl⟩ oc_119 (k_badF G h (nI 1)) ?_
    rintro _ M₁ ⟨rfl, h₁⟩
    rw [h₁]
    show sW G m_Mo_must 9 ([], [some (.ref 119), some (.int v)], M) _
    refine sW_go b_Mo_must_9 (st' := ([.int (M 119 16)], [some (.ref 119), some (.int v)], M)) (φ := mx_ocl LAY 119 = 10 ∧ True) rfl ⟨oc_119, trivial⟩ ?_
    refine sW_if_ne 20 d_Mo_must_13 (by decide) (fun c_13 => ?_) (fun c_13 => ?_)
    · skip
      refine sW_retV d_Mo_must_20 rfl ?_
      exact ⟨rfl, rfl⟩
    · skip
      exact absurd c_13 e1
theorem nxA_le2 {B : Nat → Nat} {n p : Nat} (hp : p ≤ n) : nxA B n p ≤ n := nxA_le hp
theorem k_mustT (G : mx_G) {M : mx_M} {B : Nat → Nat} {n p : Nat} (h : RdS M B n p) : sOk G m_Mo_must [.ref 119, .int (nI 1)] M (fun r M' => r = none ∧ MFr M M' [] rS ∧ RdS M' B n (nxA B n p)) := by
  have e1 := h.2.2.1
  have hp := h.2.2.2
  refine sOk_of ⟨by decide +kernel, by decide +kernel, Nat.le_of_ble_eq_true rfl⟩ ?_
  show sW G m_Mo_must 0 ([], [some (.ref 119), some (.int (nI 1))], M) _
  refine sW_go b_Mo_must_0 (st' := ([.int (nI 1)], [some (.ref 119), some (.int (nI 1))], M)) (φ := True) rfl trivial ?_
  refine sW_if_ne 9 d_Mo_must_1 (by decide) (fun c_1 => ?_) (fun c_1 => ?_)
  · skip
    simp (disch := omega) only [nI_z] at c_1
    refine sW_go b_Mo_must_9 (st' := ([.int (M 119 16)], [some (.ref 119), some (.int (nI 1))], M)) (φ := mx_ocl LAY 119 = 10 ∧ True) rfl ⟨oc_119, trivial⟩ ?_
    refine sW_eq (st' := ([.int (nI 0)], [some (.ref 119), some (.int (nI 1))], M)) (by simp (disch := omega) only [e1]) ?_
    refine sW_if_ne 20 d_Mo_must_13 (by decide) (fun c_13 => ?_) (fun c_13 => ?_)
    · skip
      exact absurd (by decide +kernel) c_13
    · skip
      simp (disch := omega) only [nI_z] at c_13
      refine sW_go b_Mo_must_16 (st' := ([.ref 119], [some (.ref 119), some (.int (nI 1))], M)) (φ := True) rfl trivial ?_
      refine sW_callV 10 [] [] d_Mo_must_17 c_Mo_must_17 ⟨rfl, rfl, rfl, Nat.le_of_ble_eq_true rfl, rfl, rfl⟩ oc_119 (k_nextToken G h.1) ?_
      rintro _ M2 ⟨rfl, f2, r2, t2⟩
      show sW G m_Mo_must 20 ([], [some (.ref 119), some (.int (nI 1))], M2) _
      refine sW_retV d_Mo_must_20 rfl ?_
      exact ⟨rfl, f2.mono (by decide) (by decide), r2, t2, (f2.2 16 (by decide)).trans e1, nxA_le hp⟩
  · skip
    exact absurd c_1 (by decide +kernel)
theorem k_mustN (G : mx_G) {M : mx_M} {B : Nat → Nat} {n p : Nat} (h : RdS M B n p) : sOk G m_Mo_must [.ref 119, .int (nI 0)] M (fun r M' => r = none ∧ MFr M M' [] rS ∧ RdF M' (1, p)) := by
  refine sOk_of ⟨by decide +kernel, by decide +kernel, Nat.le_of_ble_eq_true rfl⟩ ?_
  show sW G m_Mo_must 0 ([], [some (.ref 119), some (.int (nI 0))], M) _
  refine sW_go b_Mo_must_0 (st' := ([.int (nI 0)], [some (.ref 119), some (.int (nI 0))], M)) (φ := True) rfl trivial ?_
  refine sW_if_ne 9 d_Mo_must_1 (by decide) (fun c_1 => ?_) (fun c_1 => ?_)
  · skip
    exact absurd (by decide +kernel) c_1
  · skip
    simp (disch := omega) only [nI_z] at c_1
    refine sW_go b_Mo_must_4 (st' := ([.int (nI 1), .ref 119], [some (.ref 119), some (.int (nI 0))], M)) (φ := True) rfl trivial ?_
    refine sW_callV 10 [.int (nI 1)] [] d_Mo_must_6 c_Mo_must_6 ⟨rfl, rfl, rfl, Nat.le_of_ble_eq_true rfl, rfl, rfl⟩ oc_119 (k_bad0 G h (by decide) (by decide)) ?_
    rintro _ M2 ⟨rfl, f2, t2⟩
    have ne2 := t2.ne
    show sW G m_Mo_must 9 ([], [some (.ref 119), some (.int (nI 0))], M2) _
    refine sW_go b_Mo_must_9 (st' := ([.int (M2 119 16)], [some (.ref 119), some (.int (nI 0))], M2)) (φ := mx_ocl LAY 119 = 10 ∧ True) rfl ⟨oc_119, trivial⟩ ?_
    refine sW_if_ne 20 d_Mo_must_13 (by decide) (fun c_13 => ?_) (fun c_13 => ?_)
    · skip
      refine sW_retV d_Mo_must_20 rfl ?_
      exact ⟨rfl, f2, t2⟩
    · skip
      exact absurd c_13 ne2
theorem k_mustSignF (G : mx_G) {M : mx_M} {e : Nat × Nat} (h : RdF M e) (v : Int32) : sOk G m_Mo_mustSign [.ref 119, .int v] M (fun r M' => r = none ∧ M' = M) := by
  refine sOk_of ⟨by decide +kernel, by decide +kernel, Nat.le_of_ble_eq_true rfl⟩ ?_
  show sW G m_Mo_mustSign 0 ([], [some (.ref 119), some (.int v)], M) _
  refine sW_go b_Mo_mustSign_0 (st' := ([.int (nI 4), .int (M 119 14), .ref 119], [some (.ref 119), some (.int v)], M)) (φ := mx_ocl LAY 119 = 10 ∧ True) rfl ⟨oc_119, trivial⟩ ?_
  refine sW_ic_ne 21 d_Mo_mustSign_6 (by decide) (fun c_6 => ?_) (fun c_6 => ?_)
  · skip
    refine sW_go b_Mo_mustSign_21 (st' := ([.int (nI 0), .ref 119], [some (.ref 119), some (.int v)], M)) (φ := True) rfl trivial ?_
    refine sW_callV 10 [.int (nI 0)] [] d_Mo_mustSign_22 c_Mo_mustSign_22 ⟨rfl, rfl, rfl, Nat.le_of_ble_eq_true rfl, rfl, rfl⟩ oc_119 (k_mustF G h (nI 0)) ?_
    rintro _ M₁ ⟨rfl, h₁⟩
    rw [h₁]
    show sW G m_Mo_mustSign 25 ([], [some (.ref 119), some (.int v)], M) _
    refine sW_retV d_Mo_mustSign_25 rfl ?_
    exact ⟨rfl, rfl⟩
  · skip
    refine sW_go b_Mo_mustSign_9 (st' := ([.int v, .int (M 119 15), .ref 119], [some (.ref 119), some (.int v)], M)) (φ := mx_ocl LAY 119 = 10 ∧ True) rfl ⟨oc_119, trivial⟩ ?_
    refine sW_ic_ne 21 d_Mo_mustSign_14 (by decide) (fun c_14 => ?_) (fun c_14 => ?_)
    · skip
      refine sW_go b_Mo_mustSign_21 (st' := ([.int (nI 0), .ref 119], [some (.ref 119), some (.int v)], M)) (φ := True) rfl trivial ?_
      refine sW_callV 10 [.int (nI 0)] [] d_Mo_mustSign_22 c_Mo_mustSign_22 ⟨rfl, rfl, rfl, Nat.le_of_ble_eq_true rfl, rfl, rfl⟩ oc_119 (k_mustF G h (nI 0)) ?_
      rintro _ M₁ ⟨rfl, h₁⟩
      rw [h₁]
      show sW G m_Mo_mustSign 25 ([], [some (.ref 119), some (.int v)], M) _
      refine sW_retV d_Mo_mustSign_25 rfl ?_
      exact ⟨rfl, rfl⟩
    · skip
      refine sW_go b_Mo_mustSign_17 (st' := ([.int (nI 1), .ref 119], [some (.ref 119), some (.int v)], M)) (φ := True) rfl trivial ?_
      refine sW_goto 22 d_Mo_mustSign_18 (by decide) ?_
      refine sW_callV 10 [.int (nI 1)] [] d_Mo_mustSign_22 c_Mo_mustSign_22 ⟨rfl, rfl, rfl, Nat.le_of_ble_eq_true rfl, rfl, rfl⟩ oc_119 (k_mustF G h (nI 1)) ?_
      rintro _ M₁ ⟨rfl, h₁⟩
      rw [h₁]
      show sW G m_Mo_mustSign 25 ([], [some (.ref 119), some (.int v)], M) _
      refine sW_retV d_Mo_mustSign_25 rfl ?_
      exact ⟨rfl, rfl⟩
theorem k_mustSignT (G : mx_G) {M : mx_M} {B : Nat → Nat} {n p c : Nat} (h : RdS M B n p) (hc : c = 44 ∨ c = 59) (ht : tkA B n p = c) : sOk G m_Mo_mustSign [.ref 119, .int (nI c)] M (fun r M' => r = none ∧ MFr M M' [] rS ∧ RdS M' B n (nxA B n p)) := by
  have k14 := h.2.1.2.1
  have k15 := h.2.1.2.2.2 (by omega)
  obtain ⟨a1, a2, a3, a4, a5, a6⟩ := mtk_of (t := tkA B n p)
  have hm : mtk (tkA B n p) = 4 := by rcases hc with rfl | rfl; exact a5 ht; exact a6 ht
  rw [hm] at k14
  rw [ht] at k15
  refine sOk_of ⟨by decide +kernel, by decide +kernel, Nat.le_of_ble_eq_true rfl⟩ ?_
  show sW G m_Mo_mustSign 0 ([], [some (.ref 119), some (.int (nI c))], M) _
  refine sW_go b_Mo_mustSign_0 (st' := ([.int (nI 4), .int (M 119 14), .ref 119], [some (.ref 119), some (.int (nI c))], M)) (φ := mx_ocl LAY 119 = 10 ∧ True) rfl ⟨oc_119, trivial⟩ ?_
  refine sW_eq (st' := ([.int (nI 4), .int (nI 4), .ref 119], [some (.ref 119), some (.int (nI c))], M)) (by simp (disch := omega) only [k14]) ?_
  refine sW_ic_ne 21 d_Mo_mustSign_6 (by decide) (fun c_6 => ?_) (fun c_6 => ?_)
  · skip
    exact absurd (by decide +kernel) c_6
  · skip
    simp (disch := omega) only [nI_eq] at c_6
    refine sW_go b_Mo_mustSign_9 (st' := ([.int (nI c), .int (M 119 15), .ref 119], [some (.ref 119), some (.int (nI c))], M)) (φ := mx_ocl LAY 119 = 10 ∧ True) rfl ⟨oc_119, trivial⟩ ?_
    refine sW_eq (st' := ([.int (nI c), .int (nI c), .ref 119], [some (.ref 119), some (.int (nI c))], M)) (by simp (disch := omega) only [k15]) ?_
    refine sW_ic_ne 21 d_Mo_mustSign_14 (by decide) (fun c_14 => ?_) (fun c_14 => ?_)
    · skip
      simp (disch := omega) only [nI_eq] at c_14
      exact absurd trivial c_14
    · skip
      simp (disch := omega) only [nI_eq] at c_14
      refine sW_go b_Mo_mustSign_17 (st' := ([.int (nI 1), .ref 119], [some (.ref 119), some (.int (nI c))], M)) (φ := True) rfl trivial ?_
      refine sW_goto 22 d_Mo_mustSign_18 (by decide) ?_
      refine sW_callV 10 [.int (nI 1)] [] d_Mo_mustSign_22 c_Mo_mustSign_22 ⟨rfl, rfl, rfl, Nat.le_of_ble_eq_true rfl, rfl, rfl⟩ oc_119 (k_mustT G h) ?_
      rintro _ M2 ⟨rfl, f2, t2⟩
      show sW G m_Mo_mustSign 25 ([], [some (.ref 119), some (.int (nI c))], M2) _
      refine sW_retV d_Mo_mustSign_25 rfl ?_
      exact ⟨rfl, f2, t2⟩
theorem k_mustSignN (G : mx_G) {M : mx_M} {B : Nat → Nat} {n p c : Nat} (h : RdS M B n p) (hc : c = 44 ∨ c = 59) (ht : ¬ tkA B n p = c) : sOk G m_Mo_mustSign [.ref 119, .int (nI c)] M (fun r M' => r = none ∧ MFr M M' [] rS ∧ RdF M' (1, p)) := by
  have k14 := h.2.1.2.1
  have hm4 := mtk_le (tkA B n p)
  have hiv := (mtk_inv B n p).2.2.2
  refine sOk_of ⟨by decide +kernel, by decide +kernel, Nat.le_of_ble_eq_true rfl⟩ ?_
  show sW G m_Mo_mustSign 0 ([], [some (.ref 119), some (.int (nI c))], M) _
  refine sW_go b_Mo_mustSign_0 (st' := ([.int (nI 4), .int (M 119 14), .ref 119], [some (.ref 119), some (.int (nI c))], M)) (φ := mx_ocl LAY 119 = 10 ∧ True) rfl ⟨oc_119, trivial⟩ ?_
  refine sW_eq (st' := ([.int (nI 4), .int (nI (mtk (tkA B n p))), .ref 119], [some (.ref 119), some (.int (nI c))], M)) (by simp (disch := omega) only [k14]) ?_
  refine sW_ic_ne 21 d_Mo_mustSign_6 (by decide) (fun c_6 => ?_) (fun c_6 => ?_)
  · skip
    simp (disch := omega) only [nI_eq] at c_6
    refine sW_go b_Mo_mustSign_21 (st' := ([.int (nI 0), .ref 119], [some (.ref 119), some (.int (nI c))], M)) (φ := True) rfl trivial ?_
    refine sW_callV 10 [.int (nI 0)] [] d_Mo_mustSign_22 c_Mo_mustSign_22 ⟨rfl, rfl, rfl, Nat.le_of_ble_eq_true rfl, rfl, rfl⟩ oc_119 (k_mustN G h) ?_
    rintro _ M2 ⟨rfl, f2, t2⟩
    show sW G m_Mo_mustSign 25 ([], [some (.ref 119), some (.int (nI c))], M2) _
    refine sW_retV d_Mo_mustSign_25 rfl ?_
    exact ⟨rfl, f2, t2⟩
  · skip
    simp (disch := omega) only [nI_eq] at c_6
    refine sW_go b_Mo_mustSign_9 (st' := ([.int (nI c), .int (M 119 15), .ref 119], [some (.ref 119), some (.int (nI c))], M)) (φ := mx_ocl LAY 119 = 10 ∧ True) rfl ⟨oc_119, trivial⟩ ?_
    refine sW_ic_ne 21 d_Mo_mustSign_14 (by decide) (fun c_14 => ?_) (fun c_14 => ?_)
    · skip
      refine sW_go b_Mo_mustSign_21 (st' := ([.int (nI 0), .ref 119], [some (.ref 119), some (.int (nI c))], M)) (φ := True) rfl trivial ?_
      refine sW_callV 10 [.int (nI 0)] [] d_Mo_mustSign_22 c_Mo_mustSign_22 ⟨rfl, rfl, rfl, Nat.le_of_ble_eq_true rfl, rfl, rfl⟩ oc_119 (k_mustN G h) ?_
      rintro _ M2 ⟨rfl, f2, t2⟩
      show sW G m_Mo_mustSign 25 ([], [some (.ref 119), some (.int (nI c))], M2) _
      refine sW_retV d_Mo_mustSign_25 rfl ?_
      exact ⟨rfl, f2, t2⟩
    · skip
      have ht4 := hiv c_6
      have k15 := h.2.1.2.2.2 (by omega)
      rw [k15, nI_eq (by omega) (by omega)] at c_14
      exact absurd c_14 ht
theorem k_numF (G : mx_G) {M : mx_M} {e : Nat × Nat} (h : RdF M e) (lo hi : Int32) : sOk G m_Mo_number [.ref 119, .int lo, .int hi] M (fun r M' => r = some (.int lo) ∧ M' = M) := by
  have e1 := h.ne
  refine sOk_of ⟨by decide +kernel, by decide +kernel, Nat.le_of_ble_eq_true rfl⟩ ?_
  show sW G m_Mo_number 0 ([], [some (.ref 119), some (.int lo), some (.int hi), none], M) _
  refine sW_go b_Mo_number_0 (st' := ([.int (M 119 16)], [some (.ref 119), some (.int lo), some (.int hi), none], M)) (φ := mx_ocl LAY 119 = 10 ∧ True) rfl ⟨oc_119, trivial⟩ ?_
  refine sW_if_ne 20 d_Mo_number_4 (by decide) (fun c_4 => ?_) (fun c_4 => ?_)
  · skip
    refine sW_go b_Mo_number_20 (st' := ([.int (M 119 16)], [some (.ref 119), some (.int lo), some (.int hi), none], M)) (φ := mx_ocl LAY 119 = 10 ∧ True) rfl ⟨oc_119, trivial⟩ ?_
    refine sW_if_ne 47 d_Mo_number_24 (by decide) (fun c_24 => ?_) (fun c_24 => ?_)
    · skip
      refine sW_go b_Mo_number_47 (st' := ([.int (M 119 16)], [some (.ref 119), some (.int lo), some (.int hi), none], M)) (φ := mx_ocl LAY 119 = 10 ∧ True) rfl ⟨oc_119, trivial⟩ ?_
      refine sW_if_ne 61 d_Mo_number_51 (by decide) (fun c_51 => ?_) (fun c_51 => ?_)
      · skip
        refine sW_go b_Mo_number_61 (st' := ([.int lo], [some (.ref 119), some (.int lo), some (.int hi), none], M)) (φ := True) rfl trivial ?_
        refine sW_go b_Mo_number_62 (st' := ([.int (nI 1), .ref 119], [some (.ref 119), some (.int lo), some (.int hi), some (.int lo)], M)) (φ := True) rfl trivial ?_
        refine sW_callV 10 [.int (nI 1)] [] d_Mo_number_65 c_Mo_number_65 ⟨rfl, rfl, rfl, Nat.le_of_ble_eq_true rfl, rfl, rfl⟩ oc_119 (k_mustF G h (nI 1)) ?_
        rintro _ M₁ ⟨rfl, h₁⟩
        rw [h₁]
        show sW G m_Mo_number 68 ([], [some (.ref 119), some (.int lo), some (.int hi), some (.int lo)], M) _
        refine sW_go b_Mo_number_68 (st' := ([.int lo], [some (.ref 119), some (.int lo), some (.int hi), some (.int lo)], M)) (φ := True) rfl trivial ?_
        refine sW_retI d_Mo_number_69 rfl (vp_nar_int _) ?_
        exact ⟨rfl, rfl⟩
      · skip
        exact absurd c_51 e1
    · skip
      exact absurd c_24 e1
  · skip
    exact absurd c_4 e1
theorem k_num0 (G : mx_G) {M : mx_M} {B : Nat → Nat} {n p lo : Nat} {hi : Int32} {z : Int} (h : RdS M B n p) (hlo : lo < 1000) (hz : hi.toInt = z) (hf : numF B n p lo z = 0) : sOk G m_Mo_number [.ref 119, .int (nI lo), .int hi] M (fun r M' => r = some (.int (nI (nmA B n p))) ∧ MFr M M' [] rS ∧ RdS M' B n (nxA B n p)) := by
  have e1 := h.2.2.1
  have k14 := h.2.1.2.1
  have hnm := nmA_lt (B := B) h.2.2.2
  unfold numF at hf
  by_cases ht : tkA B n p = 1001
  · rw [if_pos ht] at hf
    have k15 := h.2.1.2.2.1 ht
    rw [ht] at k14
    have k14 : M 119 14 = nI 3 := k14
    have hr : lo ≤ nmA B n p ∧ (nmA B n p : Int) ≤ z := by
      by_cases q : lo ≤ nmA B n p ∧ (nmA B n p : Int) ≤ z
      · exact q
      · rw [if_neg q] at hf; exact absurd hf (by decide)
    have hP : ((nI lo).toInt64.toInt ≤ (nI (nmA B n p)).toInt64.toInt ∧ (nI (nmA B n p)).toInt64.toInt ≤ hi.toInt64.toInt) ↔ (lo ≤ nmA B n p ∧ (nmA B n p : Int) ≤ z) := by
      rw [i2l_ti, i2l_ti, i2l_ti, nI_toInt (by omega), nI_toInt (by omega), hz]
      all_goals omega
    refine sOk_of ⟨by decide +kernel, by decide +kernel, Nat.le_of_ble_eq_true rfl⟩ ?_
    show sW G m_Mo_number 0 ([], [some (.ref 119), some (.int (nI lo)), some (.int hi), none], M) _
    refine sW_go b_Mo_number_0 (st' := ([.int (M 119 16)], [some (.ref 119), some (.int (nI lo)), some (.int hi), none], M)) (φ := mx_ocl LAY 119 = 10 ∧ True) rfl ⟨oc_119, trivial⟩ ?_
    refine sW_eq (st' := ([.int (nI 0)], [some (.ref 119), some (.int (nI lo)), some (.int hi), none], M)) (by simp (disch := omega) only [e1]) ?_
    refine sW_if_ne 20 d_Mo_number_4 (by decide) (fun c_4 => ?_) (fun c_4 => ?_)
    · skip
      exact absurd (by decide +kernel) c_4
    · skip
      simp (disch := omega) only [nI_z] at c_4
      refine sW_go b_Mo_number_7 (st' := ([.int (nI 3), .int (M 119 14)], [some (.ref 119), some (.int (nI lo)), some (.int hi), none], M)) (φ := mx_ocl LAY 119 = 10 ∧ True) rfl ⟨oc_119, trivial⟩ ?_
      refine sW_eq (st' := ([.int (nI 3), .int (nI 3)], [some (.ref 119), some (.int (nI lo)), some (.int hi), none], M)) (by simp (disch := omega) only [k14]) ?_
      refine sW_ic_eq 20 d_Mo_number_12 (by decide) (fun c_12 => ?_) (fun c_12 => ?_)
      · skip
        simp (disch := omega) only [nI_eq] at c_12
        refine sW_go b_Mo_number_20 (st' := ([.int (M 119 16)], [some (.ref 119), some (.int (nI lo)), some (.int hi), none], M)) (φ := mx_ocl LAY 119 = 10 ∧ True) rfl ⟨oc_119, trivial⟩ ?_
        refine sW_eq (st' := ([.int (nI 0)], [some (.ref 119), some (.int (nI lo)), some (.int hi), none], M)) (by simp (disch := omega) only [e1]) ?_
        refine sW_if_ne 47 d_Mo_number_24 (by decide) (fun c_24 => ?_) (fun c_24 => ?_)
        · skip
          exact absurd (by decide +kernel) c_24
        · skip
          simp (disch := omega) only [nI_z] at c_24
          refine sW_go b_Mo_number_27 (st' := ([.long hi.toInt64, .long (nI lo).toInt64, .long (M 119 15).toInt64], [some (.ref 119), some (.int (nI lo)), some (.int hi), none], M)) (φ := mx_ocl LAY 119 = 10 ∧ True) rfl ⟨oc_119, trivial⟩ ?_
          refine sW_eq (st' := ([.long hi.toInt64, .long (nI lo).toInt64, .long (nI (nmA B n p)).toInt64], [some (.ref 119), some (.int (nI lo)), some (.int hi), none], M)) (by simp (disch := omega) only [k15]) ?_
          refine sW_callS [.long (nI (nmA B n p)).toInt64, .long (nI lo).toInt64, .long hi.toInt64] [] d_Mo_number_36 c_Mo_number_36 ⟨rfl, rfl, Nat.le_of_ble_eq_true rfl, rfl, rfl⟩ (k_inP G hP) ?_
          rintro _ M₁ ⟨rfl, h₁⟩
          rw [h₁]
          show sW G m_Mo_number 39 ([.int (tf (lo ≤ nmA B n p ∧ (nmA B n p : Int) ≤ z))], [some (.ref 119), some (.int (nI lo)), some (.int hi), none], M) _
          refine sW_if_ne 47 d_Mo_number_39 (by decide) (fun c_39 => ?_) (fun c_39 => ?_)
          · skip
            replace c_39 := tf_nz.mp c_39
            refine sW_go b_Mo_number_47 (st' := ([.int (M 119 16)], [some (.ref 119), some (.int (nI lo)), some (.int hi), none], M)) (φ := mx_ocl LAY 119 = 10 ∧ True) rfl ⟨oc_119, trivial⟩ ?_
            refine sW_eq (st' := ([.int (nI 0)], [some (.ref 119), some (.int (nI lo)), some (.int hi), none], M)) (by simp (disch := omega) only [e1]) ?_
            refine sW_if_ne 61 d_Mo_number_51 (by decide) (fun c_51 => ?_) (fun c_51 => ?_)
            · skip
              exact absurd (by decide +kernel) c_51
            · skip
              simp (disch := omega) only [nI_z] at c_51
              refine sW_go b_Mo_number_54 (st' := ([.int (M 119 15)], [some (.ref 119), some (.int (nI lo)), some (.int hi), none], M)) (φ := mx_ocl LAY 119 = 10 ∧ True) rfl ⟨oc_119, trivial⟩ ?_
              refine sW_eq (st' := ([.int (nI (nmA B n p))], [some (.ref 119), some (.int (nI lo)), some (.int hi), none], M)) (by simp (disch := omega) only [k15]) ?_
              refine sW_goto 62 d_Mo_number_58 (by decide) ?_
              refine sW_go b_Mo_number_62 (st' := ([.int (nI 1), .ref 119], [some (.ref 119), some (.int (nI lo)), some (.int hi), some (.int (nI (nmA B n p)))], M)) (φ := True) rfl trivial ?_
              refine sW_callV 10 [.int (nI 1)] [] d_Mo_number_65 c_Mo_number_65 ⟨rfl, rfl, rfl, Nat.le_of_ble_eq_true rfl, rfl, rfl⟩ oc_119 (k_mustT G h) ?_
              rintro _ M2 ⟨rfl, f2, t2⟩
              show sW G m_Mo_number 68 ([], [some (.ref 119), some (.int (nI lo)), some (.int hi), some (.int (nI (nmA B n p)))], M2) _
              refine sW_go b_Mo_number_68 (st' := ([.int (nI (nmA B n p))], [some (.ref 119), some (.int (nI lo)), some (.int hi), some (.int (nI (nmA B n p)))], M2)) (φ := True) rfl trivial ?_
              refine sW_retI d_Mo_number_69 rfl (vp_nar_int _) ?_
              exact ⟨rfl, f2, t2⟩
          · skip
            replace c_39 := tf_z.mp c_39
            exact absurd hr c_39
      · skip
        exact absurd (by decide +kernel) c_12
  · rw [if_neg ht] at hf
    exact absurd hf (by decide)
theorem k_num1 (G : mx_G) {M : mx_M} {B : Nat → Nat} {n p lo : Nat} {hi : Int32} {z : Int} (h : RdS M B n p) (hlo : lo < 1000) (hz : hi.toInt = z) (hf : numF B n p lo z ≠ 0) : sOk G m_Mo_number [.ref 119, .int (nI lo), .int hi] M (fun r M' => r = some (.int (nI lo)) ∧ MFr M M' [] rS ∧ RdF M' (numF B n p lo z, p)) := by
  have e1 := h.2.2.1
  have k14 := h.2.1.2.1
  have hm4 := mtk_le (tkA B n p)
  have hnm := nmA_lt (B := B) h.2.2.2
  by_cases ht : tkA B n p = 1001
  · have ef : numF B n p lo z = 2 := by
      unfold numF at hf ⊢
      rw [if_pos ht] at hf ⊢
      by_cases q : lo ≤ nmA B n p ∧ (nmA B n p : Int) ≤ z
      · rw [if_pos q] at hf; exact absurd rfl hf
      · rw [if_neg q]
    have hr : ¬ (lo ≤ nmA B n p ∧ (nmA B n p : Int) ≤ z) := fun q => hf (by unfold numF; rw [if_pos ht, if_pos q])
    rw [ef]
    have k15 := h.2.1.2.2.1 ht
    rw [ht] at k14
    have k14 : M 119 14 = nI 3 := k14
    have hP : ((nI lo).toInt64.toInt ≤ (nI (nmA B n p)).toInt64.toInt ∧ (nI (nmA B n p)).toInt64.toInt ≤ hi.toInt64.toInt) ↔ (lo ≤ nmA B n p ∧ (nmA B n p : Int) ≤ z) := by
      rw [i2l_ti, i2l_ti, i2l_ti, nI_toInt (by omega), nI_toInt (by omega), hz]
      all_goals omega
    refine sOk_of ⟨by decide +kernel, by decide +kernel, Nat.le_of_ble_eq_true rfl⟩ ?_
    show sW G m_Mo_number 0 ([], [some (.ref 119), some (.int (nI lo)), some (.int hi), none], M) _
    refine sW_go b_Mo_number_0 (st' := ([.int (M 119 16)], [some (.ref 119), some (.int (nI lo)), some (.int hi), none], M)) (φ := mx_ocl LAY 119 = 10 ∧ True) rfl ⟨oc_119, trivial⟩ ?_
    refine sW_eq (st' := ([.int (nI 0)], [some (.ref 119), some (.int (nI lo)), some (.int hi), none], M)) (by simp (disch := omega) only [e1]) ?_
    refine sW_if_ne 20 d_Mo_number_4 (by decide) (fun c_4 => ?_) (fun c_4 => ?_)
    · skip
      exact absurd (by decide +kernel) c_4
    · skip
      simp (disch := omega) only [nI_z] at c_4
      refine sW_go b_Mo_number_7 (st' := ([.int (nI 3), .int (M 119 14)], [some (.ref 119), some (.int (nI lo)), some (.int hi), none], M)) (φ := mx_ocl LAY 119 = 10 ∧ True) rfl ⟨oc_119, trivial⟩ ?_
      refine sW_eq (st' := ([.int (nI 3), .int (nI 3)], [some (.ref 119), some (.int (nI lo)), some (.int hi), none], M)) (by simp (disch := omega) only [k14]) ?_
      refine sW_ic_eq 20 d_Mo_number_12 (by decide) (fun c_12 => ?_) (fun c_12 => ?_)
      · skip
        simp (disch := omega) only [nI_eq] at c_12
        refine sW_go b_Mo_number_20 (st' := ([.int (M 119 16)], [some (.ref 119), some (.int (nI lo)), some (.int hi), none], M)) (φ := mx_ocl LAY 119 = 10 ∧ True) rfl ⟨oc_119, trivial⟩ ?_
        refine sW_eq (st' := ([.int (nI 0)], [some (.ref 119), some (.int (nI lo)), some (.int hi), none], M)) (by simp (disch := omega) only [e1]) ?_
        refine sW_if_ne 47 d_Mo_number_24 (by decide) (fun c_24 => ?_) (fun c_24 => ?_)
        · skip
          exact absurd (by decide +kernel) c_24
        · skip
          simp (disch := omega) only [nI_z] at c_24
          refine sW_go b_Mo_number_27 (st' := ([.long hi.toInt64, .long (nI lo).toInt64, .long (M 119 15).toInt64], [some (.ref 119), some (.int (nI lo)), some (.int hi), none], M)) (φ := mx_ocl LAY 119 = 10 ∧ True) rfl ⟨oc_119, trivial⟩ ?_
          refine sW_eq (st' := ([.long hi.toInt64, .long (nI lo).toInt64, .long (nI (nmA B n p)).toInt64], [some (.ref 119), some (.int (nI lo)), some (.int hi), none], M)) (by simp (disch := omega) only [k15]) ?_
          refine sW_callS [.long (nI (nmA B n p)).toInt64, .long (nI lo).toInt64, .long hi.toInt64] [] d_Mo_number_36 c_Mo_number_36 ⟨rfl, rfl, Nat.le_of_ble_eq_true rfl, rfl, rfl⟩ (k_inP G hP) ?_
          rintro _ M₁ ⟨rfl, h₁⟩
          rw [h₁]
          show sW G m_Mo_number 39 ([.int (tf (lo ≤ nmA B n p ∧ (nmA B n p : Int) ≤ z))], [some (.ref 119), some (.int (nI lo)), some (.int hi), none], M) _
          refine sW_if_ne 47 d_Mo_number_39 (by decide) (fun c_39 => ?_) (fun c_39 => ?_)
          · skip
            replace c_39 := tf_nz.mp c_39
            exact absurd c_39 hr
          · skip
            replace c_39 := tf_z.mp c_39
            refine sW_go b_Mo_number_42 (st' := ([.int (nI 2), .ref 119], [some (.ref 119), some (.int (nI lo)), some (.int hi), none], M)) (φ := True) rfl trivial ?_
            refine sW_callV 10 [.int (nI 2)] [] d_Mo_number_44 c_Mo_number_44 ⟨rfl, rfl, rfl, Nat.le_of_ble_eq_true rfl, rfl, rfl⟩ oc_119 (k_bad0 G h (by decide) (by decide)) ?_
            rintro _ M2 ⟨rfl, f2, t2⟩
            have ne2 := t2.ne
            show sW G m_Mo_number 47 ([], [some (.ref 119), some (.int (nI lo)), some (.int hi), none], M2) _
            refine sW_go b_Mo_number_47 (st' := ([.int (M2 119 16)], [some (.ref 119), some (.int (nI lo)), some (.int hi), none], M2)) (φ := mx_ocl LAY 119 = 10 ∧ True) rfl ⟨oc_119, trivial⟩ ?_
            refine sW_if_ne 61 d_Mo_number_51 (by decide) (fun c_51 => ?_) (fun c_51 => ?_)
            · skip
              refine sW_go b_Mo_number_61 (st' := ([.int (nI lo)], [some (.ref 119), some (.int (nI lo)), some (.int hi), none], M2)) (φ := True) rfl trivial ?_
              refine sW_go b_Mo_number_62 (st' := ([.int (nI 1), .ref 119], [some (.ref 119), some (.int (nI lo)), some (.int hi), some (.int (nI lo))], M2)) (φ := True) rfl trivial ?_
              refine sW_callV 10 [.int (nI 1)] [] d_Mo_number_65 c_Mo_number_65 ⟨rfl, rfl, rfl, Nat.le_of_ble_eq_true rfl, rfl, rfl⟩ oc_119 (k_mustF G t2 (nI 1)) ?_
              rintro _ M₁ ⟨rfl, h₁⟩
              rw [h₁]
              show sW G m_Mo_number 68 ([], [some (.ref 119), some (.int (nI lo)), some (.int hi), some (.int (nI lo))], M2) _
              refine sW_go b_Mo_number_68 (st' := ([.int (nI lo)], [some (.ref 119), some (.int (nI lo)), some (.int hi), some (.int (nI lo))], M2)) (φ := True) rfl trivial ?_
              refine sW_retI d_Mo_number_69 rfl (vp_nar_int _) ?_
              exact ⟨rfl, f2, t2⟩
            · skip
              exact absurd c_51 ne2
      · skip
        exact absurd (by decide +kernel) c_12
  · have ef : numF B n p lo z = 1 := by unfold numF; rw [if_neg ht]
    rw [ef]
    have hiv := (mtk_inv B n p).1
    refine sOk_of ⟨by decide +kernel, by decide +kernel, Nat.le_of_ble_eq_true rfl⟩ ?_
    show sW G m_Mo_number 0 ([], [some (.ref 119), some (.int (nI lo)), some (.int hi), none], M) _
    refine sW_go b_Mo_number_0 (st' := ([.int (M 119 16)], [some (.ref 119), some (.int (nI lo)), some (.int hi), none], M)) (φ := mx_ocl LAY 119 = 10 ∧ True) rfl ⟨oc_119, trivial⟩ ?_
    refine sW_eq (st' := ([.int (nI 0)], [some (.ref 119), some (.int (nI lo)), some (.int hi), none], M)) (by simp (disch := omega) only [e1]) ?_
    refine sW_if_ne 20 d_Mo_number_4 (by decide) (fun c_4 => ?_) (fun c_4 => ?_)
    · skip
      exact absurd (by decide +kernel) c_4
    · skip
      simp (disch := omega) only [nI_z] at c_4
      refine sW_go b_Mo_number_7 (st' := ([.int (nI 3), .int (M 119 14)], [some (.ref 119), some (.int (nI lo)), some (.int hi), none], M)) (φ := mx_ocl LAY 119 = 10 ∧ True) rfl ⟨oc_119, trivial⟩ ?_
      refine sW_eq (st' := ([.int (nI 3), .int (nI (mtk (tkA B n p)))], [some (.ref 119), some (.int (nI lo)), some (.int hi), none], M)) (by simp (disch := omega) only [k14]) ?_
      refine sW_ic_eq 20 d_Mo_number_12 (by decide) (fun c_12 => ?_) (fun c_12 => ?_)
      · skip
        simp (disch := omega) only [nI_eq] at c_12
        exact absurd (hiv c_12) ht
      · skip
        simp (disch := omega) only [nI_eq] at c_12
        refine sW_go b_Mo_number_15 (st' := ([.int (nI 1), .ref 119], [some (.ref 119), some (.int (nI lo)), some (.int hi), none], M)) (φ := True) rfl trivial ?_
        refine sW_callV 10 [.int (nI 1)] [] d_Mo_number_17 c_Mo_number_17 ⟨rfl, rfl, rfl, Nat.le_of_ble_eq_true rfl, rfl, rfl⟩ oc_119 (k_bad0 G h (by decide) (by decide)) ?_
        rintro _ M2 ⟨rfl, f2, t2⟩
        have ne2 := t2.ne
        show sW G m_Mo_number 20 ([], [some (.ref 119), some (.int (nI lo)), some (.int hi), none], M2) _
        refine sW_go b_Mo_number_20 (st' := ([.int (M2 119 16)], [some (.ref 119), some (.int (nI lo)), some (.int hi), none], M2)) (φ := mx_ocl LAY 119 = 10 ∧ True) rfl ⟨oc_119, trivial⟩ ?_
        refine sW_if_ne 47 d_Mo_number_24 (by decide) (fun c_24 => ?_) (fun c_24 => ?_)
        · skip
          refine sW_go b_Mo_number_47 (st' := ([.int (M2 119 16)], [some (.ref 119), some (.int (nI lo)), some (.int hi), none], M2)) (φ := mx_ocl LAY 119 = 10 ∧ True) rfl ⟨oc_119, trivial⟩ ?_
          refine sW_if_ne 61 d_Mo_number_51 (by decide) (fun c_51 => ?_) (fun c_51 => ?_)
          · skip
            refine sW_go b_Mo_number_61 (st' := ([.int (nI lo)], [some (.ref 119), some (.int (nI lo)), some (.int hi), none], M2)) (φ := True) rfl trivial ?_
            refine sW_go b_Mo_number_62 (st' := ([.int (nI 1), .ref 119], [some (.ref 119), some (.int (nI lo)), some (.int hi), some (.int (nI lo))], M2)) (φ := True) rfl trivial ?_
            refine sW_callV 10 [.int (nI 1)] [] d_Mo_number_65 c_Mo_number_65 ⟨rfl, rfl, rfl, Nat.le_of_ble_eq_true rfl, rfl, rfl⟩ oc_119 (k_mustF G t2 (nI 1)) ?_
            rintro _ M₁ ⟨rfl, h₁⟩
            rw [h₁]
            show sW G m_Mo_number 68 ([], [some (.ref 119), some (.int (nI lo)), some (.int hi), some (.int (nI lo))], M2) _
            refine sW_go b_Mo_number_68 (st' := ([.int (nI lo)], [some (.ref 119), some (.int (nI lo)), some (.int hi), some (.int (nI lo))], M2)) (φ := True) rfl trivial ?_
            refine sW_retI d_Mo_number_69 rfl (vp_nar_int _) ?_
            exact ⟨rfl, f2, t2⟩
          · skip
            exact absurd c_51 ne2
        · skip
          exact absurd c_24 ne2
noncomputable def srtM (t : Nat) : Int32 := if srtN t = 9 then (-1000000) else nI (srtN t)
theorem k_sortBy (G : mx_G) {M : mx_M} {t : Nat} (ht : t < 2000) : sOk G m_Mo_sortBy [.int (nI t)] M (fun r M' => r = some (.int (srtM t)) ∧ M' = M) := by
  refine sOk_of ⟨by decide +kernel, by decide +kernel, Nat.le_of_ble_eq_true rfl⟩ ?_
  show sW G m_Mo_sortBy 0 ([], [some (.int (nI t))], M) _
  refine sW_go b_Mo_sortBy_0 (st' := ([.int (nI 99), .int (nI t)], [some (.int (nI t))], M)) (φ := True) rfl trivial ?_
  refine sW_ic_ne 10 d_Mo_sortBy_3 (by decide) (fun c_3 => ?_) (fun c_3 => ?_)
  · skip
    simp (disch := omega) only [nI_eq] at c_3
    refine sW_go b_Mo_sortBy_10 (st' := ([.int (nI 112), .int (nI t)], [some (.int (nI t))], M)) (φ := True) rfl trivial ?_
    refine sW_ic_ne 20 d_Mo_sortBy_13 (by decide) (fun c_13 => ?_) (fun c_13 => ?_)
    · skip
      simp (disch := omega) only [nI_eq] at c_13
      refine sW_go b_Mo_sortBy_20 (st' := ([.int (nI 102), .int (nI t)], [some (.int (nI t))], M)) (φ := True) rfl trivial ?_
      refine sW_ic_ne 30 d_Mo_sortBy_23 (by decide) (fun c_23 => ?_) (fun c_23 => ?_)
      · skip
        simp (disch := omega) only [nI_eq] at c_23
        refine sW_go b_Mo_sortBy_30 (st' := ([.int (nI 117), .int (nI t)], [some (.int (nI t))], M)) (φ := True) rfl trivial ?_
        refine sW_ic_ne 40 d_Mo_sortBy_33 (by decide) (fun c_33 => ?_) (fun c_33 => ?_)
        · skip
          simp (disch := omega) only [nI_eq] at c_33
          refine sW_go b_Mo_sortBy_40 (st' := ([.int (nI 98), .int (nI t)], [some (.int (nI t))], M)) (φ := True) rfl trivial ?_
          refine sW_ic_ne 50 d_Mo_sortBy_43 (by decide) (fun c_43 => ?_) (fun c_43 => ?_)
          · skip
            simp (disch := omega) only [nI_eq] at c_43
            refine sW_go b_Mo_sortBy_50 (st' := ([.int (nI 108), .int (nI t)], [some (.int (nI t))], M)) (φ := True) rfl trivial ?_
            refine sW_ic_ne 60 d_Mo_sortBy_53 (by decide) (fun c_53 => ?_) (fun c_53 => ?_)
            · skip
              simp (disch := omega) only [nI_eq] at c_53
              refine sW_go b_Mo_sortBy_60 (st' := ([.int (-1000000)], [some (.int (nI t))], M)) (φ := True) rfl trivial ?_
              refine sW_retI d_Mo_sortBy_62 rfl (vp_nar_int _) ?_
              have e : srtN t = 9 := by unfold srtN; rw [if_neg c_3, if_neg c_13, if_neg c_23, if_neg c_33, if_neg c_43, if_neg c_53]
              exact ⟨by unfold srtM; rw [if_pos e], rfl⟩
            · skip
              simp (disch := omega) only [nI_eq] at c_53
              refine sW_go b_Mo_sortBy_56 (st' := ([.int (nI 5)], [some (.int (nI t))], M)) (φ := True) rfl trivial ?_
              refine sW_goto 62 d_Mo_sortBy_57 (by decide) ?_
              refine sW_retI d_Mo_sortBy_62 rfl (vp_nar_int _) ?_
              rw [c_53]; exact ⟨rfl, rfl⟩
          · skip
            simp (disch := omega) only [nI_eq] at c_43
            refine sW_go b_Mo_sortBy_46 (st' := ([.int (nI 4)], [some (.int (nI t))], M)) (φ := True) rfl trivial ?_
            refine sW_goto 62 d_Mo_sortBy_47 (by decide) ?_
            refine sW_retI d_Mo_sortBy_62 rfl (vp_nar_int _) ?_
            rw [c_43]; exact ⟨rfl, rfl⟩
        · skip
          simp (disch := omega) only [nI_eq] at c_33
          refine sW_go b_Mo_sortBy_36 (st' := ([.int (nI 3)], [some (.int (nI t))], M)) (φ := True) rfl trivial ?_
          refine sW_goto 62 d_Mo_sortBy_37 (by decide) ?_
          refine sW_retI d_Mo_sortBy_62 rfl (vp_nar_int _) ?_
          rw [c_33]; exact ⟨rfl, rfl⟩
      · skip
        simp (disch := omega) only [nI_eq] at c_23
        refine sW_go b_Mo_sortBy_26 (st' := ([.int (nI 2)], [some (.int (nI t))], M)) (φ := True) rfl trivial ?_
        refine sW_goto 62 d_Mo_sortBy_27 (by decide) ?_
        refine sW_retI d_Mo_sortBy_62 rfl (vp_nar_int _) ?_
        rw [c_23]; exact ⟨rfl, rfl⟩
    · skip
      simp (disch := omega) only [nI_eq] at c_13
      refine sW_go b_Mo_sortBy_16 (st' := ([.int (nI 1)], [some (.int (nI t))], M)) (φ := True) rfl trivial ?_
      refine sW_goto 62 d_Mo_sortBy_17 (by decide) ?_
      refine sW_retI d_Mo_sortBy_62 rfl (vp_nar_int _) ?_
      rw [c_13]; exact ⟨rfl, rfl⟩
  · skip
    simp (disch := omega) only [nI_eq] at c_3
    refine sW_go b_Mo_sortBy_6 (st' := ([.int (nI 0)], [some (.int (nI t))], M)) (φ := True) rfl trivial ?_
    refine sW_goto 62 d_Mo_sortBy_7 (by decide) ?_
    refine sW_retI d_Mo_sortBy_62 rfl (vp_nar_int _) ?_
    rw [c_3]; exact ⟨rfl, rfl⟩
theorem srt_letter {t : Nat} (h : srtN t ≠ 9) : 97 ≤ t ∧ t ≤ 122 := by
  by_cases q : 97 ≤ t ∧ t ≤ 122
  · exact q
  · exact absurd (by unfold srtN; rw [if_neg (by omega), if_neg (by omega), if_neg (by omega), if_neg (by omega), if_neg (by omega), if_neg (by omega)]) h
theorem k_isSort (G : mx_G) {M : mx_M} {B : Nat → Nat} {n p : Nat} (h : RdS M B n p) : sOk G m_Mo_isSort [.ref 119] M (fun r M' => r = some (.int (tf (srtN (tkA B n p) ≠ 9))) ∧ M' = M) := by
  have e1 := h.2.2.1
  have k14 := h.2.1.2.1
  have hm4 := mtk_le (tkA B n p)
  by_cases hm : mtk (tkA B n p) = 2
  · have hl := (mtk_inv B n p).2.2.1 hm
    have k15 := h.2.1.2.2.2 (by omega)
    rw [hm] at k14
    refine sOk_of ⟨by decide +kernel, by decide +kernel, Nat.le_of_ble_eq_true rfl⟩ ?_
    show sW G m_Mo_isSort 0 ([], [some (.ref 119)], M) _
    refine sW_go b_Mo_isSort_0 (st' := ([.int (M 119 16)], [some (.ref 119)], M)) (φ := mx_ocl LAY 119 = 10 ∧ True) rfl ⟨oc_119, trivial⟩ ?_
    refine sW_eq (st' := ([.int (nI 0)], [some (.ref 119)], M)) (by simp (disch := omega) only [e1]) ?_
    refine sW_if_ne 31 d_Mo_isSort_4 (by decide) (fun c_4 => ?_) (fun c_4 => ?_)
    · skip
      exact absurd (by decide +kernel) c_4
    · skip
      simp (disch := omega) only [nI_z] at c_4
      refine sW_go b_Mo_isSort_7 (st' := ([.int (nI 2), .int (M 119 14)], [some (.ref 119)], M)) (φ := mx_ocl LAY 119 = 10 ∧ True) rfl ⟨oc_119, trivial⟩ ?_
      refine sW_eq (st' := ([.int (nI 2), .int (nI 2)], [some (.ref 119)], M)) (by simp (disch := omega) only [k14]) ?_
      refine sW_ic_ne 31 d_Mo_isSort_12 (by decide) (fun c_12 => ?_) (fun c_12 => ?_)
      · skip
        exact absurd (by decide +kernel) c_12
      · skip
        simp (disch := omega) only [nI_eq] at c_12
        refine sW_go b_Mo_isSort_15 (st' := ([.int (M 119 15)], [some (.ref 119)], M)) (φ := mx_ocl LAY 119 = 10 ∧ True) rfl ⟨oc_119, trivial⟩ ?_
        refine sW_eq (st' := ([.int (nI (tkA B n p))], [some (.ref 119)], M)) (by simp (disch := omega) only [k15]) ?_
        refine sW_callS [.int (nI (tkA B n p))] [] d_Mo_isSort_19 c_Mo_isSort_19 ⟨rfl, rfl, Nat.le_of_ble_eq_true rfl, rfl, rfl⟩ (k_sortBy G (by omega)) ?_
        rintro _ M₁ ⟨rfl, h₁⟩
        rw [h₁]
        show sW G m_Mo_isSort 22 ([.int (srtM (tkA B n p))], [some (.ref 119)], M) _
        refine sW_go b_Mo_isSort_22 (st' := ([.int (-1000000), .int (srtM (tkA B n p))], [some (.ref 119)], M)) (φ := True) rfl trivial ?_
        refine sW_ic_eq 31 d_Mo_isSort_24 (by decide) (fun c_24 => ?_) (fun c_24 => ?_)
        · skip
          refine sW_go b_Mo_isSort_31 (st' := ([.int (nI 0)], [some (.ref 119)], M)) (φ := True) rfl trivial ?_
          refine sW_retI d_Mo_isSort_32 rfl nb_0 ?_
          have q : srtN (tkA B n p) = 9 := Classical.byContradiction (fun w => by
            unfold srtM at c_24
            rw [if_neg w] at c_24
            have h9 := srtN_or (tkA B n p)
            rcases (by omega : srtN (tkA B n p) = 0 ∨ srtN (tkA B n p) = 1 ∨ srtN (tkA B n p) = 2 ∨ srtN (tkA B n p) = 3 ∨ srtN (tkA B n p) = 4 ∨ srtN (tkA B n p) = 5) with z | z | z | z | z | z <;> rw [z] at c_24 <;> exact absurd c_24 (by decide +kernel))
          exact ⟨by rw [tf_f (fun w => w q)], rfl⟩
        · skip
          refine sW_go b_Mo_isSort_27 (st' := ([.int (nI 1)], [some (.ref 119)], M)) (φ := True) rfl trivial ?_
          refine sW_goto 32 d_Mo_isSort_28 (by decide) ?_
          refine sW_retI d_Mo_isSort_32 rfl nb_1 ?_
          have q : srtN (tkA B n p) ≠ 9 := fun w => c_24 (by unfold srtM; rw [if_pos w])
          exact ⟨by rw [tf_t q], rfl⟩
  · have q : srtN (tkA B n p) = 9 := Classical.byContradiction (fun w => hm ((mtk_of).2.2.2.1 (srt_letter w).1 (srt_letter w).2))
    refine sOk_of ⟨by decide +kernel, by decide +kernel, Nat.le_of_ble_eq_true rfl⟩ ?_
    show sW G m_Mo_isSort 0 ([], [some (.ref 119)], M) _
    refine sW_go b_Mo_isSort_0 (st' := ([.int (M 119 16)], [some (.ref 119)], M)) (φ := mx_ocl LAY 119 = 10 ∧ True) rfl ⟨oc_119, trivial⟩ ?_
    refine sW_eq (st' := ([.int (nI 0)], [some (.ref 119)], M)) (by simp (disch := omega) only [e1]) ?_
    refine sW_if_ne 31 d_Mo_isSort_4 (by decide) (fun c_4 => ?_) (fun c_4 => ?_)
    · skip
      exact absurd (by decide +kernel) c_4
    · skip
      simp (disch := omega) only [nI_z] at c_4
      refine sW_go b_Mo_isSort_7 (st' := ([.int (nI 2), .int (M 119 14)], [some (.ref 119)], M)) (φ := mx_ocl LAY 119 = 10 ∧ True) rfl ⟨oc_119, trivial⟩ ?_
      refine sW_eq (st' := ([.int (nI 2), .int (nI (mtk (tkA B n p)))], [some (.ref 119)], M)) (by simp (disch := omega) only [k14]) ?_
      refine sW_ic_ne 31 d_Mo_isSort_12 (by decide) (fun c_12 => ?_) (fun c_12 => ?_)
      · skip
        simp (disch := omega) only [nI_eq] at c_12
        refine sW_go b_Mo_isSort_31 (st' := ([.int (nI 0)], [some (.ref 119)], M)) (φ := True) rfl trivial ?_
        refine sW_retI d_Mo_isSort_32 rfl nb_0 ?_
        exact ⟨by rw [tf_f (fun w => w q)], rfl⟩
      · skip
        simp (disch := omega) only [nI_eq] at c_12
        exact absurd c_12 hm
theorem k_isSortF (G : mx_G) {M : mx_M} {e : Nat × Nat} (h : RdF M e) : sOk G m_Mo_isSort [.ref 119] M (fun r M' => r = some (.int (nI 0)) ∧ M' = M) := by
  have e1 := h.ne
  refine sOk_of ⟨by decide +kernel, by decide +kernel, Nat.le_of_ble_eq_true rfl⟩ ?_
  show sW G m_Mo_isSort 0 ([], [some (.ref 119)], M) _
  refine sW_go b_Mo_isSort_0 (st' := ([.int (M 119 16)], [some (.ref 119)], M)) (φ := mx_ocl LAY 119 = 10 ∧ True) rfl ⟨oc_119, trivial⟩ ?_
  refine sW_if_ne 31 d_Mo_isSort_4 (by decide) (fun c_4 => ?_) (fun c_4 => ?_)
  · skip
    refine sW_go b_Mo_isSort_31 (st' := ([.int (nI 0)], [some (.ref 119)], M)) (φ := True) rfl trivial ?_
    refine sW_retI d_Mo_isSort_32 rfl nb_0 ?_
    exact ⟨rfl, rfl⟩
  · skip
    exact absurd c_4 e1
theorem k_isLetter (G : mx_G) {M : mx_M} {B : Nat → Nat} {n p : Nat} (h : RdS M B n p) : sOk G m_Mo_isLetter [.ref 119, .int (nI 115)] M (fun r M' => r = some (.int (tf (tkA B n p = 115))) ∧ M' = M) := by
  have e1 := h.2.2.1
  have k14 := h.2.1.2.1
  have hm4 := mtk_le (tkA B n p)
  have hiv := (mtk_inv B n p).2.2.1
  refine sOk_of ⟨by decide +kernel, by decide +kernel, Nat.le_of_ble_eq_true rfl⟩ ?_
  show sW G m_Mo_isLetter 0 ([], [some (.ref 119), some (.int (nI 115))], M) _
  refine sW_go b_Mo_isLetter_0 (st' := ([.int (M 119 16)], [some (.ref 119), some (.int (nI 115))], M)) (φ := mx_ocl LAY 119 = 10 ∧ True) rfl ⟨oc_119, trivial⟩ ?_
  refine sW_eq (st' := ([.int (nI 0)], [some (.ref 119), some (.int (nI 115))], M)) (by simp (disch := omega) only [e1]) ?_
  refine sW_if_ne 27 d_Mo_isLetter_4 (by decide) (fun c_4 => ?_) (fun c_4 => ?_)
  · skip
    exact absurd (by decide +kernel) c_4
  · skip
    simp (disch := omega) only [nI_z] at c_4
    refine sW_go b_Mo_isLetter_7 (st' := ([.int (nI 2), .int (M 119 14)], [some (.ref 119), some (.int (nI 115))], M)) (φ := mx_ocl LAY 119 = 10 ∧ True) rfl ⟨oc_119, trivial⟩ ?_
    refine sW_eq (st' := ([.int (nI 2), .int (nI (mtk (tkA B n p)))], [some (.ref 119), some (.int (nI 115))], M)) (by simp (disch := omega) only [k14]) ?_
    refine sW_ic_ne 27 d_Mo_isLetter_12 (by decide) (fun c_12 => ?_) (fun c_12 => ?_)
    · skip
      simp (disch := omega) only [nI_eq] at c_12
      refine sW_go b_Mo_isLetter_27 (st' := ([.int (nI 0)], [some (.ref 119), some (.int (nI 115))], M)) (φ := True) rfl trivial ?_
      refine sW_retI d_Mo_isLetter_28 rfl nb_0 ?_
      exact ⟨by rw [tf_f (fun w => c_12 ((mtk_of).2.2.2.1 (by omega) (by omega)))], rfl⟩
    · skip
      simp (disch := omega) only [nI_eq] at c_12
      refine sW_go b_Mo_isLetter_15 (st' := ([.int (nI 115), .int (M 119 15)], [some (.ref 119), some (.int (nI 115))], M)) (φ := mx_ocl LAY 119 = 10 ∧ True) rfl ⟨oc_119, trivial⟩ ?_
      refine sW_ic_ne 27 d_Mo_isLetter_20 (by decide) (fun c_20 => ?_) (fun c_20 => ?_)
      · skip
        refine sW_go b_Mo_isLetter_27 (st' := ([.int (nI 0)], [some (.ref 119), some (.int (nI 115))], M)) (φ := True) rfl trivial ?_
        refine sW_retI d_Mo_isLetter_28 rfl nb_0 ?_
        have hl := hiv c_12
        rw [h.2.1.2.2.2 (by omega), nI_eq (by omega) (by decide)] at c_20
        exact ⟨by rw [tf_f c_20], rfl⟩
      · skip
        refine sW_go b_Mo_isLetter_23 (st' := ([.int (nI 1)], [some (.ref 119), some (.int (nI 115))], M)) (φ := True) rfl trivial ?_
        refine sW_goto 28 d_Mo_isLetter_24 (by decide) ?_
        refine sW_retI d_Mo_isLetter_28 rfl nb_1 ?_
        have hl := hiv c_12
        rw [h.2.1.2.2.2 (by omega), nI_eq (by omega) (by decide)] at c_20
        exact ⟨by rw [tf_t c_20], rfl⟩

