/-! ===== TypeSetsModel: small ===== -/
theorem k_in (G : mx_G) {M : mx_M} (a b c : Int64) : sOk G m_Mo_in [.long a, .long b, .long c] M (fun r M' => r = some (.int (tf (b.toInt ≤ a.toInt ∧ a.toInt ≤ c.toInt))) ∧ M' = M) := by
  have e1 := (lg_cmp_lt a b).trans Int64.lt_iff_toInt_lt
  have e2 := (lg_cmp_gt a c).trans Int64.lt_iff_toInt_lt
  refine sOk_of ⟨by decide +kernel, by decide +kernel, Nat.le_of_ble_eq_true rfl⟩ ?_
  show sW G m_Mo_in 0 ([], [some (.long a), none, some (.long b), none, some (.long c), none], M) _
  refine sW_go b_Mo_in_0 (st' := ([.int (lg_cmp a b)], [some (.long a), none, some (.long b), none, some (.long c), none], M)) (φ := True) rfl trivial ?_
  refine sW_if_lt 17 d_Mo_in_3 (by decide) (fun c_3 => ?_) (fun c_3 => ?_)
  · skip
    refine sW_go b_Mo_in_17 (st' := ([.int (nI 0)], [some (.long a), none, some (.long b), none, some (.long c), none], M)) (φ := True) rfl trivial ?_
    refine sW_retI d_Mo_in_18 rfl nb_0 ?_
    rw [tf_f (fun q => by have := e1.mp c_3; omega)]; exact ⟨rfl, rfl⟩
  · skip
    refine sW_go b_Mo_in_6 (st' := ([.int (lg_cmp a c)], [some (.long a), none, some (.long b), none, some (.long c), none], M)) (φ := True) rfl trivial ?_
    refine sW_if_gt 17 d_Mo_in_10 (by decide) (fun c_10 => ?_) (fun c_10 => ?_)
    · skip
      refine sW_go b_Mo_in_17 (st' := ([.int (nI 0)], [some (.long a), none, some (.long b), none, some (.long c), none], M)) (φ := True) rfl trivial ?_
      refine sW_retI d_Mo_in_18 rfl nb_0 ?_
      rw [tf_f (fun q => by have := e2.mp c_10; omega)]; exact ⟨rfl, rfl⟩
    · skip
      refine sW_go b_Mo_in_13 (st' := ([.int (nI 1)], [some (.long a), none, some (.long b), none, some (.long c), none], M)) (φ := True) rfl trivial ?_
      refine sW_goto 18 d_Mo_in_14 (by decide) ?_
      refine sW_retI d_Mo_in_18 rfl nb_1 ?_
      have n1 : ¬ a.toInt < b.toInt := fun w => c_3 (e1.mpr w)
      have n2 : ¬ c.toInt < a.toInt := fun w => c_10 (e2.mpr w)
      rw [tf_t ⟨by omega, by omega⟩]
      exact ⟨rfl, rfl⟩
theorem i2l_ti (x : Int32) : x.toInt64.toInt = x.toInt := Int32.toInt_toInt64 x
theorem k_isRow (G : mx_G) {M : mx_M} (t : Int32) : sOk G m_Mo_isRow [.int t] M (fun r M' => r = some (.int (tf (vp_in t 8))) ∧ M' = M) := by
  refine sOk_of ⟨by decide +kernel, by decide +kernel, Nat.le_of_ble_eq_true rfl⟩ ?_
  show sW G m_Mo_isRow 0 ([], [some (.int t)], M) _
  refine sW_go b_Mo_isRow_0 (st' := ([.long (lN 7), .long (lN 0), .long t.toInt64], [some (.int t)], M)) (φ := True) rfl trivial ?_
  refine sW_callS [.long t.toInt64, .long (lN 0), .long (lN 7)] [] d_Mo_isRow_6 c_Mo_isRow_6 ⟨rfl, rfl, Nat.le_of_ble_eq_true rfl, rfl, rfl⟩ (k_in G t.toInt64 (lN 0) (lN 7)) ?_
  rintro _ M₁ ⟨rfl, h₁⟩
  rw [h₁]
  show sW G m_Mo_isRow 9 ([.int (tf ((lN 0).toInt ≤ t.toInt64.toInt ∧ t.toInt64.toInt ≤ (lN 7).toInt))], [some (.int t)], M) _
  refine sW_retI d_Mo_isRow_9 rfl (tf_b _) ?_
  have e : ((lN 0).toInt ≤ t.toInt64.toInt ∧ t.toInt64.toInt ≤ (lN 7).toInt) ↔ vp_in t 8 := by
    rw [i2l_ti, lN_ti (by decide), lN_ti (by decide), vp_in_iff]
    omega
  rw [propext e]
  exact ⟨rfl, rfl⟩
theorem k_finding (G : mx_G) {M : mx_M} (k : Nat) : sOk G m_Mo_finding [.ref 119, .int (nI k)] M (fun r M' => r = some (.int ((-1000010) - nI k)) ∧ M' = mx_wr M 119 1 (nI k)) := by
  refine sOk_of ⟨by decide +kernel, by decide +kernel, Nat.le_of_ble_eq_true rfl⟩ ?_
  show sW G m_Mo_finding 0 ([], [some (.ref 119), some (.int (nI k))], M) _
  refine sW_go b_Mo_finding_0 (st' := ([.int ((-1000010) - nI k)], [some (.ref 119), some (.int (nI k))], mx_wr M 119 1 (nI k))) (φ := mx_ocl LAY 119 = 10 ∧ True) rfl ⟨oc_119, trivial⟩ ?_
  refine sW_retI d_Mo_finding_9 rfl (vp_nar_int _) ?_
  exact ⟨rfl, rfl⟩

