/-! ===== Arrays.fill, Integer.bitCount, Sides ===== -/
theorem k_fill (G : mx_G) {M : mx_M} {a n : Nat} (hl : mx_len LAY false a = n) (hn0 : n ≠ 0) (hn : n < 2 ^ 31) (v : Int32) : sOk G m_fill [.ref a, .int v] M (fun r M' => r = none ∧ Fr M M' a (a + 1) ∧ ∀ i, i < n → M' a i = v) := by
  refine sOk_of ⟨by decide +kernel, by decide +kernel, Nat.le_of_ble_eq_true rfl⟩ ?_
  show sW G m_fill 0 ([], [some (.ref a), some (.int v), none, none], M) _
  refine sW_go b_fill_0 (st' := ([], [some (.ref a), some (.int v), some (.int (nI 0)), some (.int (nI (mx_len LAY false a)))], M)) (φ := mx_len LAY false a ≠ 0 ∧ True) rfl ⟨(by rw [hl]; exact hn0), trivial⟩ ?_
  refine sW_eq (st' := ([], [some (.ref a), some (.int v), some (.int (nI 0)), some (.int (nI n))], M)) (by simp (disch := omega) only [hl]) ?_
  refine mx_ind (α := Nat × mx_M) (fun q => n - q.1) (fun q => q.1 ≤ n → Fr M q.2 a (a + 1) → (∀ i, i < q.1 → q.2 a i = v) → sW G m_fill 5 ([], [some (.ref a), some (.int v), some (.int (nI q.1)), some (.int (nI n))], q.2) _) ?_ (0, M) (Nat.zero_le _) Fr.rf (fun i hi => absurd hi (Nat.not_lt_zero i))
  rintro ⟨k, M2⟩ ih hk i1 i2
  dsimp only at ih hk i1 i2 ⊢
  by_cases hkn : k < n
  · skip
    refine sW_go b_fill_5 (st' := ([.int (nI n), .int (nI k)], [some (.ref a), some (.int v), some (.int (nI k)), some (.int (nI n))], M2)) (φ := True) rfl trivial ?_
    refine sW_ic_ge 20 d_fill_7 (by decide) (fun c_7 => ?_) (fun c_7 => ?_)
    · skip
      simp (disch := omega) only [nI_leI] at c_7
      refine sW_retV d_fill_20 rfl ?_
      omega
    · skip
      simp (disch := omega) only [nI_leI] at c_7
      refine sW_go b_fill_10 (st' := ([], [some (.ref a), some (.int v), some (.int (nI k + nI 1)), some (.int (nI n))], mx_wr M2 a (nI k).toNatClampNeg v)) (φ := vp_in (nI k) (mx_len LAY false a) ∧ True) rfl ⟨(by rw [hl]; exact vp_in_nI (by omega) (by omega)), trivial⟩ ?_
      refine sW_eq (st' := ([], [some (.ref a), some (.int v), some (.int (nI (k + 1))), some (.int (nI n))], mx_wr M2 a k v)) (by simp (disch := omega) only [nI_add, nI_clamp]) ?_
      refine sW_goto 5 d_fill_17 (by decide) ?_
      refine ih (k + 1, (mx_wr M2 a k v)) (by dsimp only; omega) (by dsimp only; omega) (i1.wr (Nat.le_refl _) (by omega)) (fun i hi => ?_)
      dsimp only at hi ⊢
      rw [mx_wr_s]
      by_cases hx : i = k
      · rw [hx, pk_us]
      · rw [pk_un hx]
        exact i2 i (by omega)
  · have hke : k = n := by omega
    refine sW_go b_fill_5 (st' := ([.int (nI n), .int (nI k)], [some (.ref a), some (.int v), some (.int (nI k)), some (.int (nI n))], M2)) (φ := True) rfl trivial ?_
    refine sW_ic_ge 20 d_fill_7 (by decide) (fun c_7 => ?_) (fun c_7 => ?_)
    · skip
      simp (disch := omega) only [nI_leI] at c_7
      refine sW_retV d_fill_20 rfl ?_
      exact ⟨rfl, i1, fun i hi => i2 i (by omega)⟩
    · skip
      simp (disch := omega) only [nI_leI] at c_7
      exact absurd c_7 (by omega)
def pop (a : Nat) : Nat := bt a 0 + bt a 1 + bt a 2 + bt a 3 + bt a 4 + bt a 5 + bt a 6 + bt a 7
theorem k_bitCount (G : mx_G) {M : mx_M} {a : Nat} (ha : a < 256) : sOk G m_bitCount [.int (nI a)] M (fun r M' => r = some (.int (nI (pop a))) ∧ M' = M) := by
  refine sOk_of ⟨by decide +kernel, by decide +kernel, Nat.le_of_ble_eq_true rfl⟩ ?_
  show sW G m_bitCount 0 ([], [some (.int (nI a))], M) _
  refine sW_go b_bitCount_0 (st' := ([.int ((((((((nI a - (((nI a).toUInt32 >>> ((nI 1).toUInt32 &&& Int32.toUInt32 31)).toInt32 &&& nI 1431655765)) &&& nI 858993459) + (((nI a - (((nI a).toUInt32 >>> ((nI 1).toUInt32 &&& Int32.toUInt32 31)).toInt32 &&& nI 1431655765)).toUInt32 >>> ((nI 2).toUInt32 &&& Int32.toUInt32 31)).toInt32 &&& nI 858993459)) + ((((nI a - (((nI a).toUInt32 >>> ((nI 1).toUInt32 &&& Int32.toUInt32 31)).toInt32 &&& nI 1431655765)) &&& nI 858993459) + (((nI a - (((nI a).toUInt32 >>> ((nI 1).toUInt32 &&& Int32.toUInt32 31)).toInt32 &&& nI 1431655765)).toUInt32 >>> ((nI 2).toUInt32 &&& Int32.toUInt32 31)).toInt32 &&& nI 858993459)).toUInt32 >>> ((nI 4).toUInt32 &&& Int32.toUInt32 31)).toInt32) &&& nI 252645135) + ((((((nI a - (((nI a).toUInt32 >>> ((nI 1).toUInt32 &&& Int32.toUInt32 31)).toInt32 &&& nI 1431655765)) &&& nI 858993459) + (((nI a - (((nI a).toUInt32 >>> ((nI 1).toUInt32 &&& Int32.toUInt32 31)).toInt32 &&& nI 1431655765)).toUInt32 >>> ((nI 2).toUInt32 &&& Int32.toUInt32 31)).toInt32 &&& nI 858993459)) + ((((nI a - (((nI a).toUInt32 >>> ((nI 1).toUInt32 &&& Int32.toUInt32 31)).toInt32 &&& nI 1431655765)) &&& nI 858993459) + (((nI a - (((nI a).toUInt32 >>> ((nI 1).toUInt32 &&& Int32.toUInt32 31)).toInt32 &&& nI 1431655765)).toUInt32 >>> ((nI 2).toUInt32 &&& Int32.toUInt32 31)).toInt32 &&& nI 858993459)).toUInt32 >>> ((nI 4).toUInt32 &&& Int32.toUInt32 31)).toInt32) &&& nI 252645135).toUInt32 >>> ((nI 8).toUInt32 &&& Int32.toUInt32 31)).toInt32) + (((((((nI a - (((nI a).toUInt32 >>> ((nI 1).toUInt32 &&& Int32.toUInt32 31)).toInt32 &&& nI 1431655765)) &&& nI 858993459) + (((nI a - (((nI a).toUInt32 >>> ((nI 1).toUInt32 &&& Int32.toUInt32 31)).toInt32 &&& nI 1431655765)).toUInt32 >>> ((nI 2).toUInt32 &&& Int32.toUInt32 31)).toInt32 &&& nI 858993459)) + ((((nI a - (((nI a).toUInt32 >>> ((nI 1).toUInt32 &&& Int32.toUInt32 31)).toInt32 &&& nI 1431655765)) &&& nI 858993459) + (((nI a - (((nI a).toUInt32 >>> ((nI 1).toUInt32 &&& Int32.toUInt32 31)).toInt32 &&& nI 1431655765)).toUInt32 >>> ((nI 2).toUInt32 &&& Int32.toUInt32 31)).toInt32 &&& nI 858993459)).toUInt32 >>> ((nI 4).toUInt32 &&& Int32.toUInt32 31)).toInt32) &&& nI 252645135) + ((((((nI a - (((nI a).toUInt32 >>> ((nI 1).toUInt32 &&& Int32.toUInt32 31)).toInt32 &&& nI 1431655765)) &&& nI 858993459) + (((nI a - (((nI a).toUInt32 >>> ((nI 1).toUInt32 &&& Int32.toUInt32 31)).toInt32 &&& nI 1431655765)).toUInt32 >>> ((nI 2).toUInt32 &&& Int32.toUInt32 31)).toInt32 &&& nI 858993459)) + ((((nI a - (((nI a).toUInt32 >>> ((nI 1).toUInt32 &&& Int32.toUInt32 31)).toInt32 &&& nI 1431655765)) &&& nI 858993459) + (((nI a - (((nI a).toUInt32 >>> ((nI 1).toUInt32 &&& Int32.toUInt32 31)).toInt32 &&& nI 1431655765)).toUInt32 >>> ((nI 2).toUInt32 &&& Int32.toUInt32 31)).toInt32 &&& nI 858993459)).toUInt32 >>> ((nI 4).toUInt32 &&& Int32.toUInt32 31)).toInt32) &&& nI 252645135).toUInt32 >>> ((nI 8).toUInt32 &&& Int32.toUInt32 31)).toInt32).toUInt32 >>> ((nI 16).toUInt32 &&& Int32.toUInt32 31)).toInt32) &&& nI 63)], [some (.int (((((((nI a - (((nI a).toUInt32 >>> ((nI 1).toUInt32 &&& Int32.toUInt32 31)).toInt32 &&& nI 1431655765)) &&& nI 858993459) + (((nI a - (((nI a).toUInt32 >>> ((nI 1).toUInt32 &&& Int32.toUInt32 31)).toInt32 &&& nI 1431655765)).toUInt32 >>> ((nI 2).toUInt32 &&& Int32.toUInt32 31)).toInt32 &&& nI 858993459)) + ((((nI a - (((nI a).toUInt32 >>> ((nI 1).toUInt32 &&& Int32.toUInt32 31)).toInt32 &&& nI 1431655765)) &&& nI 858993459) + (((nI a - (((nI a).toUInt32 >>> ((nI 1).toUInt32 &&& Int32.toUInt32 31)).toInt32 &&& nI 1431655765)).toUInt32 >>> ((nI 2).toUInt32 &&& Int32.toUInt32 31)).toInt32 &&& nI 858993459)).toUInt32 >>> ((nI 4).toUInt32 &&& Int32.toUInt32 31)).toInt32) &&& nI 252645135) + ((((((nI a - (((nI a).toUInt32 >>> ((nI 1).toUInt32 &&& Int32.toUInt32 31)).toInt32 &&& nI 1431655765)) &&& nI 858993459) + (((nI a - (((nI a).toUInt32 >>> ((nI 1).toUInt32 &&& Int32.toUInt32 31)).toInt32 &&& nI 1431655765)).toUInt32 >>> ((nI 2).toUInt32 &&& Int32.toUInt32 31)).toInt32 &&& nI 858993459)) + ((((nI a - (((nI a).toUInt32 >>> ((nI 1).toUInt32 &&& Int32.toUInt32 31)).toInt32 &&& nI 1431655765)) &&& nI 858993459) + (((nI a - (((nI a).toUInt32 >>> ((nI 1).toUInt32 &&& Int32.toUInt32 31)).toInt32 &&& nI 1431655765)).toUInt32 >>> ((nI 2).toUInt32 &&& Int32.toUInt32 31)).toInt32 &&& nI 858993459)).toUInt32 >>> ((nI 4).toUInt32 &&& Int32.toUInt32 31)).toInt32) &&& nI 252645135).toUInt32 >>> ((nI 8).toUInt32 &&& Int32.toUInt32 31)).toInt32) + (((((((nI a - (((nI a).toUInt32 >>> ((nI 1).toUInt32 &&& Int32.toUInt32 31)).toInt32 &&& nI 1431655765)) &&& nI 858993459) + (((nI a - (((nI a).toUInt32 >>> ((nI 1).toUInt32 &&& Int32.toUInt32 31)).toInt32 &&& nI 1431655765)).toUInt32 >>> ((nI 2).toUInt32 &&& Int32.toUInt32 31)).toInt32 &&& nI 858993459)) + ((((nI a - (((nI a).toUInt32 >>> ((nI 1).toUInt32 &&& Int32.toUInt32 31)).toInt32 &&& nI 1431655765)) &&& nI 858993459) + (((nI a - (((nI a).toUInt32 >>> ((nI 1).toUInt32 &&& Int32.toUInt32 31)).toInt32 &&& nI 1431655765)).toUInt32 >>> ((nI 2).toUInt32 &&& Int32.toUInt32 31)).toInt32 &&& nI 858993459)).toUInt32 >>> ((nI 4).toUInt32 &&& Int32.toUInt32 31)).toInt32) &&& nI 252645135) + ((((((nI a - (((nI a).toUInt32 >>> ((nI 1).toUInt32 &&& Int32.toUInt32 31)).toInt32 &&& nI 1431655765)) &&& nI 858993459) + (((nI a - (((nI a).toUInt32 >>> ((nI 1).toUInt32 &&& Int32.toUInt32 31)).toInt32 &&& nI 1431655765)).toUInt32 >>> ((nI 2).toUInt32 &&& Int32.toUInt32 31)).toInt32 &&& nI 858993459)) + ((((nI a - (((nI a).toUInt32 >>> ((nI 1).toUInt32 &&& Int32.toUInt32 31)).toInt32 &&& nI 1431655765)) &&& nI 858993459) + (((nI a - (((nI a).toUInt32 >>> ((nI 1).toUInt32 &&& Int32.toUInt32 31)).toInt32 &&& nI 1431655765)).toUInt32 >>> ((nI 2).toUInt32 &&& Int32.toUInt32 31)).toInt32 &&& nI 858993459)).toUInt32 >>> ((nI 4).toUInt32 &&& Int32.toUInt32 31)).toInt32) &&& nI 252645135).toUInt32 >>> ((nI 8).toUInt32 &&& Int32.toUInt32 31)).toInt32).toUInt32 >>> ((nI 16).toUInt32 &&& Int32.toUInt32 31)).toInt32))], M)) (φ := True) rfl trivial ?_
  refine sW_retI d_bitCount_52 rfl (vp_nar_int _) ?_
  refine ⟨?_, rfl⟩
  have key : ∀ a, a < 256 → ((((((((nI a - (((nI a).toUInt32 >>> ((nI 1).toUInt32 &&& Int32.toUInt32 31)).toInt32 &&& nI 1431655765)) &&& nI 858993459) + (((nI a - (((nI a).toUInt32 >>> ((nI 1).toUInt32 &&& Int32.toUInt32 31)).toInt32 &&& nI 1431655765)).toUInt32 >>> ((nI 2).toUInt32 &&& Int32.toUInt32 31)).toInt32 &&& nI 858993459)) + ((((nI a - (((nI a).toUInt32 >>> ((nI 1).toUInt32 &&& Int32.toUInt32 31)).toInt32 &&& nI 1431655765)) &&& nI 858993459) + (((nI a - (((nI a).toUInt32 >>> ((nI 1).toUInt32 &&& Int32.toUInt32 31)).toInt32 &&& nI 1431655765)).toUInt32 >>> ((nI 2).toUInt32 &&& Int32.toUInt32 31)).toInt32 &&& nI 858993459)).toUInt32 >>> ((nI 4).toUInt32 &&& Int32.toUInt32 31)).toInt32) &&& nI 252645135) + ((((((nI a - (((nI a).toUInt32 >>> ((nI 1).toUInt32 &&& Int32.toUInt32 31)).toInt32 &&& nI 1431655765)) &&& nI 858993459) + (((nI a - (((nI a).toUInt32 >>> ((nI 1).toUInt32 &&& Int32.toUInt32 31)).toInt32 &&& nI 1431655765)).toUInt32 >>> ((nI 2).toUInt32 &&& Int32.toUInt32 31)).toInt32 &&& nI 858993459)) + ((((nI a - (((nI a).toUInt32 >>> ((nI 1).toUInt32 &&& Int32.toUInt32 31)).toInt32 &&& nI 1431655765)) &&& nI 858993459) + (((nI a - (((nI a).toUInt32 >>> ((nI 1).toUInt32 &&& Int32.toUInt32 31)).toInt32 &&& nI 1431655765)).toUInt32 >>> ((nI 2).toUInt32 &&& Int32.toUInt32 31)).toInt32 &&& nI 858993459)).toUInt32 >>> ((nI 4).toUInt32 &&& Int32.toUInt32 31)).toInt32) &&& nI 252645135).toUInt32 >>> ((nI 8).toUInt32 &&& Int32.toUInt32 31)).toInt32) + (((((((nI a - (((nI a).toUInt32 >>> ((nI 1).toUInt32 &&& Int32.toUInt32 31)).toInt32 &&& nI 1431655765)) &&& nI 858993459) + (((nI a - (((nI a).toUInt32 >>> ((nI 1).toUInt32 &&& Int32.toUInt32 31)).toInt32 &&& nI 1431655765)).toUInt32 >>> ((nI 2).toUInt32 &&& Int32.toUInt32 31)).toInt32 &&& nI 858993459)) + ((((nI a - (((nI a).toUInt32 >>> ((nI 1).toUInt32 &&& Int32.toUInt32 31)).toInt32 &&& nI 1431655765)) &&& nI 858993459) + (((nI a - (((nI a).toUInt32 >>> ((nI 1).toUInt32 &&& Int32.toUInt32 31)).toInt32 &&& nI 1431655765)).toUInt32 >>> ((nI 2).toUInt32 &&& Int32.toUInt32 31)).toInt32 &&& nI 858993459)).toUInt32 >>> ((nI 4).toUInt32 &&& Int32.toUInt32 31)).toInt32) &&& nI 252645135) + ((((((nI a - (((nI a).toUInt32 >>> ((nI 1).toUInt32 &&& Int32.toUInt32 31)).toInt32 &&& nI 1431655765)) &&& nI 858993459) + (((nI a - (((nI a).toUInt32 >>> ((nI 1).toUInt32 &&& Int32.toUInt32 31)).toInt32 &&& nI 1431655765)).toUInt32 >>> ((nI 2).toUInt32 &&& Int32.toUInt32 31)).toInt32 &&& nI 858993459)) + ((((nI a - (((nI a).toUInt32 >>> ((nI 1).toUInt32 &&& Int32.toUInt32 31)).toInt32 &&& nI 1431655765)) &&& nI 858993459) + (((nI a - (((nI a).toUInt32 >>> ((nI 1).toUInt32 &&& Int32.toUInt32 31)).toInt32 &&& nI 1431655765)).toUInt32 >>> ((nI 2).toUInt32 &&& Int32.toUInt32 31)).toInt32 &&& nI 858993459)).toUInt32 >>> ((nI 4).toUInt32 &&& Int32.toUInt32 31)).toInt32) &&& nI 252645135).toUInt32 >>> ((nI 8).toUInt32 &&& Int32.toUInt32 31)).toInt32).toUInt32 >>> ((nI 16).toUInt32 &&& Int32.toUInt32 31)).toInt32) &&& nI 63) = nI (pop a) := by decide +kernel
  rw [key a ha]
def ins (L : List Nat) (s : Nat) : List Nat := if s ∈ L then L else L ++ [s]
theorem mem_ins {L : List Nat} {s x : Nat} : x ∈ ins L s ↔ x ∈ L ∨ x = s := by
  unfold ins
  split
  · rename_i h
    exact ⟨Or.inl, fun q => q.elim id (fun e => e ▸ h)⟩
  · simp
def SetsL (M : mx_M) (q : Nat) (L : List Nat) : Prop := ∃ f, SetsAt M q L f
theorem SetsL.fr {M M' : mx_M} {q lo hi : Nat} {L : List Nat} (h : SetsL M q L) (hf : Fr M M' lo hi) (hd : q + 3 ≤ lo ∨ hi ≤ q) : SetsL M' q L := by
  obtain ⟨f, h⟩ := h
  exact ⟨f, h.fr hf hd⟩
theorem k_Sets_addL (G : mx_G) {M : mx_M} {q : Nat} {L : List Nat} (ho : mx_ocl LAY q = 6) (hA : SetsL M q L) {s n : Nat} (hs : s < 256) (hn : 0 < n) (hn2 : n < 2 ^ 31) : sOk G m_Sets_add [.ref q, .int (nI s), .int (nI n)] M (fun r M' => r = some (.int (tf (s ∉ L))) ∧ Fr M M' q (q + 3) ∧ SetsL M' q (ins L s) ∧ (s ∈ L → M' = M)) := by
  obtain ⟨f, hA⟩ := hA
  refine sOk_mono (k_Sets_add G ho hA hs hn hn2) ?_
  rintro r M' ⟨h1, h2, h3, h4⟩
  refine ⟨h1, h2, ?_, h3⟩
  unfold ins
  split
  · rename_i hm
    rw [h3 hm]
    exact ⟨f, hA⟩
  · rename_i hm
    exact ⟨_, h4 hm⟩
theorem k_Sets_clearL (G : mx_G) {M : mx_M} {q : Nat} {L : List Nat} (ho : mx_ocl LAY q = 6) (hA : SetsL M q L) : sOk G m_Sets_clear [.ref q] M (fun r M' => r = none ∧ Fr M M' q (q + 3) ∧ SetsL M' q []) := by
  obtain ⟨f, hA⟩ := hA
  refine sOk_mono (k_Sets_clear G ho hA) ?_
  rintro r M' ⟨h1, h2, h3⟩
  exact ⟨h1, h2, _, h3⟩
theorem k_Sides_clear (G : mx_G) {M : mx_M} {d : Nat} {L R : List Nat} (ho : mx_ocl LAY d = 7) (hL : SetsL M (d + 3) L) (hR : SetsL M (d + 6) R) : sOk G m_Sides_clear [.ref d] M (fun r M' => r = none ∧ Fr M M' (d + 3) (d + 9) ∧ SetsL M' (d + 3) [] ∧ SetsL M' (d + 6) []) := by
  refine sOk_of ⟨by decide +kernel, by decide +kernel, Nat.le_of_ble_eq_true rfl⟩ ?_
  show sW G m_Sides_clear 0 ([], [some (.ref d)], M) _
  refine sW_go b_Sides_clear_0 (st' := ([.ref (d + 3)], [some (.ref d)], M)) (φ := mx_ocl LAY d = 7 ∧ True) rfl ⟨ho, trivial⟩ ?_
  refine sW_callV 6 [] [] d_Sides_clear_4 c_Sides_clear_4 ⟨rfl, rfl, rfl, Nat.le_of_ble_eq_true rfl, rfl, rfl⟩ (oc_Sides_lefts ho) (k_Sets_clearL G (oc_Sides_lefts ho) hL) ?_
  rintro _ M2 ⟨rfl, g1, g2⟩
  have hR2 : SetsL M2 (d + 6) R := hR.fr g1 (by omega)
  show sW G m_Sides_clear 7 ([], [some (.ref d)], M2) _
  refine sW_go b_Sides_clear_7 (st' := ([.ref (d + 6)], [some (.ref d)], M2)) (φ := mx_ocl LAY d = 7 ∧ True) rfl ⟨ho, trivial⟩ ?_
  refine sW_callV 6 [] [] d_Sides_clear_11 c_Sides_clear_11 ⟨rfl, rfl, rfl, Nat.le_of_ble_eq_true rfl, rfl, rfl⟩ (oc_Sides_rights ho) (k_Sets_clearL G (oc_Sides_rights ho) hR2) ?_
  rintro _ M3 ⟨rfl, g3, g4⟩
  show sW G m_Sides_clear 14 ([], [some (.ref d)], M3) _
  refine sW_retV d_Sides_clear_14 rfl ?_
  exact ⟨rfl, (g1.mono (by omega) (by omega)).tr (g3.mono (by omega) (by omega)), g2.fr g3 (by omega), g4⟩
theorem k_Sides_see (G : mx_G) {M : mx_M} {d h t k x : Nat} {hs : Hs} {L R : List Nat} (ho : mx_ocl LAY d = 7) (hh : mx_ocl LAY h = 3) (hA : HsAt M h hs) (hw : HsOk hs) (ht : t < 6) (hx : x < 256) (hk : k < 256) (hL : SetsL M (d + 3) L) (hR : SetsL M (d + 6) R) (hdj : h + 4 ≤ d ∨ d + 9 ≤ h) :
    sOk G m_Sides_see [.ref d, .ref h, .int (nI t), .int (nI k), .int (nI x)] M (fun r M' => r = none ∧ Fr M M' (d + 1) (d + 9) ∧ M' (d + 1) = upd (M (d + 1)) k (nI (bsum (lftB hs t x) hs.1)) ∧ M' (d + 2) = upd (M (d + 2)) k (nI (bsum (rgtB hs t x) hs.1)) ∧ SetsL M' (d + 3) (ins L (bsum (lftB hs t x) hs.1)) ∧ SetsL M' (d + 6) (ins R (bsum (rgtB hs t x) hs.1))) := by
  have bl := bsum_lt8 (lftB_le hs t x) hw.1
  have br := bsum_lt8 (rgtB_le hs t x) hw.1
  generalize el : bsum (lftB hs t x) hs.1 = l at bl ⊢
  generalize er : bsum (rgtB hs t x) hs.1 = r at br ⊢
  have hL2 : SetsL (mx_wr (mx_wr M (d + 1) k (nI l)) (d + 2) k (nI r)) (d + 3) L := hL.fr ((Fr.rf.wr (lo := d + 1) (hi := d + 3) (by omega) (by omega)).wr (by omega) (by omega)) (by omega)
  have hR2 : SetsL (mx_wr (mx_wr M (d + 1) k (nI l)) (d + 2) k (nI r)) (d + 6) R := hR.fr ((Fr.rf.wr (lo := d + 1) (hi := d + 3) (by omega) (by omega)).wr (by omega) (by omega)) (by omega)
  have e3 : (mx_wr (mx_wr M (d + 1) k (nI l)) (d + 2) k (nI r)) (d + 1) k = nI l := by rw [mx_wr_n _ _ _ (by omega), mx_wr_s, pk_us]
  refine sOk_of ⟨by decide +kernel, by decide +kernel, Nat.le_of_ble_eq_true rfl⟩ ?_
  show sW G m_Sides_see 0 ([], [some (.ref d), some (.ref h), some (.int (nI t)), some (.int (nI k)), some (.int (nI x))], M) _
  refine sW_go b_Sides_see_0 (st' := ([.int (nI x), .int (nI t), .ref h, .int (nI k), .ref (d + 1)], [some (.ref d), some (.ref h), some (.int (nI t)), some (.int (nI k)), some (.int (nI x))], M)) (φ := mx_ocl LAY d = 7 ∧ True) rfl ⟨ho, trivial⟩ ?_
  refine sW_callV 3 [.int (nI t), .int (nI x)] [.int (nI k), .ref (d + 1)] d_Sides_see_9 c_Sides_see_9 ⟨rfl, rfl, rfl, Nat.le_of_ble_eq_true rfl, rfl, rfl⟩ hh (el ▸ k_House_withFirstIn G hh hA hw ht hx) ?_
  rintro _ M₁ ⟨rfl, h₁⟩
  rw [h₁]
  show sW G m_Sides_see 12 ([.int (nI l), .int (nI k), .ref (d + 1)], [some (.ref d), some (.ref h), some (.int (nI t)), some (.int (nI k)), some (.int (nI x))], M) _
  refine sW_go b_Sides_see_12 (st' := ([.int (nI x), .int (nI t), .ref h, .int (nI k), .ref (d + 2)], [some (.ref d), some (.ref h), some (.int (nI t)), some (.int (nI k)), some (.int (nI x))], mx_wr M (d + 1) (nI k).toNatClampNeg (nI l))) (φ := vp_in (nI k) (mx_len LAY false (d + 1)) ∧ mx_ocl LAY d = 7 ∧ True) rfl ⟨(by simp (disch := omega) only [(ln_Sides_leftOf ho)]; exact vp_in_nI (by omega) (by decide)), ho, trivial⟩ ?_
  refine sW_eq (st' := ([.int (nI x), .int (nI t), .ref h, .int (nI k), .ref (d + 2)], [some (.ref d), some (.ref h), some (.int (nI t)), some (.int (nI k)), some (.int (nI x))], mx_wr M (d + 1) k (nI l))) (by simp (disch := omega) only [nI_clamp]) ?_
  refine sW_callV 3 [.int (nI t), .int (nI x)] [.int (nI k), .ref (d + 2)] d_Sides_see_22 c_Sides_see_22 ⟨rfl, rfl, rfl, Nat.le_of_ble_eq_true rfl, rfl, rfl⟩ hh (er ▸ k_House_withSecondIn G hh (hA.fr (Fr.rf.wr (lo := d) (hi := d + 9) (by omega) (by omega)) (by omega)) hw ht hx) ?_
  rintro _ M₁ ⟨rfl, h₁⟩
  rw [h₁]
  show sW G m_Sides_see 25 ([.int (nI r), .int (nI k), .ref (d + 2)], [some (.ref d), some (.ref h), some (.int (nI t)), some (.int (nI k)), some (.int (nI x))], mx_wr M (d + 1) k (nI l)) _
  refine sW_go b_Sides_see_25 (st' := ([.int (nI 1), .int ((mx_wr (mx_wr M (d + 1) k (nI l)) (d + 2) (nI k).toNatClampNeg (nI r)) (d + 1) (nI k).toNatClampNeg), .ref (d + 3)], [some (.ref d), some (.ref h), some (.int (nI t)), some (.int (nI k)), some (.int (nI x))], mx_wr (mx_wr M (d + 1) k (nI l)) (d + 2) (nI k).toNatClampNeg (nI r))) (φ := vp_in (nI k) (mx_len LAY false (d + 2)) ∧ mx_ocl LAY d = 7 ∧ mx_ocl LAY d = 7 ∧ vp_in (nI k) (mx_len LAY false (d + 1)) ∧ True) rfl ⟨(by simp (disch := omega) only [(ln_Sides_rightOf ho)]; exact vp_in_nI (by omega) (by decide)), ho, ho, (by simp (disch := omega) only [(ln_Sides_leftOf ho)]; exact vp_in_nI (by omega) (by decide)), trivial⟩ ?_
  refine sW_eq (st' := ([.int (nI 1), .int (nI l), .ref (d + 3)], [some (.ref d), some (.ref h), some (.int (nI t)), some (.int (nI k)), some (.int (nI x))], mx_wr (mx_wr M (d + 1) k (nI l)) (d + 2) k (nI r))) (by simp (disch := omega) only [e3, nI_clamp]) ?_
  refine sW_callV 6 [.int (nI l), .int (nI 1)] [] d_Sides_see_37 c_Sides_see_37 ⟨rfl, rfl, rfl, Nat.le_of_ble_eq_true rfl, rfl, rfl⟩ (oc_Sides_lefts ho) (k_Sets_addL G (oc_Sides_lefts ho) hL2 bl (by decide) (by decide)) ?_
  rintro _ M4 ⟨rfl, g1, g2, _⟩
  have hR4 : SetsL M4 (d + 6) R := hR2.fr g1 (by omega)
  have e4 : M4 (d + 2) k = nI r := by rw [g1 (d + 2) (by omega), mx_wr_s, pk_us]
  show sW G m_Sides_see 40 ([.int (tf (l ∉ L))], [some (.ref d), some (.ref h), some (.int (nI t)), some (.int (nI k)), some (.int (nI x))], M4) _
  refine sW_go b_Sides_see_40 (st' := ([.int (nI 1), .int (M4 (d + 2) (nI k).toNatClampNeg), .ref (d + 6)], [some (.ref d), some (.ref h), some (.int (nI t)), some (.int (nI k)), some (.int (nI x))], M4)) (φ := mx_ocl LAY d = 7 ∧ mx_ocl LAY d = 7 ∧ vp_in (nI k) (mx_len LAY false (d + 2)) ∧ True) rfl ⟨ho, ho, (by simp (disch := omega) only [(ln_Sides_rightOf ho)]; exact vp_in_nI (by omega) (by decide)), trivial⟩ ?_
  refine sW_eq (st' := ([.int (nI 1), .int (nI r), .ref (d + 6)], [some (.ref d), some (.ref h), some (.int (nI t)), some (.int (nI k)), some (.int (nI x))], M4)) (by simp (disch := omega) only [e4, nI_clamp]) ?_
  refine sW_callV 6 [.int (nI r), .int (nI 1)] [] d_Sides_see_52 c_Sides_see_52 ⟨rfl, rfl, rfl, Nat.le_of_ble_eq_true rfl, rfl, rfl⟩ (oc_Sides_rights ho) (k_Sets_addL G (oc_Sides_rights ho) hR4 br (by decide) (by decide)) ?_
  rintro _ M5 ⟨rfl, g3, g4, _⟩
  show sW G m_Sides_see 55 ([.int (tf (r ∉ R))], [some (.ref d), some (.ref h), some (.int (nI t)), some (.int (nI k)), some (.int (nI x))], M5) _
  refine sW_go b_Sides_see_55 (st' := ([], [some (.ref d), some (.ref h), some (.int (nI t)), some (.int (nI k)), some (.int (nI x))], M5)) (φ := True) rfl trivial ?_
  refine sW_retV d_Sides_see_56 rfl ?_
  refine ⟨rfl, ?_, ?_, ?_, g2.fr g3 (by omega), g4⟩
  · exact ((Fr.rf.wr (by omega) (by omega)).wr (by omega) (by omega)).tr ((g1.mono (by omega) (by omega)).tr (g3.mono (by omega) (by omega)))
  · rw [g3 (d + 1) (by omega), g1 (d + 1) (by omega), mx_wr_n _ _ _ (by omega), mx_wr_s]
  · rw [g3 (d + 2) (by omega), g1 (d + 2) (by omega), mx_wr_s, mx_wr_n _ _ _ (by omega)]

