theorem sub_1 (k : Nat) : nI (k + 1) - nI 1 = nI k := by
  have h := pk_m1 k
  have e : (-1 : Int32) = - nI 1 := by decide
  rw [e, ← Int32.sub_eq_add_neg] at h
  exact h
def PlSh (M : mx_M) (p : Nat) : Prop := (∃ L, SetsL M (p + 3) L) ∧ (∃ L, SetsL M (p + 6) L) ∧ (∃ L, SetsL M (p + 9) L) ∧ ∃ L, SetsL M (p + 12) L
theorem PlSh.fr {M M' : mx_M} {p lo hi : Nat} (h : PlSh M p) (hf : Fr M M' lo hi) (hd : p + 15 ≤ lo ∨ hi ≤ p + 3) : PlSh M' p := by
  obtain ⟨⟨a, h1⟩, ⟨b, h2⟩, ⟨c, h3⟩, ⟨d, h4⟩⟩ := h
  exact ⟨⟨a, h1.fr hf (by omega)⟩, ⟨b, h2.fr hf (by omega)⟩, ⟨c, h3.fr hf (by omega)⟩, ⟨d, h4.fr hf (by omega)⟩⟩
/-- the counts of the first n heights stand; those of the others are 0 -/
def PlN (M : mx_M) (p : Nat) (hs : Hs) (n : Nat) : Prop := ∀ h, h < 4 → M (p + 2) h = nI (if h < n then PS hs (h + 1) (fun _ => 1) else 0) ∧ ∀ t, t < 8 → M (p + 1) (h * 8 + t) = nI (if h < n then PS hs (h + 1) (fun x => bt x t) else 0)
def PlainOK (M : mx_M) (p : Nat) (hs : Hs) : Prop := PlN M p hs 4 ∧ PlSh M p
theorem PlainOK.fr {M M' : mx_M} {p lo hi : Nat} {hs : Hs} (h : PlainOK M p hs) (hf : Fr M M' lo hi) (hd : p + 15 ≤ lo ∨ hi ≤ p) : PlainOK M' p hs := by
  refine ⟨fun k hk => ?_, h.2.fr hf (by omega)⟩
  rw [hf (p + 1) (by omega), hf (p + 2) (by omega)]
  exact h.1 k hk
theorem PlN.step {M M' : mx_M} {p n : Nat} {hs : Hs} (h : PlN M p hs n) (hn : n < 4) (hS : SumI M M' p n (PS hs (n + 1) (fun _ => 1)) (fun t => PS hs (n + 1) (fun x => bt x t))) : PlN M' p hs (n + 1) := by
  obtain ⟨_, h1, h2, h3, h4⟩ := hS
  intro k hk
  by_cases hx : k = n
  · subst hx
    refine ⟨?_, fun t ht => ?_⟩
    · rw [h1, if_pos (by omega)]
    · rw [h2 t ht, if_pos (by omega)]
  · obtain ⟨a, b⟩ := h k hk
    refine ⟨?_, fun t ht => ?_⟩
    · rw [h3 k hx, a]
      by_cases hlt : k < n
      · rw [if_pos hlt, if_pos (by omega)]
      · rw [if_neg hlt, if_neg (by omega)]
    · rw [h4 _ (by omega), b t ht]
      by_cases hlt : k < n
      · rw [if_pos hlt, if_pos (by omega)]
      · rw [if_neg hlt, if_neg (by omega)]
theorem ls_range (g : Nat → Nat) (n : Nat) : ls g (List.range (n + 1)) = ls g (List.range n) + g n := by
  rw [List.range_succ, ls_app]
  show _ + (g n + 0) = _
  omega
theorem k_plmeasure (G : mx_G) {M : mx_M} {p h : Nat} {hs : Hs} (ho : mx_ocl LAY p = 4) (hh : mx_ocl LAY h = 3) (hd : h + 4 ≤ p ∨ p + 15 ≤ h) (hH : HsAt M h hs) (hw : HsOk hs) (hS : PlSh M p) :
  sOk G m_Plain_measure [.ref p, .ref h] M (fun r M' => r = none ∧ Fr M M' p (p + 15) ∧ PlainOK M' p hs) := by
  have w1 := hw.1
  have w2 := hw.2.1
  obtain ⟨⟨LA, hA⟩, ⟨LB, hB⟩, ⟨LC, hC⟩, ⟨LD, hD⟩⟩ := hS
  refine sOk_of ⟨by decide +kernel, by decide +kernel, Nat.le_of_ble_eq_true rfl⟩ ?_
  show sW G m_Plain_measure 0 ([], [some (.ref p), some (.ref h), none, none, none], M) _
  refine sW_go b_Plain_measure_0 (st' := ([.int (nI 0), .ref (p + 1)], [some (.ref p), some (.ref h), none, none, none], M)) (φ := mx_ocl LAY p = 4 ∧ True) rfl ⟨ho, trivial⟩ ?_
  refine sW_callS [.ref (p + 1), .int (nI 0)] [] d_Plain_measure_5 c_Plain_measure_5 ⟨rfl, rfl, Nat.le_of_ble_eq_true rfl, rfl, rfl⟩ (k_fill G (ln_Plain_ofType ho) (by decide) (by decide) (nI 0)) ?_
  rintro _ M1 ⟨rfl, a1, e1⟩
  show sW G m_Plain_measure 8 ([], [some (.ref p), some (.ref h), none, none, none], M1) _
  refine sW_go b_Plain_measure_8 (st' := ([.int (nI 0), .ref (p + 2)], [some (.ref p), some (.ref h), none, none, none], M1)) (φ := mx_ocl LAY p = 4 ∧ True) rfl ⟨ho, trivial⟩ ?_
  refine sW_callS [.ref (p + 2), .int (nI 0)] [] d_Plain_measure_13 c_Plain_measure_13 ⟨rfl, rfl, Nat.le_of_ble_eq_true rfl, rfl, rfl⟩ (k_fill G (ln_Plain_total ho) (by decide) (by decide) (nI 0)) ?_
  rintro _ M2 ⟨rfl, a2, e2⟩
  have f2 : Fr M M2 p (p + 3) := (a1.mono (by omega) (by omega)).tr (a2.mono (by omega) (by omega))
  show sW G m_Plain_measure 16 ([], [some (.ref p), some (.ref h), none, none, none], M2) _
  refine sW_go b_Plain_measure_16 (st' := ([.ref (p + 3)], [some (.ref p), some (.ref h), none, none, none], M2)) (φ := mx_ocl LAY p = 4 ∧ True) rfl ⟨ho, trivial⟩ ?_
  refine sW_callV 6 [] [] d_Plain_measure_20 c_Plain_measure_20 ⟨rfl, rfl, rfl, Nat.le_of_ble_eq_true rfl, rfl, rfl⟩ (oc_Plain_byCell ho) (k_clearI G (oc_Plain_byCell ho) (hA.fr f2 (by omega))) ?_
  rintro _ M3 ⟨rfl, a3, e3⟩
  have f3 : Fr M M3 p (p + 6) := (f2.mono (by omega) (by omega)).tr (a3.mono (by omega) (by omega))
  show sW G m_Plain_measure 23 ([], [some (.ref p), some (.ref h), none, none, none], M3) _
  refine sW_go b_Plain_measure_23 (st' := ([], [some (.ref p), some (.ref h), some (.int (nI 0)), none, none], M3)) (φ := True) rfl trivial ?_
  have n3 : PlN M3 p hs 0 := fun k hk => by
    refine ⟨?_, fun t ht => ?_⟩
    · rw [a3 _ (by omega), e2 k hk, if_neg (Nat.not_lt_zero k)]
    · rw [a3 _ (by omega), a2 _ (by omega), e1 _ (by omega), if_neg (Nat.not_lt_zero k)]
  refine mx_ind (α := Nat × mx_M) (fun q => 4 - q.1) (fun q => q.1 ≤ 4 → Fr M q.2 p (p + 15) → PlN q.2 p hs q.1 → (∃ L f, SetsAt q.2 (p + 3) L f ∧ ∀ φ, Iw f φ = PS hs q.1 φ) → (∃ L, SetsL q.2 (p + 6) L) → (∃ L, SetsL q.2 (p + 9) L) → (∃ L, SetsL q.2 (p + 12) L) → sW G m_Plain_measure 25 ([], [some (.ref p), some (.ref h), some (.int (nI q.1)), none, none], q.2) _) ?_ (0, M3) (Nat.zero_le _) (f3.mono (by omega) (by omega)) n3 ⟨_, _, e3, fun φ => Iw_0 φ⟩ ⟨_, hB.fr f3 (by omega)⟩ ⟨_, hC.fr f3 (by omega)⟩ ⟨_, hD.fr f3 (by omega)⟩
  rintro ⟨n, M4⟩ ih hn f4 n4 ⟨L4, g4, s4, w4⟩ ⟨LB4, hB4⟩ ⟨LC4, hC4⟩ ⟨LD4, hD4⟩
  dsimp only at ih hn f4 n4 s4 w4 hB4 hC4 hD4 ⊢
  by_cases hnn : n < 4
  · have hH4 := hH.fr f4 (by omega)
    have hm4 : Iw g4 (fun _ => 1) ≤ 404 := by rw [w4]; exact Nat.le_trans (PS_le hw n (fun _ => Nat.le_refl 1)) (PSb_mono (by omega))
    refine sW_go b_Plain_measure_25 (st' := ([.int (nI 4), .int (nI n)], [some (.ref p), some (.ref h), some (.int (nI n)), none, none], M4)) (φ := True) rfl trivial ?_
    refine sW_ic_ge 135 d_Plain_measure_27 (by decide) (fun c_27 => ?_) (fun c_27 => ?_)
    · skip
      simp (disch := omega) only [nI_leI] at c_27
      refine sW_retV d_Plain_measure_135 rfl ?_
      omega
    · skip
      simp (disch := omega) only [nI_leI] at c_27
      refine sW_go b_Plain_measure_30 (st' := ([.ref h, .ref p], [some (.ref p), some (.ref h), some (.int (nI n)), none, none], M4)) (φ := True) rfl trivial ?_
      refine sW_callV 4 [.ref h] [] d_Plain_measure_32 c_Plain_measure_32 ⟨rfl, rfl, rfl, Nat.le_of_ble_eq_true rfl, rfl, rfl⟩ ho (k_pairUp G ho hh hd hH4 hw s4 hB4 hC4 hD4 hm4) ?_
      rintro _ M5 ⟨rfl, a5, ⟨LB5, hB5⟩, ⟨LC5, hC5⟩, LP5, fp5, s5, w5⟩
      show sW G m_Plain_measure 35 ([], [some (.ref p), some (.ref h), some (.int (nI n)), none, none], M5) _
      refine sW_go b_Plain_measure_35 (st' := ([.ref (p + 3)], [some (.ref p), some (.ref h), some (.int (nI n)), none, none], M5)) (φ := mx_ocl LAY p = 4 ∧ True) rfl ⟨ho, trivial⟩ ?_
      refine sW_callV 6 [] [] d_Plain_measure_39 c_Plain_measure_39 ⟨rfl, rfl, rfl, Nat.le_of_ble_eq_true rfl, rfl, rfl⟩ (oc_Plain_byCell ho) (k_clearI G (oc_Plain_byCell ho) ⟨_, s4.fr a5 (by omega)⟩) ?_
      rintro _ M6 ⟨rfl, a6, s6⟩
      show sW G m_Plain_measure 42 ([], [some (.ref p), some (.ref h), some (.int (nI n)), none, none], M6) _
      refine sW_go b_Plain_measure_42 (st' := ([], [some (.ref p), some (.ref h), some (.int (nI n)), some (.int (nI 0)), none], M6)) (φ := True) rfl trivial ?_
      have hH6 := (hH4.fr a5 (by omega)).fr a6 (by omega)
      have hB6 := hB5.fr a6 (by omega)
      have hC6 := hC5.fr a6 (by omega)
      have t6 := s5.fr a6 (by omega)
      have f6 : Fr M4 M6 (p + 3) (p + 15) := (a5.mono (by omega) (by omega)).tr (a6.mono (by omega) (by omega))
      refine mx_ind (α := Nat × mx_M) (fun q => hs.2.1 - q.1) (fun q => q.1 ≤ hs.2.1 → Fr M6 q.2 (p + 3) (p + 6) → (∃ L f, SetsAt q.2 (p + 3) L f ∧ ∀ φ, Iw f φ = ls (fun i => φ (constCell hs i)) (List.range q.1)) → sW G m_Plain_measure 44 ([], [some (.ref p), some (.ref h), some (.int (nI n)), some (.int (nI q.1)), none], q.2) _) ?_ (0, M6) (Nat.zero_le _) Fr.rf ⟨_, _, s6, fun φ => Iw_0 φ⟩
      rintro ⟨c, M7⟩ ihc hc f7 ⟨L7, g7, s7, v7⟩
      dsimp only at ihc hc f7 s7 v7 ⊢
      have hH7 := hH6.fr f7 (by omega)
      have z0 : M7 h 4 = nI hs.2.1 := hH7.2.1
      by_cases hcn : c < hs.2.1
      · have x1 : Iw g7 (fun _ => 1) + 1 < 2 ^ 31 := by
          rw [v7]
          have h2 : ∀ l : List Nat, ls (fun _ => 1) l = l.length := fun l => by
            induction l with
            | nil => rfl
            | cons a l ih => show 1 + ls _ l = l.length + 1; rw [ih]; omega
          rw [h2, List.length_range]
          omega
        refine sW_go b_Plain_measure_44 (st' := ([.int (M7 h 4), .int (nI c)], [some (.ref p), some (.ref h), some (.int (nI n)), some (.int (nI c)), none], M7)) (φ := mx_ocl LAY h = 3 ∧ True) rfl ⟨hh, trivial⟩ ?_
        refine sW_eq (st' := ([.int (nI hs.2.1), .int (nI c)], [some (.ref p), some (.ref h), some (.int (nI n)), some (.int (nI c)), none], M7)) (by simp (disch := omega) only [z0]) ?_
        refine sW_ic_ge 71 d_Plain_measure_49 (by decide) (fun c_49 => ?_) (fun c_49 => ?_)
        · skip
          simp (disch := omega) only [nI_leI] at c_49
          omega
        · skip
          simp (disch := omega) only [nI_leI] at c_49
          refine sW_go b_Plain_measure_52 (st' := ([.int (nI c), .ref h, .ref (p + 3)], [some (.ref p), some (.ref h), some (.int (nI n)), some (.int (nI c)), none], M7)) (φ := mx_ocl LAY p = 4 ∧ True) rfl ⟨ho, trivial⟩ ?_
          refine sW_callV 3 [.int (nI c)] [.ref (p + 3)] d_Plain_measure_58 c_Plain_measure_58 ⟨rfl, rfl, rfl, Nat.le_of_ble_eq_true rfl, rfl, rfl⟩ hh (k_House_cellOfConstant G hh hH7 hw (by omega)) ?_
          rintro _ M₁ ⟨rfl, h₁⟩
          rw [h₁]
          show sW G m_Plain_measure 61 ([.int (nI (constCell hs c)), .ref (p + 3)], [some (.ref p), some (.ref h), some (.int (nI n)), some (.int (nI c)), none], M7) _
          refine sW_go b_Plain_measure_61 (st' := ([.int (nI 1), .int (nI (constCell hs c)), .ref (p + 3)], [some (.ref p), some (.ref h), some (.int (nI n)), some (.int (nI c)), none], M7)) (φ := True) rfl trivial ?_
          refine sW_callV 6 [.int (nI (constCell hs c)), .int (nI 1)] [] d_Plain_measure_62 c_Plain_measure_62 ⟨rfl, rfl, rfl, Nat.le_of_ble_eq_true rfl, rfl, rfl⟩ (oc_Plain_byCell ho) (k_raiseI G (oc_Plain_byCell ho) s7 (constCell_lt hw c) (by decide) x1) ?_
          rintro _ M8 ⟨rfl, a8, L8, g8, s8, v8⟩
          show sW G m_Plain_measure 65 ([], [some (.ref p), some (.ref h), some (.int (nI n)), some (.int (nI c)), none], M8) _
          refine sW_go b_Plain_measure_65 (st' := ([], [some (.ref p), some (.ref h), some (.int (nI n)), some (.int (nI c + nI 1)), none], M8)) (φ := True) rfl trivial ?_
          refine sW_eq (st' := ([], [some (.ref p), some (.ref h), some (.int (nI n)), some (.int (nI (c + 1))), none], M8)) (by simp (disch := omega) only [nI_add]) ?_
          refine sW_goto 44 d_Plain_measure_68 (by decide) ?_
          refine ihc (c + 1, M8) (by dsimp only; omega) (by dsimp only; omega) (f7.tr a8) ⟨L8, g8, s8, fun φ => ?_⟩
          dsimp only
          rw [v8, v7, ls_range, Nat.one_mul]
      · have hce : c = hs.2.1 := by omega
        subst hce
        have t7 := t6.fr f7 (by omega)
        have lP := t7.len
        refine sW_go b_Plain_measure_44 (st' := ([.int (M7 h 4), .int (nI hs.2.1)], [some (.ref p), some (.ref h), some (.int (nI n)), some (.int (nI hs.2.1)), none], M7)) (φ := mx_ocl LAY h = 3 ∧ True) rfl ⟨hh, trivial⟩ ?_
        refine sW_eq (st' := ([.int (nI hs.2.1), .int (nI hs.2.1)], [some (.ref p), some (.ref h), some (.int (nI n)), some (.int (nI hs.2.1)), none], M7)) (by simp (disch := omega) only [z0]) ?_
        refine sW_ic_ge 71 d_Plain_measure_49 (by decide) (fun c_49 => ?_) (fun c_49 => ?_)
        · skip
          simp (disch := omega) only [nI_leI] at c_49
          refine sW_go b_Plain_measure_71 (st' := ([], [some (.ref p), some (.ref h), some (.int (nI n)), some (.int (nI 0)), none], M7)) (φ := True) rfl trivial ?_
          refine mx_ind (α := Nat × mx_M) (fun q => LP5.length - q.1) (fun q => q.1 ≤ LP5.length → Fr M7 q.2 (p + 3) (p + 6) → (∃ L f, SetsAt q.2 (p + 3) L f ∧ ∀ φ, Iw f φ = ls (fun i => φ (constCell hs i)) (List.range hs.2.1) + ls (fun t => fp5 t * φ (cellOf hs t)) (LP5.take q.1)) → sW G m_Plain_measure 73 ([], [some (.ref p), some (.ref h), some (.int (nI n)), some (.int (nI q.1)), none], q.2) _) ?_ (0, M7) (Nat.zero_le _) Fr.rf ⟨_, _, s7, fun φ => v7 φ⟩
          rintro ⟨k, M8⟩ ihk hk f8 ⟨L8, g8, s8, v8⟩
          dsimp only at ihk hk f8 s8 v8 ⊢
          have hH8 := hH7.fr f8 (by omega)
          have t8 := t7.fr f8 (by omega)
          have y0 : M8 (p + 12) 2 = nI LP5.length := t8.1
          have key : ∀ φ, ls (fun i => φ (constCell hs i)) (List.range hs.2.1) + ls (fun t => fp5 t * φ (cellOf hs t)) LP5 = PS hs (n + 1) φ := fun φ => by
            show _ = _ + _
            rw [← Iw_list t8 (fun t => φ (cellOf hs t)), w5]
            have e : (fun x => Iw g4 (fun y => φ (cellOf hs (L1 hs x &&& R1 hs y)))) = (fun x => PS hs n (fun y => φ (pairC hs x y))) := funext (fun x => w4 _)
            show _ + Iw g4 (fun x => Iw g4 (fun y => φ (cellOf hs (L1 hs x &&& R1 hs y)))) = _
            rw [e, w4]
          by_cases hkn : k < LP5.length
          · have y1 : M8 (p + 13) k = nI (LP5.getD k 0) := t8.2.2.2.1 k hkn
            have y2 := (t8.lt hkn).1
            have y3 := (t8.lt hkn).2
            have y4 : fp5 (LP5.getD k 0) ≠ 0 := (t8.2.2.2.2.2 _ y2).mpr y3
            have y5 := (t8.2.2.2.2.1 _ y2)
            have hst := fun φ : Nat → Nat => ls_take (fun t => fp5 t * φ (cellOf hs t)) hkn
            have hst1 := ls_take_le (fun t => fp5 t * 1) LP5 (k + 1)
            rw [ls_take _ hkn] at hst1
            have kb := key (fun _ => 1)
            dsimp only at kb
            have kb2 := Nat.le_trans (PS_le hw (n + 1) (fun _ => Nat.le_refl 1)) (PSb_4 (h := n + 1) (by omega))
            generalize hg : LP5.getD k 0 = a at y1 y2 y3 y4 y5 hst hst1
            generalize hfa : fp5 a = fa at y4 y5 hst hst1
            have y6 : M8 (p + 14) a = nI fa := y5.1
            have x1 : Iw g8 (fun _ => 1) + fa < 2 ^ 31 := by rw [v8]; omega
            have y7 : ∀ M9 : mx_M, Fr M8 M9 (p + 3) (p + 6) → M9 (p + 14) a = nI fa := fun M9 hf => by rw [hf _ (by omega)]; exact y6
            refine sW_go b_Plain_measure_73 (st' := ([.int (M8 (p + 12) 2), .int (nI k)], [some (.ref p), some (.ref h), some (.int (nI n)), some (.int (nI k)), none], M8)) (φ := mx_ocl LAY p = 4 ∧ mx_ocl LAY (p + 12) = 6 ∧ True) rfl ⟨ho, (oc_Plain_byPair ho), trivial⟩ ?_
            refine sW_eq (st' := ([.int (nI LP5.length), .int (nI k)], [some (.ref p), some (.ref h), some (.int (nI n)), some (.int (nI k)), none], M8)) (by simp (disch := omega) only [y0]) ?_
            refine sW_ic_ge 124 d_Plain_measure_81 (by decide) (fun c_81 => ?_) (fun c_81 => ?_)
            · skip
              simp (disch := omega) only [nI_leI] at c_81
              omega
            · skip
              simp (disch := omega) only [nI_leI] at c_81
              refine sW_go b_Plain_measure_84 (st' := ([.int (M8 (p + 13) (nI k).toNatClampNeg), .ref h, .ref (p + 3)], [some (.ref p), some (.ref h), some (.int (nI n)), some (.int (nI k)), some (.int (M8 (p + 13) (nI k).toNatClampNeg))], M8)) (φ := mx_ocl LAY p = 4 ∧ mx_ocl LAY (p + 12) = 6 ∧ vp_in (nI k) (mx_len LAY false (p + 13)) ∧ mx_ocl LAY p = 4 ∧ True) rfl ⟨ho, (oc_Plain_byPair ho), (by simp (disch := omega) only [(ln_Sets_at (oc_Plain_byPair ho))]; exact vp_in_nI (by omega) (by decide)), ho, trivial⟩ ?_
              refine sW_eq (st' := ([.int (nI a), .ref h, .ref (p + 3)], [some (.ref p), some (.ref h), some (.int (nI n)), some (.int (nI k)), some (.int (nI a))], M8)) (by simp (disch := omega) only [nI_clamp, y1]) ?_
              refine sW_callV 3 [.int (nI a)] [.ref (p + 3)] d_Plain_measure_102 c_Plain_measure_102 ⟨rfl, rfl, rfl, Nat.le_of_ble_eq_true rfl, rfl, rfl⟩ hh (k_House_cellOf G hh hH8 hw y2) ?_
              rintro _ M₁ ⟨rfl, h₁⟩
              rw [h₁]
              show sW G m_Plain_measure 105 ([.int (nI (cellOf hs a)), .ref (p + 3)], [some (.ref p), some (.ref h), some (.int (nI n)), some (.int (nI k)), some (.int (nI a))], M8) _
              refine sW_go b_Plain_measure_105 (st' := ([.int (M8 (p + 14) (nI a).toNatClampNeg), .int (nI (cellOf hs a)), .ref (p + 3)], [some (.ref p), some (.ref h), some (.int (nI n)), some (.int (nI k)), some (.int (nI a))], M8)) (φ := mx_ocl LAY p = 4 ∧ mx_ocl LAY (p + 12) = 6 ∧ vp_in (nI a) (mx_len LAY false (p + 14)) ∧ True) rfl ⟨ho, (oc_Plain_byPair ho), (by simp (disch := omega) only [(ln_Sets_number (oc_Plain_byPair ho))]; exact vp_in_nI (by omega) (by decide)), trivial⟩ ?_
              refine sW_eq (st' := ([.int (nI fa), .int (nI (cellOf hs a)), .ref (p + 3)], [some (.ref p), some (.ref h), some (.int (nI n)), some (.int (nI k)), some (.int (nI a))], M8)) (by simp (disch := omega) only [nI_clamp, y6]) ?_
              refine sW_callV 6 [.int (nI (cellOf hs a)), .int (nI fa)] [] d_Plain_measure_115 c_Plain_measure_115 ⟨rfl, rfl, rfl, Nat.le_of_ble_eq_true rfl, rfl, rfl⟩ (oc_Plain_byCell ho) (k_raiseI G (oc_Plain_byCell ho) s8 (cellOf_lt hw y2) (by omega) x1) ?_
              rintro _ M9 ⟨rfl, a9, L9, g9, s9, v9⟩
              show sW G m_Plain_measure 118 ([], [some (.ref p), some (.ref h), some (.int (nI n)), some (.int (nI k)), some (.int (nI a))], M9) _
              refine sW_go b_Plain_measure_118 (st' := ([], [some (.ref p), some (.ref h), some (.int (nI n)), some (.int (nI k + nI 1)), some (.int (nI a))], M9)) (φ := True) rfl trivial ?_
              refine sW_eq (st' := ([], [some (.ref p), some (.ref h), some (.int (nI n)), some (.int (nI (k + 1))), some (.int (nI a))], M9)) (by simp (disch := omega) only [nI_add]) ?_
              refine sW_goto 73 d_Plain_measure_121 (by decide) ?_
              refine sW_fg [false, false, false, false, true] ?_
              show sW G m_Plain_measure 73 ([], [some (.ref p), some (.ref h), some (.int (nI n)), some (.int (nI (k + 1))), none], M9) _
              refine ihk (k + 1, M9) (by dsimp only; omega) (by dsimp only; omega) (f8.tr a9) ⟨L9, g9, s9, fun φ => ?_⟩
              dsimp only
              rw [v9, v8, hst]
              omega
          · have hke : k = LP5.length := by omega
            subst hke
            rw [List.take_length] at v8
            have f48 : Fr M4 M8 (p + 3) (p + 15) := (f6.tr (f7.mono (by omega) (by omega))).tr (f8.mono (by omega) (by omega))
            have n8 : PlN M8 p hs n := fun j hj => by rw [f48 (p + 1) (by omega), f48 (p + 2) (by omega)]; exact n4 j hj
            have vv : ∀ φ, Iw g8 φ = PS hs (n + 1) φ := fun φ => (v8 φ).trans (key φ)
            have x1 : Iw g8 (fun _ => 1) ≤ 163220 := by rw [vv]; exact Nat.le_trans (PS_le hw (n + 1) (fun _ => Nat.le_refl 1)) (PSb_4 (by omega))
            have q1 : M8 (p + 2) n = nI 0 := by rw [(n8 n hnn).1, if_neg (Nat.lt_irrefl n)]
            have q2 : ∀ t, t < 8 → M8 (p + 1) (n * 8 + t) = nI 0 := fun t ht => by rw [(n8 n hnn).2 t ht, if_neg (Nat.lt_irrefl n)]
            have hB8 := (hB6.fr f7 (by omega)).fr f8 (by omega)
            have hC8 := (hC6.fr f7 (by omega)).fr f8 (by omega)
            refine sW_go b_Plain_measure_73 (st' := ([.int (M8 (p + 12) 2), .int (nI LP5.length)], [some (.ref p), some (.ref h), some (.int (nI n)), some (.int (nI LP5.length)), none], M8)) (φ := mx_ocl LAY p = 4 ∧ mx_ocl LAY (p + 12) = 6 ∧ True) rfl ⟨ho, (oc_Plain_byPair ho), trivial⟩ ?_
            refine sW_eq (st' := ([.int (nI LP5.length), .int (nI LP5.length)], [some (.ref p), some (.ref h), some (.int (nI n)), some (.int (nI LP5.length)), none], M8)) (by simp (disch := omega) only [y0]) ?_
            refine sW_ic_ge 124 d_Plain_measure_81 (by decide) (fun c_81 => ?_) (fun c_81 => ?_)
            · skip
              simp (disch := omega) only [nI_leI] at c_81
              refine sW_go b_Plain_measure_124 (st' := ([.int (nI n), .ref p], [some (.ref p), some (.ref h), some (.int (nI n)), some (.int (nI LP5.length)), none], M8)) (φ := True) rfl trivial ?_
              refine sW_callV 4 [.int (nI n)] [] d_Plain_measure_126 c_Plain_measure_126 ⟨rfl, rfl, rfl, Nat.le_of_ble_eq_true rfl, rfl, rfl⟩ ho (k_sumUp G ho hnn s8 q1 q2 x1) ?_
              rintro _ M9 ⟨rfl, s9⟩
              show sW G m_Plain_measure 129 ([], [some (.ref p), some (.ref h), some (.int (nI n)), some (.int (nI LP5.length)), none], M9) _
              refine sW_go b_Plain_measure_129 (st' := ([], [some (.ref p), some (.ref h), some (.int (nI n + nI 1)), some (.int (nI LP5.length)), none], M9)) (φ := True) rfl trivial ?_
              refine sW_eq (st' := ([], [some (.ref p), some (.ref h), some (.int (nI (n + 1))), some (.int (nI LP5.length)), none], M9)) (by simp (disch := omega) only [nI_add]) ?_
              refine sW_goto 25 d_Plain_measure_132 (by decide) ?_
              refine sW_fg [false, false, false, true, false] ?_
              show sW G m_Plain_measure 25 ([], [some (.ref p), some (.ref h), some (.int (nI (n + 1))), none, none], M9) _
              have f9 := s9.1
              refine ih (n + 1, M9) (by dsimp only; omega) (by dsimp only; omega) ((f4.tr (f48.mono (by omega) (by omega))).tr (f9.mono (by omega) (by omega))) ?_ ⟨L8, g8, s8.fr f9 (by omega), vv⟩ ⟨_, hB8.fr f9 (by omega)⟩ ⟨_, hC8.fr f9 (by omega)⟩ ⟨_, _, t8.fr f9 (by omega)⟩
              refine n8.step hnn ?_
              have e1 := vv (fun _ => 1)
              have e2 : (fun t => Iw g8 (fun x => bt x t)) = fun t => PS hs (n + 1) (fun x => bt x t) := funext (fun t => vv _)
              rw [e1, e2] at s9
              exact s9
            · skip
              simp (disch := omega) only [nI_leI] at c_81
              exact absurd c_81 (by omega)
        · skip
          simp (disch := omega) only [nI_leI] at c_49
          exact absurd c_49 (by omega)
  · have hne : n = 4 := by omega
    subst hne
    refine sW_go b_Plain_measure_25 (st' := ([.int (nI 4), .int (nI 4)], [some (.ref p), some (.ref h), some (.int (nI 4)), none, none], M4)) (φ := True) rfl trivial ?_
    refine sW_ic_ge 135 d_Plain_measure_27 (by decide) (fun c_27 => ?_) (fun c_27 => ?_)
    · skip
      simp (disch := omega) only [nI_leI] at c_27
      refine sW_retV d_Plain_measure_135 rfl ?_
      exact ⟨rfl, f4, n4, ⟨_, _, s4⟩, ⟨_, hB4⟩, ⟨_, hC4⟩, ⟨_, hD4⟩⟩
    · skip
      simp (disch := omega) only [nI_leI] at c_27
      exact absurd c_27 (by decide)
theorem k_howMany (G : mx_G) {M : mx_M} {p t h : Nat} {hs : Hs} (ho : mx_ocl LAY p = 4) (hP : PlainOK M p hs) (ht : t < 8) (h1 : 1 ≤ h) (h4 : h ≤ 4) : sOk G m_Plain_howMany [.ref p, .int (nI t), .int (nI h)] M (fun r M' => r = some (.int (nI (PS hs h (fun x => bt x t)))) ∧ M' = M) := by
  obtain ⟨k, rfl⟩ : ∃ k, h = k + 1 := ⟨h - 1, by omega⟩
  have e := (hP.1 k (by omega)).2 t ht
  rw [if_pos (by omega)] at e
  have e0 : nI (k + 1) - nI 1 = nI k := sub_1 k
  refine sOk_of ⟨by decide +kernel, by decide +kernel, Nat.le_of_ble_eq_true rfl⟩ ?_
  show sW G m_Plain_howMany 0 ([], [some (.ref p), some (.int (nI t)), some (.int (nI (k + 1)))], M) _
  refine sW_go b_Plain_howMany_0 (st' := ([.int (M (p + 1) (((nI (k + 1) - nI 1) * nI 8) + nI t).toNatClampNeg)], [some (.ref p), some (.int (nI t)), some (.int (nI (k + 1)))], M)) (φ := mx_ocl LAY p = 4 ∧ vp_in (((nI (k + 1) - nI 1) * nI 8) + nI t) (mx_len LAY false (p + 1)) ∧ True) rfl ⟨ho, (by simp (disch := omega) only [e0, nI_add, pk_mul, (ln_Plain_ofType ho)]; exact vp_in_nI (by omega) (by decide)), trivial⟩ ?_
  refine sW_eq (st' := ([.int (nI (PS hs (k + 1) (fun x => bt x t)))], [some (.ref p), some (.int (nI t)), some (.int (nI (k + 1)))], M)) (by simp (disch := omega) only [e, e0, nI_add, nI_clamp, pk_mul]) ?_
  refine sW_retI d_Plain_howMany_13 rfl (vp_nar_int _) ?_
  exact ⟨rfl, rfl⟩
theorem k_ofAny (G : mx_G) {M : mx_M} {p h : Nat} {hs : Hs} (ho : mx_ocl LAY p = 4) (hP : PlainOK M p hs) (h1 : 1 ≤ h) (h4 : h ≤ 4) : sOk G m_Plain_ofAny [.ref p, .int (nI h)] M (fun r M' => r = some (.int (nI (PS hs h (fun _ => 1)))) ∧ M' = M) := by
  obtain ⟨k, rfl⟩ : ∃ k, h = k + 1 := ⟨h - 1, by omega⟩
  have e := (hP.1 k (by omega)).1
  rw [if_pos (by omega)] at e
  have e0 : nI (k + 1) - nI 1 = nI k := sub_1 k
  refine sOk_of ⟨by decide +kernel, by decide +kernel, Nat.le_of_ble_eq_true rfl⟩ ?_
  show sW G m_Plain_ofAny 0 ([], [some (.ref p), some (.int (nI (k + 1)))], M) _
  refine sW_go b_Plain_ofAny_0 (st' := ([.int (M (p + 2) (nI (k + 1) - nI 1).toNatClampNeg)], [some (.ref p), some (.int (nI (k + 1)))], M)) (φ := mx_ocl LAY p = 4 ∧ vp_in (nI (k + 1) - nI 1) (mx_len LAY false (p + 2)) ∧ True) rfl ⟨ho, (by simp (disch := omega) only [e0, (ln_Plain_total ho)]; exact vp_in_nI (by omega) (by decide)), trivial⟩ ?_
  refine sW_eq (st' := ([.int (nI (PS hs (k + 1) (fun _ => 1)))], [some (.ref p), some (.int (nI (k + 1)))], M)) (by simp (disch := omega) only [e, e0, nI_clamp]) ?_
  refine sW_retI d_Plain_ofAny_8 rfl (vp_nar_int _) ?_
  exact ⟨rfl, rfl⟩

