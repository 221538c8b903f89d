/-- the lists of a Cells object, whatever they hold -/
def CellsSh (M : mx_M) (c : Nat) : Prop := ∃ F f PL PR QL QR PS MS, SetsAt M (c + 5) F f ∧ SetsL M (c + 11) PL ∧ SetsL M (c + 14) PR ∧ SetsL M (c + 20) QL ∧ SetsL M (c + 23) QR ∧ SetsL M (c + 26) PS ∧ SetsL M (c + 29) MS
theorem CxM.sh {M : mx_M} {c : Nat} {hs : Hs} {X : Cx} (h : CxM M c hs X) : CellsSh M c := by
  obtain ⟨m0, m1, m2, m3, m4, m5, m6, m7, m8, m9, m10, m11, m12, m13, m14⟩ := h
  exact ⟨_, _, _, _, _, _, _, _, m6, m7, m8, m9, m10, m11, m12⟩
theorem CellsSh.fr {M M' : mx_M} {c lo hi : Nat} (h : CellsSh M c) (hf : Fr M M' lo hi) (hd : c + 37 ≤ lo ∨ hi ≤ c) : CellsSh M' c := by
  obtain ⟨F, f, PL, PR, QL, QR, PS, MS, m6, m7, m8, m9, m10, m11, m12⟩ := h
  exact ⟨F, f, PL, PR, QL, QR, PS, MS, m6.fr hf (by omega), m7.fr hf (by omega), m8.fr hf (by omega), m9.fr hf (by omega), m10.fr hf (by omega), m11.fr hf (by omega), m12.fr hf (by omega)⟩
def xConst (hs : Hs) (X : Cx) (i : Nat) : Cx := (xAdd X (constCell hs i) 1, X.2.1, X.2.2.1, cPS X, cMS X, (cwc X ||| constCell hs i, cwp X, cwf X))
theorem xConst_I {hs : Hs} {X : Cx} {i : Nat} (hw : HsOk hs) (hI : CxI hs i X) : CxI hs (i + 1) (xConst hs X i) := by
  obtain ⟨h1, ⟨h2, h3⟩, h4, h5⟩ := hI
  refine ⟨fun s => ?_, ⟨or256 h2 (constCell_lt hw i), fun k => ?_⟩, h4, h5⟩
  · show s ∈ (xAdd X (constCell hs i) 1).1 ↔ _
    rw [xAdd_mem, h1 s]
    constructor
    · rintro ((⟨j, a, b⟩ | a) | a)
      · exact Or.inl ⟨j, by omega, b⟩
      · exact Or.inr a
      · exact Or.inl ⟨i, by omega, a⟩
    · rintro (⟨j, a, b⟩ | a)
      · rcases Nat.lt_or_ge j i with w | w
        · exact Or.inl (Or.inl ⟨j, w, b⟩)
        · obtain rfl : j = i := by omega
          exact Or.inr b
      · exact Or.inl (Or.inr a)
  · show bt (cwc X ||| constCell hs i) k = 1 ↔ _
    rw [bt_or, h3 k]
    constructor
    · rintro (⟨j, a, b⟩ | a)
      · exact ⟨j, by omega, b⟩
      · exact ⟨i, by omega, a⟩
    · rintro ⟨j, a, b⟩
      rcases Nat.lt_or_ge j i with w | w
      · exact Or.inl ⟨j, w, b⟩
      · obtain rfl : j = i := by omega
        exact Or.inr b
abbrev x0 : Cx := (([], fun _ => 0), ([], []), ([], []), [], [], (0, 0, 0))
theorem x0_I (hs : Hs) : CxI hs 0 x0 := by
  refine ⟨fun s => ?_, ⟨by decide, fun k => ?_⟩, ⟨by decide, fun k => ?_⟩, ⟨by decide, fun k => ?_⟩⟩
  · show s ∈ ([] : List Nat) ↔ _ ∨ (∃ t, t ∈ ([] : List Nat) ∧ _) ∨ ∃ v, v ∈ ([] : List Nat) ∧ _
    simp
  · show bt 0 k = 1 ↔ _
    simp [bt]
  · show bt 0 k = 1 ↔ ∃ t, t ∈ ([] : List Nat) ∧ _
    simp [bt]
  · show bt 0 k = 1 ↔ ∃ t, t ∈ ([] : List Nat) ∧ _
    simp [bt]
/-- what holds while the constants come -/
def BegI (M M' : mx_M) (c o : Nat) (hs : Hs) (k : Nat) (X : Cx) : Prop := Fr M M' c (c + 37) ∧ CxM M' c hs X ∧ CxI hs k X ∧ X.2.1 = ([], []) ∧ X.2.2.1 = ([], []) ∧ cPS X = [] ∧ cMS X = [] ∧ ∀ s, s ∈ cF X → cf X s = 1
theorem CxM.const {M M' : mx_M} {c i : Nat} {hs : Hs} {X : Cx} (hM : CxM M c hs X) (h1 : ∀ a, a ≠ c → (a < c + 5 ∨ c + 8 ≤ a) → M' a = M a) (h2 : M' c = upd (M c) 3 (nI (cwc X ||| constCell hs i))) (h3 : SetsAt M' (c + 5) (xAdd X (constCell hs i) 1).1 (xAdd X (constCell hs i) 1).2) : CxM M' c hs (xConst hs X i) := by
  obtain ⟨m0, m1, m2, m3, m4, m5, m6, m7, m8, m9, m10, m11, m12, m13, m14⟩ := hM
  refine ⟨?_, ?_, ?_, ?_, ?_, ?_, h3, ?_, ?_, ?_, ?_, ?_, ?_, fun t ht => ?_, fun t ht => ?_⟩
  · unfold HsAt
    rw [h1 (c + 1) (by omega) (by omega), h1 (c + 1 + 1) (by omega) (by omega), h1 (c + 1 + 2) (by omega) (by omega), h1 (c + 1 + 3) (by omega) (by omega)]
    exact m0
  · rw [h2, pk_un (by decide)]; exact m1
  · rw [h2, pk_un (by decide)]; exact m2
  · rw [h2, pk_us]; rfl
  · rw [h2, pk_un (by decide)]; exact m4
  · rw [h2, pk_un (by decide)]; exact m5
  · exact m7.eq (h1 _ (by omega) (by omega)) (h1 _ (by omega) (by omega)) (h1 _ (by omega) (by omega))
  · exact m8.eq (h1 _ (by omega) (by omega)) (h1 _ (by omega) (by omega)) (h1 _ (by omega) (by omega))
  · exact m9.eq (h1 _ (by omega) (by omega)) (h1 _ (by omega) (by omega)) (h1 _ (by omega) (by omega))
  · exact m10.eq (h1 _ (by omega) (by omega)) (h1 _ (by omega) (by omega)) (h1 _ (by omega) (by omega))
  · exact m11.eq (h1 _ (by omega) (by omega)) (h1 _ (by omega) (by omega)) (h1 _ (by omega) (by omega))
  · exact m12.eq (h1 _ (by omega) (by omega)) (h1 _ (by omega) (by omega)) (h1 _ (by omega) (by omega))
  · rw [h1 _ (by omega) (by omega)]; exact m13 t ht
  · rw [h1 _ (by omega) (by omega)]; exact m14 t ht
theorem k_begin77 (G : mx_G) {M : mx_M} {c o : Nat} {hs : Hs} (ho : mx_ocl LAY c = 2) (hq : mx_ocl LAY o = 3) (hd : o + 4 ≤ c ∨ c + 37 ≤ o) (hA : HsAt M o hs) (hw : HsOk hs) :
    ∀ q : Nat × mx_M × Cx, q.1 ≤ hs.2.1 → BegI M q.2.1 c o hs q.1 q.2.2 → sW G m_Cells_begin 77 ([], [some (.ref c), some (.ref o), some (.int (nI q.1)), none], q.2.1) (fun r M' => r = none ∧ Fr M M' c (c + 37) ∧ ∃ X, CxM M' c hs X ∧ CxI hs hs.2.1 X ∧ X.2.1 = ([], []) ∧ cQL X = [] ∧ cQR X = [0] ∧ cPS X = [] ∧ cMS X = [0] ∧ ∀ s, s ∈ cF X → cf X s = 1) := by
  obtain ⟨w1, w2, w3⟩ := id hw
  refine mx_ind (α := Nat × mx_M × Cx) (fun q => hs.2.1 - q.1) _ ?_
  rintro ⟨k, M2, X⟩ ih hk hB
  dsimp only at ih hk hB ⊢
  obtain ⟨b1, b2, b3, b4, b5, b6, b7, b8⟩ := id hB
  have n0 : HsAt M2 o hs := hA.fr b1 (by omega)
  have e4 : M2 o 4 = nI hs.2.1 := n0.2.1
  by_cases hkn : k < hs.2.1
  · have c3 : M2 c 3 = nI (cwc X) := b2.2.2.2.1
    have hlt := constCell_lt hw k
    have n6 : SetsAt (mx_wr M2 c 3 (nI (cwc X ||| constCell hs k))) (c + 5) (cF X) (cf X) := b2.2.2.2.2.2.2.1.fr (Fr.rf.wr (lo := c) (hi := c + 1) (by omega) (by omega)) (by omega)
    refine sW_go b_Cells_begin_77 (st' := ([.int (M2 o 4), .int (nI k)], [some (.ref c), some (.ref o), some (.int (nI k)), none], M2)) (φ := mx_ocl LAY o = 3 ∧ True) rfl ⟨hq, trivial⟩ ?_
    refine sW_eq (st' := ([.int (nI hs.2.1), .int (nI k)], [some (.ref c), some (.ref o), some (.int (nI k)), none], M2)) (by simp (disch := omega) only [e4]) ?_
    refine sW_ic_ge 117 d_Cells_begin_82 (by decide) (fun c_82 => ?_) (fun c_82 => ?_)
    · skip
      simp (disch := omega) only [nI_leI] at c_82
      omega
    · skip
      simp (disch := omega) only [nI_leI] at c_82
      refine sW_go b_Cells_begin_85 (st' := ([.int (nI k), .ref o], [some (.ref c), some (.ref o), some (.int (nI k)), none], M2)) (φ := True) rfl trivial ?_
      refine sW_callV 3 [.int (nI k)] [] d_Cells_begin_87 c_Cells_begin_87 ⟨rfl, rfl, rfl, Nat.le_of_ble_eq_true rfl, rfl, rfl⟩ hq (k_House_cellOfConstant G hq n0 hw (by omega)) ?_
      rintro _ M₁ ⟨rfl, h₁⟩
      rw [h₁]
      show sW G m_Cells_begin 90 ([.int (nI (constCell hs k))], [some (.ref c), some (.ref o), some (.int (nI k)), none], M2) _
      refine sW_go b_Cells_begin_90 (st' := ([.int (nI 1), .int (nI (constCell hs k)), .ref (c + 5)], [some (.ref c), some (.ref o), some (.int (nI k)), some (.int (nI (constCell hs k)))], mx_wr M2 c 3 (M2 c 3 ||| nI (constCell hs k)))) (φ := mx_ocl LAY c = 2 ∧ mx_ocl LAY c = 2 ∧ mx_ocl LAY c = 2 ∧ True) rfl ⟨ho, ho, ho, trivial⟩ ?_
      refine sW_eq (st' := ([.int (nI 1), .int (nI (constCell hs k)), .ref (c + 5)], [some (.ref c), some (.ref o), some (.int (nI k)), some (.int (nI (constCell hs k)))], mx_wr M2 c 3 (nI (cwc X ||| constCell hs k)))) (by simp (disch := omega) only [c3, nx_or]) ?_
      refine sW_callV 6 [.int (nI (constCell hs k)), .int (nI 1)] [] d_Cells_begin_107 c_Cells_begin_107 ⟨rfl, rfl, rfl, Nat.le_of_ble_eq_true rfl, rfl, rfl⟩ (oc_Cells_found ho) (k_Sets_add G (oc_Cells_found ho) n6 hlt (by decide) (by decide)) ?_
      rintro _ M4 ⟨rfl, g4, g5, g6⟩
      show sW G m_Cells_begin 110 ([.int (tf (constCell hs k ∉ cF X))], [some (.ref c), some (.ref o), some (.int (nI k)), some (.int (nI (constCell hs k)))], M4) _
      refine sW_go b_Cells_begin_110 (st' := ([], [some (.ref c), some (.ref o), some (.int (nI k + nI 1)), some (.int (nI (constCell hs k)))], M4)) (φ := True) rfl trivial ?_
      refine sW_eq (st' := ([], [some (.ref c), some (.ref o), some (.int (nI (k + 1))), some (.int (nI (constCell hs k)))], M4)) (by simp (disch := omega) only [nI_add]) ?_
      refine sW_goto 77 d_Cells_begin_114 (by decide) ?_
      refine sW_fg [false, false, false, true] ?_
      show sW G m_Cells_begin 77 ([], [some (.ref c), some (.ref o), some (.int (nI (k + 1))), none], M4) _
      have hx := SetsAt.xadd g5 g6 n6
      have hc1 : M4 c = upd (M2 c) 3 (nI (cwc X ||| constCell hs k)) := by rw [g4 c (by omega), mx_wr_s]
      have hc2 : ∀ a, a ≠ c → (a < c + 5 ∨ c + 8 ≤ a) → M4 a = M2 a := fun a h1 h2 => by rw [g4 a (by omega), mx_wr_n _ _ _ h1]
      refine ih (k + 1, M4, xConst hs X k) (by dsimp only; omega) (by dsimp only; omega) ⟨b1.tr ((Fr.rf.wr (by omega) (by omega)).tr (g4.mono (by omega) (by omega))), b2.const hc2 hc1 hx, xConst_I hw b3, b4, b5, b6, b7, fun s hs' => ?_⟩
      have hs2 : s ∈ (xAdd X (constCell hs k) 1).1 := hs'
      by_cases hm : s ∈ cF X
      · exact (xAdd_ext.2.1 s hm).trans (b8 s hm)
      · exact xAdd_ext.2.2 s hs2 hm
  · have hke : k = hs.2.1 := by omega
    subst hke
    refine sW_go b_Cells_begin_77 (st' := ([.int (M2 o 4), .int (nI hs.2.1)], [some (.ref c), some (.ref o), some (.int (nI hs.2.1)), none], M2)) (φ := mx_ocl LAY o = 3 ∧ True) rfl ⟨hq, trivial⟩ ?_
    refine sW_eq (st' := ([.int (nI hs.2.1), .int (nI hs.2.1)], [some (.ref c), some (.ref o), some (.int (nI hs.2.1)), none], M2)) (by simp (disch := omega) only [e4]) ?_
    refine sW_ic_ge 117 d_Cells_begin_82 (by decide) (fun c_82 => ?_) (fun c_82 => ?_)
    · skip
      simp (disch := omega) only [nI_leI] at c_82
      refine sW_go b_Cells_begin_117 (st' := ([.int (nI 1), .int (nI 0), .ref c], [some (.ref c), some (.ref o), some (.int (nI hs.2.1)), none], M2)) (φ := True) rfl trivial ?_
      refine sW_callV 2 [.int (nI 0), .int (nI 1)] [] d_Cells_begin_120 c_Cells_begin_120 ⟨rfl, rfl, rfl, Nat.le_of_ble_eq_true rfl, rfl, rfl⟩ ho (k_addFunction G ho hw b2 b3 (by decide) (by decide) (by decide)) ?_
      rintro _ M3 ⟨rfl, g1, g2, Y, g3, g4, g5, g6, g7⟩
      have y1 : cQR Y = [] := by show Y.2.2.1.2 = []; rw [g5.2.1, b5]
      have y2 : SetsL M3 (c + 23) [] := by rw [← y1]; exact g3.2.2.2.2.2.2.2.2.2.2.1
      show sW G m_Cells_begin 123 ([], [some (.ref c), some (.ref o), some (.int (nI hs.2.1)), none], M3) _
      refine sW_go b_Cells_begin_123 (st' := ([.int (nI 1), .int (nI 0), .ref (c + 23)], [some (.ref c), some (.ref o), some (.int (nI hs.2.1)), none], M3)) (φ := mx_ocl LAY c = 2 ∧ mx_ocl LAY (c + 17) = 7 ∧ True) rfl ⟨ho, (oc_Cells_ofCases ho), trivial⟩ ?_
      refine sW_callV 6 [.int (nI 0), .int (nI 1)] [] d_Cells_begin_132 c_Cells_begin_132 ⟨rfl, rfl, rfl, Nat.le_of_ble_eq_true rfl, rfl, rfl⟩ (oc_Sides_rights (oc_Cells_ofCases ho)) (k_Sets_addL G (oc_Sides_rights (oc_Cells_ofCases ho)) y2 (by decide) (by decide) (by decide)) ?_
      rintro _ M4 ⟨rfl, g8, g9, _⟩
      show sW G m_Cells_begin 135 ([.int (tf (0 ∉ ([] : List Nat)))], [some (.ref c), some (.ref o), some (.int (nI hs.2.1)), none], M4) _
      refine sW_go b_Cells_begin_135 (st' := ([], [some (.ref c), some (.ref o), some (.int (nI hs.2.1)), none], M4)) (φ := True) rfl trivial ?_
      refine sW_retV d_Cells_begin_136 rfl ?_
      obtain ⟨m0, m1, m2, m3, m4, m5, m6, m7, m8, m9, m10, m11, m12, m13, m14⟩ := id g3
      have hms : cMS Y = [0] := by
        obtain ⟨l, el⟩ := g5.2.2.2.2.1
        rw [b7] at el
        obtain ⟨ff, hff⟩ := m12
        have hn := hff.2.1
        have h0 : ∀ u, u ∈ cMS Y ↔ u = 0 := fun u => by rw [g6 u, b7]; simp
        match hl : cMS Y, h0, hn with
        | [], h0, _ => exact absurd ((h0 0).mpr rfl) (by simp)
        | [a], h0, _ => rw [(h0 a).mp (by simp)]
        | a :: b :: t, h0, hn =>
          have e1 := (h0 a).mp (by simp)
          have e2 := (h0 b).mp (by simp)
          subst e1
          subst e2
          simp at hn
      refine ⟨rfl, b1.tr (g1.tr (g8.mono (by omega) (by omega))), (Y.1, Y.2.1, (cQL Y, [0]), Y.2.2.2), ⟨m0.fr g8 (by omega), ?_, ?_, ?_, ?_, ?_, m6.fr g8 (by omega), m7.fr g8 (by omega), m8.fr g8 (by omega), m9.fr g8 (by omega), g9, m11.fr g8 (by omega), m12.fr g8 (by omega), fun t ht => ?_, fun t ht => ?_⟩, g4, g5.1.trans b4, ?_, rfl, g7.trans b6, hms, fun s hs' => ?_⟩
      · rw [g8 c (by omega)]; exact m1
      · rw [g8 c (by omega)]; exact m2
      · rw [g8 c (by omega)]; exact m3
      · rw [g8 c (by omega)]; exact m4
      · rw [g8 c (by omega)]; exact m5
      · rw [g8 _ (by omega)]; exact m13 t ht
      · rw [g8 _ (by omega)]; exact m14 t ht
      · show Y.2.2.1.1 = []
        rw [g5.2.1, b5]
      · have hs2 : s ∈ cF Y := hs'
        by_cases hm : s ∈ cF X
        · exact (g5.2.2.2.2.2.1 s hm).trans (b8 s hm)
        · exact g5.2.2.2.2.2.2 s hs2 hm
    · skip
      simp (disch := omega) only [nI_leI] at c_82
      exact absurd c_82 (by omega)
theorem k_begin (G : mx_G) {M : mx_M} {c o : Nat} {hs : Hs} (ho : mx_ocl LAY c = 2) (hq : mx_ocl LAY o = 3) (hd : o + 4 ≤ c ∨ c + 37 ≤ o) (hA : HsAt M o hs) (hw : HsOk hs) (hS : CellsSh M c) :
    sOk G m_Cells_begin [.ref c, .ref o] M (fun r M' => r = none ∧ Fr M M' c (c + 37) ∧ ∃ X, CxM M' c hs X ∧ CxI hs hs.2.1 X ∧ X.2.1 = ([], []) ∧ cQL X = [] ∧ cQR X = [0] ∧ cPS X = [] ∧ cMS X = [0] ∧ ∀ s, s ∈ cF X → cf X s = 1) := by
  obtain ⟨F, f, PL, PR, QL, QR, PS, MS, s6, s7, s8, s9, s10, s11, s12⟩ := hS
  obtain ⟨e3, e4, eK⟩ := id hA
  obtain ⟨w1, w2, w3⟩ := id hw
  refine sOk_of ⟨by decide +kernel, by decide +kernel, Nat.le_of_ble_eq_true rfl⟩ ?_
  show sW G m_Cells_begin 0 ([], [some (.ref c), some (.ref o), none, none], M) _
  refine sW_go b_Cells_begin_0 (st' := ([.ref o, .ref (c + 1)], [some (.ref c), some (.ref o), none, none], M)) (φ := mx_ocl LAY c = 2 ∧ True) rfl ⟨ho, trivial⟩ ?_
  refine sW_callV 3 [.ref o] [] d_Cells_begin_5 c_Cells_begin_5 ⟨rfl, rfl, rfl, Nat.le_of_ble_eq_true rfl, rfl, rfl⟩ (oc_Cells_house ho) (k_House_takeFrom G (oc_Cells_house ho) hq (by omega)) ?_
  rintro _ M1 ⟨rfl, a1, a2, a3, a4⟩
  have n0 : HsAt M1 o hs := hA.fr a1 (by omega)
  have b0 : Fr M M1 c (c + 5) := a1.mono (by omega) (by omega)
  show sW G m_Cells_begin 8 ([], [some (.ref c), some (.ref o), none, none], M1) _
  refine sW_go b_Cells_begin_8 (st' := ([.ref o, .ref c], [some (.ref c), some (.ref o), none, none], M1)) (φ := True) rfl trivial ?_
  refine sW_callV 3 [] [.ref c] d_Cells_begin_10 c_Cells_begin_10 ⟨rfl, rfl, rfl, Nat.le_of_ble_eq_true rfl, rfl, rfl⟩ hq (k_House_all G hq n0.1 w1) ?_
  rintro _ M₁ ⟨rfl, h₁⟩
  rw [h₁]
  show sW G m_Cells_begin 13 ([.int (nI (2 ^ hs.1 - 1)), .ref c], [some (.ref c), some (.ref o), none, none], M1) _
  refine sW_go b_Cells_begin_13 (st' := ([.int (nI 2), .ref o, .ref c], [some (.ref c), some (.ref o), none, none], mx_wr M1 c 1 (nI (2 ^ hs.1 - 1)))) (φ := mx_ocl LAY c = 2 ∧ True) rfl ⟨ho, trivial⟩ ?_
  refine sW_callV 3 [.int (nI 2)] [.ref c] d_Cells_begin_19 c_Cells_begin_19 ⟨rfl, rfl, rfl, Nat.le_of_ble_eq_true rfl, rfl, rfl⟩ hq (k_House_ofSort G hq (n0.fr (Fr.rf.wr (lo := c) (hi := c + 37) (by omega) (by omega)) (by omega)) hw (by decide)) ?_
  rintro _ M₁ ⟨rfl, h₁⟩
  rw [h₁]
  show sW G m_Cells_begin 22 ([.int (nI (bsum (sortB hs 2) hs.1)), .ref c], [some (.ref c), some (.ref o), none, none], mx_wr M1 c 1 (nI (2 ^ hs.1 - 1))) _
  generalize hv1 : nI (2 ^ hs.1 - 1) = v1
  generalize hv2 : nI (bsum (sortB hs 2) hs.1) = v2
  have b1 : Fr M (mx_wr (mx_wr (mx_wr (mx_wr (mx_wr M1 c 1 v1) c 2 v2) c 3 (nI 0)) c 4 (nI 0)) c 5 (nI 0)) c (c + 5) := ((((b0.wr (by omega) (by omega)).wr (by omega) (by omega)).wr (by omega) (by omega)).wr (by omega) (by omega)).wr (by omega) (by omega)
  have ec : (mx_wr (mx_wr (mx_wr (mx_wr (mx_wr M1 c 1 v1) c 2 v2) c 3 (nI 0)) c 4 (nI 0)) c 5 (nI 0)) c = upd (upd (upd (upd (upd (M1 c) 1 v1) 2 v2) 3 (nI 0)) 4 (nI 0)) 5 (nI 0) := by simp only [mx_wr_s]
  have en : ∀ a, a ≠ c → (mx_wr (mx_wr (mx_wr (mx_wr (mx_wr M1 c 1 v1) c 2 v2) c 3 (nI 0)) c 4 (nI 0)) c 5 (nI 0)) a = M1 a := fun a ha => by simp only [mx_wr_n _ _ _ ha]
  generalize hM2 : (mx_wr (mx_wr (mx_wr (mx_wr (mx_wr M1 c 1 v1) c 2 v2) c 3 (nI 0)) c 4 (nI 0)) c 5 (nI 0)) = M2 at b1 ec en
  refine sW_go b_Cells_begin_22 (st' := ([.ref (c + 5)], [some (.ref c), some (.ref o), none, none], mx_wr (mx_wr (mx_wr (mx_wr (mx_wr M1 c 1 v1) c 2 v2) c 3 (nI 0)) c 4 (nI 0)) c 5 (nI 0))) (φ := mx_ocl LAY c = 2 ∧ mx_ocl LAY c = 2 ∧ mx_ocl LAY c = 2 ∧ mx_ocl LAY c = 2 ∧ mx_ocl LAY c = 2 ∧ True) rfl ⟨ho, ho, ho, ho, ho, trivial⟩ ?_
  refine sW_eq (st' := ([.ref (c + 5)], [some (.ref c), some (.ref o), none, none], M2)) (by simp (disch := omega) only [hM2]) ?_
  refine sW_callV 6 [] [] d_Cells_begin_44 c_Cells_begin_44 ⟨rfl, rfl, rfl, Nat.le_of_ble_eq_true rfl, rfl, rfl⟩ (oc_Cells_found ho) (k_Sets_clear G (oc_Cells_found ho) (s6.fr b1 (by omega))) ?_
  rintro _ M3 ⟨rfl, g1, h1⟩
  have b2 : Fr M M3 c (c + 8) := (b1.mono (by omega) (by omega)).tr (g1.mono (by omega) (by omega))
  show sW G m_Cells_begin 47 ([], [some (.ref c), some (.ref o), none, none], M3) _
  refine sW_go b_Cells_begin_47 (st' := ([.ref (c + 8)], [some (.ref c), some (.ref o), none, none], M3)) (φ := mx_ocl LAY c = 2 ∧ True) rfl ⟨ho, trivial⟩ ?_
  refine sW_callV 7 [] [] d_Cells_begin_51 c_Cells_begin_51 ⟨rfl, rfl, rfl, Nat.le_of_ble_eq_true rfl, rfl, rfl⟩ (oc_Cells_ofPairs ho) (k_Sides_clear G (oc_Cells_ofPairs ho) (s7.fr b2 (by omega)) (s8.fr b2 (by omega))) ?_
  rintro _ M4 ⟨rfl, g2, h2, h3⟩
  have b3 : Fr M M4 c (c + 17) := (b2.mono (by omega) (by omega)).tr (g2.mono (by omega) (by omega))
  show sW G m_Cells_begin 54 ([], [some (.ref c), some (.ref o), none, none], M4) _
  refine sW_go b_Cells_begin_54 (st' := ([.ref (c + 17)], [some (.ref c), some (.ref o), none, none], M4)) (φ := mx_ocl LAY c = 2 ∧ True) rfl ⟨ho, trivial⟩ ?_
  refine sW_callV 7 [] [] d_Cells_begin_58 c_Cells_begin_58 ⟨rfl, rfl, rfl, Nat.le_of_ble_eq_true rfl, rfl, rfl⟩ (oc_Cells_ofCases ho) (k_Sides_clear G (oc_Cells_ofCases ho) (s9.fr b3 (by omega)) (s10.fr b3 (by omega))) ?_
  rintro _ M5 ⟨rfl, g3, h4, h5⟩
  have b4 : Fr M M5 c (c + 26) := (b3.mono (by omega) (by omega)).tr (g3.mono (by omega) (by omega))
  show sW G m_Cells_begin 61 ([], [some (.ref c), some (.ref o), none, none], M5) _
  refine sW_go b_Cells_begin_61 (st' := ([.ref (c + 26)], [some (.ref c), some (.ref o), none, none], M5)) (φ := mx_ocl LAY c = 2 ∧ True) rfl ⟨ho, trivial⟩ ?_
  refine sW_callV 6 [] [] d_Cells_begin_65 c_Cells_begin_65 ⟨rfl, rfl, rfl, Nat.le_of_ble_eq_true rfl, rfl, rfl⟩ (oc_Cells_pairSets ho) (k_Sets_clearL G (oc_Cells_pairSets ho) (s11.fr b4 (by omega))) ?_
  rintro _ M6 ⟨rfl, g4, h6⟩
  have b5 : Fr M M6 c (c + 29) := (b4.mono (by omega) (by omega)).tr (g4.mono (by omega) (by omega))
  show sW G m_Cells_begin 68 ([], [some (.ref c), some (.ref o), none, none], M6) _
  refine sW_go b_Cells_begin_68 (st' := ([.ref (c + 29)], [some (.ref c), some (.ref o), none, none], M6)) (φ := mx_ocl LAY c = 2 ∧ True) rfl ⟨ho, trivial⟩ ?_
  refine sW_callV 6 [] [] d_Cells_begin_72 c_Cells_begin_72 ⟨rfl, rfl, rfl, Nat.le_of_ble_eq_true rfl, rfl, rfl⟩ (oc_Cells_missed ho) (k_Sets_clearL G (oc_Cells_missed ho) (s12.fr b5 (by omega))) ?_
  rintro _ M7 ⟨rfl, g5, h7⟩
  have b6 : Fr M M7 c (c + 37) := (b5.mono (by omega) (by omega)).tr (g5.mono (by omega) (by omega))
  show sW G m_Cells_begin 75 ([], [some (.ref c), some (.ref o), none, none], M7) _
  refine sW_go b_Cells_begin_75 (st' := ([], [some (.ref c), some (.ref o), some (.int (nI 0)), none], M7)) (φ := True) rfl trivial ?_
  have q1 : ∀ a, a < c + 5 → M7 a = M2 a := fun a ha => by rw [g5 a (by omega), g4 a (by omega), g3 a (by omega), g2 a (by omega), g1 a (by omega)]
  have qA : HsAt M7 (c + 1) hs := by
    refine ⟨?_, ?_, fun k hk => ?_⟩
    · rw [q1 _ (by omega), en _ (by omega), a2]; exact e3
    · rw [q1 _ (by omega), en _ (by omega), a3]; exact e4
    · rw [q1 _ (by omega), q1 _ (by omega), q1 _ (by omega), en _ (by omega), en _ (by omega), en _ (by omega)]
      have := a4 k (by omega)
      have h9 := eK k hk
      exact ⟨this.1.trans h9.1, this.2.1.trans h9.2.1, this.2.2.trans h9.2.2⟩
  have r1 : SetsAt M7 (c + 5) [] (fun _ => 0) := SetsAt.fr (SetsAt.fr (SetsAt.fr (SetsAt.fr h1 g2 (by omega)) g3 (by omega)) g4 (by omega)) g5 (by omega)
  have r2 : SetsL M7 (c + 11) [] := SetsL.fr (SetsL.fr (SetsL.fr h2 g3 (by omega)) g4 (by omega)) g5 (by omega)
  have r3 : SetsL M7 (c + 14) [] := SetsL.fr (SetsL.fr (SetsL.fr h3 g3 (by omega)) g4 (by omega)) g5 (by omega)
  have r4 : SetsL M7 (c + 20) [] := SetsL.fr (SetsL.fr h4 g4 (by omega)) g5 (by omega)
  have r5 : SetsL M7 (c + 23) [] := SetsL.fr (SetsL.fr h5 g4 (by omega)) g5 (by omega)
  have r6 : SetsL M7 (c + 26) [] := SetsL.fr h6 g5 (by omega)
  have f1 : M7 c 1 = nI (2 ^ hs.1 - 1) := by rw [q1 _ (by omega), ec, hv1]; rfl
  have f2 : M7 c 2 = nI (bsum (sortB hs 2) hs.1) := by rw [q1 _ (by omega), ec, hv2]; rfl
  have f3 : M7 c 3 = nI 0 := by rw [q1 _ (by omega), ec]; rfl
  have f4 : M7 c 4 = nI 0 := by rw [q1 _ (by omega), ec]; rfl
  have f5 : M7 c 5 = nI 0 := by rw [q1 _ (by omega), ec]; rfl
  have B0 : BegI M M7 c o hs 0 x0 := ⟨b6, ⟨qA, f1, f2, f3, f4, f5, r1, r2, r3, r4, r5, r6, h7, fun t (ht : t ∈ ([] : List Nat)) => absurd ht List.not_mem_nil, fun t (ht : t ∈ ([] : List Nat)) => absurd ht List.not_mem_nil⟩, x0_I hs, rfl, rfl, rfl, rfl, fun s (hs : s ∈ ([] : List Nat)) => absurd hs List.not_mem_nil⟩
  exact k_begin77 G ho hq hd hA hw (0, M7, x0) (Nat.zero_le _) B0

