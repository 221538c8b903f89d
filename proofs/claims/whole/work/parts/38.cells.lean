theorem Mes_begin {M : mx_M} {c : Nat} {hs : Hs} {X : Cx} (h1 : CxM M c hs X) (h2 : CxI hs hs.2.1 X) (h3 : X.2.1 = ([], [])) (h4 : cQL X = []) (h5 : cQR X = [0]) (h6 : cPS X = []) (h7 : cMS X = [0]) (h8 : ∀ s, s ∈ cF X → cf X s = 1) : MesI M c hs 0 0 X := by
  have e1 : cPL X = [] := by show X.2.1.1 = []; rw [h3]
  have e2 : cPR X = [] := by show X.2.1.2 = []; rw [h3]
  have hP : CxP hs (Kx hs 0) X := by
    refine ⟨fun u => ?_, fun v => ?_⟩
    · rw [h6]
      exact ⟨fun q => absurd q List.not_mem_nil, fun ⟨x, y, a, _⟩ => a.elim⟩
    · rw [h7]
      constructor
      · intro q
        rw [List.mem_singleton.mp q]
        exact Jn_0
      · rintro ⟨l, a, b⟩
        cases l with
        | nil => rw [b]; exact List.mem_singleton.mpr rfl
        | cons t l =>
          obtain ⟨x, p, _⟩ := a t List.mem_cons_self
          exact p.elim
  have hF := CxF h2 hP
  refine ⟨Nat.le_refl _, Nat.zero_le _, h1, h2, ⟨fun u => ?_, fun u => ?_, fun u => ?_, fun u => ?_⟩, hP, ⟨fun s hs' => ?_, fun i j hij hj => ?_⟩, fun s => ?_, fun k hk => absurd hk (Nat.not_lt_zero k)⟩
  · rw [e1]; exact ⟨fun q => absurd q List.not_mem_nil, fun ⟨s, a, _⟩ => a.elim⟩
  · rw [e2]; exact ⟨fun q => absurd q List.not_mem_nil, fun ⟨s, a, _⟩ => a.elim⟩
  · rw [h4]; exact ⟨fun q => absurd q List.not_mem_nil, fun ⟨s, a, _⟩ => a.elim⟩
  · rw [h5]; exact ⟨fun q => Or.inl (List.mem_singleton.mp q), fun q => q.elim (fun e => List.mem_singleton.mpr e) (fun ⟨s, a, _⟩ => a.elim)⟩
  · rw [h8 s hs']
    refine ⟨(hF s).mp hs', fun j hj => ?_⟩
    obtain rfl : j = 0 := by omega
    exact fun q => q.elim
  · rw [h8 _ (getD_mem (by omega)), h8 _ (getD_mem hj)]
    exact Nat.le_refl _
  · rw [List.take_zero]
    exact ⟨fun q => absurd q List.not_mem_nil, fun a => a.elim⟩
/-- what the first i cells say of a type: all types of each value of it; of some -/
def supP (F : List Nat) (n k : Nat) : Nat → Nat
  | 0 => 2 ^ n - 1
  | i + 1 => if bt (F.getD i 0) k = 0 then supP F n k i else supP F n k i &&& F.getD i 0
def meetP (F : List Nat) (k : Nat) : Nat → Nat
  | 0 => 0
  | i + 1 => if bt (F.getD i 0) k = 0 then meetP F k i else meetP F k i ||| F.getD i 0
theorem supP_lt (F : List Nat) {n : Nat} (hn : n ≤ 8) (k : Nat) : ∀ i, supP F n k i < 256
  | 0 => by
    have : 2 ^ n ≤ 2 ^ 8 := Nat.pow_le_pow_right (by decide) hn
    show 2 ^ n - 1 < 256
    omega
  | i + 1 => by
    show (if _ then _ else _) < 256
    split
    · exact supP_lt F hn k i
    · exact Nat.lt_of_le_of_lt Nat.and_le_left (supP_lt F hn k i)
theorem meetP_lt {F : List Nat} (hF : ∀ s, s ∈ F → s < 256) (k : Nat) : ∀ i, i ≤ F.length → meetP F k i < 256
  | 0, _ => show (0 : Nat) < 256 by decide
  | i + 1, h => by
    show (if _ then _ else _) < 256
    split
    · exact meetP_lt hF k i (by omega)
    · exact or256 (meetP_lt hF k i (by omega)) (hF _ (getD_mem (by omega)))
def RelA (M : mx_M) (c : Nat) (F : List Nat) (n i : Nat) : Prop := ∀ k, k < n → M (c + 35) k = nI (supP F n k i) ∧ M (c + 36) k = nI (meetP F k i)
theorem k_relate (G : mx_G) {M : mx_M} {c : Nat} {hs : Hs} {X : Cx} (ho : mx_ocl LAY c = 2) (hw : HsOk hs) (hM : CxM M c hs X) : sOk G m_Cells_relate [.ref c] M (fun r M' => r = none ∧ Fr M M' (c + 35) (c + 37) ∧ RelA M' c (cF X) hs.1 (cF X).length) := by
  obtain ⟨m0, m1, m2, m3, m4, m5, m6, m7, m8, m9, m10, m11, m12, m13, m14⟩ := id hM
  obtain ⟨w1, w2, w3⟩ := id hw
  have hlen := m6.len
  refine sOk_of ⟨by decide +kernel, by decide +kernel, Nat.le_of_ble_eq_true rfl⟩ ?_
  show sW G m_Cells_relate 0 ([], [some (.ref c), none, none, none], M) _
  refine sW_go b_Cells_relate_0 (st' := ([.int (M c 1), .ref (c + 35)], [some (.ref c), none, none, none], M)) (φ := mx_ocl LAY c = 2 ∧ mx_ocl LAY c = 2 ∧ True) rfl ⟨ho, ho, trivial⟩ ?_
  refine sW_eq (st' := ([.int (nI (2 ^ hs.1 - 1)), .ref (c + 35)], [some (.ref c), none, none, none], M)) (by simp (disch := omega) only [m1]) ?_
  refine sW_callS [.ref (c + 35), .int (nI (2 ^ hs.1 - 1))] [] d_Cells_relate_8 c_Cells_relate_8 ⟨rfl, rfl, Nat.le_of_ble_eq_true rfl, rfl, rfl⟩ (k_fill G (ln_Cells_supers ho) (by decide) (by decide) (nI (2 ^ hs.1 - 1))) ?_
  rintro _ M1 ⟨rfl, a1, a2⟩
  show sW G m_Cells_relate 11 ([], [some (.ref c), none, none, none], M1) _
  refine sW_go b_Cells_relate_11 (st' := ([.int (nI 0), .ref (c + 36)], [some (.ref c), none, none, none], M1)) (φ := mx_ocl LAY c = 2 ∧ True) rfl ⟨ho, trivial⟩ ?_
  refine sW_callS [.ref (c + 36), .int (nI 0)] [] d_Cells_relate_16 c_Cells_relate_16 ⟨rfl, rfl, Nat.le_of_ble_eq_true rfl, rfl, rfl⟩ (k_fill G (ln_Cells_meets ho) (by decide) (by decide) (nI 0)) ?_
  rintro _ M2 ⟨rfl, b1, b2⟩
  show sW G m_Cells_relate 19 ([], [some (.ref c), none, none, none], M2) _
  refine sW_go b_Cells_relate_19 (st' := ([], [some (.ref c), some (.int (nI 0)), none, none], M2)) (φ := True) rfl trivial ?_
  have f0 : Fr M M2 (c + 35) (c + 37) := (a1.mono (by omega) (by omega)).tr (b1.mono (by omega) (by omega))
  have r0 : RelA M2 c (cF X) hs.1 0 := fun k hk => ⟨by rw [b1 _ (by omega)]; exact a2 k (by omega), b2 k (by omega)⟩
  refine mx_ind (α := Nat × mx_M) (fun q => (cF X).length - q.1) (fun q => q.1 ≤ (cF X).length → Fr M q.2 (c + 35) (c + 37) → RelA q.2 c (cF X) hs.1 q.1 → sW G m_Cells_relate 21 ([], [some (.ref c), some (.int (nI q.1)), none, none], q.2) _) ?_ (0, M2) (Nat.zero_le _) f0 r0
  rintro ⟨i, M3⟩ ih hi hf hr
  dsimp only at ih hi hf hr ⊢
  have z0 : M3 (c + 5) 2 = nI (cF X).length := by rw [hf _ (by omega)]; exact m6.1
  by_cases hin : i < (cF X).length
  · have z1 : M3 (c + 6) i = nI ((cF X).getD i 0) := by rw [hf _ (by omega)]; exact m6.2.2.2.1 i hin
    have z2 := (m6.lt hin).1
    generalize hce : (cF X).getD i 0 = ce at z1 z2
    refine sW_go b_Cells_relate_21 (st' := ([.int (M3 (c + 5) 2), .int (nI i)], [some (.ref c), some (.int (nI i)), none, none], M3)) (φ := mx_ocl LAY c = 2 ∧ mx_ocl LAY (c + 5) = 6 ∧ True) rfl ⟨ho, (oc_Cells_found ho), trivial⟩ ?_
    refine sW_eq (st' := ([.int (nI (cF X).length), .int (nI i)], [some (.ref c), some (.int (nI i)), none, none], M3)) (by simp (disch := omega) only [z0]) ?_
    refine sW_ic_ge 95 d_Cells_relate_29 (by decide) (fun c_29 => ?_) (fun c_29 => ?_)
    · skip
      simp (disch := omega) only [nI_leI] at c_29
      refine sW_retV d_Cells_relate_95 rfl ?_
      omega
    · skip
      simp (disch := omega) only [nI_leI] at c_29
      refine sW_go b_Cells_relate_32 (st' := ([], [some (.ref c), some (.int (nI i)), some (.int (M3 (c + 6) (nI i).toNatClampNeg)), some (.int (nI 0))], M3)) (φ := mx_ocl LAY c = 2 ∧ mx_ocl LAY (c + 5) = 6 ∧ vp_in (nI i) (mx_len LAY false (c + 6)) ∧ True) rfl ⟨ho, (oc_Cells_found ho), (by simp (disch := omega) only [(ln_Sets_at (oc_Cells_found ho))]; exact vp_in_nI (by omega) (by decide)), trivial⟩ ?_
      refine sW_eq (st' := ([], [some (.ref c), some (.int (nI i)), some (.int (nI ce)), some (.int (nI 0))], M3)) (by simp (disch := omega) only [nI_clamp, z1]) ?_
      refine mx_ind (α := Nat × mx_M) (fun q => hs.1 - q.1) (fun q => q.1 ≤ hs.1 → Fr M q.2 (c + 35) (c + 37) → (∀ k, k < hs.1 → q.2 (c + 35) k = nI (supP (cF X) hs.1 k (if k < q.1 then i + 1 else i)) ∧ q.2 (c + 36) k = nI (meetP (cF X) k (if k < q.1 then i + 1 else i))) → sW G m_Cells_relate 44 ([], [some (.ref c), some (.int (nI i)), some (.int (nI ce)), some (.int (nI q.1))], q.2) _) ?_ (0, M3) (Nat.zero_le _) hf (fun k hk => hr k hk)
      rintro ⟨t, M4⟩ iht ht htf htr
      dsimp only at iht ht htf htr ⊢
      have y0 : M4 (c + 1) 3 = nI hs.1 := by rw [htf _ (by omega)]; exact m0.1
      by_cases htn : t < hs.1
      · obtain ⟨x1, x2⟩ := htr t htn
        rw [if_neg (Nat.lt_irrefl t)] at x1 x2
        have p1 : (nI ce >>> (nI t &&& 31)) &&& nI 1 = nI (bt ce t) := sh_b (by omega) (by omega)
        have x3 : (mx_wr M4 (c + 35) t (nI (supP (cF X) hs.1 t i &&& ce))) (c + 36) t = nI (meetP (cF X) t i) := by rw [mx_wr_n _ _ _ (by omega)]; exact x2
        have x4 := bt_le ce t
        refine sW_go b_Cells_relate_44 (st' := ([.int (M4 (c + 1) 3), .int (nI t)], [some (.ref c), some (.int (nI i)), some (.int (nI ce)), some (.int (nI t))], M4)) (φ := mx_ocl LAY c = 2 ∧ mx_ocl LAY (c + 1) = 3 ∧ True) rfl ⟨ho, (oc_Cells_house ho), trivial⟩ ?_
        refine sW_eq (st' := ([.int (nI hs.1), .int (nI t)], [some (.ref c), some (.int (nI i)), some (.int (nI ce)), some (.int (nI t))], M4)) (by simp (disch := omega) only [y0]) ?_
        refine sW_ic_ge 89 d_Cells_relate_52 (by decide) (fun c_52 => ?_) (fun c_52 => ?_)
        · skip
          simp (disch := omega) only [nI_leI] at c_52
          refine sW_go b_Cells_relate_89 (st' := ([], [some (.ref c), some (.int (nI i + nI 1)), some (.int (nI ce)), some (.int (nI t))], M4)) (φ := True) rfl trivial ?_
          refine sW_eq (st' := ([], [some (.ref c), some (.int (nI (i + 1))), some (.int (nI ce)), some (.int (nI t))], M4)) (by simp (disch := omega) only [nI_add]) ?_
          refine sW_goto 21 d_Cells_relate_92 (by decide) ?_
          omega
        · skip
          simp (disch := omega) only [nI_leI] at c_52
          refine sW_go b_Cells_relate_55 (st' := ([.int ((nI ce >>> (nI t &&& 31)) &&& nI 1)], [some (.ref c), some (.int (nI i)), some (.int (nI ce)), some (.int (nI t))], M4)) (φ := True) rfl trivial ?_
          refine sW_eq (st' := ([.int (nI (bt ce t))], [some (.ref c), some (.int (nI i)), some (.int (nI ce)), some (.int (nI t))], M4)) (by simp (disch := omega) only [p1]) ?_
          refine sW_if_eq 83 d_Cells_relate_60 (by decide) (fun c_60 => ?_) (fun c_60 => ?_)
          · skip
            simp (disch := omega) only [nI_z] at c_60
            refine sW_go b_Cells_relate_83 (st' := ([], [some (.ref c), some (.int (nI i)), some (.int (nI ce)), some (.int (nI t + nI 1))], M4)) (φ := True) rfl trivial ?_
            refine sW_eq (st' := ([], [some (.ref c), some (.int (nI i)), some (.int (nI ce)), some (.int (nI (t + 1)))], M4)) (by simp (disch := omega) only [nI_add]) ?_
            refine sW_goto 44 d_Cells_relate_86 (by decide) ?_
            refine iht (t + 1, M4) (by dsimp only; omega) (by dsimp only; omega) htf (fun k hk => ?_)
            dsimp only
            by_cases hx : k = t
            · subst hx
              rw [if_pos (by omega)]
              show _ = nI (if _ then _ else _) ∧ _ = nI (if _ then _ else _)
              rw [hce, if_pos c_60, if_pos c_60]
              exact ⟨x1, x2⟩
            · have := htr k hk
              by_cases hlt : k < t
              · rw [if_pos (by omega)]
                rw [if_pos hlt] at this
                exact this
              · rw [if_neg (by omega)]
                rw [if_neg hlt] at this
                exact this
          · skip
            simp (disch := omega) only [nI_z] at c_60
            refine sW_go b_Cells_relate_63 (st' := ([], [some (.ref c), some (.int (nI i)), some (.int (nI ce)), some (.int (nI t))], mx_wr (mx_wr M4 (c + 35) (nI t).toNatClampNeg (M4 (c + 35) (nI t).toNatClampNeg &&& nI ce)) (c + 36) (nI t).toNatClampNeg ((mx_wr M4 (c + 35) (nI t).toNatClampNeg (M4 (c + 35) (nI t).toNatClampNeg &&& nI ce)) (c + 36) (nI t).toNatClampNeg ||| nI ce))) (φ := mx_ocl LAY c = 2 ∧ vp_in (nI t) (mx_len LAY false (c + 35)) ∧ vp_in (nI t) (mx_len LAY false (c + 35)) ∧ mx_ocl LAY c = 2 ∧ vp_in (nI t) (mx_len LAY false (c + 36)) ∧ vp_in (nI t) (mx_len LAY false (c + 36)) ∧ True) rfl ⟨ho, (by simp (disch := omega) only [(ln_Cells_supers ho)]; exact vp_in_nI (by omega) (by decide)), (by simp (disch := omega) only [(ln_Cells_supers ho)]; exact vp_in_nI (by omega) (by decide)), ho, (by simp (disch := omega) only [(ln_Cells_meets ho)]; exact vp_in_nI (by omega) (by decide)), (by simp (disch := omega) only [(ln_Cells_meets ho)]; exact vp_in_nI (by omega) (by decide)), trivial⟩ ?_
            refine sW_eq (st' := ([], [some (.ref c), some (.int (nI i)), some (.int (nI ce)), some (.int (nI t))], mx_wr (mx_wr M4 (c + 35) t (nI (supP (cF X) hs.1 t i &&& ce))) (c + 36) t (nI (meetP (cF X) t i ||| ce)))) (by simp (disch := omega) only [nI_clamp, nx_and, nx_or, x1, x3]) ?_
            refine sW_go b_Cells_relate_83 (st' := ([], [some (.ref c), some (.int (nI i)), some (.int (nI ce)), some (.int (nI t + nI 1))], mx_wr (mx_wr M4 (c + 35) t (nI (supP (cF X) hs.1 t i &&& ce))) (c + 36) t (nI (meetP (cF X) t i ||| ce)))) (φ := True) rfl trivial ?_
            refine sW_eq (st' := ([], [some (.ref c), some (.int (nI i)), some (.int (nI ce)), some (.int (nI (t + 1)))], mx_wr (mx_wr M4 (c + 35) t (nI (supP (cF X) hs.1 t i &&& ce))) (c + 36) t (nI (meetP (cF X) t i ||| ce)))) (by simp (disch := omega) only [nI_add]) ?_
            refine sW_goto 44 d_Cells_relate_86 (by decide) ?_
            refine iht (t + 1, (mx_wr (mx_wr M4 (c + 35) t (nI (supP (cF X) hs.1 t i &&& ce))) (c + 36) t (nI (meetP (cF X) t i ||| ce)))) (by dsimp only; omega) (by dsimp only; omega) ((htf.wr (by omega) (by omega)).wr (by omega) (by omega)) (fun k hk => ?_)
            dsimp only
            rw [mx_wr_s, mx_wr_n _ _ _ (show c + 35 ≠ c + 36 by omega), mx_wr_s, mx_wr_n _ _ _ (show c + 36 ≠ c + 35 by omega)]
            by_cases hx : k = t
            · subst hx
              rw [pk_us, pk_us, if_pos (by omega)]
              show _ = nI (if _ then _ else _) ∧ _ = nI (if _ then _ else _)
              rw [hce, if_neg c_60, if_neg c_60]
              exact ⟨rfl, rfl⟩
            · rw [pk_un hx, pk_un hx]
              have := htr k hk
              by_cases hlt : k < t
              · rw [if_pos (by omega)]
                rw [if_pos hlt] at this
                exact this
              · rw [if_neg (by omega)]
                rw [if_neg hlt] at this
                exact this
      · have hte : t = hs.1 := by omega
        subst hte
        refine sW_go b_Cells_relate_44 (st' := ([.int (M4 (c + 1) 3), .int (nI hs.1)], [some (.ref c), some (.int (nI i)), some (.int (nI ce)), some (.int (nI hs.1))], M4)) (φ := mx_ocl LAY c = 2 ∧ mx_ocl LAY (c + 1) = 3 ∧ True) rfl ⟨ho, (oc_Cells_house ho), trivial⟩ ?_
        refine sW_eq (st' := ([.int (nI hs.1), .int (nI hs.1)], [some (.ref c), some (.int (nI i)), some (.int (nI ce)), some (.int (nI hs.1))], M4)) (by simp (disch := omega) only [y0]) ?_
        refine sW_ic_ge 89 d_Cells_relate_52 (by decide) (fun c_52 => ?_) (fun c_52 => ?_)
        · skip
          simp (disch := omega) only [nI_leI] at c_52
          refine sW_go b_Cells_relate_89 (st' := ([], [some (.ref c), some (.int (nI i + nI 1)), some (.int (nI ce)), some (.int (nI hs.1))], M4)) (φ := True) rfl trivial ?_
          refine sW_eq (st' := ([], [some (.ref c), some (.int (nI (i + 1))), some (.int (nI ce)), some (.int (nI hs.1))], M4)) (by simp (disch := omega) only [nI_add]) ?_
          refine sW_goto 21 d_Cells_relate_92 (by decide) ?_
          refine sW_fg [false, false, true, true] ?_
          show sW G m_Cells_relate 21 ([], [some (.ref c), some (.int (nI (i + 1))), none, none], M4) _
          refine ih (i + 1, M4) (by dsimp only; omega) (by dsimp only; omega) htf (fun k hk => ?_)
          have := htr k hk
          rw [if_pos hk] at this
          exact this
        · skip
          simp (disch := omega) only [nI_leI] at c_52
          exact absurd c_52 (by omega)
  · have hie : i = (cF X).length := by omega
    subst hie
    refine sW_go b_Cells_relate_21 (st' := ([.int (M3 (c + 5) 2), .int (nI (cF X).length)], [some (.ref c), some (.int (nI (cF X).length)), none, none], M3)) (φ := mx_ocl LAY c = 2 ∧ mx_ocl LAY (c + 5) = 6 ∧ True) rfl ⟨ho, (oc_Cells_found ho), trivial⟩ ?_
    refine sW_eq (st' := ([.int (nI (cF X).length), .int (nI (cF X).length)], [some (.ref c), some (.int (nI (cF X).length)), none, none], M3)) (by simp (disch := omega) only [z0]) ?_
    refine sW_ic_ge 95 d_Cells_relate_29 (by decide) (fun c_29 => ?_) (fun c_29 => ?_)
    · skip
      simp (disch := omega) only [nI_leI] at c_29
      refine sW_retV d_Cells_relate_95 rfl ?_
      exact ⟨rfl, hf, hr⟩
    · skip
      simp (disch := omega) only [nI_leI] at c_29
      exact absurd c_29 (by omega)
/-- a Cells object that has measured a house -/
def CellsOK (M : mx_M) (c : Nat) (hs : Hs) : Prop := ∃ X, MesD M c hs X ∧ RelA M c (cF X) hs.1 (cF X).length
theorem k_measure (G : mx_G) {M : mx_M} {c o : Nat} {hs : Hs} (ho : mx_ocl LAY c = 2) (hq : mx_ocl LAY o = 3) (hd : o + 4 ≤ c ∨ c + 37 ≤ o) (hA : HsAt M o hs) (hw : HsOk hs) (hS : CellsSh M c) : sOk G m_Cells_measure [.ref c, .ref o] M (fun r M' => r = none ∧ Fr M M' c (c + 37) ∧ CellsOK M' c hs) := by
  refine sOk_of ⟨by decide +kernel, by decide +kernel, Nat.le_of_ble_eq_true rfl⟩ ?_
  show sW G m_Cells_measure 0 ([], [some (.ref c), some (.ref o), none, none, none, none, none, none, none, none], M) _
  refine sW_go b_Cells_measure_0 (st' := ([.ref o, .ref c], [some (.ref c), some (.ref o), none, none, none, none, none, none, none, none], M)) (φ := True) rfl trivial ?_
  refine sW_callV 2 [.ref o] [] d_Cells_measure_2 c_Cells_measure_2 ⟨rfl, rfl, rfl, Nat.le_of_ble_eq_true rfl, rfl, rfl⟩ ho (k_begin G ho hq hd hA hw hS) ?_
  rintro _ M1 ⟨rfl, a1, X, a2, a3, a4, a5, a6, a7, a8, a9⟩
  show sW G m_Cells_measure 5 ([], [some (.ref c), some (.ref o), none, none, none, none, none, none, none, none], M1) _
  refine sW_go b_Cells_measure_5 (st' := ([], [some (.ref c), some (.ref o), some (.int (nI 0)), some (.int (nI 2)), none, none, none, none, none, none], M1)) (φ := True) rfl trivial ?_
  refine k_measure9 G ho hq hw (M := M) ?_ (0, 0, M1, X) a1 (Mes_begin a2 a3 a4 a5 a6 a7 a8 a9)
  intro M2 Y b1 b2
  refine sW_go b_Cells_measure_175 (st' := ([.ref c], [some (.ref c), some (.ref o), none, none, none, none, none, none, none, none], M2)) (φ := True) rfl trivial ?_
  refine sW_callV 2 [] [] d_Cells_measure_176 c_Cells_measure_176 ⟨rfl, rfl, rfl, Nat.le_of_ble_eq_true rfl, rfl, rfl⟩ ho (k_relate G ho hw b2.1) ?_
  rintro _ M3 ⟨rfl, g1, g2⟩
  show sW G m_Cells_measure 179 ([], [some (.ref c), some (.ref o), none, none, none, none, none, none, none, none], M3) _
  refine sW_retV d_Cells_measure_179 rfl ?_
  obtain ⟨d1, d2, d3, d4, d5, d6, d7⟩ := id b2
  obtain ⟨m0, m1, m2, m3, m4, m5, m6, m7, m8, m9, m10, m11, m12, m13, m14⟩ := id d1
  refine ⟨rfl, b1.tr (g1.mono (by omega) (by omega)), Y, ⟨⟨m0.fr g1 (by omega), ?_, ?_, ?_, ?_, ?_, m6.fr g1 (by omega), m7.fr g1 (by omega), m8.fr g1 (by omega), m9.fr g1 (by omega), m10.fr g1 (by omega), m11.fr g1 (by omega), m12.fr g1 (by omega), ?_, ?_⟩, d2, d3, d4, d5, d6, ?_⟩, g2⟩
  · rw [g1 c (by omega)]; exact m1
  · rw [g1 c (by omega)]; exact m2
  · rw [g1 c (by omega)]; exact m3
  · rw [g1 c (by omega)]; exact m4
  · rw [g1 c (by omega)]; exact m5
  · rw [g1 _ (by omega)]; exact m13
  · rw [g1 _ (by omega)]; exact m14
  · unfold SdA
    rw [g1 _ (by omega), g1 _ (by omega), g1 _ (by omega), g1 _ (by omega)]
    exact d7

