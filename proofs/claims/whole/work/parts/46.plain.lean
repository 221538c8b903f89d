theorem k_raiseI (G : mx_G) {M : mx_M} {q : Nat} {L : List Nat} {f : Nat → Nat} (ho : mx_ocl LAY q = 6) (hA : SetsAt M q L f) {s n : Nat} (hs : s < 256) (hn : 0 < n) (hn2 : Iw f (fun _ => 1) + n < 2 ^ 31) : sOk G m_Sets_raise [.ref q, .int (nI s), .int (nI n)] M (fun r M' => r = none ∧ Fr M M' q (q + 3) ∧ ∃ L' f', SetsAt M' q L' f' ∧ ∀ φ, Iw f' φ = Iw f φ + n * φ s) := by
  have h1 := Iw_in f hs
  refine sOk_mono (k_Sets_raise G ho hA hs hn (by omega)) ?_
  rintro r M' ⟨a, b, c⟩
  exact ⟨a, b, _, _, c, fun φ => Iw_up f φ n hs⟩
theorem k_clearI (G : mx_G) {M : mx_M} {q : Nat} {L : List Nat} (ho : mx_ocl LAY q = 6) (hA : SetsL M q L) : sOk G m_Sets_clear [.ref q] M (fun r M' => r = none ∧ Fr M M' q (q + 3) ∧ SetsAt M' q [] (fun _ => 0)) := by
  obtain ⟨f, hA⟩ := hA
  exact k_Sets_clear G ho hA
/-- the pairs of weights: the first i of the lefts with all rights -/
def prW (fl fr : Nat → Nat) (LR l : List Nat) (φ : Nat → Nat) : Nat := ls (fun a => fl a * ls (fun b => fr b * φ (a &&& b)) LR) l
theorem prW_le {fl fr : Nat → Nat} {LL LR : List Nat} (hB1 : ls (fun a => fl a * 1) LL ≤ 404) (hB2 : ls (fun b => fr b * 1) LR ≤ 404) : prW fl fr LR LL (fun _ => 1) ≤ 404 * 404 := by
  unfold prW
  have e : ls (fun a => fl a * ls (fun b => fr b * 1) LR) LL = ls (fun b => fr b * 1) LR * ls (fun a => fl a * 1) LL := by
    rw [← ls_mul]
    exact ls_congr (fun x _ => by show fl x * _ = _ * (fl x * 1); rw [Nat.mul_one, Nat.mul_comm])
  show ls (fun a => fl a * ls (fun b => fr b * 1) LR) LL ≤ _
  rw [e]
  exact Nat.mul_le_mul hB2 hB1
theorem k_pairUp96 (G : mx_G) {M : mx_M} {p h : Nat} {LL LR : List Nat} {fl fr : Nat → Nat} (ho : mx_ocl LAY p = 4) (hh : mx_ocl LAY h = 3) (hA1 : SetsAt M (p + 6) LL fl) (hA2 : SetsAt M (p + 9) LR fr) (hA3 : SetsAt M (p + 12) [] (fun _ => 0)) (hB1 : Iw fl (fun _ => 1) ≤ 404) (hB2 : Iw fr (fun _ => 1) ≤ 404)
  {Q : Option Value → mx_M → Prop} (hQ : ∀ M', Fr M M' (p + 12) (p + 15) → (∃ LP fp, SetsAt M' (p + 12) LP fp ∧ ∀ φ, Iw fp φ = Iw fl (fun l => Iw fr (fun r => φ (l &&& r)))) → Q none M') :
  sW G m_Plain_pairUp 96 ([], [some (.ref p), some (.ref h), some (.int (nI 0)), none, none, none], M) Q := by
  have l1 := hA1.len
  have l2 := hA2.len
  rw [Iw_list hA1] at hB1
  rw [Iw_list hA2] at hB2
  have hT := prW_le hB1 hB2
  refine mx_ind (α := Nat × mx_M) (fun q => LL.length - q.1) (fun q => q.1 ≤ LL.length → Fr M q.2 (p + 12) (p + 15) → (∃ LP fp, SetsAt q.2 (p + 12) LP fp ∧ ∀ φ, Iw fp φ = prW fl fr LR (LL.take q.1) φ) → sW G m_Plain_pairUp 96 ([], [some (.ref p), some (.ref h), some (.int (nI q.1)), none, none, none], q.2) Q) ?_ (0, M) (Nat.zero_le _) Fr.rf ⟨_, _, hA3, fun φ => Iw_0 φ⟩
  rintro ⟨i, M2⟩ ih hi f2 ⟨LP, fp, s2, w2⟩
  dsimp only at ih hi f2 s2 w2 ⊢
  have a1 := hA1.fr f2 (by omega)
  have z0 : M2 (p + 6) 2 = nI LL.length := a1.1
  by_cases hin : i < LL.length
  · have z1 : M2 (p + 7) i = nI (LL.getD i 0) := a1.2.2.2.1 i hin
    have z2 := (a1.lt hin).1
    have z3 := (a1.lt hin).2
    have z4 : fl (LL.getD i 0) ≠ 0 := (a1.2.2.2.2.2 _ z2).mpr z3
    have z5 := (a1.2.2.2.2.1 _ z2)
    have z6 : fl (LL.getD i 0) * 1 ≤ _ := ls_in (g := fun a => fl a * 1) z3
    have hst := fun φ : Nat → Nat => ls_take (fun a => fl a * ls (fun b => fr b * φ (a &&& b)) LR) hin
    have hst1 := ls_take_le (fun a => fl a * ls (fun b => fr b * (fun _ => 1) (a &&& b)) LR) LL (i + 1)
    rw [hst (fun _ => 1)] at hst1
    generalize hg : LL.getD i 0 = a at z1 z2 z3 z4 z5 z6 hst hst1
    generalize hfa : fl a = fa at z4 z5 z6 hst hst1
    refine sW_go b_Plain_pairUp_96 (st' := ([.int (M2 (p + 6) 2), .int (nI i)], [some (.ref p), some (.ref h), some (.int (nI i)), none, none, none], M2)) (φ := mx_ocl LAY p = 4 ∧ mx_ocl LAY (p + 6) = 6 ∧ True) rfl ⟨ho, (oc_Plain_byLeft ho), trivial⟩ ?_
    refine sW_eq (st' := ([.int (nI LL.length), .int (nI i)], [some (.ref p), some (.ref h), some (.int (nI i)), none, none, none], M2)) (by simp (disch := omega) only [z0]) ?_
    refine sW_ic_ge 187 d_Plain_pairUp_104 (by decide) (fun c_104 => ?_) (fun c_104 => ?_)
    · skip
      simp (disch := omega) only [nI_leI] at c_104
      refine sW_retV d_Plain_pairUp_187 rfl ?_
      omega
    · skip
      simp (disch := omega) only [nI_leI] at c_104
      refine sW_go b_Plain_pairUp_107 (st' := ([], [some (.ref p), some (.ref h), some (.int (nI i)), some (.int (M2 (p + 7) (nI i).toNatClampNeg)), some (.int (nI 0)), none], M2)) (φ := mx_ocl LAY p = 4 ∧ mx_ocl LAY (p + 6) = 6 ∧ vp_in (nI i) (mx_len LAY false (p + 7)) ∧ True) rfl ⟨ho, (oc_Plain_byLeft ho), (by simp (disch := omega) only [(ln_Sets_at (oc_Plain_byLeft ho))]; exact vp_in_nI (by omega) (by decide)), trivial⟩ ?_
      refine sW_eq (st' := ([], [some (.ref p), some (.ref h), some (.int (nI i)), some (.int (nI a)), some (.int (nI 0)), none], M2)) (by simp (disch := omega) only [nI_clamp, z1]) ?_
      refine mx_ind (α := Nat × mx_M) (fun q => LR.length - q.1) (fun q => q.1 ≤ LR.length → Fr M q.2 (p + 12) (p + 15) → (∃ LP fp, SetsAt q.2 (p + 12) LP fp ∧ ∀ φ, Iw fp φ = prW fl fr LR (LL.take i) φ + fa * ls (fun b => fr b * φ (a &&& b)) (LR.take q.1)) → sW G m_Plain_pairUp 120 ([], [some (.ref p), some (.ref h), some (.int (nI i)), some (.int (nI a)), some (.int (nI q.1)), none], q.2) Q) ?_ (0, M2) (Nat.zero_le _) f2 ⟨LP, fp, s2, fun φ => by dsimp only; rw [w2 φ]; rfl⟩
      rintro ⟨j, M3⟩ ihj hj f3 ⟨LP3, fp3, s3, w3⟩
      dsimp only at ihj hj f3 s3 w3 ⊢
      have b1 := hA1.fr f3 (by omega)
      have b2 := hA2.fr f3 (by omega)
      have y0 : M3 (p + 9) 2 = nI LR.length := b2.1
      by_cases hjn : j < LR.length
      · have y1 : M3 (p + 10) j = nI (LR.getD j 0) := b2.2.2.2.1 j hjn
        have y2 := (b2.lt hjn).1
        have y3 := (b2.lt hjn).2
        have y4 : fr (LR.getD j 0) ≠ 0 := (b2.2.2.2.2.2 _ y2).mpr y3
        have y5 := (b2.2.2.2.2.1 _ y2)
        have y6 : fr (LR.getD j 0) * 1 ≤ _ := ls_in (g := fun a => fr a * 1) y3
        have y7 : M3 (p + 8) a = nI fa := by rw [← hfa]; exact (b1.2.2.2.2.1 a z2).1
        have hsj := fun φ : Nat → Nat => ls_take (fun b => fr b * φ (a &&& b)) hjn
        have hsj1 := ls_take_le (fun b => fr b * (fun _ => 1) (a &&& b)) LR (j + 1)
        rw [hsj (fun _ => 1)] at hsj1
        generalize hgb : LR.getD j 0 = b at y1 y2 y3 y4 y5 y6 hsj hsj1
        generalize hfb : fr b = fb at y4 y5 y6 hsj hsj1
        have y8 : M3 (p + 11) b = nI fb := by rw [y5.1]
        have y9 : a &&& b < 256 := Nat.lt_of_le_of_lt Nat.and_le_left z2
        have x1 : 0 < fa * fb := Nat.mul_pos (by omega) (by omega)
        have x2 : fa * fb ≤ 404 * 404 := Nat.mul_le_mul (by omega) (by omega)
        have x3 : Iw fp3 (fun _ => 1) + fa * fb < 2 ^ 31 := by
          rw [w3]
          have q1 := Nat.mul_le_mul (Nat.le_refl fa) hsj1
          rw [Nat.mul_add] at q1
          unfold prW at hT ⊢
          dsimp only at q1 hst1 hT ⊢
          omega
        refine sW_go b_Plain_pairUp_120 (st' := ([.int (M3 (p + 9) 2), .int (nI j)], [some (.ref p), some (.ref h), some (.int (nI i)), some (.int (nI a)), some (.int (nI j)), none], M3)) (φ := mx_ocl LAY p = 4 ∧ mx_ocl LAY (p + 9) = 6 ∧ True) rfl ⟨ho, (oc_Plain_byRight ho), trivial⟩ ?_
        refine sW_eq (st' := ([.int (nI LR.length), .int (nI j)], [some (.ref p), some (.ref h), some (.int (nI i)), some (.int (nI a)), some (.int (nI j)), none], M3)) (by simp (disch := omega) only [y0]) ?_
        refine sW_ic_ge 181 d_Plain_pairUp_129 (by decide) (fun c_129 => ?_) (fun c_129 => ?_)
        · skip
          simp (disch := omega) only [nI_leI] at c_129
          omega
        · skip
          simp (disch := omega) only [nI_leI] at c_129
          refine sW_go b_Plain_pairUp_132 (st' := ([.int (M3 (p + 8) (nI a).toNatClampNeg * M3 (p + 11) (M3 (p + 10) (nI j).toNatClampNeg).toNatClampNeg), .int (nI a &&& M3 (p + 10) (nI j).toNatClampNeg), .ref (p + 12)], [some (.ref p), some (.ref h), some (.int (nI i)), some (.int (nI a)), some (.int (nI j)), some (.int (M3 (p + 10) (nI j).toNatClampNeg))], M3)) (φ := mx_ocl LAY p = 4 ∧ mx_ocl LAY (p + 9) = 6 ∧ vp_in (nI j) (mx_len LAY false (p + 10)) ∧ mx_ocl LAY p = 4 ∧ mx_ocl LAY p = 4 ∧ mx_ocl LAY (p + 6) = 6 ∧ vp_in (nI a) (mx_len LAY false (p + 8)) ∧ mx_ocl LAY p = 4 ∧ mx_ocl LAY (p + 9) = 6 ∧ vp_in (M3 (p + 10) (nI j).toNatClampNeg) (mx_len LAY false (p + 11)) ∧ True) rfl ⟨ho, (oc_Plain_byRight ho), (by simp (disch := omega) only [(ln_Sets_at (oc_Plain_byRight ho))]; exact vp_in_nI (by omega) (by decide)), ho, ho, (oc_Plain_byLeft ho), (by simp (disch := omega) only [(ln_Sets_number (oc_Plain_byLeft ho))]; exact vp_in_nI (by omega) (by decide)), ho, (oc_Plain_byRight ho), (by simp (disch := omega) only [nI_clamp, y1, (ln_Sets_number (oc_Plain_byRight ho))]; exact vp_in_nI (by omega) (by decide)), trivial⟩ ?_
          refine sW_eq (st' := ([.int (nI (fa * fb)), .int (nI (a &&& b)), .ref (p + 12)], [some (.ref p), some (.ref h), some (.int (nI i)), some (.int (nI a)), some (.int (nI j)), some (.int (nI b))], M3)) (by simp (disch := omega) only [nI_clamp, nx_and, pk_mul, y1, y7, y8]) ?_
          refine sW_callV 6 [.int (nI (a &&& b)), .int (nI (fa * fb))] [] d_Plain_pairUp_172 c_Plain_pairUp_172 ⟨rfl, rfl, rfl, Nat.le_of_ble_eq_true rfl, rfl, rfl⟩ (oc_Plain_byPair ho) (k_raiseI G (oc_Plain_byPair ho) s3 y9 x1 x3) ?_
          rintro _ M4 ⟨rfl, g1, LP4, fp4, s4, w4⟩
          show sW G m_Plain_pairUp 175 ([], [some (.ref p), some (.ref h), some (.int (nI i)), some (.int (nI a)), some (.int (nI j)), some (.int (nI b))], M4) _
          refine sW_go b_Plain_pairUp_175 (st' := ([], [some (.ref p), some (.ref h), some (.int (nI i)), some (.int (nI a)), some (.int (nI j + nI 1)), some (.int (nI b))], M4)) (φ := True) rfl trivial ?_
          refine sW_eq (st' := ([], [some (.ref p), some (.ref h), some (.int (nI i)), some (.int (nI a)), some (.int (nI (j + 1))), some (.int (nI b))], M4)) (by simp (disch := omega) only [nI_add]) ?_
          refine sW_goto 120 d_Plain_pairUp_178 (by decide) ?_
          refine sW_fg [false, false, false, false, false, true] ?_
          show sW G m_Plain_pairUp 120 ([], [some (.ref p), some (.ref h), some (.int (nI i)), some (.int (nI a)), some (.int (nI (j + 1))), none], M4) _
          refine ihj (j + 1, M4) (by dsimp only; omega) (by dsimp only; omega) (f3.tr g1) ⟨LP4, fp4, s4, fun φ => ?_⟩
          dsimp only
          rw [w4 φ, w3 φ, hsj φ, Nat.mul_add, Nat.mul_assoc]
          omega
      · have hje : j = LR.length := by omega
        subst hje
        refine sW_go b_Plain_pairUp_120 (st' := ([.int (M3 (p + 9) 2), .int (nI LR.length)], [some (.ref p), some (.ref h), some (.int (nI i)), some (.int (nI a)), some (.int (nI LR.length)), none], M3)) (φ := mx_ocl LAY p = 4 ∧ mx_ocl LAY (p + 9) = 6 ∧ True) rfl ⟨ho, (oc_Plain_byRight ho), trivial⟩ ?_
        refine sW_eq (st' := ([.int (nI LR.length), .int (nI LR.length)], [some (.ref p), some (.ref h), some (.int (nI i)), some (.int (nI a)), some (.int (nI LR.length)), none], M3)) (by simp (disch := omega) only [y0]) ?_
        refine sW_ic_ge 181 d_Plain_pairUp_129 (by decide) (fun c_129 => ?_) (fun c_129 => ?_)
        · skip
          simp (disch := omega) only [nI_leI] at c_129
          refine sW_go b_Plain_pairUp_181 (st' := ([], [some (.ref p), some (.ref h), some (.int (nI i + nI 1)), some (.int (nI a)), some (.int (nI LR.length)), none], M3)) (φ := True) rfl trivial ?_
          refine sW_eq (st' := ([], [some (.ref p), some (.ref h), some (.int (nI (i + 1))), some (.int (nI a)), some (.int (nI LR.length)), none], M3)) (by simp (disch := omega) only [nI_add]) ?_
          refine sW_goto 96 d_Plain_pairUp_184 (by decide) ?_
          refine sW_fg [false, false, false, true, true, false] ?_
          show sW G m_Plain_pairUp 96 ([], [some (.ref p), some (.ref h), some (.int (nI (i + 1))), none, none, none], M3) _
          refine ih (i + 1, M3) (by dsimp only; omega) (by dsimp only; omega) f3 ⟨LP3, fp3, s3, fun φ => ?_⟩
          rw [w3 φ, List.take_length]
          exact (hst φ).symm
        · skip
          simp (disch := omega) only [nI_leI] at c_129
          exact absurd c_129 (by omega)
  · have hie : i = LL.length := by omega
    subst hie
    refine sW_go b_Plain_pairUp_96 (st' := ([.int (M2 (p + 6) 2), .int (nI LL.length)], [some (.ref p), some (.ref h), some (.int (nI LL.length)), none, none, none], M2)) (φ := mx_ocl LAY p = 4 ∧ mx_ocl LAY (p + 6) = 6 ∧ True) rfl ⟨ho, (oc_Plain_byLeft ho), trivial⟩ ?_
    refine sW_eq (st' := ([.int (nI LL.length), .int (nI LL.length)], [some (.ref p), some (.ref h), some (.int (nI LL.length)), none, none, none], M2)) (by simp (disch := omega) only [z0]) ?_
    refine sW_ic_ge 187 d_Plain_pairUp_104 (by decide) (fun c_104 => ?_) (fun c_104 => ?_)
    · skip
      simp (disch := omega) only [nI_leI] at c_104
      refine sW_retV d_Plain_pairUp_187 rfl ?_
      refine hQ M2 f2 ⟨LP, fp, s2, fun φ => ?_⟩
      rw [w2 φ, List.take_length, Iw_list hA1]
      unfold prW
      exact ls_congr (fun x _ => by rw [Iw_list hA2])
    · skip
      simp (disch := omega) only [nI_leI] at c_104
      exact absurd c_104 (by omega)

