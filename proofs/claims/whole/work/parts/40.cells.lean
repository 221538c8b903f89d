/-- the least height of a value that is of all types of p and of none of q -/
def LowR (hs : Hs) (p q : Nat) (r : Int32) : Prop := (r = -1000000 ∧ ∀ s, Kw hs s → ¬ (s &&& p = p ∧ s &&& q = 0)) ∨ ∃ h, r = nI h ∧ (∃ s, Kx hs h s ∧ s &&& p = p ∧ s &&& q = 0) ∧ ∀ j s, j < h → Kx hs j s → ¬ (s &&& p = p ∧ s &&& q = 0)
theorem LowR_uniq {hs : Hs} {p q : Nat} {r r' : Int32} (h : LowR hs p q r) (h' : LowR hs p q r') : r = r' := by
  rcases h with ⟨h1, h2⟩ | ⟨n, h1, ⟨s, h2, h3⟩, h4⟩ <;> rcases h' with ⟨k1, k2⟩ | ⟨n', k1, ⟨s', k2, k3⟩, k4⟩
  · rw [h1, k1]
  · exact absurd k3 (h2 s' ⟨n', k2⟩)
  · exact absurd h3 (k2 s ⟨n, h2⟩)
  · rcases Nat.lt_trichotomy n n' with w | w | w
    · exact absurd h3 (k4 n s w h2)
    · rw [h1, k1, w]
    · exact absurd k3 (h4 n' s' w k2)
theorem k_leastHeight (G : mx_G) {M : mx_M} {c p q : Nat} {hs : Hs} {X : Cx} (ho : mx_ocl LAY c = 2) (h : MesD M c hs X) (hp : p < 256) (hq : q < 256) : sOk G m_Cells_leastHeight [.ref c, .int (nI p), .int (nI q)] M (fun r M' => (∃ x, r = some (.int x) ∧ LowR hs p q x) ∧ M' = M) := by
  obtain ⟨⟨m0, m1, m2, m3, m4, m5, m6, m7, m8, m9, m10, m11, m12, m13, m14⟩, d2, d3, d4, d5, d6, d7⟩ := id h
  have z0 : M (c + 5) 2 = nI (cF X).length := m6.1
  have hlen := m6.len
  refine sOk_of ⟨by decide +kernel, by decide +kernel, Nat.le_of_ble_eq_true rfl⟩ ?_
  show sW G m_Cells_leastHeight 0 ([], [some (.ref c), some (.int (nI p)), some (.int (nI q)), none, none], M) _
  refine sW_go b_Cells_leastHeight_0 (st' := ([], [some (.ref c), some (.int (nI p)), some (.int (nI q)), some (.int (nI 0)), none], M)) (φ := True) rfl trivial ?_
  refine mx_ind (α := Nat) (fun i => (cF X).length - i) (fun i => i ≤ (cF X).length → (∀ j, j < i → ¬ ((cF X).getD j 0 &&& p = p ∧ (cF X).getD j 0 &&& q = 0)) → sW G m_Cells_leastHeight 2 ([], [some (.ref c), some (.int (nI p)), some (.int (nI q)), some (.int (nI i)), none], M) _) ?_ 0 (Nat.zero_le _) (fun j hj => absurd hj (Nat.not_lt_zero j))
  rintro i ih hi hn
  by_cases hin : i < (cF X).length
  · have z1 : M (c + 6) i = nI ((cF X).getD i 0) := m6.2.2.2.1 i hin
    obtain ⟨z2, z3⟩ := m6.lt hin
    have hmem := (d6 _).mp z3
    have hht := d5.1 _ z3
    have hord := d5.2
    have z4 : ((cF X).getD i 0 &&& p) < 256 := Nat.lt_of_le_of_lt Nat.and_le_left z2
    have z5 : ((cF X).getD i 0 &&& q) < 256 := Nat.lt_of_le_of_lt Nat.and_le_left z2
    have hst : ¬ ((cF X).getD i 0 &&& p = p ∧ (cF X).getD i 0 &&& q = 0) → ∀ j, j < i + 1 → ¬ ((cF X).getD j 0 &&& p = p ∧ (cF X).getD j 0 &&& q = 0) := fun w j hj => by
      rcases Nat.lt_or_ge j i with u | u
      · exact hn j u
      · obtain rfl : j = i := by omega
        exact w
    obtain ⟨z6, z7⟩ := m6.2.2.2.2.1 _ z2
    generalize hce : (cF X).getD i 0 = ce at *
    refine sW_go b_Cells_leastHeight_2 (st' := ([.int (M (c + 5) 2), .int (nI i)], [some (.ref c), some (.int (nI p)), some (.int (nI q)), some (.int (nI i)), none], M)) (φ := mx_ocl LAY c = 2 ∧ mx_ocl LAY (c + 5) = 6 ∧ True) rfl ⟨ho, (oc_Cells_found ho), trivial⟩ ?_
    refine sW_eq (st' := ([.int (nI (cF X).length), .int (nI i)], [some (.ref c), some (.int (nI p)), some (.int (nI q)), some (.int (nI i)), none], M)) (by simp (disch := omega) only [z0]) ?_
    refine sW_ic_ge 56 d_Cells_leastHeight_10 (by decide) (fun c_10 => ?_) (fun c_10 => ?_)
    · skip
      simp (disch := omega) only [nI_leI] at c_10
      refine sW_go b_Cells_leastHeight_56 (st' := ([.int (-1000000)], [some (.ref c), some (.int (nI p)), some (.int (nI q)), some (.int (nI i)), none], M)) (φ := True) rfl trivial ?_
      refine sW_retI d_Cells_leastHeight_58 rfl (vp_nar_int _) ?_
      omega
    · skip
      simp (disch := omega) only [nI_leI] at c_10
      refine sW_go b_Cells_leastHeight_13 (st' := ([.int (nI p), .int (M (c + 6) (nI i).toNatClampNeg &&& nI p)], [some (.ref c), some (.int (nI p)), some (.int (nI q)), some (.int (nI i)), some (.int (M (c + 6) (nI i).toNatClampNeg))], M)) (φ := mx_ocl LAY c = 2 ∧ mx_ocl LAY (c + 5) = 6 ∧ vp_in (nI i) (mx_len LAY false (c + 6)) ∧ True) rfl ⟨ho, (oc_Cells_found ho), (by simp (disch := omega) only [(ln_Sets_at (oc_Cells_found ho))]; exact vp_in_nI (by omega) (by decide)), trivial⟩ ?_
      refine sW_eq (st' := ([.int (nI p), .int (nI (ce &&& p))], [some (.ref c), some (.int (nI p)), some (.int (nI q)), some (.int (nI i)), some (.int (nI ce))], M)) (by simp (disch := omega) only [nI_clamp, nx_and, z1]) ?_
      refine sW_ic_ne 50 d_Cells_leastHeight_29 (by decide) (fun c_29 => ?_) (fun c_29 => ?_)
      · skip
        simp (disch := omega) only [nI_eq] at c_29
        refine sW_go b_Cells_leastHeight_50 (st' := ([], [some (.ref c), some (.int (nI p)), some (.int (nI q)), some (.int (nI i + nI 1)), some (.int (nI ce))], M)) (φ := True) rfl trivial ?_
        refine sW_eq (st' := ([], [some (.ref c), some (.int (nI p)), some (.int (nI q)), some (.int (nI (i + 1))), some (.int (nI ce))], M)) (by simp (disch := omega) only [nI_add]) ?_
        refine sW_goto 2 d_Cells_leastHeight_53 (by decide) ?_
        refine sW_fg [false, false, false, false, true] ?_
        show sW G m_Cells_leastHeight 2 ([], [some (.ref c), some (.int (nI p)), some (.int (nI q)), some (.int (nI (i + 1))), none], M) _
        exact ih (i + 1) (by omega) (by omega) (hst (fun w => c_29 w.1))
      · skip
        simp (disch := omega) only [nI_eq] at c_29
        refine sW_go b_Cells_leastHeight_32 (st' := ([.int (nI ce &&& nI q)], [some (.ref c), some (.int (nI p)), some (.int (nI q)), some (.int (nI i)), some (.int (nI ce))], M)) (φ := True) rfl trivial ?_
        refine sW_eq (st' := ([.int (nI (ce &&& q))], [some (.ref c), some (.int (nI p)), some (.int (nI q)), some (.int (nI i)), some (.int (nI ce))], M)) (by simp (disch := omega) only [nx_and]) ?_
        refine sW_if_ne 50 d_Cells_leastHeight_36 (by decide) (fun c_36 => ?_) (fun c_36 => ?_)
        · skip
          simp (disch := omega) only [nI_z] at c_36
          refine sW_go b_Cells_leastHeight_50 (st' := ([], [some (.ref c), some (.int (nI p)), some (.int (nI q)), some (.int (nI i + nI 1)), some (.int (nI ce))], M)) (φ := True) rfl trivial ?_
          refine sW_eq (st' := ([], [some (.ref c), some (.int (nI p)), some (.int (nI q)), some (.int (nI (i + 1))), some (.int (nI ce))], M)) (by simp (disch := omega) only [nI_add]) ?_
          refine sW_goto 2 d_Cells_leastHeight_53 (by decide) ?_
          refine sW_fg [false, false, false, false, true] ?_
          show sW G m_Cells_leastHeight 2 ([], [some (.ref c), some (.int (nI p)), some (.int (nI q)), some (.int (nI (i + 1))), none], M) _
          exact ih (i + 1) (by omega) (by omega) (hst (fun w => c_36 w.2))
        · skip
          simp (disch := omega) only [nI_z] at c_36
          refine sW_go b_Cells_leastHeight_39 (st' := ([.int (M (c + 7) (nI ce).toNatClampNeg)], [some (.ref c), some (.int (nI p)), some (.int (nI q)), some (.int (nI i)), some (.int (nI ce))], M)) (φ := mx_ocl LAY c = 2 ∧ mx_ocl LAY (c + 5) = 6 ∧ vp_in (nI ce) (mx_len LAY false (c + 7)) ∧ True) rfl ⟨ho, (oc_Cells_found ho), (by simp (disch := omega) only [(ln_Sets_number (oc_Cells_found ho))]; exact vp_in_nI (by omega) (by decide)), trivial⟩ ?_
          refine sW_eq (st' := ([.int (nI (cf X ce))], [some (.ref c), some (.int (nI p)), some (.int (nI q)), some (.int (nI i)), some (.int (nI ce))], M)) (by simp (disch := omega) only [nI_clamp, z6]) ?_
          refine sW_retI d_Cells_leastHeight_49 rfl (vp_nar_int _) ?_
          refine ⟨⟨_, rfl, Or.inr ⟨cf X ce, rfl, ⟨ce, hht.1, c_29, c_36⟩, fun j s hj hk => ?_⟩⟩, rfl⟩
          intro w
          obtain ⟨j', hj', ej'⟩ := mem_at ((d6 s).mpr ⟨j, hk⟩)
          have hle : i ≤ j' := by
            rcases Nat.lt_or_ge j' i with u | u
            · exact absurd (by rw [ej']; exact w) (hn j' u)
            · exact u
          have h3 := hord i j' hle hj'
          rw [hce, ej'] at h3
          exact (d5.1 s ((d6 s).mpr ⟨j, hk⟩)).2 j (by omega) hk
  · have hie : i = (cF X).length := by omega
    subst hie
    refine sW_go b_Cells_leastHeight_2 (st' := ([.int (M (c + 5) 2), .int (nI (cF X).length)], [some (.ref c), some (.int (nI p)), some (.int (nI q)), some (.int (nI (cF X).length)), none], M)) (φ := mx_ocl LAY c = 2 ∧ mx_ocl LAY (c + 5) = 6 ∧ True) rfl ⟨ho, (oc_Cells_found ho), trivial⟩ ?_
    refine sW_eq (st' := ([.int (nI (cF X).length), .int (nI (cF X).length)], [some (.ref c), some (.int (nI p)), some (.int (nI q)), some (.int (nI (cF X).length)), none], M)) (by simp (disch := omega) only [z0]) ?_
    refine sW_ic_ge 56 d_Cells_leastHeight_10 (by decide) (fun c_10 => ?_) (fun c_10 => ?_)
    · skip
      simp (disch := omega) only [nI_leI] at c_10
      refine sW_go b_Cells_leastHeight_56 (st' := ([.int (-1000000)], [some (.ref c), some (.int (nI p)), some (.int (nI q)), some (.int (nI (cF X).length)), none], M)) (φ := True) rfl trivial ?_
      refine sW_retI d_Cells_leastHeight_58 rfl (vp_nar_int _) ?_
      refine ⟨⟨_, rfl, Or.inl ⟨rfl, fun s hs' w => ?_⟩⟩, rfl⟩
      obtain ⟨j', hj', ej'⟩ := mem_at ((d6 s).mpr hs')
      exact hn j' hj' (by rw [ej']; exact w)
    · skip
      simp (disch := omega) only [nI_leI] at c_10
      exact absurd c_10 (by omega)
theorem k_lyingIn (G : mx_G) {M : mx_M} {c t : Nat} {hs : Hs} {X : Cx} (ho : mx_ocl LAY c = 2) (hw : HsOk hs) (h : MesD M c hs X) (hr : RelA M c (cF X) hs.1 (cF X).length) (ht : t < hs.1) : sOk G m_Cells_lyingIn [.ref c, .int (nI t)] M (fun r M' => r = some (.int (nI (mk8 (fun k => k < hs.1 ∧ LiesIn hs k t)))) ∧ M' = M) := by
  obtain ⟨⟨m0, m1, m2, m3, m4, m5, m6, m7, m8, m9, m10, m11, m12, m13, m14⟩, d2, d3, d4, d5, d6, d7⟩ := id h
  have w1 := hw.1
  have z0 : M (c + 1) 3 = nI hs.1 := m0.1
  refine sOk_of ⟨by decide +kernel, by decide +kernel, Nat.le_of_ble_eq_true rfl⟩ ?_
  show sW G m_Cells_lyingIn 0 ([], [some (.ref c), some (.int (nI t)), none, none], M) _
  refine sW_go b_Cells_lyingIn_0 (st' := ([], [some (.ref c), some (.int (nI t)), some (.int (nI 0)), some (.int (nI 0))], M)) (φ := True) rfl trivial ?_
  refine mx_ind (α := Nat × Nat) (fun a => hs.1 - a.1) (fun a => a.1 ≤ hs.1 → a.2 = bsum (fun k => bt (supP (cF X) hs.1 k (cF X).length) t) a.1 → sW G m_Cells_lyingIn 4 ([], [some (.ref c), some (.int (nI t)), some (.int (nI a.2)), some (.int (nI a.1))], M) _) ?_ (0, 0) (Nat.zero_le _) rfl
  rintro ⟨k, m⟩ ih hk hm
  dsimp only at ih hk hm ⊢
  by_cases hkn : k < hs.1
  · have z1 := (hr k hkn).1
    have z2 := supP_lt (cF X) w1 k (cF X).length
    have hb : bsum (fun k => bt (supP (cF X) hs.1 k (cF X).length) t) (k + 1) = m ||| bt (supP (cF X) hs.1 k (cF X).length) t * 2 ^ k := by rw [hm]; rfl
    generalize hsu : supP (cF X) hs.1 k (cF X).length = su at z1 z2 hb
    have p1 : (nI su >>> (nI t &&& 31)) &&& nI 1 = nI (bt su t) := sh_b (by omega) (by omega)
    have q3 : nI (bt su t) <<< (nI k &&& 31) = nI (bt su t * 2 ^ k) := sh_l (bt_le _ _) (by omega)
    refine sW_go b_Cells_lyingIn_4 (st' := ([.int (M (c + 1) 3), .int (nI k)], [some (.ref c), some (.int (nI t)), some (.int (nI m)), some (.int (nI k))], M)) (φ := mx_ocl LAY c = 2 ∧ mx_ocl LAY (c + 1) = 3 ∧ True) rfl ⟨ho, (oc_Cells_house ho), trivial⟩ ?_
    refine sW_eq (st' := ([.int (nI hs.1), .int (nI k)], [some (.ref c), some (.int (nI t)), some (.int (nI m)), some (.int (nI k))], M)) (by simp (disch := omega) only [z0]) ?_
    refine sW_ic_ge 36 d_Cells_lyingIn_12 (by decide) (fun c_12 => ?_) (fun c_12 => ?_)
    · skip
      simp (disch := omega) only [nI_leI] at c_12
      refine sW_go b_Cells_lyingIn_36 (st' := ([.int (nI m)], [some (.ref c), some (.int (nI t)), some (.int (nI m)), some (.int (nI k))], M)) (φ := True) rfl trivial ?_
      refine sW_retI d_Cells_lyingIn_37 rfl (vp_nar_int _) ?_
      omega
    · skip
      simp (disch := omega) only [nI_leI] at c_12
      refine sW_go b_Cells_lyingIn_15 (st' := ([], [some (.ref c), some (.int (nI t)), some (.int (nI m ||| (((M (c + 35) (nI k).toNatClampNeg >>> (nI t &&& 31)) &&& nI 1) <<< (nI k &&& 31)))), some (.int (nI k + nI 1))], M)) (φ := mx_ocl LAY c = 2 ∧ vp_in (nI k) (mx_len LAY false (c + 35)) ∧ True) rfl ⟨ho, (by simp (disch := omega) only [(ln_Cells_supers ho)]; exact vp_in_nI (by omega) (by decide)), trivial⟩ ?_
      refine sW_eq (st' := ([], [some (.ref c), some (.int (nI t)), some (.int (nI (m ||| (bt su t * 2 ^ k)))), some (.int (nI (k + 1)))], M)) (by simp (disch := omega) only [nI_add, nI_clamp, nx_or, p1, q3, z1]) ?_
      refine sW_goto 4 d_Cells_lyingIn_33 (by decide) ?_
      exact ih (k + 1, _) (by dsimp only; omega) (by dsimp only; omega) hb.symm
  · have hke : k = hs.1 := by omega
    subst hke
    refine sW_go b_Cells_lyingIn_4 (st' := ([.int (M (c + 1) 3), .int (nI hs.1)], [some (.ref c), some (.int (nI t)), some (.int (nI m)), some (.int (nI hs.1))], M)) (φ := mx_ocl LAY c = 2 ∧ mx_ocl LAY (c + 1) = 3 ∧ True) rfl ⟨ho, (oc_Cells_house ho), trivial⟩ ?_
    refine sW_eq (st' := ([.int (nI hs.1), .int (nI hs.1)], [some (.ref c), some (.int (nI t)), some (.int (nI m)), some (.int (nI hs.1))], M)) (by simp (disch := omega) only [z0]) ?_
    refine sW_ic_ge 36 d_Cells_lyingIn_12 (by decide) (fun c_12 => ?_) (fun c_12 => ?_)
    · skip
      simp (disch := omega) only [nI_leI] at c_12
      refine sW_go b_Cells_lyingIn_36 (st' := ([.int (nI m)], [some (.ref c), some (.int (nI t)), some (.int (nI m)), some (.int (nI hs.1))], M)) (φ := True) rfl trivial ?_
      refine sW_retI d_Cells_lyingIn_37 rfl (vp_nar_int _) ?_
      refine ⟨?_, rfl⟩
      rw [hm]
      congr 3
      refine mk8_of (bsum_lt8 (fun k => bt_le _ _) w1) (fun k _ => ?_)
      rw [bsum_bt (fun k => bt_le _ _), supP_lies h]
      exact ⟨fun q => ⟨q.1, q.2.2⟩, fun q => ⟨q.1, ht, q.2⟩⟩
    · skip
      simp (disch := omega) only [nI_leI] at c_12
      exact absurd c_12 (by omega)
/-- how many of K lie below m; the k-th of K -/
noncomputable def cntK (K : Nat → Prop) : Nat → Nat
  | 0 => 0
  | m + 1 => cntK K m + cif (K m) 1 0
theorem cntK_le (K : Nat → Prop) : ∀ m, cntK K m ≤ m
  | 0 => Nat.le_refl _
  | m + 1 => by
    have h1 := cntK_le K m
    have h2 := cif_le (K m)
    show cntK K m + _ ≤ m + 1
    omega
theorem cntK_mono (K : Nat → Prop) {a b : Nat} (h : a ≤ b) : cntK K a ≤ cntK K b := by
  induction b with
  | zero =>
    obtain rfl : a = 0 := by omega
    exact Nat.le_refl _
  | succ b ih =>
    by_cases he : a = b + 1
    · rw [he]; exact Nat.le_refl _
    · have := ih (by omega)
      show _ ≤ cntK K b + _
      omega
def NthR (K : Nat → Prop) (k : Nat) (r : Int32) : Prop := (∃ s, s < 256 ∧ K s ∧ cntK K s = k ∧ r = nI s) ∨ (cntK K 256 ≤ k ∧ r = -1000000)
theorem cntK_lt {K : Nat → Prop} {a b : Nat} (h : a < b) (ha : K a) : cntK K a < cntK K b := by
  have h1 := cntK_mono K (show a + 1 ≤ b from h)
  have h2 : cntK K (a + 1) = cntK K a + 1 := by show cntK K a + _ = _; rw [cif_t ha]
  omega
theorem NthR_uniq {K : Nat → Prop} {k : Nat} {r r' : Int32} (h : NthR K k r) (h' : NthR K k r') : r = r' := by
  rcases h with ⟨s, h1, h2, h3, h4⟩ | ⟨h1, h2⟩ <;> rcases h' with ⟨s', k1, k2, k3, k4⟩ | ⟨k1, k2⟩
  · rcases Nat.lt_trichotomy s s' with w | w | w
    · have := cntK_lt w h2; omega
    · rw [h4, k4, w]
    · have := cntK_lt w k2; omega
  · have := cntK_lt h1 h2; omega
  · have := cntK_lt k1 k2; omega
  · rw [h2, k2]
theorem nd_cnt {K : Nat → Prop} : ∀ (n : Nat) (l : List Nat), l.Nodup → (∀ x, x ∈ l ↔ x < n ∧ K x) → l.length = cntK K n
  | 0, l, _, h => by
    cases l with
    | nil => rfl
    | cons a t => exact absurd ((h a).mp List.mem_cons_self).1 (Nat.not_lt_zero a)
  | n + 1, l, hn, h => by
    show l.length = cntK K n + _
    by_cases hm : n ∈ l
    · rw [cif_t ((h n).mp hm).2]
      have h1 := nd_cnt n (l.erase n) (hn.erase n) (fun x => by
        rw [hn.mem_erase_iff, h x]
        constructor
        · rintro ⟨a, b, d⟩
          exact ⟨by omega, d⟩
        · rintro ⟨a, b⟩
          exact ⟨by omega, by omega, b⟩)
      rw [List.length_erase_of_mem hm] at h1
      have := List.length_pos_of_mem hm
      omega
    · have hk : ¬ K n := fun q => hm ((h n).mpr ⟨by omega, q⟩)
      rw [cif_f hk]
      exact nd_cnt n l hn (fun x => by
        rw [h x]
        constructor
        · rintro ⟨a, b⟩
          have : x ≠ n := fun e => hk (e ▸ b)
          exact ⟨by omega, b⟩
        · rintro ⟨a, b⟩
          exact ⟨by omega, b⟩)
theorem MesD.cnt {M : mx_M} {c : Nat} {hs : Hs} {X : Cx} (h : MesD M c hs X) : (cF X).length = cntK (Kw hs) 256 :=
  nd_cnt 256 _ h.1.2.2.2.2.2.2.1.2.1 (fun x => ⟨fun q => ⟨h.1.2.2.2.2.2.2.1.2.2.1 x q, (h.2.2.2.2.2.1 x).mp q⟩, fun q => (h.2.2.2.2.2.1 x).mpr q.2⟩)
theorem k_inOrder (G : mx_G) {M : mx_M} {c k : Nat} {hs : Hs} {X : Cx} (ho : mx_ocl LAY c = 2) (h : MesD M c hs X) (hk : k < 2 ^ 31) : sOk G m_Cells_inOrder [.ref c, .int (nI k)] M (fun r M' => (∃ x, r = some (.int x) ∧ NthR (Kw hs) k x) ∧ M' = M) := by
  obtain ⟨⟨m0, m1, m2, m3, m4, m5, m6, m7, m8, m9, m10, m11, m12, m13, m14⟩, d2, d3, d4, d5, d6, d7⟩ := id h
  refine sOk_of ⟨by decide +kernel, by decide +kernel, Nat.le_of_ble_eq_true rfl⟩ ?_
  show sW G m_Cells_inOrder 0 ([], [some (.ref c), some (.int (nI k)), none, none], M) _
  refine sW_go b_Cells_inOrder_0 (st' := ([], [some (.ref c), some (.int (nI k)), some (.int (nI k)), some (.int (nI 0))], M)) (φ := True) rfl trivial ?_
  refine mx_ind (α := Nat × Nat) (fun a => 256 - a.1) (fun a => a.1 ≤ 256 → a.2 + cntK (Kw hs) a.1 = k → sW G m_Cells_inOrder 4 ([], [some (.ref c), some (.int (nI k)), some (.int (nI a.2)), some (.int (nI a.1))], M) _) ?_ (0, k) (Nat.zero_le _) rfl
  rintro ⟨s, l⟩ ih hs1 hl
  dsimp only at ih hs1 hl ⊢
  by_cases hsn : s < 256
  · obtain ⟨z1, z2⟩ := m6.2.2.2.2.1 s hsn
    have z3 := m6.2.2.2.2.2 s hsn
    have z4 := d6 s
    have z5 : M (c + 7) s = nI (cf X s) := z1
    have e1 : cntK (Kw hs) (s + 1) = cntK (Kw hs) s + cif (Kw hs s) 1 0 := rfl
    refine sW_go b_Cells_inOrder_4 (st' := ([.int (nI 256), .int (nI s)], [some (.ref c), some (.int (nI k)), some (.int (nI l)), some (.int (nI s))], M)) (φ := True) rfl trivial ?_
    refine sW_ic_ge 38 d_Cells_inOrder_8 (by decide) (fun c_8 => ?_) (fun c_8 => ?_)
    · skip
      simp (disch := omega) only [nI_leI] at c_8
      refine sW_go b_Cells_inOrder_38 (st' := ([.int (-1000000)], [some (.ref c), some (.int (nI k)), some (.int (nI l)), some (.int (nI s))], M)) (φ := True) rfl trivial ?_
      refine sW_retI d_Cells_inOrder_40 rfl (vp_nar_int _) ?_
      omega
    · skip
      simp (disch := omega) only [nI_leI] at c_8
      refine sW_go b_Cells_inOrder_11 (st' := ([.int (M (c + 7) (nI s).toNatClampNeg)], [some (.ref c), some (.int (nI k)), some (.int (nI l)), some (.int (nI s))], M)) (φ := mx_ocl LAY c = 2 ∧ mx_ocl LAY (c + 5) = 6 ∧ vp_in (nI s) (mx_len LAY false (c + 7)) ∧ True) rfl ⟨ho, (oc_Cells_found ho), (by simp (disch := omega) only [(ln_Sets_number (oc_Cells_found ho))]; exact vp_in_nI (by omega) (by decide)), trivial⟩ ?_
      refine sW_eq (st' := ([.int (nI (cf X s))], [some (.ref c), some (.int (nI k)), some (.int (nI l)), some (.int (nI s))], M)) (by simp (disch := omega) only [nI_clamp, z5]) ?_
      refine sW_if_eq 32 d_Cells_inOrder_20 (by decide) (fun c_20 => ?_) (fun c_20 => ?_)
      · skip
        simp (disch := omega) only [nI_z] at c_20
        refine sW_go b_Cells_inOrder_32 (st' := ([], [some (.ref c), some (.int (nI k)), some (.int (nI l)), some (.int (nI s + nI 1))], M)) (φ := True) rfl trivial ?_
        refine sW_eq (st' := ([], [some (.ref c), some (.int (nI k)), some (.int (nI l)), some (.int (nI (s + 1)))], M)) (by simp (disch := omega) only [nI_add]) ?_
        refine sW_goto 4 d_Cells_inOrder_35 (by decide) ?_
        refine ih (s + 1, l) (by dsimp only; omega) (by dsimp only; omega) ?_
        dsimp only
        rw [e1, cif_f (fun q => z3.mpr (z4.mpr q) c_20)]
        omega
      · skip
        simp (disch := omega) only [nI_z] at c_20
        refine sW_go b_Cells_inOrder_23 (st' := ([.int (nI l)], [some (.ref c), some (.int (nI k)), some (.int (nI l)), some (.int (nI s))], M)) (φ := True) rfl trivial ?_
        refine sW_if_ne 29 d_Cells_inOrder_24 (by decide) (fun c_24 => ?_) (fun c_24 => ?_)
        · skip
          simp (disch := omega) only [nI_z] at c_24
          refine sW_go b_Cells_inOrder_29 (st' := ([], [some (.ref c), some (.int (nI k)), some (.int (nI l + (-1))), some (.int (nI s))], M)) (φ := True) rfl trivial ?_
          refine sW_go b_Cells_inOrder_32 (st' := ([], [some (.ref c), some (.int (nI k)), some (.int (nI l + (-1))), some (.int (nI s + nI 1))], M)) (φ := True) rfl trivial ?_
          refine sW_eq (st' := ([], [some (.ref c), some (.int (nI k)), some (.int (nI l + (-1))), some (.int (nI (s + 1)))], M)) (by simp (disch := omega) only [nI_add]) ?_
          refine sW_goto 4 d_Cells_inOrder_35 (by decide) ?_
          have h0 : ∃ l', l = l' + 1 := ⟨l - 1, by omega⟩
          obtain ⟨l', rfl⟩ := h0
          refine sW_eq (st' := ([], [some (.ref c), some (.int (nI k)), some (.int (nI l')), some (.int (nI (s + 1)))], M)) (by rw [pk_m1]) ?_
          refine ih (s + 1, l') (by dsimp only; omega) (by dsimp only; omega) ?_
          dsimp only
          rw [e1, cif_t (z4.mp (z3.mp c_20))]
          omega
        · skip
          simp (disch := omega) only [nI_z] at c_24
          refine sW_go b_Cells_inOrder_27 (st' := ([.int (nI s)], [some (.ref c), some (.int (nI k)), some (.int (nI l)), some (.int (nI s))], M)) (φ := True) rfl trivial ?_
          refine sW_retI d_Cells_inOrder_28 rfl (vp_nar_int _) ?_
          exact ⟨⟨_, rfl, Or.inl ⟨s, hsn, z4.mp (z3.mp c_20), by omega, rfl⟩⟩, rfl⟩
  · have hse : s = 256 := by omega
    subst hse
    refine sW_go b_Cells_inOrder_4 (st' := ([.int (nI 256), .int (nI 256)], [some (.ref c), some (.int (nI k)), some (.int (nI l)), some (.int (nI 256))], M)) (φ := True) rfl trivial ?_
    refine sW_ic_ge 38 d_Cells_inOrder_8 (by decide) (fun c_8 => ?_) (fun c_8 => ?_)
    · skip
      simp (disch := omega) only [nI_leI] at c_8
      refine sW_go b_Cells_inOrder_38 (st' := ([.int (-1000000)], [some (.ref c), some (.int (nI k)), some (.int (nI l)), some (.int (nI 256))], M)) (φ := True) rfl trivial ?_
      refine sW_retI d_Cells_inOrder_40 rfl (vp_nar_int _) ?_
      exact ⟨⟨_, rfl, Or.inr ⟨by omega, rfl⟩⟩, rfl⟩
    · skip
      simp (disch := omega) only [nI_leI] at c_8
      exact absurd c_8 (by decide)

