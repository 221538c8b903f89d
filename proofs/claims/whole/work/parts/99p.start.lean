/-! ===== the law, from its entry ===== -/
theorem L_all : ([] ++ L_TS 0) ++ L_Mo 119 = LAY := by decide +kernel
def σ0 : Sg := ((fun _ => -1, fun _ => 0, fun _ _ => 0), (fun _ => 0, 0, 0), (hsE 0, []), (hsE 0, hsE 0), [], 0)
theorem whs_E : WHs (hsE 0) := ⟨⟨Nat.zero_le 8, Nat.zero_le 4, fun k hk => absurd hk (Nat.not_lt_zero k)⟩, fun k _ => ⟨rfl, rfl, rfl⟩, fun w => absurd w (Nat.lt_irrefl 0)⟩
theorem g_E : GOk σ0 := ⟨whs_E, whs_E, whs_E, fun H hH => absurd hH List.not_mem_nil, Nat.zero_le _, Nat.zero_le _, Nat.zero_le _⟩
def zE (M : mx_M) : Prop := ∀ a j, a < 1000 → a ≠ 2 → a ≠ 120 → M a j = nI 0
theorem sets_E {M : mx_M} (z : zE M) (q : Nat) (hq : 3 ≤ q ∧ q < 118) : SetsAt M q [] (fun _ => 0) := ⟨z q 2 (by omega) (by omega) (by omega), List.nodup_nil, fun s hs => absurd hs List.not_mem_nil, fun i hi => absurd hi (Nat.not_lt_zero i), fun s _ => ⟨z (q + 2) s (by omega) (by omega) (by omega), Nat.two_pow_pos 31⟩, fun s _ => ⟨fun w => absurd rfl w, fun w => absurd w List.not_mem_nil⟩⟩
theorem cells_E {M : mx_M} (z : zE M) (c : Nat) (hc : 3 ≤ c ∧ c < 80) : CellsSh M c := ⟨[], fun _ => 0, [], [], [], [], [], [], sets_E z _ (by omega), ⟨_, sets_E z _ (by omega)⟩, ⟨_, sets_E z _ (by omega)⟩, ⟨_, sets_E z _ (by omega)⟩, ⟨_, sets_E z _ (by omega)⟩, ⟨_, sets_E z _ (by omega)⟩, ⟨_, sets_E z _ (by omega)⟩⟩
theorem hs_E {M : mx_M} (z : zE M) (h : Nat) (hc : 3 ≤ h ∧ h < 100) : HsAt M h (hsE 0) := ⟨z h 3 (by omega) (by omega) (by omega), z h 4 (by omega) (by omega) (by omega), fun k hk => absurd hk (Nat.not_lt_zero k)⟩
theorem c_E {M : mx_M} (z : zE M) (z2 : ∀ j, j < 8 → M 2 j = -1) : CInv M σ0 := ⟨fun r hr => ⟨z2 r hr, Or.inl rfl, z 3 r (by decide) (by decide) (by decide), Nat.zero_le _, fun w => absurd rfl w⟩, ⟨⟨z 5 1 (by decide) (by decide) (by decide), Nat.zero_le _, fun i hi => absurd hi (Nat.not_lt_zero i)⟩, z 5 6 (by decide) (by decide) (by decide)⟩, hs_E z 7 (by decide), hs_E z 15 (by decide), hs_E z 19 (by decide), ⟨z 23 4 (by decide) (by decide) (by decide), Nat.zero_le _, fun i hi => absurd hi (Nat.not_lt_zero i)⟩, ⟨cells_E z 28 (by decide), Or.inl (z 0 11 (by decide) (by decide) (by decide))⟩, cells_E z 65 (by decide), ⟨⟨⟨_, _, sets_E z _ (by decide)⟩, ⟨_, _, sets_E z _ (by decide)⟩, ⟨_, _, sets_E z _ (by decide)⟩, ⟨_, _, sets_E z _ (by decide)⟩⟩, Or.inl (z 0 12 (by decide) (by decide) (by decide))⟩, ⟨z 117 1 (by decide) (by decide) (by decide), fun i hi => absurd hi (Nat.not_lt_zero i)⟩, z 0 13 (by decide) (by decide) (by decide)⟩
theorem row_0E {M : mx_M} (z : zE M) (a : Nat) (ha : 120 < a ∧ a < 1000) : RowAt M a 0 (hsE 0) := fun i _ => by
  rw [enc_E]
  exact z a _ (by omega) (by omega) (by omega)
theorem m_E {M : mx_M} (z : zE M) (z2 : ∀ j, j < 8 → M 120 j = -1) : MInv M σ0 := ⟨fun r hr => ⟨z2 r hr, Or.inl rfl, z 121 r (by decide) (by decide) (by decide), Nat.zero_le _, fun w => absurd rfl w⟩, ⟨z 119 11 (by decide) (by decide) (by decide), Nat.zero_le _, fun i hi => absurd hi (Nat.not_lt_zero i), z 119 18 (by decide) (by decide) (by decide)⟩, ⟨row_0E z 123 (by decide), z 119 9 (by decide) (by decide) (by decide), Nat.zero_le _, fun i hi => absurd hi (Nat.not_lt_zero i)⟩, ⟨(z 136 0 (by decide) (by decide) (by decide)).trans (if_neg (fun w => absurd rfl w)).symm, (z 136 1 (by decide) (by decide) (by decide)).trans (if_neg (fun w => absurd rfl w)).symm, fun w => absurd rfl w, fun w => absurd rfl w⟩, ⟨z 119 31 (by decide) (by decide) (by decide), fun i hi => absurd hi (Nat.not_lt_zero i)⟩, z 119 1 (by decide) (by decide) (by decide), ⟨hsE 0, whs_E, row_0E z 133 (by decide), fun w => absurd rfl w⟩⟩
theorem law_all (G : mx_G) (hL : mx_L G < 2 ^ 31) (M : mx_M) (hX : M 1000 = mx_xs G) (h0 : ∀ a, a < 1000 → ∀ j, M a j = 0) : mx_W G m_law 0 ([], [some (.ref 1000), none, none, none], M) [] 0 0 (sQ (fun r _ => r = some (.int 1))) := by
  refine mx_newO (ci := 9) (N := 14) (p1 := 93) (p2 := 94) (p3 := 79) (by decide) rfl (by decide +kernel) (by decide +kernel) ⟨Nat.le_of_ble_eq_true rfl, Nat.le_of_ble_eq_true rfl⟩ d_law_0 ?_
  refine mx_go b_law_3 (st' := ([.ref 0, .ref 0], [some (.ref 1000), none, none, none], M)) rfl trivial ?_
  refine mx_callI (ps := [95, 96, 79, 97]) (mc := m_TS_init) (s := [.ref 0]) (kd := .inl (9, mx_nul 9)) d_law_4 (by decide +kernel) rfl rfl (Nat.le_of_ble_eq_true rfl) ⟨Nat.le_of_ble_eq_true rfl, Nat.le_of_ble_eq_true rfl⟩ (in_TS G [] 0 M rfl (by decide)) ?_
  rintro r Λ' M' ⟨rfl, rfl, rfl⟩
  refine mx_go b_law_7 (st' := ([], [some (.ref 1000), some (.ref 0), none, none], in_M1 2 M)) rfl trivial ?_
  have hlen : ([] ++ L_TS 0).length = 119 := L_TS_len 0
  refine mx_newO (ci := 10) (N := 32) (p1 := 934) (p2 := 935) (p3 := 90) (by rw [hlen]; decide) rfl (by decide +kernel) (by decide +kernel) ⟨Nat.le_of_ble_eq_true rfl, Nat.le_of_ble_eq_true rfl⟩ d_law_8 ?_
  rw [hlen]
  refine mx_go b_law_11 (st' := ([.ref 119, .ref 119], [some (.ref 1000), some (.ref 0), none, none], in_M1 2 M)) rfl trivial ?_
  refine mx_callI (ps := [936, 937, 90, 938]) (mc := m_Mo_init) (s := [.ref 119]) (kd := .inl (10, mx_nul 10)) d_law_12 (by decide +kernel) (by rw [← hlen, List.getElem?_append_right (Nat.le_refl _), Nat.sub_self]; rfl) rfl (Nat.le_of_ble_eq_true rfl) ⟨Nat.le_of_ble_eq_true rfl, Nat.le_of_ble_eq_true rfl⟩ (in_Mo G _ 119 _ hlen (by decide)) ?_
  rintro r Λ' M' ⟨rfl, rfl, rfl⟩
  rw [L_all]
  refine mx_go b_law_15 (st' := ([], lL 0, in_M1 120 (in_M1 2 M))) rfl trivial ?_
  have e1 : ∀ a, a ≠ 2 → a ≠ 120 → in_M1 120 (in_M1 2 M) a = M a := fun a h1 h2 => by
    funext j
    unfold in_M1 in_fl
    rw [if_neg (fun q => h2 q.1), if_neg (fun q => h1 q.1)]
  have z : ∀ a j, a < 1000 → a ≠ 2 → a ≠ 120 → in_M1 120 (in_M1 2 M) a j = nI 0 := fun a j h1 h2 h3 => by
    rw [e1 a h2 h3, h0 a h1, nI_0]
  exact law_lp G hL 0 _ σ0 (Nat.zero_le _) ((e1 1000 (by decide) (by decide)).trans hX) (c_E z (fun j hj => by
    unfold in_M1 in_fl
    rw [if_neg (fun q => absurd q.1 (by decide)), if_pos ⟨rfl, hj⟩])) (m_E z (fun j hj => by
    unfold in_M1 in_fl
    rw [if_pos ⟨rfl, hj⟩])) g_E

