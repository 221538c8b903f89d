/-! ===== the model: cells ===== -/
/-- heights and sorts, when cells have come: by sort w the cells of Q w, at height h -/
def CmI (H0 S0 : Nat → Nat) (h : Nat) (Q : Nat → Nat → Prop) (H S : Nat → Nat) : Prop := ∀ c, c < 256 → H c = (if H0 c ≠ 0 then H0 c else cif (∃ w, w < 3 ∧ Q w c) h 0) ∧ S c < 8 ∧ ∀ w, w < 3 → (bt (S c) w = 1 ↔ bt (S0 c) w = 1 ∨ Q w c)
theorem CmI.z {H S : Nat → Nat} {h : Nat} (hS : ∀ c, c < 256 → S c < 8) : CmI H S h (fun _ _ => False) H S := fun c hc => by
  refine ⟨?_, hS c hc, fun w _ => ⟨Or.inl, fun q => q.elim id False.elim⟩⟩
  by_cases q : H c ≠ 0
  · rw [if_pos q]
  · rw [if_neg q, cif_f (fun ⟨w, _, z⟩ => z)]
    exact Classical.not_not.mp q
theorem CmI.congr {H0 S0 H S : Nat → Nat} {h : Nat} {Q Q' : Nat → Nat → Prop} (h1 : CmI H0 S0 h Q H S) (hq : ∀ w c, w < 3 → c < 256 → (Q w c ↔ Q' w c)) : CmI H0 S0 h Q' H S := fun c hc => by
  obtain ⟨a, b, d⟩ := h1 c hc
  refine ⟨?_, b, fun w hw => (d w hw).trans ⟨fun z => z.imp id (hq w c hw hc).mp, fun z => z.imp id (hq w c hw hc).mpr⟩⟩
  have e : (∃ w, w < 3 ∧ Q w c) ↔ ∃ w, w < 3 ∧ Q' w c := ⟨fun ⟨w, x, y⟩ => ⟨w, x, (hq w c x hc).mp y⟩, fun ⟨w, x, y⟩ => ⟨w, x, (hq w c x hc).mpr y⟩⟩
  rw [a, propext e]
theorem bt_p2 : ∀ w, w < 3 → ∀ v, v < 3 → (bt (2 ^ w) v = 1 ↔ v = w) := fun w _ v _ => bt_2p w v
theorem or8 {a b : Nat} (ha : a < 8) (hb : b < 8) : a ||| b < 8 := or_lt (k := 3) ha hb
theorem CmI.add {H0 S0 H S : Nat → Nat} {h : Nat} {Q : Nat → Nat → Prop} (h1 : CmI H0 S0 h Q H S) {c0 w0 : Nat} (hc : c0 < 256) (hw0 : w0 < 3) (hh : 0 < h) : CmI H0 S0 h (fun w c => Q w c ∨ (w = w0 ∧ c = c0)) (updN H c0 (if H c0 = 0 then h else H c0)) (updN S c0 (S c0 ||| 2 ^ w0)) := fun c hc' => by
  obtain ⟨a, b, d⟩ := h1 c hc'
  have h2w : 2 ^ w0 < 8 := by rcases (by omega : w0 = 0 ∨ w0 = 1 ∨ w0 = 2) with rfl | rfl | rfl <;> decide
  by_cases hx : c = c0
  · subst hx
    rw [updN_s, updN_s]
    refine ⟨?_, or8 b h2w, fun w hw => ?_⟩
    · by_cases q : H0 c ≠ 0
      · rw [if_pos q] at a ⊢
        rw [if_neg (by omega)]
        exact a
      · rw [if_neg q] at a ⊢
        rw [cif_t ⟨w0, hw0, Or.inr ⟨rfl, rfl⟩⟩]
        by_cases q2 : ∃ w, w < 3 ∧ Q w c
        · rw [cif_t q2] at a
          rw [if_neg (by omega)]
          exact a
        · rw [cif_f q2] at a
          rw [if_pos a]
    · rw [bt_or, d w hw, bt_2p]
      exact ⟨fun z => z.elim (fun y => y.imp id Or.inl) (fun y => Or.inr (Or.inr ⟨y, rfl⟩)), fun z => z.elim (fun y => Or.inl (Or.inl y)) (fun y => y.elim (fun x => Or.inl (Or.inr x)) (fun x => Or.inr x.1))⟩
  · rw [updN_n _ _ hx, updN_n _ _ hx]
    refine ⟨?_, b, fun w hw => (d w hw).trans ⟨fun z => z.imp id Or.inl, fun z => z.imp id (fun y => y.elim id (fun x => absurd x.2 hx))⟩⟩
    have e : (∃ w, w < 3 ∧ Q w c) ↔ ∃ w, w < 3 ∧ (Q w c ∨ (w = w0 ∧ c = c0)) := ⟨fun ⟨w, x, y⟩ => ⟨w, x, Or.inl y⟩, fun ⟨w, x, y⟩ => ⟨w, x, y.elim id (fun z => absurd z.2 hx)⟩⟩
    rw [a, propext e]
theorem HgtAt.upd {M : mx_M} {H : Nat → Nat} (h : HgtAt M H) (c v : Nat) : HgtAt (mx_wr M 128 c (nI v)) (updN H c v) := fun x hx => by
  rw [mx_wr_s]
  by_cases q : x = c
  · rw [q, pk_us, updN_s]
  · rw [pk_un q, updN_n _ _ q]; exact h x hx
theorem SrtAt.upd {M : mx_M} {S : Nat → Nat} (h : SrtAt M S) (c v : Nat) : SrtAt (mx_wr M 129 c (nI v)) (updN S c v) := fun x hx => by
  rw [mx_wr_s]
  by_cases q : x = c
  · rw [q, pk_us, updN_s]
  · rw [pk_un q, updN_n _ _ q]; exact h x hx
theorem updN_same {f : Nat → Nat} {c x : Nat} (h : f c = x) : updN f c x = f := funext (fun k => by
  by_cases q : k = c
  · rw [q, updN_s, h]
  · rw [updN_n _ _ q])
theorem k_comes (G : mx_G) {M : mx_M} {H S : Nat → Nat} {c s h : Nat} (hH : HgtAt M H) (hS : SrtAt M S) (hc : c < 256) (hb : H c < 2 ^ 31) : sOk G m_Mo_comes [.ref 119, .int (nI c), .int (nI s), .int (nI h)] M (fun r M' => r = none ∧ MFr M M' [128, 129] [] ∧ HgtAt M' (updN H c (if H c = 0 then h else H c)) ∧ SrtAt M' (updN S c (S c ||| s))) := by
  have e1 := hS c hc
  have e2 : mx_wr M 129 c (nI (S c ||| s)) 128 c = nI (H c) := by rw [mx_wr_n _ _ _ (by decide)]; exact hH c hc
  have hS2 := hS.upd c (S c ||| s)
  have hH2 : HgtAt (mx_wr M 129 c (nI (S c ||| s))) H := fun x hx => by rw [mx_wr_n _ _ _ (by decide)]; exact hH x hx
  refine sOk_of ⟨by decide +kernel, by decide +kernel, Nat.le_of_ble_eq_true rfl⟩ ?_
  show sW G m_Mo_comes 0 ([], [some (.ref 119), some (.int (nI c)), some (.int (nI s)), some (.int (nI h))], M) _
  refine sW_go b_Mo_comes_0 (st' := ([.int ((mx_wr M 129 (nI c).toNatClampNeg (M 129 (nI c).toNatClampNeg ||| nI s)) 128 (nI c).toNatClampNeg)], [some (.ref 119), some (.int (nI c)), some (.int (nI s)), some (.int (nI h))], mx_wr M 129 (nI c).toNatClampNeg (M 129 (nI c).toNatClampNeg ||| nI s))) (φ := mx_ocl LAY 119 = 10 ∧ vp_in (nI c) (mx_len LAY false 129) ∧ vp_in (nI c) (mx_len LAY false 129) ∧ mx_ocl LAY 119 = 10 ∧ vp_in (nI c) (mx_len LAY false 128) ∧ True) rfl ⟨oc_119, (by simp (disch := omega) only [ln_129]; exact vp_in_nI (by omega) (by decide)), (by simp (disch := omega) only [ln_129]; exact vp_in_nI (by omega) (by decide)), oc_119, (by simp (disch := omega) only [ln_128]; exact vp_in_nI (by omega) (by decide)), trivial⟩ ?_
  refine sW_eq (st' := ([.int (nI (H c))], [some (.ref 119), some (.int (nI c)), some (.int (nI s)), some (.int (nI h))], mx_wr M 129 c (nI (S c ||| s)))) (by simp (disch := omega) only [e1, e2, nI_clamp, nx_or]) ?_
  refine sW_if_ne 26 d_Mo_comes_16 (by decide) (fun c_16 => ?_) (fun c_16 => ?_)
  · skip
    simp (disch := omega) only [nI_z] at c_16
    refine sW_retV d_Mo_comes_26 rfl ?_
    refine ⟨rfl, MFr.rf.wr (by decide) (by decide), ?_, hS2⟩
    rw [if_neg c_16, updN_same rfl]
    exact hH2
  · skip
    simp (disch := omega) only [nI_z] at c_16
    refine sW_go b_Mo_comes_19 (st' := ([], [some (.ref 119), some (.int (nI c)), some (.int (nI s)), some (.int (nI h))], mx_wr (mx_wr M 129 c (nI (S c ||| s))) 128 (nI c).toNatClampNeg (nI h))) (φ := mx_ocl LAY 119 = 10 ∧ vp_in (nI c) (mx_len LAY false 128) ∧ True) rfl ⟨oc_119, (by simp (disch := omega) only [ln_128]; exact vp_in_nI (by omega) (by decide)), trivial⟩ ?_
    refine sW_eq (st' := ([], [some (.ref 119), some (.int (nI c)), some (.int (nI s)), some (.int (nI h))], mx_wr (mx_wr M 129 c (nI (S c ||| s))) 128 c (nI h))) (by simp (disch := omega) only [nI_clamp]) ?_
    refine sW_retV d_Mo_comes_26 rfl ?_
    refine ⟨rfl, (MFr.rf.wr (by decide) (by decide)).wr (by decide) (by decide), ?_, fun x hx => ?_⟩
    · rw [if_pos c_16]; exact hH2.upd c h
    · rw [mx_wr_n _ _ _ (by decide)]; exact hS2 x hx
def gatN (H : Nat → Nat) (n : Nat) : List Nat := (List.range n).filter (fun c => decide (H c ≠ 0))
theorem gatN_len (H : Nat → Nat) (n : Nat) : (gatN H n).length ≤ n := by
  have := List.length_filter_le (fun c => decide (H c ≠ 0)) (List.range n)
  rw [List.length_range] at this
  exact this
theorem gatN_1 {H : Nat → Nat} {c : Nat} (h : H c ≠ 0) : gatN H (c + 1) = gatN H c ++ [c] := by
  unfold gatN
  rw [List.range_succ, List.filter_append, List.filter_cons, if_pos (decide_eq_true h)]
  rfl
theorem gatN_0 {H : Nat → Nat} {c : Nat} (h : ¬ H c ≠ 0) : gatN H (c + 1) = gatN H c := by
  unfold gatN
  rw [List.range_succ, List.filter_append, List.filter_cons, if_neg (fun q => h (of_decide_eq_true q))]
  exact List.append_nil _
theorem k_gather (G : mx_G) {M : mx_M} {H : Nat → Nat} (hH : HgtAt M H) (hb : ∀ c, c < 256 → H c < 2 ^ 31) : sOk G m_Mo_gather [.ref 119] M (fun r M' => r = none ∧ MFr M M' [130] [22] ∧ GatAt M' (gat H)) := by
  refine sOk_of ⟨by decide +kernel, by decide +kernel, Nat.le_of_ble_eq_true rfl⟩ ?_
  show sW G m_Mo_gather 0 ([], [some (.ref 119), none], M) _
  refine sW_go b_Mo_gather_0 (st' := ([], [some (.ref 119), some (.int (nI 0))], mx_wr M 119 22 (nI 0))) (φ := mx_ocl LAY 119 = 10 ∧ True) rfl ⟨oc_119, trivial⟩ ?_
  refine mx_ind (α := Nat × mx_M) (fun q => 256 - q.1) (fun q => q.1 ≤ 256 → MFr M q.2 [130] [22] → GatAt q.2 (gatN H q.1) → sW G m_Mo_gather 7 ([], [some (.ref 119), some (.int (nI q.1))], q.2) _) ?_ (0, (mx_wr M 119 22 (nI 0))) (Nat.zero_le _) (MFr.rf.wo (by decide)) ⟨by dsimp only; rw [rd_s]; rfl, fun i hi => absurd hi (Nat.not_lt_zero i)⟩
  rintro ⟨c, M2⟩ ih hc i1 i2
  dsimp only at ih hc i1 i2 ⊢
  by_cases hcn : c < 256
  · have e1 : M2 128 c = nI (H c) := by rw [i1.1 128 (by decide) (by decide)]; exact hH c hcn
    have e2 := i2.1
    have hl := gatN_len H c
    have hbc := hb c hcn
    have z : mx_wr M2 130 (gatN H c).length (nI c) 119 22 = nI (gatN H c).length := by rw [mx_wr_n _ _ _ (by decide)]; exact e2
    refine sW_go b_Mo_gather_7 (st' := ([.int (nI 256), .int (nI c)], [some (.ref 119), some (.int (nI c))], M2)) (φ := True) rfl trivial ?_
    refine sW_ic_ge 49 d_Mo_gather_11 (by decide) (fun c_11 => ?_) (fun c_11 => ?_)
    · skip
      simp (disch := omega) only [nI_leI] at c_11
      omega
    · skip
      simp (disch := omega) only [nI_leI] at c_11
      refine sW_go b_Mo_gather_14 (st' := ([.int (M2 128 (nI c).toNatClampNeg)], [some (.ref 119), some (.int (nI c))], M2)) (φ := mx_ocl LAY 119 = 10 ∧ vp_in (nI c) (mx_len LAY false 128) ∧ True) rfl ⟨oc_119, (by simp (disch := omega) only [ln_128]; exact vp_in_nI (by omega) (by decide)), trivial⟩ ?_
      refine sW_eq (st' := ([.int (nI (H c))], [some (.ref 119), some (.int (nI c))], M2)) (by simp (disch := omega) only [e1, nI_clamp]) ?_
      refine sW_if_le 43 d_Mo_gather_20 (by decide) (fun c_20 => ?_) (fun c_20 => ?_)
      · skip
        refine sW_go b_Mo_gather_43 (st' := ([], [some (.ref 119), some (.int (nI c + nI 1))], M2)) (φ := True) rfl trivial ?_
        refine sW_eq (st' := ([], [some (.ref 119), some (.int (nI (c + 1)))], M2)) (by simp (disch := omega) only [nI_add]) ?_
        refine sW_goto 7 d_Mo_gather_46 (by decide) ?_
        have q : ¬ H c ≠ 0 := by
          rw [Int32.le_iff_toInt_le, nI_toInt hbc, Int32.toInt_zero] at c_20
          omega
        exact ih (c + 1, M2) (by dsimp only; omega) (by dsimp only; omega) i1 (by dsimp only; rw [gatN_0 q]; exact i2)
      · skip
        refine sW_go b_Mo_gather_23 (st' := ([], [some (.ref 119), some (.int (nI c))], mx_wr (mx_wr M2 130 (M2 119 22).toNatClampNeg (nI c)) 119 22 ((mx_wr M2 130 (M2 119 22).toNatClampNeg (nI c)) 119 22 + nI 1))) (φ := mx_ocl LAY 119 = 10 ∧ mx_ocl LAY 119 = 10 ∧ vp_in (M2 119 22) (mx_len LAY false 130) ∧ mx_ocl LAY 119 = 10 ∧ mx_ocl LAY 119 = 10 ∧ True) rfl ⟨oc_119, oc_119, (by simp (disch := omega) only [e2, ln_130]; exact vp_in_nI (by omega) (by decide)), oc_119, oc_119, trivial⟩ ?_
        refine sW_eq (st' := ([], [some (.ref 119), some (.int (nI c))], mx_wr (mx_wr M2 130 (gatN H c).length (nI c)) 119 22 (nI ((gatN H c).length + 1)))) (by simp (disch := omega) only [e2, nI_add, nI_clamp, z]) ?_
        refine sW_go b_Mo_gather_43 (st' := ([], [some (.ref 119), some (.int (nI c + nI 1))], mx_wr (mx_wr M2 130 (gatN H c).length (nI c)) 119 22 (nI ((gatN H c).length + 1)))) (φ := True) rfl trivial ?_
        refine sW_eq (st' := ([], [some (.ref 119), some (.int (nI (c + 1)))], mx_wr (mx_wr M2 130 (gatN H c).length (nI c)) 119 22 (nI ((gatN H c).length + 1)))) (by simp (disch := omega) only [nI_add]) ?_
        refine sW_goto 7 d_Mo_gather_46 (by decide) ?_
        have q : H c ≠ 0 := by
          rw [Int32.le_iff_toInt_le, nI_toInt hbc, Int32.toInt_zero] at c_20
          omega
        refine ih (c + 1, (mx_wr (mx_wr M2 130 (gatN H c).length (nI c)) 119 22 (nI ((gatN H c).length + 1)))) (by dsimp only; omega) (by dsimp only; omega) ((i1.wr (by decide) (by decide)).wo (by decide)) ?_
        dsimp only
        rw [gatN_1 q]
        refine ⟨by rw [rd_s, List.length_append]; rfl, fun i hi => ?_⟩
        rw [List.length_append] at hi
        have hi : i < (gatN H c).length + 1 := hi
        rw [mx_wr_n _ _ _ (by decide), mx_wr_s]
        by_cases hx : i = (gatN H c).length
        · rw [hx, pk_us, List.getD_eq_getElem?_getD, List.getElem?_append_right (Nat.le_refl _), Nat.sub_self]
          rfl
        · rw [pk_un hx, getD_app (by omega)]
          exact i2.2 i (by omega)
  · obtain rfl : c = 256 := by omega
    refine sW_go b_Mo_gather_7 (st' := ([.int (nI 256), .int (nI 256)], [some (.ref 119), some (.int (nI 256))], M2)) (φ := True) rfl trivial ?_
    refine sW_ic_ge 49 d_Mo_gather_11 (by decide) (fun c_11 => ?_) (fun c_11 => ?_)
    · skip
      simp (disch := omega) only [nI_leI] at c_11
      refine sW_retV d_Mo_gather_49 rfl ?_
      exact ⟨rfl, i1, i2⟩
    · skip
      exact absurd (by decide +kernel) c_11
/-- a row of 512 marks -/
def BolAt (M : mx_M) (a : Nat) (P : Nat → Prop) : Prop := ∀ v, v < 512 → M a v = tf (P v)
theorem BolAt.eq {M M' : mx_M} {a : Nat} {P : Nat → Prop} (h : BolAt M a P) (e : M' a = M a) : BolAt M' a P := fun v hv => by rw [e]; exact h v hv
theorem BolAt.set {M : mx_M} {a : Nat} {P : Nat → Prop} (h : BolAt M a P) (u : Nat) : BolAt (mx_wr M a u (nI 1)) a (fun v => P v ∨ v = u) := fun v hv => by
  rw [mx_wr_s]
  by_cases q : v = u
  · rw [q, pk_us, tf_t (Or.inr rfl)]
  · rw [pk_un q, h v hv]
    exact tf_iff ⟨Or.inl, fun z => z.elim id (fun y => absurd y q)⟩
theorem BolAt.congr {M : mx_M} {a : Nat} {P P' : Nat → Prop} (h : BolAt M a P) (hq : ∀ v, v < 512 → (P v ↔ P' v)) : BolAt M a P' := fun v hv => (h v hv).trans (tf_iff (hq v hv))
theorem or512 {a b : Nat} (ha : a < 512) (hb : b < 512) : a ||| b < 512 := or_lt (k := 9) ha hb
theorem or_idem (j v : Nat) : (j ||| v) ||| v = j ||| v := by rw [Nat.or_assoc, Nat.or_self]
theorem k_join50 (G : mx_G) {M M1 : mx_M} {T J : Nat → Prop} {v : Nat} (hv : v < 512) (f1 : MFr M M1 [132] []) (hT : BolAt M1 131 T) (hJ : BolAt M1 132 J) {Q : Option Value → mx_M → Prop}
  (hQ : ∀ M2, MFr M M2 [132] [] → BolAt M2 132 (fun x => J x ∨ ∃ j, J j ∧ x = j ||| v) → sW G m_Mo_join 81 ([], [some (.ref 119), some (.int (nI v)), some (.int (nI 512))], M2) Q) : sW G m_Mo_join 50 ([], [some (.ref 119), some (.int (nI v)), some (.int (nI 0))], M1) Q := by
  refine mx_ind (α := Nat × mx_M) (fun q => 512 - q.1) (fun q => q.1 ≤ 512 → MFr M q.2 [132] [] → BolAt q.2 132 (fun x => J x ∨ ∃ j, j < q.1 ∧ J j ∧ x = j ||| v) → sW G m_Mo_join 50 ([], [some (.ref 119), some (.int (nI v)), some (.int (nI q.1))], q.2) _) ?_ (0, M1) (Nat.zero_le _) f1 (hJ.congr (fun x _ => ⟨Or.inl, fun q => q.elim id (fun ⟨j, hj, _⟩ => absurd hj (Nat.not_lt_zero j))⟩))
  rintro ⟨k, M2⟩ ih hk i1 i2
  dsimp only at ih hk i1 i2 ⊢
  by_cases hkn : k < 512
  · have e1 := i2 k hkn
    have ho := or512 hkn hv
    refine sW_go b_Mo_join_50 (st' := ([.int (nI 512), .int (nI k)], [some (.ref 119), some (.int (nI v)), some (.int (nI k))], M2)) (φ := True) rfl trivial ?_
    refine sW_ic_ge 81 d_Mo_join_54 (by decide) (fun c_54 => ?_) (fun c_54 => ?_)
    · skip
      simp (disch := omega) only [nI_leI] at c_54
      omega
    · skip
      simp (disch := omega) only [nI_leI] at c_54
      refine sW_go b_Mo_join_57 (st' := ([.int (M2 132 (nI k).toNatClampNeg)], [some (.ref 119), some (.int (nI v)), some (.int (nI k))], M2)) (φ := mx_ocl LAY 119 = 10 ∧ vp_in (nI k) (mx_len LAY true 132) ∧ True) rfl ⟨oc_119, (by simp (disch := omega) only [ln_132]; exact vp_in_nI (by omega) (by decide)), trivial⟩ ?_
      refine sW_eq (st' := ([.int (tf (J k ∨ ∃ j, j < k ∧ J j ∧ k = j ||| v))], [some (.ref 119), some (.int (nI v)), some (.int (nI k))], M2)) (by simp (disch := omega) only [e1, nI_clamp]) ?_
      refine sW_if_eq 75 d_Mo_join_63 (by decide) (fun c_63 => ?_) (fun c_63 => ?_)
      · skip
        replace c_63 := tf_z.mp c_63
        refine sW_go b_Mo_join_75 (st' := ([], [some (.ref 119), some (.int (nI v)), some (.int (nI k + nI 1))], M2)) (φ := True) rfl trivial ?_
        refine sW_eq (st' := ([], [some (.ref 119), some (.int (nI v)), some (.int (nI (k + 1)))], M2)) (by simp (disch := omega) only [nI_add]) ?_
        refine sW_goto 50 d_Mo_join_78 (by decide) ?_
        refine ih (k + 1, M2) (by dsimp only; omega) (by dsimp only; omega) i1 (i2.congr (fun x _ => ?_))
        dsimp only
        refine ⟨fun q => q.imp id (fun ⟨j, a, b⟩ => ⟨j, by omega, b⟩), fun q => q.imp id (fun ⟨j, a, b, c⟩ => ⟨j, ?_, b, c⟩)⟩
        by_cases hx : j = k
        · exact absurd (Or.inl (hx ▸ b)) c_63
        · omega
      · skip
        replace c_63 := tf_nz.mp c_63
        refine sW_go b_Mo_join_66 (st' := ([], [some (.ref 119), some (.int (nI v)), some (.int (nI k))], mx_wr M2 132 (nI k ||| nI v).toNatClampNeg (nI 1))) (φ := mx_ocl LAY 119 = 10 ∧ (vp_in (nI k ||| nI v) (mx_len LAY true 132) ∧ ((nI 1) = 0 ∨ (nI 1) = 1)) ∧ True) rfl ⟨oc_119, ⟨(by simp (disch := omega) only [nx_or, ln_132]; exact vp_in_nI (by omega) (by decide)), (by first | exact tf_01 _ | decide)⟩, trivial⟩ ?_
        refine sW_eq (st' := ([], [some (.ref 119), some (.int (nI v)), some (.int (nI k))], mx_wr M2 132 (k ||| v) (nI 1))) (by simp (disch := omega) only [nI_clamp, nx_or]) ?_
        refine sW_go b_Mo_join_75 (st' := ([], [some (.ref 119), some (.int (nI v)), some (.int (nI k + nI 1))], mx_wr M2 132 (k ||| v) (nI 1))) (φ := True) rfl trivial ?_
        refine sW_eq (st' := ([], [some (.ref 119), some (.int (nI v)), some (.int (nI (k + 1)))], mx_wr M2 132 (k ||| v) (nI 1))) (by simp (disch := omega) only [nI_add]) ?_
        refine sW_goto 50 d_Mo_join_78 (by decide) ?_
        refine ih (k + 1, (mx_wr M2 132 (k ||| v) (nI 1))) (by dsimp only; omega) (by dsimp only; omega) (i1.wr (by decide) (by decide)) ((i2.set (k ||| v)).congr (fun x _ => ?_))
        dsimp only
        constructor
        · rintro ((q | ⟨j, a, b, c⟩) | q)
          · exact Or.inl q
          · exact Or.inr ⟨j, by omega, b, c⟩
          · rcases c_63 with y | ⟨j, a, b, c⟩
            · exact Or.inr ⟨k, by omega, y, q⟩
            · exact Or.inr ⟨j, by omega, b, by rw [q, c, or_idem]⟩
        · rintro (q | ⟨j, a, b, c⟩)
          · exact Or.inl (Or.inl q)
          · by_cases hx : j = k
            · exact Or.inr (by rw [c, hx])
            · exact Or.inl (Or.inr ⟨j, by omega, b, c⟩)
  · obtain rfl : k = 512 := by omega
    refine sW_go b_Mo_join_50 (st' := ([.int (nI 512), .int (nI 512)], [some (.ref 119), some (.int (nI v)), some (.int (nI 512))], M2)) (φ := True) rfl trivial ?_
    refine sW_ic_ge 81 d_Mo_join_54 (by decide) (fun c_54 => ?_) (fun c_54 => ?_)
    · skip
      simp (disch := omega) only [nI_leI] at c_54
      refine hQ M2 i1 (fun x hx => ?_)
      rw [i2 x hx]
      refine tf_iff ⟨fun q => q.imp id (fun ⟨j, a, b⟩ => ⟨j, b⟩), fun q => q.imp id (fun ⟨j, a, b⟩ => ⟨j, ?_, a, b⟩)⟩
      have h1 : j ≤ j ||| v := Nat.left_le_or
      omega
    · skip
      exact absurd (by decide +kernel) c_54
theorem k_join (G : mx_G) {M : mx_M} {T : Nat → Prop} (hT : BolAt M 131 T) : sOk G m_Mo_join [.ref 119] M (fun r M' => r = none ∧ MFr M M' [132] [] ∧ BolAt M' 132 (Jn (fun u => u < 512 ∧ T u))) := by
  refine sOk_of ⟨by decide +kernel, by decide +kernel, Nat.le_of_ble_eq_true rfl⟩ ?_
  show sW G m_Mo_join 0 ([], [some (.ref 119), none, none], M) _
  refine sW_go b_Mo_join_0 (st' := ([], [some (.ref 119), some (.int (nI 0)), none], M)) (φ := True) rfl trivial ?_
  refine mx_ind (α := Nat × mx_M) (fun q => 512 - q.1) (fun q => q.1 ≤ 512 → MFr M q.2 [132] [] → (∀ i, i < q.1 → q.2 132 i = tf (i = 0)) → sW G m_Mo_join 2 ([], [some (.ref 119), some (.int (nI q.1)), none], q.2) _) ?_ (0, M) (Nat.zero_le _) MFr.rf (fun i hi => absurd hi (Nat.not_lt_zero i))
  rintro ⟨k, M2⟩ ih hk i1 i2
  dsimp only at ih hk i1 i2 ⊢
  by_cases hkn : k < 512
  · have st : ∀ v : Int32, v = tf (k = 0) → ∀ i, i < k + 1 → mx_wr M2 132 k v 132 i = tf (i = 0) := fun v hv i hi => by
      rw [mx_wr_s]
      by_cases hx : i = k
      · rw [hx, pk_us, hv]
      · rw [pk_un hx]; exact i2 i (by omega)
    refine sW_go b_Mo_join_2 (st' := ([.int (nI 512), .int (nI k)], [some (.ref 119), some (.int (nI k)), none], M2)) (φ := True) rfl trivial ?_
    refine sW_ic_ge 30 d_Mo_join_6 (by decide) (fun c_6 => ?_) (fun c_6 => ?_)
    · skip
      simp (disch := omega) only [nI_leI] at c_6
      omega
    · skip
      simp (disch := omega) only [nI_leI] at c_6
      refine sW_go b_Mo_join_9 (st' := ([.int (nI k), .int (nI k), .ref 132], [some (.ref 119), some (.int (nI k)), none], M2)) (φ := mx_ocl LAY 119 = 10 ∧ True) rfl ⟨oc_119, trivial⟩ ?_
      refine sW_if_ne 22 d_Mo_join_15 (by decide) (fun c_15 => ?_) (fun c_15 => ?_)
      · skip
        simp (disch := omega) only [nI_z] at c_15
        refine sW_go b_Mo_join_22 (st' := ([.int (nI 0), .int (nI k), .ref 132], [some (.ref 119), some (.int (nI k)), none], M2)) (φ := True) rfl trivial ?_
        refine sW_go b_Mo_join_23 (st' := ([], [some (.ref 119), some (.int (nI k + nI 1)), none], mx_wr M2 132 (nI k).toNatClampNeg (nI 0))) (φ := (vp_in (nI k) (mx_len LAY true 132) ∧ ((nI 0) = 0 ∨ (nI 0) = 1)) ∧ True) rfl ⟨⟨(by simp (disch := omega) only [ln_132]; exact vp_in_nI (by omega) (by decide)), (by first | exact tf_01 _ | decide)⟩, trivial⟩ ?_
        refine sW_eq (st' := ([], [some (.ref 119), some (.int (nI (k + 1))), none], mx_wr M2 132 k (nI 0))) (by simp (disch := omega) only [nI_add, nI_clamp]) ?_
        refine sW_goto 2 d_Mo_join_27 (by decide) ?_
        exact ih (k + 1, (mx_wr M2 132 k (nI 0))) (by dsimp only; omega) (by dsimp only; omega) (i1.wr (by decide) (by decide)) (st _ (by rw [tf_f c_15]))
      · skip
        simp (disch := omega) only [nI_z] at c_15
        refine sW_go b_Mo_join_18 (st' := ([.int (nI 1), .int (nI k), .ref 132], [some (.ref 119), some (.int (nI k)), none], M2)) (φ := True) rfl trivial ?_
        refine sW_goto 23 d_Mo_join_19 (by decide) ?_
        refine sW_go b_Mo_join_23 (st' := ([], [some (.ref 119), some (.int (nI k + nI 1)), none], mx_wr M2 132 (nI k).toNatClampNeg (nI 1))) (φ := (vp_in (nI k) (mx_len LAY true 132) ∧ ((nI 1) = 0 ∨ (nI 1) = 1)) ∧ True) rfl ⟨⟨(by simp (disch := omega) only [ln_132]; exact vp_in_nI (by omega) (by decide)), (by first | exact tf_01 _ | decide)⟩, trivial⟩ ?_
        refine sW_eq (st' := ([], [some (.ref 119), some (.int (nI (k + 1))), none], mx_wr M2 132 k (nI 1))) (by simp (disch := omega) only [nI_add, nI_clamp]) ?_
        refine sW_goto 2 d_Mo_join_27 (by decide) ?_
        exact ih (k + 1, (mx_wr M2 132 k (nI 1))) (by dsimp only; omega) (by dsimp only; omega) (i1.wr (by decide) (by decide)) (st _ (by rw [tf_t c_15]))
  · obtain rfl : k = 512 := by omega
    refine sW_go b_Mo_join_2 (st' := ([.int (nI 512), .int (nI 512)], [some (.ref 119), some (.int (nI 512)), none], M2)) (φ := True) rfl trivial ?_
    refine sW_ic_ge 30 d_Mo_join_6 (by decide) (fun c_6 => ?_) (fun c_6 => ?_)
    · skip
      simp (disch := omega) only [nI_leI] at c_6
      refine sW_go b_Mo_join_30 (st' := ([], [some (.ref 119), some (.int (nI 0)), none], M2)) (φ := True) rfl trivial ?_
      have hJ0 : ∀ w, Jn (fun u => u < 0 ∧ T u) w ↔ w = 0 := fun w => ⟨fun ⟨l, a, b⟩ => by
        match l, a, b with
        | [], _, b => exact b
        | x :: l, a, _ => exact absurd (a x List.mem_cons_self).1 (Nat.not_lt_zero x), fun q => by rw [q]; exact Jn_0⟩
      refine mx_ind (α := Nat × mx_M × Option Value) (fun q => 512 - q.1) (fun q => q.1 ≤ 512 → MFr M q.2.1 [132] [] → BolAt q.2.1 132 (Jn (fun u => u < q.1 ∧ T u)) → sW G m_Mo_join 32 ([], [some (.ref 119), some (.int (nI q.1)), none], q.2.1) _) ?_ (0, M2, none) (Nat.zero_le _) i1 (fun w hw => by dsimp only; rw [i2 w hw]; exact tf_iff (hJ0 w).symm)
      rintro ⟨v, M3, o⟩ ih2 hv j1 j2
      dsimp only at ih2 hv j1 j2 ⊢
      have hT3 : BolAt M3 131 T := hT.eq (j1.1 131 (by decide) (by decide))
      by_cases hvn : v < 512
      · have e1 := hT3 v hvn
        refine sW_go b_Mo_join_32 (st' := ([.int (nI 512), .int (nI v)], [some (.ref 119), some (.int (nI v)), none], M3)) (φ := True) rfl trivial ?_
        refine sW_ic_ge 87 d_Mo_join_36 (by decide) (fun c_36 => ?_) (fun c_36 => ?_)
        · skip
          simp (disch := omega) only [nI_leI] at c_36
          omega
        · skip
          simp (disch := omega) only [nI_leI] at c_36
          refine sW_go b_Mo_join_39 (st' := ([.int (M3 131 (nI v).toNatClampNeg)], [some (.ref 119), some (.int (nI v)), none], M3)) (φ := mx_ocl LAY 119 = 10 ∧ vp_in (nI v) (mx_len LAY true 131) ∧ True) rfl ⟨oc_119, (by simp (disch := omega) only [ln_131]; exact vp_in_nI (by omega) (by decide)), trivial⟩ ?_
          refine sW_eq (st' := ([.int (tf (T v))], [some (.ref 119), some (.int (nI v)), none], M3)) (by simp (disch := omega) only [e1, nI_clamp]) ?_
          refine sW_if_eq 81 d_Mo_join_45 (by decide) (fun c_45 => ?_) (fun c_45 => ?_)
          · skip
            replace c_45 := tf_z.mp c_45
            refine sW_go b_Mo_join_81 (st' := ([], [some (.ref 119), some (.int (nI v + nI 1)), none], M3)) (φ := True) rfl trivial ?_
            refine sW_eq (st' := ([], [some (.ref 119), some (.int (nI (v + 1))), none], M3)) (by simp (disch := omega) only [nI_add]) ?_
            refine sW_goto 32 d_Mo_join_84 (by decide) ?_
            refine ih2 (v + 1, M3, none) (by dsimp only; omega) (by dsimp only; omega) j1 (j2.congr (fun w _ => Jn_congr (fun u => ?_)))
            exact ⟨fun q => ⟨by omega, q.2⟩, fun q => ⟨by
              have := q.1
              by_cases hx : u = v
              · exact absurd (hx ▸ q.2) c_45
              · omega, q.2⟩⟩
          · skip
            replace c_45 := tf_nz.mp c_45
            refine sW_go b_Mo_join_48 (st' := ([], [some (.ref 119), some (.int (nI v)), some (.int (nI 0))], M3)) (φ := True) rfl trivial ?_
            refine k_join50 G hvn j1 hT3 j2 (fun M4 k1 k2 => ?_)
            refine sW_go b_Mo_join_81 (st' := ([], [some (.ref 119), some (.int (nI v + nI 1)), some (.int (nI 512))], M4)) (φ := True) rfl trivial ?_
            refine sW_eq (st' := ([], [some (.ref 119), some (.int (nI (v + 1))), some (.int (nI 512))], M4)) (by simp (disch := omega) only [nI_add]) ?_
            refine sW_goto 32 d_Mo_join_84 (by decide) ?_
            refine sW_fg [false, false, true] ?_
            show sW G m_Mo_join 32 ([], [some (.ref 119), some (.int (nI (v + 1))), none], M4) _
            refine ih2 (v + 1, M4, none) (by dsimp only; omega) (by dsimp only; omega) k1 (k2.congr (fun w _ => ?_))
            dsimp only
            rw [Jn_add]
            exact Jn_congr (fun u => ⟨fun q => q.elim (fun z => ⟨by omega, z.2⟩) (fun z => ⟨by omega, z ▸ c_45⟩), fun q => by
              have := q.1
              by_cases hx : u = v
              · exact Or.inr hx
              · exact Or.inl ⟨by omega, q.2⟩⟩)
      · obtain rfl : v = 512 := by omega
        refine sW_go b_Mo_join_32 (st' := ([.int (nI 512), .int (nI 512)], [some (.ref 119), some (.int (nI 512)), none], M3)) (φ := True) rfl trivial ?_
        refine sW_ic_ge 87 d_Mo_join_36 (by decide) (fun c_36 => ?_) (fun c_36 => ?_)
        · skip
          simp (disch := omega) only [nI_leI] at c_36
          refine sW_retV d_Mo_join_87 rfl ?_
          exact ⟨rfl, j1, j2⟩
        · skip
          exact absurd (by decide +kernel) c_36
    · skip
      exact absurd (by decide +kernel) c_6

