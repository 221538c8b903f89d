/-! ===== the model: plain values ===== -/
def PlnAt (M : mx_M) (a : Nat) (f : Nat → Nat) : Prop := ∀ c, c < 256 → M a c = nI (f c)
theorem PlnAt.eq {M M' : mx_M} {a : Nat} {f : Nat → Nat} (h : PlnAt M a f) (e : M' a = M a) : PlnAt M' a f := fun c hc => by rw [e]; exact h c hc
theorem PlnAt.upd {M : mx_M} {a : Nat} {f : Nat → Nat} (h : PlnAt M a f) (c v : Nat) : PlnAt (mx_wr M a c (nI v)) a (updN f c v) := fun x hx => by
  rw [mx_wr_s]
  by_cases q : x = c
  · rw [q, pk_us, updN_s]
  · rw [pk_un q, updN_n _ _ q]; exact h x hx
abbrev lpC : List Nat := [134, 135]
theorem k_lp171 (G : mx_G) {M M1 : mx_M} {h up : Nat} {g : Nat → Nat} {v4 : Option Value} (f1 : MFr M M1 lpC []) (hg : PlnAt M1 135 g) {QQ : Option Value → mx_M → Prop}
  (nx : ∀ M2, MFr M M2 lpC [] → PlnAt M2 134 g → sW G m_Mo_layPlain 24 ([], [some (.ref 119), some (.int (nI h)), some (.int (nI (up + 1))), none, none], M2) QQ) :
  sW G m_Mo_layPlain 171 ([], [some (.ref 119), some (.int (nI h)), some (.int (nI up)), some (.int (nI 0)), none], M1) QQ := by
  refine mx_ind (α := Nat × mx_M) (fun q => 256 - q.1) (fun q => q.1 ≤ 256 → MFr M q.2 lpC [] → PlnAt q.2 135 g → (∀ c, c < q.1 → q.2 134 c = nI (g c)) → sW G m_Mo_layPlain 171 ([], [some (.ref 119), some (.int (nI h)), some (.int (nI up)), some (.int (nI q.1)), none], q.2) _) ?_ (0, M1) (Nat.zero_le _) f1 hg (fun i hi => absurd hi (Nat.not_lt_zero i))
  rintro ⟨q, M2⟩ ih hq i1 i2 i3
  dsimp only at ih hq i1 i2 i3 ⊢
  by_cases hqn : q < 256
  · have e1 := i2 q hqn
    refine sW_go b_Mo_layPlain_171 (st' := ([.int (nI 256), .int (nI q)], [some (.ref 119), some (.int (nI h)), some (.int (nI up)), some (.int (nI q)), none], M2)) (φ := True) rfl trivial ?_
    refine sW_ic_ge 196 d_Mo_layPlain_175 (by decide) (fun c_175 => ?_) (fun c_175 => ?_)
    · skip
      simp (disch := omega) only [nI_leI] at c_175
      omega
    · skip
      simp (disch := omega) only [nI_leI] at c_175
      refine sW_go b_Mo_layPlain_178 (st' := ([], [some (.ref 119), some (.int (nI h)), some (.int (nI up)), some (.int (nI q + nI 1)), none], mx_wr M2 134 (nI q).toNatClampNeg (M2 135 (nI q).toNatClampNeg))) (φ := mx_ocl LAY 119 = 10 ∧ mx_ocl LAY 119 = 10 ∧ vp_in (nI q) (mx_len LAY false 135) ∧ vp_in (nI q) (mx_len LAY false 134) ∧ True) rfl ⟨oc_119, oc_119, (by simp (disch := omega) only [ln_135]; exact vp_in_nI (by omega) (by decide)), (by simp (disch := omega) only [ln_134]; exact vp_in_nI (by omega) (by decide)), trivial⟩ ?_
      refine sW_eq (st' := ([], [some (.ref 119), some (.int (nI h)), some (.int (nI up)), some (.int (nI (q + 1))), none], mx_wr M2 134 q (nI (g q)))) (by simp (disch := omega) only [e1, nI_add, nI_clamp]) ?_
      refine sW_goto 171 d_Mo_layPlain_193 (by decide) ?_
      refine ih (q + 1, (mx_wr M2 134 q (nI (g q)))) (by dsimp only; omega) (by dsimp only; omega) (i1.wr (by decide) (by decide)) (by dsimp only; exact i2.eq (mx_wr_n _ _ _ (by decide))) (fun c hc => ?_)
      dsimp only at hc ⊢
      rw [mx_wr_s]
      by_cases hx : c = q
      · rw [hx, pk_us]
      · rw [pk_un hx]; exact i3 c (by omega)
  · obtain rfl : q = 256 := by omega
    refine sW_go b_Mo_layPlain_171 (st' := ([.int (nI 256), .int (nI 256)], [some (.ref 119), some (.int (nI h)), some (.int (nI up)), some (.int (nI 256)), none], M2)) (φ := True) rfl trivial ?_
    refine sW_ic_ge 196 d_Mo_layPlain_175 (by decide) (fun c_175 => ?_) (fun c_175 => ?_)
    · skip
      simp (disch := omega) only [nI_leI] at c_175
      refine sW_go b_Mo_layPlain_196 (st' := ([], [some (.ref 119), some (.int (nI h)), some (.int (nI up + nI 1)), some (.int (nI 256)), none], M2)) (φ := True) rfl trivial ?_
      refine sW_eq (st' := ([], [some (.ref 119), some (.int (nI h)), some (.int (nI (up + 1))), some (.int (nI 256)), none], M2)) (by simp (disch := omega) only [nI_add]) ?_
      refine sW_goto 24 d_Mo_layPlain_199 (by decide) ?_
      refine sW_fg [false, false, false, true, false] ?_
      show sW G m_Mo_layPlain 24 ([], [some (.ref 119), some (.int (nI h)), some (.int (nI (up + 1))), none, none], M2) _
      exact nx M2 i1 i3
    · skip
      exact absurd (by decide +kernel) c_175
theorem Iw_in1 {f : Nat → Nat} {b : Nat} (h : Iw f (fun _ => 1) ≤ b) {c : Nat} (hc : c < 256) : f c ≤ b := Nat.le_trans (Iw_in f hc) h
/-- pairs of x with y' < y -/
def lpY (hs : Hs) (pl : Nat → Nat) (x y : Nat) (φ : Nat → Nat) : Nat := pl x * ls (fun z => pl z * φ (pairC hs x z)) (List.range y)
def lpX (hs : Hs) (pl : Nat → Nat) (x : Nat) (φ : Nat → Nat) : Nat := ls (fun z => pl z * Iw pl (fun y => φ (pairC hs z y))) (List.range x)
theorem lpX_s (hs : Hs) (pl : Nat → Nat) (x : Nat) (φ : Nat → Nat) : lpX hs pl (x + 1) φ = lpX hs pl x φ + lpY hs pl x 256 φ := ls_range _ _
theorem lpY_s (hs : Hs) (pl : Nat → Nat) (x y : Nat) (φ : Nat → Nat) : lpY hs pl x (y + 1) φ = lpY hs pl x y φ + pl x * pl y * φ (pairC hs x y) := by
  unfold lpY
  rw [ls_range, Nat.mul_add, Nat.mul_assoc]
theorem k_lp98 (G : mx_G) {M M1 : mx_M} {h up x : Nat} {hs : Hs} {pl g : Nat → Nat} {C : (Nat → Nat) → Nat} (hR : RowAt M 123 0 hs) (hw : WHs hs) (hb : ∀ c, c < 256 → pl c ≤ 404) (hx : x < 256) (f1 : MFr M M1 lpC []) (hp : PlnAt M1 134 pl) (hg : PlnAt M1 135 g) (hI : ∀ φ, Iw g φ = C φ) {QQ : Option Value → mx_M → Prop}
  (nx : ∀ M2 g2, MFr M M2 lpC [] → PlnAt M2 134 pl → PlnAt M2 135 g2 → (∀ φ, Iw g2 φ = C φ + lpY hs pl x 256 φ) → sW G m_Mo_layPlain 163 ([], [some (.ref 119), some (.int (nI h)), some (.int (nI up)), some (.int (nI x)), none], M2) QQ) :
  sW G m_Mo_layPlain 98 ([], [some (.ref 119), some (.int (nI h)), some (.int (nI up)), some (.int (nI x)), some (.int (nI 0))], M1) QQ := by
  have hbx := hb x hx
  by_cases hz : pl x = 0
  · have ex := hp x hx
    rw [hz] at ex
    have e0 : ∀ φ, lpY hs pl x 256 φ = 0 := fun φ => by unfold lpY; rw [hz, Nat.zero_mul]
    have hle : nI 0 ≤ 0 := by decide +kernel
    refine sW_go b_Mo_layPlain_98 (st' := ([.int (nI 256), .int (nI 0)], [some (.ref 119), some (.int (nI h)), some (.int (nI up)), some (.int (nI x)), some (.int (nI 0))], M1)) (φ := True) rfl trivial ?_
    refine sW_ic_ge 163 d_Mo_layPlain_103 (by decide) (fun c_103 => ?_) (fun c_103 => ?_)
    · skip
      exact absurd c_103 (by decide +kernel)
    · skip
      simp (disch := omega) only [nI_leI] at c_103
      refine sW_go b_Mo_layPlain_106 (st' := ([.int (M1 134 (nI x).toNatClampNeg)], [some (.ref 119), some (.int (nI h)), some (.int (nI up)), some (.int (nI x)), some (.int (nI 0))], M1)) (φ := mx_ocl LAY 119 = 10 ∧ vp_in (nI x) (mx_len LAY false 134) ∧ True) rfl ⟨oc_119, (by simp (disch := omega) only [ln_134]; exact vp_in_nI (by omega) (by decide)), trivial⟩ ?_
      refine sW_eq (st' := ([.int (nI 0)], [some (.ref 119), some (.int (nI h)), some (.int (nI up)), some (.int (nI x)), some (.int (nI 0))], M1)) (by simp (disch := omega) only [ex, nI_clamp]) ?_
      refine sW_if_le 163 d_Mo_layPlain_112 (by decide) (fun c_112 => ?_) (fun c_112 => ?_)
      · skip
        refine sW_fg [false, false, false, false, true] ?_
        show sW G m_Mo_layPlain 163 ([], [some (.ref 119), some (.int (nI h)), some (.int (nI up)), some (.int (nI x)), none], M1) _
        exact nx M1 g f1 hp hg (fun φ => by rw [e0, Nat.add_zero]; exact hI φ)
      · skip
        exact absurd (by decide +kernel) c_112
  · refine mx_ind (α := Nat × mx_M × (Nat → Nat)) (fun q => 256 - q.1) (fun q => q.1 ≤ 256 → MFr M q.2.1 lpC [] → PlnAt q.2.1 134 pl → PlnAt q.2.1 135 q.2.2 → (∀ φ, Iw q.2.2 φ = C φ + lpY hs pl x q.1 φ) → sW G m_Mo_layPlain 98 ([], [some (.ref 119), some (.int (nI h)), some (.int (nI up)), some (.int (nI x)), some (.int (nI q.1))], q.2.1) _) ?_ (0, M1, g) (Nat.zero_le _) f1 hp hg (fun φ => by
      show Iw g φ = C φ + pl x * 0
      rw [Nat.mul_zero, Nat.add_zero]; exact hI φ)
    rintro ⟨y, M2, g2⟩ ih hy i1 i2 i3 i4
    dsimp only at ih hy i1 i2 i3 i4 ⊢
    by_cases hyn : y < 256
    · have ex := i2 x hx
      have ey := i2 y hyn
      have hby := hb y hyn
      have hR2 : RowAt M2 123 0 hs := hR.eq (i1.1 _ (by decide) (by decide))
      have hpc := pairC_lt hw.1 x y
      have eg := i3 _ hpc
      have hnx : ¬ nI (pl x) ≤ 0 := pos_nI (by omega) (by omega)
      refine sW_go b_Mo_layPlain_98 (st' := ([.int (nI 256), .int (nI y)], [some (.ref 119), some (.int (nI h)), some (.int (nI up)), some (.int (nI x)), some (.int (nI y))], M2)) (φ := True) rfl trivial ?_
      refine sW_ic_ge 163 d_Mo_layPlain_103 (by decide) (fun c_103 => ?_) (fun c_103 => ?_)
      · skip
        simp (disch := omega) only [nI_leI] at c_103
        omega
      · skip
        simp (disch := omega) only [nI_leI] at c_103
        refine sW_go b_Mo_layPlain_106 (st' := ([.int (M2 134 (nI x).toNatClampNeg)], [some (.ref 119), some (.int (nI h)), some (.int (nI up)), some (.int (nI x)), some (.int (nI y))], M2)) (φ := mx_ocl LAY 119 = 10 ∧ vp_in (nI x) (mx_len LAY false 134) ∧ True) rfl ⟨oc_119, (by simp (disch := omega) only [ln_134]; exact vp_in_nI (by omega) (by decide)), trivial⟩ ?_
        refine sW_eq (st' := ([.int (nI (pl x))], [some (.ref 119), some (.int (nI h)), some (.int (nI up)), some (.int (nI x)), some (.int (nI y))], M2)) (by simp (disch := omega) only [ex, nI_clamp]) ?_
        refine sW_if_le 163 d_Mo_layPlain_112 (by decide) (fun c_112 => ?_) (fun c_112 => ?_)
        · skip
          exact absurd c_112 hnx
        · skip
          refine sW_go b_Mo_layPlain_115 (st' := ([.int (M2 134 (nI y).toNatClampNeg)], [some (.ref 119), some (.int (nI h)), some (.int (nI up)), some (.int (nI x)), some (.int (nI y))], M2)) (φ := mx_ocl LAY 119 = 10 ∧ vp_in (nI y) (mx_len LAY false 134) ∧ True) rfl ⟨oc_119, (by simp (disch := omega) only [ln_134]; exact vp_in_nI (by omega) (by decide)), trivial⟩ ?_
          refine sW_eq (st' := ([.int (nI (pl y))], [some (.ref 119), some (.int (nI h)), some (.int (nI up)), some (.int (nI x)), some (.int (nI y))], M2)) (by simp (disch := omega) only [ey, nI_clamp]) ?_
          refine sW_if_le 157 d_Mo_layPlain_122 (by decide) (fun c_122 => ?_) (fun c_122 => ?_)
          · skip
            refine sW_go b_Mo_layPlain_157 (st' := ([], [some (.ref 119), some (.int (nI h)), some (.int (nI up)), some (.int (nI x)), some (.int (nI y + nI 1))], M2)) (φ := True) rfl trivial ?_
            refine sW_eq (st' := ([], [some (.ref 119), some (.int (nI h)), some (.int (nI up)), some (.int (nI x)), some (.int (nI (y + 1)))], M2)) (by simp (disch := omega) only [nI_add]) ?_
            refine sW_goto 98 d_Mo_layPlain_160 (by decide) ?_
            have hy0 : pl y = 0 := by
              rw [Int32.le_iff_toInt_le, nI_toInt (by omega), Int32.toInt_zero] at c_122
              omega
            exact ih (y + 1, M2, g2) (by dsimp only; omega) (by dsimp only; omega) i1 i2 i3 (fun φ => by dsimp only; rw [i4 φ, lpY_s, hy0, Nat.mul_zero, Nat.zero_mul, Nat.add_zero])
          · skip
            refine sW_go b_Mo_layPlain_125 (st' := ([.int (nI y), .int (nI x), .ref 123, .ref 135], [some (.ref 119), some (.int (nI h)), some (.int (nI up)), some (.int (nI x)), some (.int (nI y))], M2)) (φ := mx_ocl LAY 119 = 10 ∧ mx_ocl LAY 119 = 10 ∧ True) rfl ⟨oc_119, oc_119, trivial⟩ ?_
            refine sW_callS [.ref 123, .int (nI x), .int (nI y)] [.ref 135] d_Mo_layPlain_136 c_Mo_layPlain_136 ⟨rfl, rfl, Nat.le_of_ble_eq_true rfl, rfl, rfl⟩ (k_mpair G ln_123 hR2 hw hx hyn) ?_
            rintro _ M₁ ⟨rfl, h₁⟩
            rw [h₁]
            show sW G m_Mo_layPlain 139 ([.int (nI (pairC hs x y)), .ref 135], [some (.ref 119), some (.int (nI h)), some (.int (nI up)), some (.int (nI x)), some (.int (nI y))], M2) _
            refine sW_go b_Mo_layPlain_139 (st' := ([], [some (.ref 119), some (.int (nI h)), some (.int (nI up)), some (.int (nI x)), some (.int (nI y))], mx_wr M2 135 (nI (pairC hs x y)).toNatClampNeg (M2 135 (nI (pairC hs x y)).toNatClampNeg + (M2 134 (nI x).toNatClampNeg * M2 134 (nI y).toNatClampNeg)))) (φ := vp_in (nI (pairC hs x y)) (mx_len LAY false 135) ∧ mx_ocl LAY 119 = 10 ∧ vp_in (nI x) (mx_len LAY false 134) ∧ mx_ocl LAY 119 = 10 ∧ vp_in (nI y) (mx_len LAY false 134) ∧ vp_in (nI (pairC hs x y)) (mx_len LAY false 135) ∧ True) rfl ⟨(by simp (disch := omega) only [ln_135]; exact vp_in_nI (by omega) (by decide)), oc_119, (by simp (disch := omega) only [ln_134]; exact vp_in_nI (by omega) (by decide)), oc_119, (by simp (disch := omega) only [ln_134]; exact vp_in_nI (by omega) (by decide)), (by simp (disch := omega) only [ln_135]; exact vp_in_nI (by omega) (by decide)), trivial⟩ ?_
            refine sW_eq (st' := ([], [some (.ref 119), some (.int (nI h)), some (.int (nI up)), some (.int (nI x)), some (.int (nI y))], mx_wr M2 135 (pairC hs x y) (nI (g2 (pairC hs x y) + pl x * pl y)))) (by simp (disch := omega) only [eg, ex, ey, nI_add, nI_clamp, pk_mul]) ?_
            refine sW_go b_Mo_layPlain_157 (st' := ([], [some (.ref 119), some (.int (nI h)), some (.int (nI up)), some (.int (nI x)), some (.int (nI y + nI 1))], mx_wr M2 135 (pairC hs x y) (nI (g2 (pairC hs x y) + pl x * pl y)))) (φ := True) rfl trivial ?_
            refine sW_eq (st' := ([], [some (.ref 119), some (.int (nI h)), some (.int (nI up)), some (.int (nI x)), some (.int (nI (y + 1)))], mx_wr M2 135 (pairC hs x y) (nI (g2 (pairC hs x y) + pl x * pl y)))) (by simp (disch := omega) only [nI_add]) ?_
            refine sW_goto 98 d_Mo_layPlain_160 (by decide) ?_
            refine ih (y + 1, (mx_wr M2 135 (pairC hs x y) (nI (g2 (pairC hs x y) + pl x * pl y))), updN g2 (pairC hs x y) (g2 (pairC hs x y) + pl x * pl y)) (by dsimp only; omega) (by dsimp only; omega) (i1.wr (by decide) (by decide)) (by dsimp only; exact i2.eq (mx_wr_n _ _ _ (by decide))) (i3.upd _ _) (fun φ => ?_)
            dsimp only
            rw [Iw_up _ _ _ hpc, i4 φ, lpY_s, Nat.add_assoc]
    · obtain rfl : y = 256 := by omega
      refine sW_go b_Mo_layPlain_98 (st' := ([.int (nI 256), .int (nI 256)], [some (.ref 119), some (.int (nI h)), some (.int (nI up)), some (.int (nI x)), some (.int (nI 256))], M2)) (φ := True) rfl trivial ?_
      refine sW_ic_ge 163 d_Mo_layPlain_103 (by decide) (fun c_103 => ?_) (fun c_103 => ?_)
      · skip
        simp (disch := omega) only [nI_leI] at c_103
        refine sW_fg [false, false, false, false, true] ?_
        show sW G m_Mo_layPlain 163 ([], [some (.ref 119), some (.int (nI h)), some (.int (nI up)), some (.int (nI x)), none], M2) _
        exact nx M2 g2 i1 i2 i3 i4
      · skip
        exact absurd (by decide +kernel) c_103
theorem k_lp88 (G : mx_G) {M M1 : mx_M} {h up : Nat} {hs : Hs} {pl g : Nat → Nat} {C : (Nat → Nat) → Nat} (hR : RowAt M 123 0 hs) (hw : WHs hs) (hb : ∀ c, c < 256 → pl c ≤ 404) (f1 : MFr M M1 lpC []) (hp : PlnAt M1 134 pl) (hg : PlnAt M1 135 g) (hI : ∀ φ, Iw g φ = C φ) {QQ : Option Value → mx_M → Prop}
  (nx : ∀ M2 g2, MFr M M2 lpC [] → PlnAt M2 135 g2 → (∀ φ, Iw g2 φ = C φ + Iw pl (fun x => Iw pl (fun y => φ (pairC hs x y)))) → sW G m_Mo_layPlain 171 ([], [some (.ref 119), some (.int (nI h)), some (.int (nI up)), some (.int (nI 0)), none], M2) QQ) :
  sW G m_Mo_layPlain 88 ([], [some (.ref 119), some (.int (nI h)), some (.int (nI up)), some (.int (nI 0)), none], M1) QQ := by
  refine mx_ind (α := Nat × mx_M × (Nat → Nat)) (fun q => 256 - q.1) (fun q => q.1 ≤ 256 → MFr M q.2.1 lpC [] → PlnAt q.2.1 134 pl → PlnAt q.2.1 135 q.2.2 → (∀ φ, Iw q.2.2 φ = C φ + lpX hs pl q.1 φ) → sW G m_Mo_layPlain 88 ([], [some (.ref 119), some (.int (nI h)), some (.int (nI up)), some (.int (nI q.1)), none], q.2.1) _) ?_ (0, M1, g) (Nat.zero_le _) f1 hp hg (fun φ => by
    show Iw g φ = C φ + 0
    rw [Nat.add_zero]; exact hI φ)
  rintro ⟨x, M2, g2⟩ ih hx i1 i2 i3 i4
  dsimp only at ih hx i1 i2 i3 i4 ⊢
  by_cases hxn : x < 256
  · skip
    refine sW_go b_Mo_layPlain_88 (st' := ([.int (nI 256), .int (nI x)], [some (.ref 119), some (.int (nI h)), some (.int (nI up)), some (.int (nI x)), none], M2)) (φ := True) rfl trivial ?_
    refine sW_ic_ge 169 d_Mo_layPlain_92 (by decide) (fun c_92 => ?_) (fun c_92 => ?_)
    · skip
      simp (disch := omega) only [nI_leI] at c_92
      omega
    · skip
      simp (disch := omega) only [nI_leI] at c_92
      refine sW_go b_Mo_layPlain_95 (st' := ([], [some (.ref 119), some (.int (nI h)), some (.int (nI up)), some (.int (nI x)), some (.int (nI 0))], M2)) (φ := True) rfl trivial ?_
      refine k_lp98 G hR hw hb hxn i1 i2 i3 i4 (fun M3 g3 k1 k2 k3 k4 => ?_)
      refine sW_go b_Mo_layPlain_163 (st' := ([], [some (.ref 119), some (.int (nI h)), some (.int (nI up)), some (.int (nI x + nI 1)), none], M3)) (φ := True) rfl trivial ?_
      refine sW_eq (st' := ([], [some (.ref 119), some (.int (nI h)), some (.int (nI up)), some (.int (nI (x + 1))), none], M3)) (by simp (disch := omega) only [nI_add]) ?_
      refine sW_goto 88 d_Mo_layPlain_166 (by decide) ?_
      exact ih (x + 1, M3, g3) (by dsimp only; omega) (by dsimp only; omega) k1 k2 k3 (fun φ => by dsimp only; rw [k4 φ, lpX_s, Nat.add_assoc])
  · obtain rfl : x = 256 := by omega
    refine sW_go b_Mo_layPlain_88 (st' := ([.int (nI 256), .int (nI 256)], [some (.ref 119), some (.int (nI h)), some (.int (nI up)), some (.int (nI 256)), none], M2)) (φ := True) rfl trivial ?_
    refine sW_ic_ge 169 d_Mo_layPlain_92 (by decide) (fun c_92 => ?_) (fun c_92 => ?_)
    · skip
      simp (disch := omega) only [nI_leI] at c_92
      refine sW_go b_Mo_layPlain_169 (st' := ([], [some (.ref 119), some (.int (nI h)), some (.int (nI up)), some (.int (nI 0)), none], M2)) (φ := True) rfl trivial ?_
      exact nx M2 g2 i1 i3 i4
    · skip
      exact absurd (by decide +kernel) c_92
/-- a round: constants, and pairs of what there was -/
theorem k_lp29 (G : mx_G) {M M1 : mx_M} {h up : Nat} {hs : Hs} {pl : Nat → Nat} (hR : RowAt M 123 0 hs) (hw : WHs hs) (hb : ∀ c, c < 256 → pl c ≤ 404) (f1 : MFr M M1 lpC []) (hp : PlnAt M1 134 pl) {QQ : Option Value → mx_M → Prop}
  (nx : ∀ M2 g, MFr M M2 lpC [] → PlnAt M2 134 g → (∀ φ, Iw g φ = ls (fun i => φ (constCell hs i)) (List.range hs.2.1) + Iw pl (fun x => Iw pl (fun y => φ (pairC hs x y)))) → sW G m_Mo_layPlain 24 ([], [some (.ref 119), some (.int (nI h)), some (.int (nI (up + 1))), none, none], M2) QQ) :
  sW G m_Mo_layPlain 29 ([], [some (.ref 119), some (.int (nI h)), some (.int (nI up)), none, none], M1) QQ := by
  have h4 := hw.1.2.1
  refine sW_go b_Mo_layPlain_29 (st' := ([], [some (.ref 119), some (.int (nI h)), some (.int (nI up)), some (.int (nI 0)), none], M1)) (φ := True) rfl trivial ?_
  refine mx_ind (α := Nat × mx_M) (fun q => 256 - q.1) (fun q => q.1 ≤ 256 → MFr M q.2 lpC [] → PlnAt q.2 134 pl → (∀ c, c < q.1 → q.2 135 c = nI 0) → sW G m_Mo_layPlain 31 ([], [some (.ref 119), some (.int (nI h)), some (.int (nI up)), some (.int (nI q.1)), none], q.2) _) ?_ (0, M1) (Nat.zero_le _) f1 hp (fun i hi => absurd hi (Nat.not_lt_zero i))
  rintro ⟨q, M2⟩ ih hq i1 i2 i3
  dsimp only at ih hq i1 i2 i3 ⊢
  by_cases hqn : q < 256
  · skip
    refine sW_go b_Mo_layPlain_31 (st' := ([.int (nI 256), .int (nI q)], [some (.ref 119), some (.int (nI h)), some (.int (nI up)), some (.int (nI q)), none], M2)) (φ := True) rfl trivial ?_
    refine sW_ic_ge 51 d_Mo_layPlain_35 (by decide) (fun c_35 => ?_) (fun c_35 => ?_)
    · skip
      simp (disch := omega) only [nI_leI] at c_35
      omega
    · skip
      simp (disch := omega) only [nI_leI] at c_35
      refine sW_go b_Mo_layPlain_38 (st' := ([], [some (.ref 119), some (.int (nI h)), some (.int (nI up)), some (.int (nI q + nI 1)), none], mx_wr M2 135 (nI q).toNatClampNeg (nI 0))) (φ := mx_ocl LAY 119 = 10 ∧ vp_in (nI q) (mx_len LAY false 135) ∧ True) rfl ⟨oc_119, (by simp (disch := omega) only [ln_135]; exact vp_in_nI (by omega) (by decide)), trivial⟩ ?_
      refine sW_eq (st' := ([], [some (.ref 119), some (.int (nI h)), some (.int (nI up)), some (.int (nI (q + 1))), none], mx_wr M2 135 q (nI 0))) (by simp (disch := omega) only [nI_add, nI_clamp]) ?_
      refine sW_goto 31 d_Mo_layPlain_48 (by decide) ?_
      refine ih (q + 1, (mx_wr M2 135 q (nI 0))) (by dsimp only; omega) (by dsimp only; omega) (i1.wr (by decide) (by decide)) (by dsimp only; exact i2.eq (mx_wr_n _ _ _ (by decide))) (fun c hc => ?_)
      dsimp only at hc ⊢
      rw [mx_wr_s]
      by_cases hx : c = q
      · rw [hx, pk_us]
      · rw [pk_un hx]; exact i3 c (by omega)
  · obtain rfl : q = 256 := by omega
    refine sW_go b_Mo_layPlain_31 (st' := ([.int (nI 256), .int (nI 256)], [some (.ref 119), some (.int (nI h)), some (.int (nI up)), some (.int (nI 256)), none], M2)) (φ := True) rfl trivial ?_
    refine sW_ic_ge 51 d_Mo_layPlain_35 (by decide) (fun c_35 => ?_) (fun c_35 => ?_)
    · skip
      simp (disch := omega) only [nI_leI] at c_35
      refine sW_go b_Mo_layPlain_51 (st' := ([], [some (.ref 119), some (.int (nI h)), some (.int (nI up)), some (.int (nI 0)), none], M2)) (φ := True) rfl trivial ?_
      refine mx_ind (α := Nat × mx_M × (Nat → Nat)) (fun q => hs.2.1 - q.1) (fun q => q.1 ≤ hs.2.1 → MFr M q.2.1 lpC [] → PlnAt q.2.1 134 pl → PlnAt q.2.1 135 q.2.2 → (∀ φ, Iw q.2.2 φ = ls (fun i => φ (constCell hs i)) (List.range q.1)) → sW G m_Mo_layPlain 53 ([], [some (.ref 119), some (.int (nI h)), some (.int (nI up)), some (.int (nI q.1)), none], q.2.1) _) ?_ (0, M2, fun _ => 0) (Nat.zero_le _) i1 i2 i3 (fun φ => Iw_0 φ)
      rintro ⟨i, M3, g3⟩ ih3 hi j1 j2 j3 j4
      dsimp only at ih3 hi j1 j2 j3 j4 ⊢
      have hR3 : RowAt M3 123 0 hs := hR.eq (j1.1 _ (by decide) (by decide))
      have ec := hR3.c
      by_cases hin : i < hs.2.1
      · have hcc := constCell_lt hw.1 i
        have eg := j3 _ hcc
        refine sW_go b_Mo_layPlain_53 (st' := ([.int (M3 123 (nI 1).toNatClampNeg), .int (nI i)], [some (.ref 119), some (.int (nI h)), some (.int (nI up)), some (.int (nI i)), none], M3)) (φ := mx_ocl LAY 119 = 10 ∧ vp_in (nI 1) (mx_len LAY false 123) ∧ True) rfl ⟨oc_119, (by simp (disch := omega) only [ln_123]; exact vp_in_nI (by omega) (by decide)), trivial⟩ ?_
        refine sW_eq (st' := ([.int (nI hs.2.1), .int (nI i)], [some (.ref 119), some (.int (nI h)), some (.int (nI up)), some (.int (nI i)), none], M3)) (by simp (disch := omega) only [ec, nI_clamp]) ?_
        refine sW_ic_ge 86 d_Mo_layPlain_60 (by decide) (fun c_60 => ?_) (fun c_60 => ?_)
        · skip
          simp (disch := omega) only [nI_leI] at c_60
          omega
        · skip
          simp (disch := omega) only [nI_leI] at c_60
          refine sW_go b_Mo_layPlain_63 (st' := ([.int (nI i), .ref 123, .ref 135], [some (.ref 119), some (.int (nI h)), some (.int (nI up)), some (.int (nI i)), none], M3)) (φ := mx_ocl LAY 119 = 10 ∧ mx_ocl LAY 119 = 10 ∧ True) rfl ⟨oc_119, oc_119, trivial⟩ ?_
          refine sW_callS [.ref 123, .int (nI i)] [.ref 135] d_Mo_layPlain_72 c_Mo_layPlain_72 ⟨rfl, rfl, Nat.le_of_ble_eq_true rfl, rfl, rfl⟩ (k_mconst G ln_123 hR3 hw (by omega)) ?_
          rintro _ M₁ ⟨rfl, h₁⟩
          rw [h₁]
          show sW G m_Mo_layPlain 75 ([.int (nI (constCell hs i)), .ref 135], [some (.ref 119), some (.int (nI h)), some (.int (nI up)), some (.int (nI i)), none], M3) _
          refine sW_go b_Mo_layPlain_75 (st' := ([], [some (.ref 119), some (.int (nI h)), some (.int (nI up)), some (.int (nI i + nI 1)), none], mx_wr M3 135 (nI (constCell hs i)).toNatClampNeg (M3 135 (nI (constCell hs i)).toNatClampNeg + nI 1))) (φ := vp_in (nI (constCell hs i)) (mx_len LAY false 135) ∧ vp_in (nI (constCell hs i)) (mx_len LAY false 135) ∧ True) rfl ⟨(by simp (disch := omega) only [ln_135]; exact vp_in_nI (by omega) (by decide)), (by simp (disch := omega) only [ln_135]; exact vp_in_nI (by omega) (by decide)), trivial⟩ ?_
          refine sW_eq (st' := ([], [some (.ref 119), some (.int (nI h)), some (.int (nI up)), some (.int (nI (i + 1))), none], mx_wr M3 135 (constCell hs i) (nI (g3 (constCell hs i) + 1)))) (by simp (disch := omega) only [eg, nI_add, nI_clamp]) ?_
          refine sW_goto 53 d_Mo_layPlain_83 (by decide) ?_
          refine ih3 (i + 1, (mx_wr M3 135 (constCell hs i) (nI (g3 (constCell hs i) + 1))), updN g3 (constCell hs i) (g3 (constCell hs i) + 1)) (by dsimp only; omega) (by dsimp only; omega) (j1.wr (by decide) (by decide)) (by dsimp only; exact j2.eq (mx_wr_n _ _ _ (by decide))) (j3.upd _ _) (fun φ => ?_)
          dsimp only
          rw [Iw_up _ _ _ hcc, j4 φ, ls_range, Nat.one_mul]
      · obtain rfl : i = hs.2.1 := by omega
        refine sW_go b_Mo_layPlain_53 (st' := ([.int (M3 123 (nI 1).toNatClampNeg), .int (nI hs.2.1)], [some (.ref 119), some (.int (nI h)), some (.int (nI up)), some (.int (nI hs.2.1)), none], M3)) (φ := mx_ocl LAY 119 = 10 ∧ vp_in (nI 1) (mx_len LAY false 123) ∧ True) rfl ⟨oc_119, (by simp (disch := omega) only [ln_123]; exact vp_in_nI (by omega) (by decide)), trivial⟩ ?_
        refine sW_eq (st' := ([.int (nI hs.2.1), .int (nI hs.2.1)], [some (.ref 119), some (.int (nI h)), some (.int (nI up)), some (.int (nI hs.2.1)), none], M3)) (by simp (disch := omega) only [ec, nI_clamp]) ?_
        refine sW_ic_ge 86 d_Mo_layPlain_60 (by decide) (fun c_60 => ?_) (fun c_60 => ?_)
        · skip
          simp (disch := omega) only [nI_leI] at c_60
          refine sW_go b_Mo_layPlain_86 (st' := ([], [some (.ref 119), some (.int (nI h)), some (.int (nI up)), some (.int (nI 0)), none], M3)) (φ := True) rfl trivial ?_
          refine k_lp88 G hR hw hb j1 j2 j3 j4 (fun M4 g4 k1 k2 k3 => ?_)
          exact k_lp171 G (v4 := none) k1 k2 (fun M5 l1 l2 => nx M5 g4 l1 l2 k3)
        · skip
          simp (disch := omega) only [nI_leI] at c_60
          omega
    · skip
      exact absurd (by decide +kernel) c_35
theorem k_layPlain (G : mx_G) {M : mx_M} {h : Nat} {hs : Hs} (hR : RowAt M 123 0 hs) (hw : WHs hs) (h4 : h ≤ 4) : sOk G m_Mo_layPlain [.ref 119, .int (nI h)] M (fun r M' => r = none ∧ MFr M M' lpC [] ∧ ∃ pl, PlnAt M' 134 pl ∧ ∀ φ, Iw pl φ = PS hs h φ) := by
  refine sOk_of ⟨by decide +kernel, by decide +kernel, Nat.le_of_ble_eq_true rfl⟩ ?_
  show sW G m_Mo_layPlain 0 ([], [some (.ref 119), some (.int (nI h)), none, none, none], M) _
  refine sW_go b_Mo_layPlain_0 (st' := ([], [some (.ref 119), some (.int (nI h)), some (.int (nI 0)), none, none], M)) (φ := True) rfl trivial ?_
  refine mx_ind (α := Nat × mx_M) (fun q => 256 - q.1) (fun q => q.1 ≤ 256 → MFr M q.2 lpC [] → (∀ c, c < q.1 → q.2 134 c = nI 0) → sW G m_Mo_layPlain 2 ([], [some (.ref 119), some (.int (nI h)), some (.int (nI q.1)), none, none], q.2) _) ?_ (0, M) (Nat.zero_le _) MFr.rf (fun i hi => absurd hi (Nat.not_lt_zero i))
  rintro ⟨q, M2⟩ ih hq i1 i3
  dsimp only at ih hq i1 i3 ⊢
  by_cases hqn : q < 256
  · skip
    refine sW_go b_Mo_layPlain_2 (st' := ([.int (nI 256), .int (nI q)], [some (.ref 119), some (.int (nI h)), some (.int (nI q)), none, none], M2)) (φ := True) rfl trivial ?_
    refine sW_ic_ge 22 d_Mo_layPlain_6 (by decide) (fun c_6 => ?_) (fun c_6 => ?_)
    · skip
      simp (disch := omega) only [nI_leI] at c_6
      omega
    · skip
      simp (disch := omega) only [nI_leI] at c_6
      refine sW_go b_Mo_layPlain_9 (st' := ([], [some (.ref 119), some (.int (nI h)), some (.int (nI q + nI 1)), none, none], mx_wr M2 134 (nI q).toNatClampNeg (nI 0))) (φ := mx_ocl LAY 119 = 10 ∧ vp_in (nI q) (mx_len LAY false 134) ∧ True) rfl ⟨oc_119, (by simp (disch := omega) only [ln_134]; exact vp_in_nI (by omega) (by decide)), trivial⟩ ?_
      refine sW_eq (st' := ([], [some (.ref 119), some (.int (nI h)), some (.int (nI (q + 1))), none, none], mx_wr M2 134 q (nI 0))) (by simp (disch := omega) only [nI_add, nI_clamp]) ?_
      refine sW_goto 2 d_Mo_layPlain_19 (by decide) ?_
      refine ih (q + 1, (mx_wr M2 134 q (nI 0))) (by dsimp only; omega) (by dsimp only; omega) (i1.wr (by decide) (by decide)) (fun c hc => ?_)
      dsimp only at hc ⊢
      rw [mx_wr_s]
      by_cases hx : c = q
      · rw [hx, pk_us]
      · rw [pk_un hx]; exact i3 c (by omega)
  · obtain rfl : q = 256 := by omega
    refine sW_go b_Mo_layPlain_2 (st' := ([.int (nI 256), .int (nI 256)], [some (.ref 119), some (.int (nI h)), some (.int (nI 256)), none, none], M2)) (φ := True) rfl trivial ?_
    refine sW_ic_ge 22 d_Mo_layPlain_6 (by decide) (fun c_6 => ?_) (fun c_6 => ?_)
    · skip
      simp (disch := omega) only [nI_leI] at c_6
      refine sW_go b_Mo_layPlain_22 (st' := ([], [some (.ref 119), some (.int (nI h)), some (.int (nI 0)), none, none], M2)) (φ := True) rfl trivial ?_
      refine mx_ind (α := Nat × mx_M × (Nat → Nat)) (fun q => h - q.1) (fun q => q.1 ≤ h → MFr M q.2.1 lpC [] → PlnAt q.2.1 134 q.2.2 → (∀ φ, Iw q.2.2 φ = PS hs q.1 φ) → sW G m_Mo_layPlain 24 ([], [some (.ref 119), some (.int (nI h)), some (.int (nI q.1)), none, none], q.2.1) _) ?_ (0, M2, fun _ => 0) (Nat.zero_le _) i1 i3 (fun φ => Iw_0 φ)
      rintro ⟨up, M3, pl⟩ ih3 hup j1 j2 j3
      dsimp only at ih3 hup j1 j2 j3 ⊢
      by_cases hun : up < h
      · have hb : ∀ c, c < 256 → pl c ≤ 404 := fun c hc => Iw_in1 (by
          rw [j3 (fun _ => 1)]
          exact Nat.le_trans (PS_le hw.1 up (fun _ => Nat.le_refl 1)) (PSb_mono (by omega))) hc
        refine sW_go b_Mo_layPlain_24 (st' := ([.int (nI h), .int (nI up)], [some (.ref 119), some (.int (nI h)), some (.int (nI up)), none, none], M3)) (φ := True) rfl trivial ?_
        refine sW_ic_ge 202 d_Mo_layPlain_26 (by decide) (fun c_26 => ?_) (fun c_26 => ?_)
        · skip
          simp (disch := omega) only [nI_leI] at c_26
          omega
        · skip
          simp (disch := omega) only [nI_leI] at c_26
          refine k_lp29 G hR hw hb j1 j2 (fun M4 g k1 k2 k3 => ?_)
          refine ih3 (up + 1, M4, g) (by dsimp only; omega) (by dsimp only; omega) k1 k2 (fun φ => ?_)
          dsimp only
          have e : (fun x => Iw pl (fun y => φ (pairC hs x y))) = fun x => PS hs up (fun y => φ (pairC hs x y)) := funext (fun x => j3 (fun y => φ (pairC hs x y)))
          rw [k3 φ, e, j3 (fun x => PS hs up (fun y => φ (pairC hs x y)))]
          rfl
      · obtain rfl : up = h := by omega
        refine sW_go b_Mo_layPlain_24 (st' := ([.int (nI up), .int (nI up)], [some (.ref 119), some (.int (nI up)), some (.int (nI up)), none, none], M3)) (φ := True) rfl trivial ?_
        refine sW_ic_ge 202 d_Mo_layPlain_26 (by decide) (fun c_26 => ?_) (fun c_26 => ?_)
        · skip
          simp (disch := omega) only [nI_leI] at c_26
          refine sW_retV d_Mo_layPlain_202 rfl ?_
          exact ⟨rfl, j1, pl, j2, j3⟩
        · skip
          simp (disch := omega) only [nI_leI] at c_26
          omega
    · skip
      exact absurd (by decide +kernel) c_6

