/-! ===== which cases a function of a type can have ===== -/
def sub (s v : Nat) : Prop := ∀ i, bt s i = 1 → bt v i = 1
theorem sub_or {s v : Nat} (h : sub s v) : s ||| v = v := bt_ext (fun k => by rw [bt_or]; exact ⟨fun q => q.elim (h k) id, Or.inr⟩)
def AR (hs : Hs) : Nat := bsum (sortB hs 2) hs.1
theorem AR_bt (hs : Hs) (k : Nat) : bt (AR hs) k = 1 ↔ k < hs.1 ∧ Sf hs k = 2 := by
  unfold AR
  rw [bsum_bt (sortB_le hs 2)]
  refine and_congr Iff.rfl ?_
  unfold sortB
  split
  · rename_i h; exact ⟨fun _ => h, fun _ => rfl⟩
  · rename_i h; exact ⟨fun q => absurd q (by decide), fun q => absurd q h⟩
theorem L2_sub (hs : Hs) (x : Nat) : sub (L2 hs x) (AR hs) := by
  intro i hi
  rw [AR_bt]
  have h := (bsum_bt (lftB_le hs 2 x) hs.1 i).mp hi
  refine ⟨h.1, ?_⟩
  have h2 := h.2
  unfold lftB at h2
  split at h2
  · assumption
  · omega
theorem andn_sub {a b v : Nat} (h : sub a v) : sub (andn a b) v := fun i hi => h i ((bt_andn a b i).mp hi).1
theorem Jn_sub {hs : Hs} {K : Nat → Prop} {v : Nat} (h : Jn (Tk hs K) v) : sub v (AR hs) := by
  obtain ⟨l, h1, rfl⟩ := h
  induction l with
  | nil => intro i hi; exact absurd hi (by show ¬ bt 0 i = 1; simp [bt])
  | cons t l ih =>
    intro i hi
    have hi : bt (t ||| joinl l) i = 1 := hi
    rcases (bt_or t (joinl l) i).mp hi with q | q
    · obtain ⟨x, _, e | ⟨y, _, e⟩⟩ := h1 t List.mem_cons_self
      · rw [e] at q; exact L2_sub hs x i q
      · rw [e] at q; exact andn_sub (L2_sub hs x) i q
    · exact ih (fun t' ht' => h1 t' (List.mem_cons_of_mem _ ht')) i q
theorem sub_lt {s v : Nat} (h : sub s v) (hv : v < 256) : s < 256 := by
  have e : s &&& v = s := bt_ext (fun k => by rw [bt_and]; exact ⟨fun q => q.1, fun q => ⟨q, h k q⟩⟩)
  rw [← e]
  exact Nat.lt_of_le_of_lt Nat.and_le_right hv
theorem AR_lt {hs : Hs} (hw : HsOk hs) : AR hs < 256 := bsum_lt8 (sortB_le hs 2) hw.1
def opI (hs : Hs) (f v : Nat) : Prop := Jn (Tk hs (Kw hs)) v ∧ bt (funC hs v) f = 1
def opB (hs : Hs) (f : Nat) : Nat → Nat → Prop
  | 0, s => opI hs f s
  | b + 1, s => opB hs f b s ∨ (bt (AR hs) b = 1 ∧ opB hs f b (s ||| 2 ^ b))
/-- some function of the type f has a case that takes s -/
def Open (hs : Hs) (f s : Nat) : Prop := ∃ v, Jn (Tk hs (Kw hs)) v ∧ bt (funC hs v) f = 1 ∧ sub s v
theorem bt_2p (n k : Nat) : bt (2 ^ n) k = 1 ↔ k = n := by
  have h4 := bt_tb (2 ^ n) k
  rw [Nat.testBit_two_pow] at h4
  have h5 : decide (n = k) = true ↔ decide (bt (2 ^ n) k = 1) = true := by rw [h4]
  simp only [decide_eq_true_eq] at h5
  rw [← h5]
  exact ⟨fun e => e.symm, fun e => e.symm⟩
theorem opB_iff (hs : Hs) (f : Nat) : ∀ b s, opB hs f b s ↔ ∃ D, (∀ i, bt D i = 1 → i < b ∧ bt (AR hs) i = 1) ∧ opI hs f (s ||| D)
  | 0, s => by
    constructor
    · intro h
      exact ⟨0, fun i hi => absurd hi (by simp [bt]), by rw [Nat.or_zero]; exact h⟩
    · rintro ⟨D, h1, h2⟩
      have : D = 0 := bt_ext (fun k => ⟨fun q => absurd (h1 k q).1 (Nat.not_lt_zero k), fun q => absurd q (by simp [bt])⟩)
      rw [this, Nat.or_zero] at h2
      exact h2
  | b + 1, s => by
    show (_ ∨ _) ↔ _
    rw [opB_iff hs f b s, opB_iff hs f b (s ||| 2 ^ b)]
    constructor
    · rintro (⟨D, h1, h2⟩ | ⟨h0, D, h1, h2⟩)
      · exact ⟨D, fun i hi => ⟨by have := (h1 i hi).1; omega, (h1 i hi).2⟩, h2⟩
      · refine ⟨2 ^ b ||| D, fun i hi => ?_, by rw [← Nat.or_assoc]; exact h2⟩
        rcases (bt_or _ _ i).mp hi with q | q
        · rw [bt_2p] at q
          rw [q]
          exact ⟨by omega, h0⟩
        · exact ⟨by have := (h1 i q).1; omega, (h1 i q).2⟩
    · rintro ⟨D, h1, h2⟩
      by_cases hb : bt D b = 1
      · refine Or.inr ⟨(h1 b hb).2, andn D (2 ^ b), fun i hi => ?_, ?_⟩
        · rw [bt_andn, bt_2p] at hi
          have := (h1 i hi.1).1
          exact ⟨by omega, (h1 i hi.1).2⟩
        · have e : s ||| 2 ^ b ||| andn D (2 ^ b) = s ||| D := bt_ext (fun k => by
            rw [bt_or, bt_or, bt_or, bt_andn, bt_2p]
            constructor
            · rintro ((q | q) | q)
              · exact Or.inl q
              · exact Or.inr (by rw [q]; exact hb)
              · exact Or.inr q.1
            · rintro (q | q)
              · exact Or.inl (Or.inl q)
              · by_cases hk : k = b
                · exact Or.inl (Or.inr hk)
                · exact Or.inr ⟨q, hk⟩)
          rw [e]
          exact h2
      · refine Or.inl ⟨D, fun i hi => ?_, h2⟩
        have := (h1 i hi).1
        have h3 : i ≠ b := fun e => hb (e ▸ hi)
        exact ⟨by omega, (h1 i hi).2⟩
theorem opB_Open {hs : Hs} (hw : HsOk hs) {f s : Nat} (hs' : sub s (AR hs)) : opB hs f 8 s ↔ Open hs f s := by
  rw [opB_iff]
  constructor
  · rintro ⟨D, h1, h2, h3⟩
    exact ⟨s ||| D, h2, h3, fun i hi => (bt_or s D i).mpr (Or.inl hi)⟩
  · rintro ⟨v, h1, h2, h3⟩
    refine ⟨v, fun i hi => ?_, by rw [sub_or h3]; exact ⟨h1, h2⟩⟩
    have h4 := Jn_sub h1 i hi
    have h5 := ((AR_bt hs i).mp h4).1
    have h6 := hw.1
    exact ⟨by omega, h4⟩
theorem and_2p (a b : Nat) : a &&& 2 ^ b = 0 ↔ ¬ bt a b = 1 := by
  constructor
  · intro h q
    have : bt (a &&& 2 ^ b) b = 1 := (bt_and a _ b).mpr ⟨q, (bt_2p b b).mpr rfl⟩
    rw [h] at this
    simp [bt] at this
  · intro h
    refine bt_ext (fun k => ?_)
    rw [bt_and, bt_2p]
    constructor
    · rintro ⟨a1, a2⟩
      rw [a2] at a1
      exact absurd a1 h
    · intro q
      simp [bt] at q
theorem cif_or (P Q : Prop) : (cif P 1 0 : Nat) ||| cif Q 1 0 = cif (P ∨ Q) 1 0 := by
  by_cases h : P <;> by_cases h2 : Q
  · rw [cif_t h, cif_t h2, cif_t (Or.inl h)]; rfl
  · rw [cif_t h, cif_f h2, cif_t (Or.inl h)]; rfl
  · rw [cif_f h, cif_t h2, cif_t (Or.inr h2)]; rfl
  · rw [cif_f h, cif_f h2, cif_f (fun q => q.elim h h2)]; rfl
theorem cif_iff {α : Type} {P Q : Prop} {a b : α} (h : P ↔ Q) : cif P a b = cif Q a b := by rw [propext h]
theorem shl1 : ∀ b, b < 8 → nI (2 ^ b) <<< (nI 1 &&& 31) = nI (2 ^ (b + 1)) := by decide +kernel
theorem k_openFor (G : mx_G) {M : mx_M} {c f : Nat} {hs : Hs} {X : Cx} (ho : mx_ocl LAY c = 2) (hw : HsOk hs) (h : MesD M c hs X) (hf : f < hs.1) : sOk G m_Cells_openFor [.ref c, .int (nI f)] M (fun r M' => r = none ∧ Fr M M' (c + 34) (c + 35) ∧ ∀ s, s < 256 → M' (c + 34) s = nI (cif (opB hs f 8 s) 1 0)) := by
  obtain ⟨⟨m0, m1, m2, m3, m4, m5, m6, m7, m8, m9, m10, m11, m12, m13, m14⟩, d2, d3, d4, d5, d6, d7⟩ := id h
  have w1 := hw.1
  have hl := m12.len
  refine sOk_of ⟨by decide +kernel, by decide +kernel, Nat.le_of_ble_eq_true rfl⟩ ?_
  show sW G m_Cells_openFor 0 ([], [some (.ref c), some (.int (nI f)), none, none], M) _
  refine sW_go b_Cells_openFor_0 (st' := ([.int (nI 0), .ref (c + 34)], [some (.ref c), some (.int (nI f)), none, none], M)) (φ := mx_ocl LAY c = 2 ∧ True) rfl ⟨ho, trivial⟩ ?_
  refine sW_callS [.ref (c + 34), .int (nI 0)] [] d_Cells_openFor_5 c_Cells_openFor_5 ⟨rfl, rfl, Nat.le_of_ble_eq_true rfl, rfl, rfl⟩ (k_fill G (ln_Cells_open ho) (by decide) (by decide) (nI 0)) ?_
  rintro _ M1 ⟨rfl, a1, a2⟩
  show sW G m_Cells_openFor 8 ([], [some (.ref c), some (.int (nI f)), none, none], M1) _
  refine sW_go b_Cells_openFor_8 (st' := ([], [some (.ref c), some (.int (nI f)), some (.int (nI 0)), none], M1)) (φ := True) rfl trivial ?_
  refine mx_ind (α := Nat × mx_M) (fun q => (cMS X).length - q.1) (fun q => q.1 ≤ (cMS X).length → Fr M q.2 (c + 34) (c + 35) → (∀ s, s < 256 → q.2 (c + 34) s = nI (if s ∈ (cMS X).take q.1 then bt (funC hs s) f else 0)) → sW G m_Cells_openFor 10 ([], [some (.ref c), some (.int (nI f)), some (.int (nI q.1)), none], q.2) _) ?_ (0, M1) (Nat.zero_le _) a1 (fun s hs' => by dsimp only; rw [a2 s hs']; simp)
  rintro ⟨k, M2⟩ ih hk b1 b2
  dsimp only at ih hk b1 b2 ⊢
  have z0 : M2 (c + 29) 2 = nI (cMS X).length := by rw [b1 _ (by omega)]; exact m12.size
  by_cases hkn : k < (cMS X).length
  · obtain ⟨y1, y2, y3⟩ := m12.at hkn
    have z1 : M2 (c + 30) k = nI ((cMS X).getD k 0) := by rw [b1 _ (by omega)]; exact y1
    have z2 : M2 (c + 33) ((cMS X).getD k 0) = nI (funC hs ((cMS X).getD k 0)) := by rw [b1 _ (by omega)]; exact m14 _ y3
    have z3 := funC_lt hw ((cMS X).getD k 0)
    have hmt := fun s => mem_take_s (s := s) hkn
    generalize hv : (cMS X).getD k 0 = v at y2 y3 z1 z2 z3 hmt
    have p1 : (nI (funC hs v) >>> (nI f &&& 31)) &&& nI 1 = nI (bt (funC hs v) f) := sh_b (by omega) (by omega)
    refine sW_go b_Cells_openFor_10 (st' := ([.int (M2 (c + 29) 2), .int (nI k)], [some (.ref c), some (.int (nI f)), some (.int (nI k)), none], M2)) (φ := mx_ocl LAY c = 2 ∧ mx_ocl LAY (c + 29) = 6 ∧ True) rfl ⟨ho, (oc_Cells_missed ho), trivial⟩ ?_
    refine sW_eq (st' := ([.int (nI (cMS X).length), .int (nI k)], [some (.ref c), some (.int (nI f)), some (.int (nI k)), none], M2)) (by simp (disch := omega) only [z0]) ?_
    refine sW_ic_ge 59 d_Cells_openFor_18 (by decide) (fun c_18 => ?_) (fun c_18 => ?_)
    · skip
      simp (disch := omega) only [nI_leI] at c_18
      omega
    · skip
      simp (disch := omega) only [nI_leI] at c_18
      refine sW_go b_Cells_openFor_21 (st' := ([], [some (.ref c), some (.int (nI f)), some (.int (nI k + nI 1)), none], mx_wr M2 (c + 34) (M2 (c + 30) (nI k).toNatClampNeg).toNatClampNeg ((M2 (c + 33) (M2 (c + 30) (nI k).toNatClampNeg).toNatClampNeg >>> (nI f &&& 31)) &&& nI 1))) (φ := mx_ocl LAY c = 2 ∧ mx_ocl LAY c = 2 ∧ mx_ocl LAY (c + 29) = 6 ∧ vp_in (nI k) (mx_len LAY false (c + 30)) ∧ mx_ocl LAY c = 2 ∧ mx_ocl LAY c = 2 ∧ mx_ocl LAY (c + 29) = 6 ∧ vp_in (nI k) (mx_len LAY false (c + 30)) ∧ vp_in (M2 (c + 30) (nI k).toNatClampNeg) (mx_len LAY false (c + 33)) ∧ vp_in (M2 (c + 30) (nI k).toNatClampNeg) (mx_len LAY false (c + 34)) ∧ True) rfl ⟨ho, ho, (oc_Cells_missed ho), (by simp (disch := omega) only [(ln_Sets_at (oc_Cells_missed ho))]; exact vp_in_nI (by omega) (by decide)), ho, ho, (oc_Cells_missed ho), (by simp (disch := omega) only [(ln_Sets_at (oc_Cells_missed ho))]; exact vp_in_nI (by omega) (by decide)), (by simp (disch := omega) only [nI_clamp, z1, (ln_Cells_cellMissing ho)]; exact vp_in_nI (by omega) (by decide)), (by simp (disch := omega) only [nI_clamp, z1, (ln_Cells_open ho)]; exact vp_in_nI (by omega) (by decide)), trivial⟩ ?_
      refine sW_eq (st' := ([], [some (.ref c), some (.int (nI f)), some (.int (nI (k + 1))), none], mx_wr M2 (c + 34) v (nI (bt (funC hs v) f)))) (by simp (disch := omega) only [nI_add, nI_clamp, p1, z1, z2]) ?_
      refine sW_goto 10 d_Cells_openFor_56 (by decide) ?_
      refine ih (k + 1, (mx_wr M2 (c + 34) v (nI (bt (funC hs v) f)))) (by dsimp only; omega) (by dsimp only; omega) (b1.wr (by omega) (by omega)) (fun s hs' => ?_)
      dsimp only
      rw [mx_wr_s]
      by_cases hx : s = v
      · rw [hx, pk_us, if_pos ((hmt v).mpr (Or.inr rfl))]
      · rw [pk_un hx, b2 s hs']
        by_cases hm : s ∈ (cMS X).take k
        · rw [if_pos hm, if_pos ((hmt s).mpr (Or.inl hm))]
        · rw [if_neg hm, if_neg (fun q => ((hmt s).mp q).elim hm hx)]
  · have hke : k = (cMS X).length := by omega
    subst hke
    have r0 : ∀ s, s < 256 → M2 (c + 34) s = nI (cif (opB hs f 0 s) 1 0) := fun s hs' => by
      rw [b2 s hs', List.take_length]
      congr 1
      have h0 := d4.2 s
      by_cases hm : s ∈ cMS X
      · rw [if_pos hm]
        by_cases hb : bt (funC hs s) f = 1
        · rw [hb, cif_t ⟨h0.mp hm, hb⟩]
        · rw [cif_f (fun q => hb q.2)]
          have := bt_le (funC hs s) f
          omega
      · rw [if_neg hm, cif_f (fun q => hm (h0.mpr q.1))]
    refine sW_go b_Cells_openFor_10 (st' := ([.int (M2 (c + 29) 2), .int (nI (cMS X).length)], [some (.ref c), some (.int (nI f)), some (.int (nI (cMS X).length)), none], M2)) (φ := mx_ocl LAY c = 2 ∧ mx_ocl LAY (c + 29) = 6 ∧ True) rfl ⟨ho, (oc_Cells_missed ho), trivial⟩ ?_
    refine sW_eq (st' := ([.int (nI (cMS X).length), .int (nI (cMS X).length)], [some (.ref c), some (.int (nI f)), some (.int (nI (cMS X).length)), none], M2)) (by simp (disch := omega) only [z0]) ?_
    refine sW_ic_ge 59 d_Cells_openFor_18 (by decide) (fun c_18 => ?_) (fun c_18 => ?_)
    · skip
      simp (disch := omega) only [nI_leI] at c_18
      refine sW_go b_Cells_openFor_59 (st' := ([], [some (.ref c), some (.int (nI f)), some (.int (nI 1)), none], M2)) (φ := True) rfl trivial ?_
      refine mx_ind (α := Nat × mx_M) (fun q => 8 - q.1) (fun q => q.1 ≤ 8 → Fr M q.2 (c + 34) (c + 35) → (∀ s, s < 256 → q.2 (c + 34) s = nI (cif (opB hs f q.1 s) 1 0)) → sW G m_Cells_openFor 61 ([], [some (.ref c), some (.int (nI f)), some (.int (nI (2 ^ q.1))), none], q.2) _) ?_ (0, M2) (Nat.zero_le _) b1 r0
      rintro ⟨b, M3⟩ ihb hb g1 g2
      dsimp only at ihb hb g1 g2 ⊢
      by_cases hbn : b < 8
      · have hp := p2_le hbn
        have hp0 := Nat.two_pow_pos b
        have hsh := shl1 b hbn
        have zc : ∀ M4 : mx_M, Fr M M4 (c + 34) (c + 35) → M4 c 2 = nI (AR hs) := fun M4 hf4 => by rw [hf4 _ (by omega)]; exact m2
        have hAR := AR_lt hw
        have hand := and_2p (AR hs) b
        have hal : AR hs &&& 2 ^ b < 256 := Nat.lt_of_le_of_lt Nat.and_le_left hAR
        have hob : ∀ s, opB hs f (b + 1) s ↔ opB hs f b s ∨ (bt (AR hs) b = 1 ∧ opB hs f b (s ||| 2 ^ b)) := fun s => Iff.rfl
        generalize hpb : 2 ^ b = pb at hp hp0 hsh hand hal hob ⊢
        refine sW_go b_Cells_openFor_61 (st' := ([.int (nI 256), .int (nI pb)], [some (.ref c), some (.int (nI f)), some (.int (nI pb)), none], M3)) (φ := True) rfl trivial ?_
        refine sW_ic_ge 116 d_Cells_openFor_65 (by decide) (fun c_65 => ?_) (fun c_65 => ?_)
        · skip
          simp (disch := omega) only [nI_leI] at c_65
          refine sW_retV d_Cells_openFor_116 rfl ?_
          omega
        · skip
          simp (disch := omega) only [nI_leI] at c_65
          refine sW_go b_Cells_openFor_68 (st' := ([], [some (.ref c), some (.int (nI f)), some (.int (nI pb)), some (.int (nI 0))], M3)) (φ := True) rfl trivial ?_
          refine mx_ind (α := Nat × mx_M) (fun q => 256 - q.1) (fun q => q.1 ≤ 256 → Fr M q.2 (c + 34) (c + 35) → (∀ s, s < 256 → q.2 (c + 34) s = nI (cif (if s < q.1 then opB hs f (b + 1) s else opB hs f b s) 1 0)) → sW G m_Cells_openFor 70 ([], [some (.ref c), some (.int (nI f)), some (.int (nI pb)), some (.int (nI q.1))], q.2) _) ?_ (0, M3) (Nat.zero_le _) g1 (fun s hs' => by dsimp only; rw [if_neg (Nat.not_lt_zero s)]; exact g2 s hs')
          rintro ⟨s, M4⟩ ihs hs1 j1 j2
          dsimp only at ihs hs1 j1 j2 ⊢
          have z5 := zc M4 j1
          have fin : (∀ s', s' < 256 → M4 (c + 34) s' = nI (cif (opB hs f (b + 1) s') 1 0)) → sW G m_Cells_openFor 109 ([], [some (.ref c), some (.int (nI f)), some (.int (nI pb)), none], M4) (fun r M' => r = none ∧ Fr M M' (c + 34) (c + 35) ∧ ∀ s, s < 256 → M' (c + 34) s = nI (cif (opB hs f 8 s) 1 0)) := by
            intro hfin
            refine sW_go b_Cells_openFor_109 (st' := ([], [some (.ref c), some (.int (nI f)), some (.int (nI pb <<< (nI 1 &&& 31))), none], M4)) (φ := True) rfl trivial ?_
            refine sW_eq (st' := ([], [some (.ref c), some (.int (nI f)), some (.int (nI (2 ^ (b + 1)))), none], M4)) (by simp (disch := omega) only [hsh]) ?_
            refine sW_goto 61 d_Cells_openFor_113 (by decide) ?_
            exact ihb (b + 1, M4) (by dsimp only; omega) (by dsimp only; omega) j1 hfin
          by_cases hsn : s < 256
          · have x1 := j2 s hsn
            rw [if_neg (Nat.lt_irrefl s)] at x1
            have x2 : s ||| pb < 256 := or256 hsn (by omega)
            have x3 : M4 (c + 34) (s ||| pb) = nI (cif (opB hs f b (s ||| pb)) 1 0) := by
              rw [j2 _ x2, if_neg (Nat.not_lt.mpr Nat.left_le_or)]
            refine sW_go b_Cells_openFor_70 (st' := ([.int (nI 256), .int (nI s)], [some (.ref c), some (.int (nI f)), some (.int (nI pb)), some (.int (nI s))], M4)) (φ := True) rfl trivial ?_
            refine sW_ic_ge 109 d_Cells_openFor_74 (by decide) (fun c_74 => ?_) (fun c_74 => ?_)
            · skip
              simp (disch := omega) only [nI_leI] at c_74
              omega
            · skip
              simp (disch := omega) only [nI_leI] at c_74
              refine sW_go b_Cells_openFor_77 (st' := ([.int (M4 c 2 &&& nI pb)], [some (.ref c), some (.int (nI f)), some (.int (nI pb)), some (.int (nI s))], M4)) (φ := mx_ocl LAY c = 2 ∧ True) rfl ⟨ho, trivial⟩ ?_
              refine sW_eq (st' := ([.int (nI (AR hs &&& pb))], [some (.ref c), some (.int (nI f)), some (.int (nI pb)), some (.int (nI s))], M4)) (by simp (disch := omega) only [nx_and, z5]) ?_
              refine sW_if_eq 109 d_Cells_openFor_83 (by decide) (fun c_83 => ?_) (fun c_83 => ?_)
              · skip
                simp (disch := omega) only [nI_z] at c_83
                refine sW_fg [false, false, false, true] ?_
                show sW G m_Cells_openFor 109 ([], [some (.ref c), some (.int (nI f)), some (.int (nI pb)), none], M4) _
                have hn1 : ¬ bt (AR hs) b = 1 := hand.mp c_83
                refine fin (fun s' hs' => ?_)
                rw [j2 s' hs']
                congr 1
                refine cif_iff ?_
                split
                · exact Iff.rfl
                · exact ⟨fun q => (hob s').mpr (Or.inl q), fun q => ((hob s').mp q).elim id (fun w => absurd w.1 hn1)⟩
              · skip
                simp (disch := omega) only [nI_z] at c_83
                refine sW_go b_Cells_openFor_86 (st' := ([], [some (.ref c), some (.int (nI f)), some (.int (nI pb)), some (.int (nI s + nI 1))], mx_wr M4 (c + 34) (nI s).toNatClampNeg (M4 (c + 34) (nI s).toNatClampNeg ||| M4 (c + 34) (nI s ||| nI pb).toNatClampNeg))) (φ := mx_ocl LAY c = 2 ∧ vp_in (nI s) (mx_len LAY false (c + 34)) ∧ mx_ocl LAY c = 2 ∧ vp_in (nI s ||| nI pb) (mx_len LAY false (c + 34)) ∧ vp_in (nI s) (mx_len LAY false (c + 34)) ∧ True) rfl ⟨ho, (by simp (disch := omega) only [(ln_Cells_open ho)]; exact vp_in_nI (by omega) (by decide)), ho, (by simp (disch := omega) only [nx_or, (ln_Cells_open ho)]; exact vp_in_nI (by omega) (by decide)), (by simp (disch := omega) only [(ln_Cells_open ho)]; exact vp_in_nI (by omega) (by decide)), trivial⟩ ?_
                refine sW_eq (st' := ([], [some (.ref c), some (.int (nI f)), some (.int (nI pb)), some (.int (nI (s + 1)))], mx_wr M4 (c + 34) s (nI (cif (opB hs f b s) 1 0 ||| cif (opB hs f b (s ||| pb)) 1 0)))) (by simp (disch := omega) only [nI_add, nI_clamp, nx_or, x1, x3]) ?_
                refine sW_goto 70 d_Cells_openFor_106 (by decide) ?_
                refine ihs (s + 1, (mx_wr M4 (c + 34) s (nI (cif (opB hs f b s) 1 0 ||| cif (opB hs f b (s ||| pb)) 1 0)))) (by dsimp only; omega) (by dsimp only; omega) (j1.wr (by omega) (by omega)) (fun s' hs' => ?_)
                have hn1 : bt (AR hs) b = 1 := Classical.not_not.mp (fun q => c_83 (hand.mpr q))
                dsimp only
                rw [mx_wr_s]
                by_cases hx : s' = s
                · rw [hx, pk_us, if_pos (by omega), cif_or]
                  congr 1
                  refine cif_iff ?_
                  rw [hob s]
                  exact or_congr Iff.rfl ⟨fun q => ⟨hn1, q⟩, fun q => q.2⟩
                · rw [pk_un hx, j2 s' hs']
                  by_cases hlt : s' < s
                  · rw [if_pos hlt, if_pos (by omega)]
                  · rw [if_neg hlt, if_neg (by omega)]
          · have hse : s = 256 := by omega
            subst hse
            refine sW_go b_Cells_openFor_70 (st' := ([.int (nI 256), .int (nI 256)], [some (.ref c), some (.int (nI f)), some (.int (nI pb)), some (.int (nI 256))], M4)) (φ := True) rfl trivial ?_
            refine sW_ic_ge 109 d_Cells_openFor_74 (by decide) (fun c_74 => ?_) (fun c_74 => ?_)
            · skip
              simp (disch := omega) only [nI_leI] at c_74
              refine sW_fg [false, false, false, true] ?_
              show sW G m_Cells_openFor 109 ([], [some (.ref c), some (.int (nI f)), some (.int (nI pb)), none], M4) _
              exact fin (fun s' hs' => by rw [j2 s' hs', if_pos hs'])
            · skip
              simp (disch := omega) only [nI_leI] at c_74
              exact absurd c_74 (by decide)
      · have hbe : b = 8 := by omega
        subst hbe
        refine sW_go b_Cells_openFor_61 (st' := ([.int (nI 256), .int (nI (2 ^ 8))], [some (.ref c), some (.int (nI f)), some (.int (nI (2 ^ 8))), none], M3)) (φ := True) rfl trivial ?_
        refine sW_ic_ge 116 d_Cells_openFor_65 (by decide) (fun c_65 => ?_) (fun c_65 => ?_)
        · skip
          simp (disch := omega) only [nI_leI] at c_65
          refine sW_retV d_Cells_openFor_116 rfl ?_
          exact ⟨rfl, g1, g2⟩
        · skip
          simp (disch := omega) only [nI_leI] at c_65
          exact absurd c_65 (by decide)
    · skip
      simp (disch := omega) only [nI_leI] at c_18
      exact absurd c_18 (by omega)

