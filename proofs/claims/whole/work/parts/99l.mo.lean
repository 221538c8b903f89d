theorem k_who164 (G : mx_G) {M3 : mx_M} {X : Hs} {R : Rw} {q t w r i n m st v : Nat} {H S : Nat → Nat} (hw : HsOk X) (hM : MC M3 X q H S) (hA : RowsAt M3 120 121 122 R) (ht : t < 8) (hr : r < 8) (hl : R.1 r ≠ -1) (hi : i + n ≤ R.2.1 r) (hn : n ≤ 8) {QQ : Option Value → mx_M → Prop}
  (nx : sW G m_Mo_who 222 ([], [some (.ref 119), some (.int (nI t)), some (.int (nI w)), some (.int (nI r)), some (.int (nI i)), some (.int (nI n)), some (.int (nI 0)), some (.int (nI st)), some (.int (nI v)), some (.int (tf (lieQ X R r i t n))), none], M3) QQ) :
  sW G m_Mo_who 164 ([], [some (.ref 119), some (.int (nI t)), some (.int (nI w)), some (.int (nI r)), some (.int (nI i)), some (.int (nI n)), some (.int (nI 0)), some (.int (nI st)), some (.int (nI v)), some (.int (nI 1)), some (.int (nI 0))], M3) QQ := by
  have r40 := (hA r hr).2.2.2.1
  rw [show nI 1 = tf (lieQ X R r i t 0) from one_tf.mpr (fun u hu => absurd hu (Nat.not_lt_zero u))]
  refine mx_ind (α := Nat) (fun k => n - k) (fun k => k ≤ n → sW G m_Mo_who 164 ([], [some (.ref 119), some (.int (nI t)), some (.int (nI w)), some (.int (nI r)), some (.int (nI i)), some (.int (nI n)), some (.int (nI 0)), some (.int (nI st)), some (.int (nI v)), some (.int (tf (lieQ X R r i t k))), some (.int (nI k))], M3) _) ?_ 0 (Nat.zero_le _)
  intro k ih hk
  by_cases hkn : k < n
  · have e1 : M3 122 (40 * r + i + k) = R.2.2 r (i + k) := by
      rw [show 40 * r + i + k = r * 40 + (i + k) by omega]
      exact (hA r hr).2.2.2.2 hl (i + k) (by omega)
    have st' : ∀ z : Int32, z = tf (lieQ X R r i t (k + 1)) → sW G m_Mo_who 164 ([], [some (.ref 119), some (.int (nI t)), some (.int (nI w)), some (.int (nI r)), some (.int (nI i)), some (.int (nI n)), some (.int (nI 0)), some (.int (nI st)), some (.int (nI v)), some (.int z), some (.int (nI (k + 1)))], M3) QQ := fun z hz => by
      rw [hz]
      exact ih (k + 1) (by omega) (by omega)
    have yes : lieQ X R r i t k → (R.2.2 r (i + k) ≠ 0 ↔ LiesIn X k t) → nI 1 = tf (lieQ X R r i t (k + 1)) := fun a b => one_tf.mpr (fun u hu => by
      by_cases hx : u = k
      · rw [hx]; exact b
      · exact a u (by omega))
    have no : ¬ (lieQ X R r i t k ∧ (R.2.2 r (i + k) ≠ 0 ↔ LiesIn X k t)) → nI 0 = tf (lieQ X R r i t (k + 1)) := fun a => zero_tf.mpr (fun b => a ⟨fun u hu => b u (by omega), b k (by omega)⟩)
    refine sW_go b_Mo_who_164 (st' := ([.int (nI n), .int (nI k)], [some (.ref 119), some (.int (nI t)), some (.int (nI w)), some (.int (nI r)), some (.int (nI i)), some (.int (nI n)), some (.int (nI 0)), some (.int (nI st)), some (.int (nI v)), some (.int (tf (lieQ X R r i t k))), some (.int (nI k))], M3)) (φ := True) rfl trivial ?_
    refine sW_ic_ge 222 d_Mo_who_168 (by decide) (fun c_168 => ?_) (fun c_168 => ?_)
    · skip
      simp (disch := omega) only [nI_leI] at c_168
      omega
    · skip
      simp (disch := omega) only [nI_leI] at c_168
      refine sW_go b_Mo_who_171 (st' := ([.int (tf (lieQ X R r i t k))], [some (.ref 119), some (.int (nI t)), some (.int (nI w)), some (.int (nI r)), some (.int (nI i)), some (.int (nI n)), some (.int (nI 0)), some (.int (nI st)), some (.int (nI v)), some (.int (tf (lieQ X R r i t k))), some (.int (nI k))], M3)) (φ := True) rfl trivial ?_
      refine sW_if_eq 213 d_Mo_who_173 (by decide) (fun c_173 => ?_) (fun c_173 => ?_)
      · skip
        replace c_173 := tf_z.mp c_173
        refine sW_go b_Mo_who_213 (st' := ([.int (nI 0)], [some (.ref 119), some (.int (nI t)), some (.int (nI w)), some (.int (nI r)), some (.int (nI i)), some (.int (nI n)), some (.int (nI 0)), some (.int (nI st)), some (.int (nI v)), some (.int (tf (lieQ X R r i t k))), some (.int (nI k))], M3)) (φ := True) rfl trivial ?_
        refine sW_go b_Mo_who_214 (st' := ([], [some (.ref 119), some (.int (nI t)), some (.int (nI w)), some (.int (nI r)), some (.int (nI i)), some (.int (nI n)), some (.int (nI 0)), some (.int (nI st)), some (.int (nI v)), some (.int (nI 0)), some (.int (nI k + nI 1))], M3)) (φ := True) rfl trivial ?_
        refine sW_eq (st' := ([], [some (.ref 119), some (.int (nI t)), some (.int (nI w)), some (.int (nI r)), some (.int (nI i)), some (.int (nI n)), some (.int (nI 0)), some (.int (nI st)), some (.int (nI v)), some (.int (nI 0)), some (.int (nI (k + 1)))], M3)) (by simp (disch := omega) only [nI_add]) ?_
        refine sW_goto 164 d_Mo_who_219 (by decide) ?_
        exact st' _ (no (fun q => c_173 q.1))
      · skip
        replace c_173 := tf_nz.mp c_173
        refine sW_go b_Mo_who_176 (st' := ([.int (M3 122 (((nI 40 * nI r) + nI i) + nI k).toNatClampNeg)], [some (.ref 119), some (.int (nI t)), some (.int (nI w)), some (.int (nI r)), some (.int (nI i)), some (.int (nI n)), some (.int (nI 0)), some (.int (nI st)), some (.int (nI v)), some (.int (tf (lieQ X R r i t k))), some (.int (nI k))], M3)) (φ := mx_ocl LAY 119 = 10 ∧ vp_in (((nI 40 * nI r) + nI i) + nI k) (mx_len LAY false 122) ∧ True) rfl ⟨oc_119, (by simp (disch := omega) only [nI_add, pk_mul, ln_122]; exact vp_in_nI (by omega) (by decide)), trivial⟩ ?_
        refine sW_eq (st' := ([.int (R.2.2 r (i + k))], [some (.ref 119), some (.int (nI t)), some (.int (nI w)), some (.int (nI r)), some (.int (nI i)), some (.int (nI n)), some (.int (nI 0)), some (.int (nI st)), some (.int (nI v)), some (.int (tf (lieQ X R r i t k))), some (.int (nI k))], M3)) (by simp (disch := omega) only [e1, nI_add, nI_clamp, pk_mul]) ?_
        refine sW_if_eq 198 d_Mo_who_191 (by decide) (fun c_191 => ?_) (fun c_191 => ?_)
        · skip
          refine sW_go b_Mo_who_198 (st' := ([.int (nI 0)], [some (.ref 119), some (.int (nI t)), some (.int (nI w)), some (.int (nI r)), some (.int (nI i)), some (.int (nI n)), some (.int (nI 0)), some (.int (nI st)), some (.int (nI v)), some (.int (tf (lieQ X R r i t k))), some (.int (nI k))], M3)) (φ := True) rfl trivial ?_
          refine sW_go b_Mo_who_199 (st' := ([.int (nI t), .int (nI k), .ref 119, .int (nI 0)], [some (.ref 119), some (.int (nI t)), some (.int (nI w)), some (.int (nI r)), some (.int (nI i)), some (.int (nI n)), some (.int (nI 0)), some (.int (nI st)), some (.int (nI v)), some (.int (tf (lieQ X R r i t k))), some (.int (nI k))], M3)) (φ := True) rfl trivial ?_
          refine sW_callV 10 [.int (nI k), .int (nI t)] [.int (nI 0)] d_Mo_who_203 c_Mo_who_203 ⟨rfl, rfl, rfl, Nat.le_of_ble_eq_true rfl, rfl, rfl⟩ oc_119 (k_liesIn G hw hM (by omega) (by omega)) ?_
          rintro _ M₁ ⟨rfl, h₁⟩
          rw [h₁]
          show sW G m_Mo_who 206 ([.int (tf (LiesIn X k t)), .int (nI 0)], [some (.ref 119), some (.int (nI t)), some (.int (nI w)), some (.int (nI r)), some (.int (nI i)), some (.int (nI n)), some (.int (nI 0)), some (.int (nI st)), some (.int (nI v)), some (.int (tf (lieQ X R r i t k))), some (.int (nI k))], M3) _
          refine sW_ic_ne 213 d_Mo_who_206 (by decide) (fun c_206 => ?_) (fun c_206 => ?_)
          · skip
            refine sW_go b_Mo_who_213 (st' := ([.int (nI 0)], [some (.ref 119), some (.int (nI t)), some (.int (nI w)), some (.int (nI r)), some (.int (nI i)), some (.int (nI n)), some (.int (nI 0)), some (.int (nI st)), some (.int (nI v)), some (.int (tf (lieQ X R r i t k))), some (.int (nI k))], M3)) (φ := True) rfl trivial ?_
            refine sW_go b_Mo_who_214 (st' := ([], [some (.ref 119), some (.int (nI t)), some (.int (nI w)), some (.int (nI r)), some (.int (nI i)), some (.int (nI n)), some (.int (nI 0)), some (.int (nI st)), some (.int (nI v)), some (.int (nI 0)), some (.int (nI k + nI 1))], M3)) (φ := True) rfl trivial ?_
            refine sW_eq (st' := ([], [some (.ref 119), some (.int (nI t)), some (.int (nI w)), some (.int (nI r)), some (.int (nI i)), some (.int (nI n)), some (.int (nI 0)), some (.int (nI st)), some (.int (nI v)), some (.int (nI 0)), some (.int (nI (k + 1)))], M3)) (by simp (disch := omega) only [nI_add]) ?_
            refine sW_goto 164 d_Mo_who_219 (by decide) ?_
            exact st' _ (no (fun q => c_206 (zero_tf.mpr (fun z => q.2.mpr z c_191))))
          · skip
            refine sW_go b_Mo_who_209 (st' := ([.int (nI 1)], [some (.ref 119), some (.int (nI t)), some (.int (nI w)), some (.int (nI r)), some (.int (nI i)), some (.int (nI n)), some (.int (nI 0)), some (.int (nI st)), some (.int (nI v)), some (.int (tf (lieQ X R r i t k))), some (.int (nI k))], M3)) (φ := True) rfl trivial ?_
            refine sW_goto 214 d_Mo_who_210 (by decide) ?_
            refine sW_go b_Mo_who_214 (st' := ([], [some (.ref 119), some (.int (nI t)), some (.int (nI w)), some (.int (nI r)), some (.int (nI i)), some (.int (nI n)), some (.int (nI 0)), some (.int (nI st)), some (.int (nI v)), some (.int (nI 1)), some (.int (nI k + nI 1))], M3)) (φ := True) rfl trivial ?_
            refine sW_eq (st' := ([], [some (.ref 119), some (.int (nI t)), some (.int (nI w)), some (.int (nI r)), some (.int (nI i)), some (.int (nI n)), some (.int (nI 0)), some (.int (nI st)), some (.int (nI v)), some (.int (nI 1)), some (.int (nI (k + 1)))], M3)) (by simp (disch := omega) only [nI_add]) ?_
            refine sW_goto 164 d_Mo_who_219 (by decide) ?_
            exact st' _ (yes c_173 ⟨fun z => absurd c_191 z, fun z => absurd z (zero_tf.mp c_206)⟩)
        · skip
          refine sW_go b_Mo_who_194 (st' := ([.int (nI 1)], [some (.ref 119), some (.int (nI t)), some (.int (nI w)), some (.int (nI r)), some (.int (nI i)), some (.int (nI n)), some (.int (nI 0)), some (.int (nI st)), some (.int (nI v)), some (.int (tf (lieQ X R r i t k))), some (.int (nI k))], M3)) (φ := True) rfl trivial ?_
          refine sW_goto 199 d_Mo_who_195 (by decide) ?_
          refine sW_go b_Mo_who_199 (st' := ([.int (nI t), .int (nI k), .ref 119, .int (nI 1)], [some (.ref 119), some (.int (nI t)), some (.int (nI w)), some (.int (nI r)), some (.int (nI i)), some (.int (nI n)), some (.int (nI 0)), some (.int (nI st)), some (.int (nI v)), some (.int (tf (lieQ X R r i t k))), some (.int (nI k))], M3)) (φ := True) rfl trivial ?_
          refine sW_callV 10 [.int (nI k), .int (nI t)] [.int (nI 1)] d_Mo_who_203 c_Mo_who_203 ⟨rfl, rfl, rfl, Nat.le_of_ble_eq_true rfl, rfl, rfl⟩ oc_119 (k_liesIn G hw hM (by omega) (by omega)) ?_
          rintro _ M₁ ⟨rfl, h₁⟩
          rw [h₁]
          show sW G m_Mo_who 206 ([.int (tf (LiesIn X k t)), .int (nI 1)], [some (.ref 119), some (.int (nI t)), some (.int (nI w)), some (.int (nI r)), some (.int (nI i)), some (.int (nI n)), some (.int (nI 0)), some (.int (nI st)), some (.int (nI v)), some (.int (tf (lieQ X R r i t k))), some (.int (nI k))], M3) _
          refine sW_ic_ne 213 d_Mo_who_206 (by decide) (fun c_206 => ?_) (fun c_206 => ?_)
          · skip
            refine sW_go b_Mo_who_213 (st' := ([.int (nI 0)], [some (.ref 119), some (.int (nI t)), some (.int (nI w)), some (.int (nI r)), some (.int (nI i)), some (.int (nI n)), some (.int (nI 0)), some (.int (nI st)), some (.int (nI v)), some (.int (tf (lieQ X R r i t k))), some (.int (nI k))], M3)) (φ := True) rfl trivial ?_
            refine sW_go b_Mo_who_214 (st' := ([], [some (.ref 119), some (.int (nI t)), some (.int (nI w)), some (.int (nI r)), some (.int (nI i)), some (.int (nI n)), some (.int (nI 0)), some (.int (nI st)), some (.int (nI v)), some (.int (nI 0)), some (.int (nI k + nI 1))], M3)) (φ := True) rfl trivial ?_
            refine sW_eq (st' := ([], [some (.ref 119), some (.int (nI t)), some (.int (nI w)), some (.int (nI r)), some (.int (nI i)), some (.int (nI n)), some (.int (nI 0)), some (.int (nI st)), some (.int (nI v)), some (.int (nI 0)), some (.int (nI (k + 1)))], M3)) (by simp (disch := omega) only [nI_add]) ?_
            refine sW_goto 164 d_Mo_who_219 (by decide) ?_
            exact st' _ (no (fun q => c_206 (one_tf.mpr (q.2.mp c_191))))
          · skip
            refine sW_go b_Mo_who_209 (st' := ([.int (nI 1)], [some (.ref 119), some (.int (nI t)), some (.int (nI w)), some (.int (nI r)), some (.int (nI i)), some (.int (nI n)), some (.int (nI 0)), some (.int (nI st)), some (.int (nI v)), some (.int (tf (lieQ X R r i t k))), some (.int (nI k))], M3)) (φ := True) rfl trivial ?_
            refine sW_goto 214 d_Mo_who_210 (by decide) ?_
            refine sW_go b_Mo_who_214 (st' := ([], [some (.ref 119), some (.int (nI t)), some (.int (nI w)), some (.int (nI r)), some (.int (nI i)), some (.int (nI n)), some (.int (nI 0)), some (.int (nI st)), some (.int (nI v)), some (.int (nI 1)), some (.int (nI k + nI 1))], M3)) (φ := True) rfl trivial ?_
            refine sW_eq (st' := ([], [some (.ref 119), some (.int (nI t)), some (.int (nI w)), some (.int (nI r)), some (.int (nI i)), some (.int (nI n)), some (.int (nI 0)), some (.int (nI st)), some (.int (nI v)), some (.int (nI 1)), some (.int (nI (k + 1)))], M3)) (by simp (disch := omega) only [nI_add]) ?_
            refine sW_goto 164 d_Mo_who_219 (by decide) ?_
            exact st' _ (yes c_173 ⟨fun _ => one_tf.mp c_206, fun _ => c_191⟩)
  · obtain rfl : k = n := by omega
    refine sW_go b_Mo_who_164 (st' := ([.int (nI k), .int (nI k)], [some (.ref 119), some (.int (nI t)), some (.int (nI w)), some (.int (nI r)), some (.int (nI i)), some (.int (nI k)), some (.int (nI 0)), some (.int (nI st)), some (.int (nI v)), some (.int (tf (lieQ X R r i t k))), some (.int (nI k))], M3)) (φ := True) rfl trivial ?_
    refine sW_ic_ge 222 d_Mo_who_168 (by decide) (fun c_168 => ?_) (fun c_168 => ?_)
    · skip
      simp (disch := omega) only [nI_leI] at c_168
      refine sW_fg [false, false, false, false, false, false, false, false, false, false, true] ?_
      show sW G m_Mo_who 222 ([], [some (.ref 119), some (.int (nI t)), some (.int (nI w)), some (.int (nI r)), some (.int (nI i)), some (.int (nI k)), some (.int (nI 0)), some (.int (nI st)), some (.int (nI v)), some (.int (tf (lieQ X R r i t k))), none], M3) _
      exact nx
    · skip
      simp (disch := omega) only [nI_leI] at c_168
      omega
theorem k_mwho77 (G : mx_G) {M M1 : mx_M} {σ : Sg} (f1 : Fr M M1 119 139) (h1 : MInv M1 σ) (hg : GOk σ) {t w r i n tr : Nat} (ht : t < (gH σ).1) (hw : w ≤ 2) (hr : r < 8) (hl : (gR σ).1 r ≠ -1) (hi : i + n ≤ (gR σ).2.1 r) (hn : n ≤ (gH σ).1) (htr : tr = if w = 0 then 6 else 8) :
  sW G m_Mo_who 77 ([], [some (.ref 119), some (.int (nI t)), some (.int (nI w)), some (.int (nI r)), some (.int (nI i)), some (.int (nI n)), some (.int (nI 0)), some (.int (nI 0)), some (.int (nI 0)), none, none], M1) (MOk M (nI (mk8 (whoP (gH σ) t w (bsum (rwBit (gR σ) r i) n) n)), σ)) := by
  have h8 := hg.1.1.1
  have h88 : tr ≤ 8 := by rw [htr]; split <;> decide
  have h6 : ∀ v, v < tr → w = 0 → v ≤ 5 := fun v hv hw0 => by rw [htr, if_pos hw0] at hv; omega
  have ht6 : w = 0 → tr = 6 := fun q => by rw [htr, if_pos q]
  have ht8 : w ≠ 0 → tr = 8 := fun q => by rw [htr, if_neg q]
  rw [show nI 0 = nI (mkN (whoP (gH σ) t w (bsum (rwBit (gR σ) r i) n) n) 0) from rfl]
  refine mx_ind (α := Nat × mx_M) (fun a => tr - a.1) (fun a => a.1 ≤ tr → Fr M a.2 119 139 → MInv a.2 σ → sW G m_Mo_who 77 ([], [some (.ref 119), some (.int (nI t)), some (.int (nI w)), some (.int (nI r)), some (.int (nI i)), some (.int (nI n)), some (.int (nI 0)), some (.int (nI (mkN (whoP (gH σ) t w (bsum (rwBit (gR σ) r i) n) n) a.1))), some (.int (nI a.1)), none, none], a.2) _) ?_ (0, M1) (Nat.zero_le _) f1 h1
  rintro ⟨v, M2⟩ ih hv f2 h2
  dsimp only at ih hv f2 h2 ⊢
  have hlt := mkN_lt (whoP (gH σ) t w (bsum (rwBit (gR σ) r i) n) n) (n := v) (by omega)
  by_cases hvn : v < tr
  · have hR : RowAt M2 123 0 (gH σ) := h2.2.2.1.1
    have en := hR.n
    have hwl := hg.1.le t
    have hv6 := h6 v hvn
    obtain ⟨X, eX⟩ : ∃ X, hsTell (gH σ) t (if w = 0 then v else Sf (gH σ) t) (if w = 1 then v else Af (gH σ) t) (if w = 2 then v else Bf (gH σ) t) = X := ⟨_, rfl⟩
    have hs5 : (if w = 0 then v else Sf (gH σ) t) ≤ 5 := by split; exact hv6 (by assumption); omega
    have ha7 : (if w = 1 then v else Af (gH σ) t) ≤ 7 := by split <;> omega
    have hb7 : (if w = 2 then v else Bf (gH σ) t) ≤ 7 := by split <;> omega
    have hX : WHs X := by rw [← eX]; exact hg.1.tell ht hs5 ha7 hb7
    have eS : Sf X t = if w = 0 then v else Sf (gH σ) t := by rw [← eX]; exact updN_s _ _ _
    have eA : Af X t = if w = 1 then v else Af (gH σ) t := by rw [← eX]; exact updN_s _ _ _
    have eB : Bf X t = if w = 2 then v else Bf (gH σ) t := by rw [← eX]; exact updN_s _ _ _
    have e1 : X.1 = (gH σ).1 := by rw [← eX]; rfl
    have wv : whoP (gH σ) t w (bsum (rwBit (gR σ) r i) n) n v ↔ mayP (gH σ).1 (nI t) (nI (Sf X t)) (nI (Af X t)) (nI (Bf X t)) ∧ lieQ X (gR σ) r i t n := by
      unfold whoP fitP
      rw [eX, ← eS, ← eA, ← eB, ← htr, lieQ_e (hs := gH σ) hn h8]
      exact ⟨fun q => q.2, fun q => ⟨hvn, q⟩⟩
    have q2 : nI 1 <<< (nI v &&& 31) = nI (1 * 2 ^ v) := sh_1 (by omega)
    have t8 : t < 8 := by omega
    have xs : Sf X t < 6 := by omega
    have keep : ∀ M4, Fr M M4 119 139 → MInv M4 σ → (whoP (gH σ) t w (bsum (rwBit (gR σ) r i) n) n v) → sW G m_Mo_who 77 ([], [some (.ref 119), some (.int (nI t)), some (.int (nI w)), some (.int (nI r)), some (.int (nI i)), some (.int (nI n)), some (.int (nI 0)), some (.int (nI (mkN (whoP (gH σ) t w (bsum (rwBit (gR σ) r i) n) n) v ||| (1 * 2 ^ v)))), some (.int (nI (v + 1))), none, none], M4) (MOk M (nI (mk8 (whoP (gH σ) t w (bsum (rwBit (gR σ) r i) n) n)), σ)) := fun M4 a b c => by
      rw [mkN_1 c]
      exact ih (v + 1, M4) (by dsimp only; omega) (by dsimp only; omega) a b
    have lose : ∀ M4, Fr M M4 119 139 → MInv M4 σ → ¬ (whoP (gH σ) t w (bsum (rwBit (gR σ) r i) n) n v) → sW G m_Mo_who 77 ([], [some (.ref 119), some (.int (nI t)), some (.int (nI w)), some (.int (nI r)), some (.int (nI i)), some (.int (nI n)), some (.int (nI 0)), some (.int (nI (mkN (whoP (gH σ) t w (bsum (rwBit (gR σ) r i) n) n) v ||| 0))), some (.int (nI (v + 1))), none, none], M4) (MOk M (nI (mk8 (whoP (gH σ) t w (bsum (rwBit (gR σ) r i) n) n)), σ)) := fun M4 a b c => by
      rw [mkN_0 c]
      exact ih (v + 1, M4) (by dsimp only; omega) (by dsimp only; omega) a b
    generalize hMK : mkN (whoP (gH σ) t w (bsum (rwBit (gR σ) r i) n) n) v = mk at hlt keep lose ⊢
    refine sW_go b_Mo_who_77 (st' := ([.int (nI w), .int (nI v)], [some (.ref 119), some (.int (nI t)), some (.int (nI w)), some (.int (nI r)), some (.int (nI i)), some (.int (nI n)), some (.int (nI 0)), some (.int (nI mk)), some (.int (nI v)), none, none], M2)) (φ := True) rfl trivial ?_
    refine sW_if_ne 87 d_Mo_who_80 (by decide) (fun c_80 => ?_) (fun c_80 => ?_)
    · skip
      simp (disch := omega) only [nI_z] at c_80
      refine sW_go b_Mo_who_87 (st' := ([.int (nI 7), .int (nI v)], [some (.ref 119), some (.int (nI t)), some (.int (nI w)), some (.int (nI r)), some (.int (nI i)), some (.int (nI n)), some (.int (nI 0)), some (.int (nI mk)), some (.int (nI v)), none, none], M2)) (φ := True) rfl trivial ?_
      refine sW_ic_gt 246 d_Mo_who_89 (by decide) (fun c_89 => ?_) (fun c_89 => ?_)
      · skip
        simp (disch := omega) only [nI_ltI] at c_89
        exact absurd (ht8 c_80) (by omega)
      · skip
        simp (disch := omega) only [nI_ltI] at c_89
        refine sW_go b_Mo_who_92 (st' := ([.ref 119], [some (.ref 119), some (.int (nI t)), some (.int (nI w)), some (.int (nI r)), some (.int (nI i)), some (.int (nI n)), some (.int (nI 0)), some (.int (nI mk)), some (.int (nI v)), none, none], M2)) (φ := True) rfl trivial ?_
        refine sW_callV 10 [] [] d_Mo_who_93 c_Mo_who_93 ⟨rfl, rfl, rfl, Nat.le_of_ble_eq_true rfl, rfl, rfl⟩ oc_119 (k_layThen G hR) ?_
        rintro _ M3 ⟨rfl, f3, t3⟩
        show sW G m_Mo_who 96 ([], [some (.ref 119), some (.int (nI t)), some (.int (nI w)), some (.int (nI r)), some (.int (nI i)), some (.int (nI n)), some (.int (nI 0)), some (.int (nI mk)), some (.int (nI v)), none, none], M3) _
        have t4 : RowAt (mx_wr M3 125 (2 + 3 * t + w) (nI v)) 125 0 X := by rw [← eX]; exact t3.put1 hw t8
        obtain ⟨M4, e4⟩ : ∃ M4, mx_wr M3 125 (2 + 3 * t + w) (nI v) = M4 := ⟨_, rfl⟩
        rw [e4] at t4
        have f4 : MFr M2 M4 [125] [] := by rw [← e4]; exact f3.wr (by decide) (by decide)
        have h4 : MInv M4 σ := h2.scr (f4.mono (by decide) (by decide))
        have fr4 : Fr M M4 119 139 := f2.tr (f4.fr (by decide))
        have z : mx_wr M3 125 (2 + 3 * t + w) (nI v) 123 0 = nI (gH σ).1 := by rw [e4, f4.1 123 (by decide) (by decide)]; exact en
        have z' : M4 123 0 = nI (gH σ).1 := by rw [f4.1 123 (by decide) (by decide)]; exact en
        refine sW_go b_Mo_who_96 (st' := ([.int (nI 0), .int (nI t), .ref 125, .int (nI t), .int ((mx_wr M3 125 ((nI 2 + (nI 3 * nI t)) + nI w).toNatClampNeg (nI v)) 123 (nI 0).toNatClampNeg)], [some (.ref 119), some (.int (nI t)), some (.int (nI w)), some (.int (nI r)), some (.int (nI i)), some (.int (nI n)), some (.int (nI 0)), some (.int (nI mk)), some (.int (nI v)), none, none], mx_wr M3 125 ((nI 2 + (nI 3 * nI t)) + nI w).toNatClampNeg (nI v))) (φ := mx_ocl LAY 119 = 10 ∧ vp_in ((nI 2 + (nI 3 * nI t)) + nI w) (mx_len LAY false 125) ∧ mx_ocl LAY 119 = 10 ∧ vp_in (nI 0) (mx_len LAY false 123) ∧ mx_ocl LAY 119 = 10 ∧ True) rfl ⟨oc_119, (by simp (disch := omega) only [nI_add, pk_mul, ln_125]; exact vp_in_nI (by omega) (by decide)), oc_119, (by simp (disch := omega) only [ln_123]; exact vp_in_nI (by omega) (by decide)), oc_119, trivial⟩ ?_
        refine sW_eq (st' := ([.int (nI 0), .int (nI t), .ref 125, .int (nI t), .int (nI (gH σ).1)], [some (.ref 119), some (.int (nI t)), some (.int (nI w)), some (.int (nI r)), some (.int (nI i)), some (.int (nI n)), some (.int (nI 0)), some (.int (nI mk)), some (.int (nI v)), none, none], M4)) (by simp (disch := omega) only [e4, nI_add, nI_clamp, pk_mul, z, z']) ?_
        refine sW_callS [.ref 125, .int (nI t), .int (nI 0)] [.int (nI t), .int (nI (gH σ).1)] d_Mo_who_123 c_Mo_who_123 ⟨rfl, rfl, Nat.le_of_ble_eq_true rfl, rfl, rfl⟩ (k_ofS G ln_125 t4 t8) ?_
        rintro _ M₁ ⟨rfl, h₁⟩
        rw [h₁]
        show sW G m_Mo_who 126 ([.int (nI (Sf X t)), .int (nI t), .int (nI (gH σ).1)], [some (.ref 119), some (.int (nI t)), some (.int (nI w)), some (.int (nI r)), some (.int (nI i)), some (.int (nI n)), some (.int (nI 0)), some (.int (nI mk)), some (.int (nI v)), none, none], M4) _
        refine sW_go b_Mo_who_126 (st' := ([.int (nI 1), .int (nI t), .ref 125, .int (nI (Sf X t)), .int (nI t), .int (nI (gH σ).1)], [some (.ref 119), some (.int (nI t)), some (.int (nI w)), some (.int (nI r)), some (.int (nI i)), some (.int (nI n)), some (.int (nI 0)), some (.int (nI mk)), some (.int (nI v)), none, none], M4)) (φ := mx_ocl LAY 119 = 10 ∧ True) rfl ⟨oc_119, trivial⟩ ?_
        refine sW_callS [.ref 125, .int (nI t), .int (nI 1)] [.int (nI (Sf X t)), .int (nI t), .int (nI (gH σ).1)] d_Mo_who_132 c_Mo_who_132 ⟨rfl, rfl, Nat.le_of_ble_eq_true rfl, rfl, rfl⟩ (k_ofA G ln_125 t4 t8) ?_
        rintro _ M₁ ⟨rfl, h₁⟩
        rw [h₁]
        show sW G m_Mo_who 135 ([.int (nI (Af X t)), .int (nI (Sf X t)), .int (nI t), .int (nI (gH σ).1)], [some (.ref 119), some (.int (nI t)), some (.int (nI w)), some (.int (nI r)), some (.int (nI i)), some (.int (nI n)), some (.int (nI 0)), some (.int (nI mk)), some (.int (nI v)), none, none], M4) _
        refine sW_go b_Mo_who_135 (st' := ([.int (nI 2), .int (nI t), .ref 125, .int (nI (Af X t)), .int (nI (Sf X t)), .int (nI t), .int (nI (gH σ).1)], [some (.ref 119), some (.int (nI t)), some (.int (nI w)), some (.int (nI r)), some (.int (nI i)), some (.int (nI n)), some (.int (nI 0)), some (.int (nI mk)), some (.int (nI v)), none, none], M4)) (φ := mx_ocl LAY 119 = 10 ∧ True) rfl ⟨oc_119, trivial⟩ ?_
        refine sW_callS [.ref 125, .int (nI t), .int (nI 2)] [.int (nI (Af X t)), .int (nI (Sf X t)), .int (nI t), .int (nI (gH σ).1)] d_Mo_who_141 c_Mo_who_141 ⟨rfl, rfl, Nat.le_of_ble_eq_true rfl, rfl, rfl⟩ (k_ofB G ln_125 t4 t8) ?_
        rintro _ M₁ ⟨rfl, h₁⟩
        rw [h₁]
        show sW G m_Mo_who 144 ([.int (nI (Bf X t)), .int (nI (Af X t)), .int (nI (Sf X t)), .int (nI t), .int (nI (gH σ).1)], [some (.ref 119), some (.int (nI t)), some (.int (nI w)), some (.int (nI r)), some (.int (nI i)), some (.int (nI n)), some (.int (nI 0)), some (.int (nI mk)), some (.int (nI v)), none, none], M4) _
        refine sW_callS [.int (nI (gH σ).1), .int (nI t), .int (nI (Sf X t)), .int (nI (Af X t)), .int (nI (Bf X t))] [] d_Mo_who_144 c_Mo_who_144 ⟨rfl, rfl, Nat.le_of_ble_eq_true rfl, rfl, rfl⟩ (k_may G ht h8 xs (nI (Af X t)) (nI (Bf X t))) ?_
        rintro _ M₁ ⟨rfl, h₁⟩
        rw [h₁]
        show sW G m_Mo_who 147 ([.int (tf (mayP (gH σ).1 (nI t) (nI (Sf X t)) (nI (Af X t)) (nI (Bf X t))))], [some (.ref 119), some (.int (nI t)), some (.int (nI w)), some (.int (nI r)), some (.int (nI i)), some (.int (nI n)), some (.int (nI 0)), some (.int (nI mk)), some (.int (nI v)), none, none], M4) _
        refine sW_if_eq 240 d_Mo_who_147 (by decide) (fun c_147 => ?_) (fun c_147 => ?_)
        · skip
          replace c_147 := tf_z.mp c_147
          refine sW_go b_Mo_who_240 (st' := ([], [some (.ref 119), some (.int (nI t)), some (.int (nI w)), some (.int (nI r)), some (.int (nI i)), some (.int (nI n)), some (.int (nI 0)), some (.int (nI mk)), some (.int (nI v + nI 1)), none, none], M4)) (φ := True) rfl trivial ?_
          refine sW_eq (st' := ([], [some (.ref 119), some (.int (nI t)), some (.int (nI w)), some (.int (nI r)), some (.int (nI i)), some (.int (nI n)), some (.int (nI 0)), some (.int (nI mk)), some (.int (nI (v + 1))), none, none], M4)) (by simp (disch := omega) only [nI_add]) ?_
          refine sW_goto 77 d_Mo_who_243 (by decide) ?_
          have := lose M4 fr4 h4 (fun q => c_147 (wv.mp q).1)
          rw [Nat.or_zero] at this
          exact this
        · skip
          replace c_147 := tf_nz.mp c_147
          refine sW_go b_Mo_who_150 (st' := ([.ref 125, .ref 119], [some (.ref 119), some (.int (nI t)), some (.int (nI w)), some (.int (nI r)), some (.int (nI i)), some (.int (nI n)), some (.int (nI 0)), some (.int (nI mk)), some (.int (nI v)), none, none], M4)) (φ := mx_ocl LAY 119 = 10 ∧ True) rfl ⟨oc_119, trivial⟩ ?_
          refine sW_callV 10 [.ref 125] [] d_Mo_who_155 c_Mo_who_155 ⟨rfl, rfl, rfl, Nat.le_of_ble_eq_true rfl, rfl, rfl⟩ oc_119 (k_reckon G ln_125 (Or.inr rfl) t4 hX h4.2.2.2.2.2.2) ?_
          rintro _ M5 ⟨rfl, f5, r5, q5⟩
          have h5 := rk_inv h4 f5 r5 hX q5
          have fr5 := fr4.tr (f5.fr (by decide))
          obtain ⟨zz, H, S, hM⟩ := q5 (by omega)
          show sW G m_Mo_who 158 ([], [some (.ref 119), some (.int (nI t)), some (.int (nI w)), some (.int (nI r)), some (.int (nI i)), some (.int (nI n)), some (.int (nI 0)), some (.int (nI mk)), some (.int (nI v)), none, none], M5) _
          refine sW_go b_Mo_who_158 (st' := ([], [some (.ref 119), some (.int (nI t)), some (.int (nI w)), some (.int (nI r)), some (.int (nI i)), some (.int (nI n)), some (.int (nI 0)), some (.int (nI mk)), some (.int (nI v)), some (.int (nI 1)), some (.int (nI 0))], M5)) (φ := True) rfl trivial ?_
          refine k_who164 (m := 0) G hX.1 hM h5.1 t8 hr hl hi (by omega) ?_
          refine sW_go b_Mo_who_222 (st' := ([.int (tf (lieQ X (gR σ) r i t n)), .int (nI mk)], [some (.ref 119), some (.int (nI t)), some (.int (nI w)), some (.int (nI r)), some (.int (nI i)), some (.int (nI n)), some (.int (nI 0)), some (.int (nI mk)), some (.int (nI v)), some (.int (tf (lieQ X (gR σ) r i t n))), none], M5)) (φ := True) rfl trivial ?_
          refine sW_if_eq 236 d_Mo_who_226 (by decide) (fun c_226 => ?_) (fun c_226 => ?_)
          · skip
            replace c_226 := tf_z.mp c_226
            refine sW_go b_Mo_who_236 (st' := ([.int (nI 0), .int (nI mk)], [some (.ref 119), some (.int (nI t)), some (.int (nI w)), some (.int (nI r)), some (.int (nI i)), some (.int (nI n)), some (.int (nI 0)), some (.int (nI mk)), some (.int (nI v)), some (.int (tf (lieQ X (gR σ) r i t n))), none], M5)) (φ := True) rfl trivial ?_
            refine sW_go b_Mo_who_237 (st' := ([], [some (.ref 119), some (.int (nI t)), some (.int (nI w)), some (.int (nI r)), some (.int (nI i)), some (.int (nI n)), some (.int (nI 0)), some (.int (nI mk ||| nI 0)), some (.int (nI v)), some (.int (tf (lieQ X (gR σ) r i t n))), none], M5)) (φ := True) rfl trivial ?_
            refine sW_eq (st' := ([], [some (.ref 119), some (.int (nI t)), some (.int (nI w)), some (.int (nI r)), some (.int (nI i)), some (.int (nI n)), some (.int (nI 0)), some (.int (nI (mk ||| 0))), some (.int (nI v)), some (.int (tf (lieQ X (gR σ) r i t n))), none], M5)) (by simp (disch := omega) only [nx_or]) ?_
            refine sW_go b_Mo_who_240 (st' := ([], [some (.ref 119), some (.int (nI t)), some (.int (nI w)), some (.int (nI r)), some (.int (nI i)), some (.int (nI n)), some (.int (nI 0)), some (.int (nI (mk ||| 0))), some (.int (nI v + nI 1)), some (.int (tf (lieQ X (gR σ) r i t n))), none], M5)) (φ := True) rfl trivial ?_
            refine sW_eq (st' := ([], [some (.ref 119), some (.int (nI t)), some (.int (nI w)), some (.int (nI r)), some (.int (nI i)), some (.int (nI n)), some (.int (nI 0)), some (.int (nI (mk ||| 0))), some (.int (nI (v + 1))), some (.int (tf (lieQ X (gR σ) r i t n))), none], M5)) (by simp (disch := omega) only [nI_add]) ?_
            refine sW_goto 77 d_Mo_who_243 (by decide) ?_
            refine sW_fg [false, false, false, false, false, false, false, false, false, true, false] ?_
            show sW G m_Mo_who 77 ([], [some (.ref 119), some (.int (nI t)), some (.int (nI w)), some (.int (nI r)), some (.int (nI i)), some (.int (nI n)), some (.int (nI 0)), some (.int (nI (mk ||| 0))), some (.int (nI (v + 1))), none, none], M5) _
            exact lose M5 fr5 h5 (fun q => c_226 (wv.mp q).2)
          · skip
            replace c_226 := tf_nz.mp c_226
            refine sW_go b_Mo_who_229 (st' := ([.int (nI 1 <<< (nI v &&& 31)), .int (nI mk)], [some (.ref 119), some (.int (nI t)), some (.int (nI w)), some (.int (nI r)), some (.int (nI i)), some (.int (nI n)), some (.int (nI 0)), some (.int (nI mk)), some (.int (nI v)), some (.int (tf (lieQ X (gR σ) r i t n))), none], M5)) (φ := True) rfl trivial ?_
            refine sW_eq (st' := ([.int (nI (1 * 2 ^ v)), .int (nI mk)], [some (.ref 119), some (.int (nI t)), some (.int (nI w)), some (.int (nI r)), some (.int (nI i)), some (.int (nI n)), some (.int (nI 0)), some (.int (nI mk)), some (.int (nI v)), some (.int (tf (lieQ X (gR σ) r i t n))), none], M5)) (by simp (disch := omega) only [q2]) ?_
            refine sW_goto 237 d_Mo_who_233 (by decide) ?_
            refine sW_go b_Mo_who_237 (st' := ([], [some (.ref 119), some (.int (nI t)), some (.int (nI w)), some (.int (nI r)), some (.int (nI i)), some (.int (nI n)), some (.int (nI 0)), some (.int (nI mk ||| nI (1 * 2 ^ v))), some (.int (nI v)), some (.int (tf (lieQ X (gR σ) r i t n))), none], M5)) (φ := True) rfl trivial ?_
            refine sW_eq (st' := ([], [some (.ref 119), some (.int (nI t)), some (.int (nI w)), some (.int (nI r)), some (.int (nI i)), some (.int (nI n)), some (.int (nI 0)), some (.int (nI (mk ||| (1 * 2 ^ v)))), some (.int (nI v)), some (.int (tf (lieQ X (gR σ) r i t n))), none], M5)) (by simp (disch := omega) only [nx_or]) ?_
            refine sW_go b_Mo_who_240 (st' := ([], [some (.ref 119), some (.int (nI t)), some (.int (nI w)), some (.int (nI r)), some (.int (nI i)), some (.int (nI n)), some (.int (nI 0)), some (.int (nI (mk ||| (1 * 2 ^ v)))), some (.int (nI v + nI 1)), some (.int (tf (lieQ X (gR σ) r i t n))), none], M5)) (φ := True) rfl trivial ?_
            refine sW_eq (st' := ([], [some (.ref 119), some (.int (nI t)), some (.int (nI w)), some (.int (nI r)), some (.int (nI i)), some (.int (nI n)), some (.int (nI 0)), some (.int (nI (mk ||| (1 * 2 ^ v)))), some (.int (nI (v + 1))), some (.int (tf (lieQ X (gR σ) r i t n))), none], M5)) (by simp (disch := omega) only [nI_add]) ?_
            refine sW_goto 77 d_Mo_who_243 (by decide) ?_
            refine sW_fg [false, false, false, false, false, false, false, false, false, true, false] ?_
            show sW G m_Mo_who 77 ([], [some (.ref 119), some (.int (nI t)), some (.int (nI w)), some (.int (nI r)), some (.int (nI i)), some (.int (nI n)), some (.int (nI 0)), some (.int (nI (mk ||| (1 * 2 ^ v)))), some (.int (nI (v + 1))), none, none], M5) _
            exact keep M5 fr5 h5 (wv.mpr ⟨c_147, c_226⟩)
    · skip
      simp (disch := omega) only [nI_z] at c_80
      refine sW_go b_Mo_who_83 (st' := ([.int (nI 5), .int (nI v)], [some (.ref 119), some (.int (nI t)), some (.int (nI w)), some (.int (nI r)), some (.int (nI i)), some (.int (nI n)), some (.int (nI 0)), some (.int (nI mk)), some (.int (nI v)), none, none], M2)) (φ := True) rfl trivial ?_
      refine sW_goto 89 d_Mo_who_84 (by decide) ?_
      refine sW_ic_gt 246 d_Mo_who_89 (by decide) (fun c_89 => ?_) (fun c_89 => ?_)
      · skip
        simp (disch := omega) only [nI_ltI] at c_89
        exact absurd (ht6 c_80) (by omega)
      · skip
        simp (disch := omega) only [nI_ltI] at c_89
        refine sW_go b_Mo_who_92 (st' := ([.ref 119], [some (.ref 119), some (.int (nI t)), some (.int (nI w)), some (.int (nI r)), some (.int (nI i)), some (.int (nI n)), some (.int (nI 0)), some (.int (nI mk)), some (.int (nI v)), none, none], M2)) (φ := True) rfl trivial ?_
        refine sW_callV 10 [] [] d_Mo_who_93 c_Mo_who_93 ⟨rfl, rfl, rfl, Nat.le_of_ble_eq_true rfl, rfl, rfl⟩ oc_119 (k_layThen G hR) ?_
        rintro _ M3 ⟨rfl, f3, t3⟩
        show sW G m_Mo_who 96 ([], [some (.ref 119), some (.int (nI t)), some (.int (nI w)), some (.int (nI r)), some (.int (nI i)), some (.int (nI n)), some (.int (nI 0)), some (.int (nI mk)), some (.int (nI v)), none, none], M3) _
        have t4 : RowAt (mx_wr M3 125 (2 + 3 * t + w) (nI v)) 125 0 X := by rw [← eX]; exact t3.put1 hw t8
        obtain ⟨M4, e4⟩ : ∃ M4, mx_wr M3 125 (2 + 3 * t + w) (nI v) = M4 := ⟨_, rfl⟩
        rw [e4] at t4
        have f4 : MFr M2 M4 [125] [] := by rw [← e4]; exact f3.wr (by decide) (by decide)
        have h4 : MInv M4 σ := h2.scr (f4.mono (by decide) (by decide))
        have fr4 : Fr M M4 119 139 := f2.tr (f4.fr (by decide))
        have z : mx_wr M3 125 (2 + 3 * t + w) (nI v) 123 0 = nI (gH σ).1 := by rw [e4, f4.1 123 (by decide) (by decide)]; exact en
        have z' : M4 123 0 = nI (gH σ).1 := by rw [f4.1 123 (by decide) (by decide)]; exact en
        refine sW_go b_Mo_who_96 (st' := ([.int (nI 0), .int (nI t), .ref 125, .int (nI t), .int ((mx_wr M3 125 ((nI 2 + (nI 3 * nI t)) + nI w).toNatClampNeg (nI v)) 123 (nI 0).toNatClampNeg)], [some (.ref 119), some (.int (nI t)), some (.int (nI w)), some (.int (nI r)), some (.int (nI i)), some (.int (nI n)), some (.int (nI 0)), some (.int (nI mk)), some (.int (nI v)), none, none], mx_wr M3 125 ((nI 2 + (nI 3 * nI t)) + nI w).toNatClampNeg (nI v))) (φ := mx_ocl LAY 119 = 10 ∧ vp_in ((nI 2 + (nI 3 * nI t)) + nI w) (mx_len LAY false 125) ∧ mx_ocl LAY 119 = 10 ∧ vp_in (nI 0) (mx_len LAY false 123) ∧ mx_ocl LAY 119 = 10 ∧ True) rfl ⟨oc_119, (by simp (disch := omega) only [nI_add, pk_mul, ln_125]; exact vp_in_nI (by omega) (by decide)), oc_119, (by simp (disch := omega) only [ln_123]; exact vp_in_nI (by omega) (by decide)), oc_119, trivial⟩ ?_
        refine sW_eq (st' := ([.int (nI 0), .int (nI t), .ref 125, .int (nI t), .int (nI (gH σ).1)], [some (.ref 119), some (.int (nI t)), some (.int (nI w)), some (.int (nI r)), some (.int (nI i)), some (.int (nI n)), some (.int (nI 0)), some (.int (nI mk)), some (.int (nI v)), none, none], M4)) (by simp (disch := omega) only [e4, nI_add, nI_clamp, pk_mul, z, z']) ?_
        refine sW_callS [.ref 125, .int (nI t), .int (nI 0)] [.int (nI t), .int (nI (gH σ).1)] d_Mo_who_123 c_Mo_who_123 ⟨rfl, rfl, Nat.le_of_ble_eq_true rfl, rfl, rfl⟩ (k_ofS G ln_125 t4 t8) ?_
        rintro _ M₁ ⟨rfl, h₁⟩
        rw [h₁]
        show sW G m_Mo_who 126 ([.int (nI (Sf X t)), .int (nI t), .int (nI (gH σ).1)], [some (.ref 119), some (.int (nI t)), some (.int (nI w)), some (.int (nI r)), some (.int (nI i)), some (.int (nI n)), some (.int (nI 0)), some (.int (nI mk)), some (.int (nI v)), none, none], M4) _
        refine sW_go b_Mo_who_126 (st' := ([.int (nI 1), .int (nI t), .ref 125, .int (nI (Sf X t)), .int (nI t), .int (nI (gH σ).1)], [some (.ref 119), some (.int (nI t)), some (.int (nI w)), some (.int (nI r)), some (.int (nI i)), some (.int (nI n)), some (.int (nI 0)), some (.int (nI mk)), some (.int (nI v)), none, none], M4)) (φ := mx_ocl LAY 119 = 10 ∧ True) rfl ⟨oc_119, trivial⟩ ?_
        refine sW_callS [.ref 125, .int (nI t), .int (nI 1)] [.int (nI (Sf X t)), .int (nI t), .int (nI (gH σ).1)] d_Mo_who_132 c_Mo_who_132 ⟨rfl, rfl, Nat.le_of_ble_eq_true rfl, rfl, rfl⟩ (k_ofA G ln_125 t4 t8) ?_
        rintro _ M₁ ⟨rfl, h₁⟩
        rw [h₁]
        show sW G m_Mo_who 135 ([.int (nI (Af X t)), .int (nI (Sf X t)), .int (nI t), .int (nI (gH σ).1)], [some (.ref 119), some (.int (nI t)), some (.int (nI w)), some (.int (nI r)), some (.int (nI i)), some (.int (nI n)), some (.int (nI 0)), some (.int (nI mk)), some (.int (nI v)), none, none], M4) _
        refine sW_go b_Mo_who_135 (st' := ([.int (nI 2), .int (nI t), .ref 125, .int (nI (Af X t)), .int (nI (Sf X t)), .int (nI t), .int (nI (gH σ).1)], [some (.ref 119), some (.int (nI t)), some (.int (nI w)), some (.int (nI r)), some (.int (nI i)), some (.int (nI n)), some (.int (nI 0)), some (.int (nI mk)), some (.int (nI v)), none, none], M4)) (φ := mx_ocl LAY 119 = 10 ∧ True) rfl ⟨oc_119, trivial⟩ ?_
        refine sW_callS [.ref 125, .int (nI t), .int (nI 2)] [.int (nI (Af X t)), .int (nI (Sf X t)), .int (nI t), .int (nI (gH σ).1)] d_Mo_who_141 c_Mo_who_141 ⟨rfl, rfl, Nat.le_of_ble_eq_true rfl, rfl, rfl⟩ (k_ofB G ln_125 t4 t8) ?_
        rintro _ M₁ ⟨rfl, h₁⟩
        rw [h₁]
        show sW G m_Mo_who 144 ([.int (nI (Bf X t)), .int (nI (Af X t)), .int (nI (Sf X t)), .int (nI t), .int (nI (gH σ).1)], [some (.ref 119), some (.int (nI t)), some (.int (nI w)), some (.int (nI r)), some (.int (nI i)), some (.int (nI n)), some (.int (nI 0)), some (.int (nI mk)), some (.int (nI v)), none, none], M4) _
        refine sW_callS [.int (nI (gH σ).1), .int (nI t), .int (nI (Sf X t)), .int (nI (Af X t)), .int (nI (Bf X t))] [] d_Mo_who_144 c_Mo_who_144 ⟨rfl, rfl, Nat.le_of_ble_eq_true rfl, rfl, rfl⟩ (k_may G ht h8 xs (nI (Af X t)) (nI (Bf X t))) ?_
        rintro _ M₁ ⟨rfl, h₁⟩
        rw [h₁]
        show sW G m_Mo_who 147 ([.int (tf (mayP (gH σ).1 (nI t) (nI (Sf X t)) (nI (Af X t)) (nI (Bf X t))))], [some (.ref 119), some (.int (nI t)), some (.int (nI w)), some (.int (nI r)), some (.int (nI i)), some (.int (nI n)), some (.int (nI 0)), some (.int (nI mk)), some (.int (nI v)), none, none], M4) _
        refine sW_if_eq 240 d_Mo_who_147 (by decide) (fun c_147 => ?_) (fun c_147 => ?_)
        · skip
          replace c_147 := tf_z.mp c_147
          refine sW_go b_Mo_who_240 (st' := ([], [some (.ref 119), some (.int (nI t)), some (.int (nI w)), some (.int (nI r)), some (.int (nI i)), some (.int (nI n)), some (.int (nI 0)), some (.int (nI mk)), some (.int (nI v + nI 1)), none, none], M4)) (φ := True) rfl trivial ?_
          refine sW_eq (st' := ([], [some (.ref 119), some (.int (nI t)), some (.int (nI w)), some (.int (nI r)), some (.int (nI i)), some (.int (nI n)), some (.int (nI 0)), some (.int (nI mk)), some (.int (nI (v + 1))), none, none], M4)) (by simp (disch := omega) only [nI_add]) ?_
          refine sW_goto 77 d_Mo_who_243 (by decide) ?_
          have := lose M4 fr4 h4 (fun q => c_147 (wv.mp q).1)
          rw [Nat.or_zero] at this
          exact this
        · skip
          replace c_147 := tf_nz.mp c_147
          refine sW_go b_Mo_who_150 (st' := ([.ref 125, .ref 119], [some (.ref 119), some (.int (nI t)), some (.int (nI w)), some (.int (nI r)), some (.int (nI i)), some (.int (nI n)), some (.int (nI 0)), some (.int (nI mk)), some (.int (nI v)), none, none], M4)) (φ := mx_ocl LAY 119 = 10 ∧ True) rfl ⟨oc_119, trivial⟩ ?_
          refine sW_callV 10 [.ref 125] [] d_Mo_who_155 c_Mo_who_155 ⟨rfl, rfl, rfl, Nat.le_of_ble_eq_true rfl, rfl, rfl⟩ oc_119 (k_reckon G ln_125 (Or.inr rfl) t4 hX h4.2.2.2.2.2.2) ?_
          rintro _ M5 ⟨rfl, f5, r5, q5⟩
          have h5 := rk_inv h4 f5 r5 hX q5
          have fr5 := fr4.tr (f5.fr (by decide))
          obtain ⟨zz, H, S, hM⟩ := q5 (by omega)
          show sW G m_Mo_who 158 ([], [some (.ref 119), some (.int (nI t)), some (.int (nI w)), some (.int (nI r)), some (.int (nI i)), some (.int (nI n)), some (.int (nI 0)), some (.int (nI mk)), some (.int (nI v)), none, none], M5) _
          refine sW_go b_Mo_who_158 (st' := ([], [some (.ref 119), some (.int (nI t)), some (.int (nI w)), some (.int (nI r)), some (.int (nI i)), some (.int (nI n)), some (.int (nI 0)), some (.int (nI mk)), some (.int (nI v)), some (.int (nI 1)), some (.int (nI 0))], M5)) (φ := True) rfl trivial ?_
          refine k_who164 (m := 0) G hX.1 hM h5.1 t8 hr hl hi (by omega) ?_
          refine sW_go b_Mo_who_222 (st' := ([.int (tf (lieQ X (gR σ) r i t n)), .int (nI mk)], [some (.ref 119), some (.int (nI t)), some (.int (nI w)), some (.int (nI r)), some (.int (nI i)), some (.int (nI n)), some (.int (nI 0)), some (.int (nI mk)), some (.int (nI v)), some (.int (tf (lieQ X (gR σ) r i t n))), none], M5)) (φ := True) rfl trivial ?_
          refine sW_if_eq 236 d_Mo_who_226 (by decide) (fun c_226 => ?_) (fun c_226 => ?_)
          · skip
            replace c_226 := tf_z.mp c_226
            refine sW_go b_Mo_who_236 (st' := ([.int (nI 0), .int (nI mk)], [some (.ref 119), some (.int (nI t)), some (.int (nI w)), some (.int (nI r)), some (.int (nI i)), some (.int (nI n)), some (.int (nI 0)), some (.int (nI mk)), some (.int (nI v)), some (.int (tf (lieQ X (gR σ) r i t n))), none], M5)) (φ := True) rfl trivial ?_
            refine sW_go b_Mo_who_237 (st' := ([], [some (.ref 119), some (.int (nI t)), some (.int (nI w)), some (.int (nI r)), some (.int (nI i)), some (.int (nI n)), some (.int (nI 0)), some (.int (nI mk ||| nI 0)), some (.int (nI v)), some (.int (tf (lieQ X (gR σ) r i t n))), none], M5)) (φ := True) rfl trivial ?_
            refine sW_eq (st' := ([], [some (.ref 119), some (.int (nI t)), some (.int (nI w)), some (.int (nI r)), some (.int (nI i)), some (.int (nI n)), some (.int (nI 0)), some (.int (nI (mk ||| 0))), some (.int (nI v)), some (.int (tf (lieQ X (gR σ) r i t n))), none], M5)) (by simp (disch := omega) only [nx_or]) ?_
            refine sW_go b_Mo_who_240 (st' := ([], [some (.ref 119), some (.int (nI t)), some (.int (nI w)), some (.int (nI r)), some (.int (nI i)), some (.int (nI n)), some (.int (nI 0)), some (.int (nI (mk ||| 0))), some (.int (nI v + nI 1)), some (.int (tf (lieQ X (gR σ) r i t n))), none], M5)) (φ := True) rfl trivial ?_
            refine sW_eq (st' := ([], [some (.ref 119), some (.int (nI t)), some (.int (nI w)), some (.int (nI r)), some (.int (nI i)), some (.int (nI n)), some (.int (nI 0)), some (.int (nI (mk ||| 0))), some (.int (nI (v + 1))), some (.int (tf (lieQ X (gR σ) r i t n))), none], M5)) (by simp (disch := omega) only [nI_add]) ?_
            refine sW_goto 77 d_Mo_who_243 (by decide) ?_
            refine sW_fg [false, false, false, false, false, false, false, false, false, true, false] ?_
            show sW G m_Mo_who 77 ([], [some (.ref 119), some (.int (nI t)), some (.int (nI w)), some (.int (nI r)), some (.int (nI i)), some (.int (nI n)), some (.int (nI 0)), some (.int (nI (mk ||| 0))), some (.int (nI (v + 1))), none, none], M5) _
            exact lose M5 fr5 h5 (fun q => c_226 (wv.mp q).2)
          · skip
            replace c_226 := tf_nz.mp c_226
            refine sW_go b_Mo_who_229 (st' := ([.int (nI 1 <<< (nI v &&& 31)), .int (nI mk)], [some (.ref 119), some (.int (nI t)), some (.int (nI w)), some (.int (nI r)), some (.int (nI i)), some (.int (nI n)), some (.int (nI 0)), some (.int (nI mk)), some (.int (nI v)), some (.int (tf (lieQ X (gR σ) r i t n))), none], M5)) (φ := True) rfl trivial ?_
            refine sW_eq (st' := ([.int (nI (1 * 2 ^ v)), .int (nI mk)], [some (.ref 119), some (.int (nI t)), some (.int (nI w)), some (.int (nI r)), some (.int (nI i)), some (.int (nI n)), some (.int (nI 0)), some (.int (nI mk)), some (.int (nI v)), some (.int (tf (lieQ X (gR σ) r i t n))), none], M5)) (by simp (disch := omega) only [q2]) ?_
            refine sW_goto 237 d_Mo_who_233 (by decide) ?_
            refine sW_go b_Mo_who_237 (st' := ([], [some (.ref 119), some (.int (nI t)), some (.int (nI w)), some (.int (nI r)), some (.int (nI i)), some (.int (nI n)), some (.int (nI 0)), some (.int (nI mk ||| nI (1 * 2 ^ v))), some (.int (nI v)), some (.int (tf (lieQ X (gR σ) r i t n))), none], M5)) (φ := True) rfl trivial ?_
            refine sW_eq (st' := ([], [some (.ref 119), some (.int (nI t)), some (.int (nI w)), some (.int (nI r)), some (.int (nI i)), some (.int (nI n)), some (.int (nI 0)), some (.int (nI (mk ||| (1 * 2 ^ v)))), some (.int (nI v)), some (.int (tf (lieQ X (gR σ) r i t n))), none], M5)) (by simp (disch := omega) only [nx_or]) ?_
            refine sW_go b_Mo_who_240 (st' := ([], [some (.ref 119), some (.int (nI t)), some (.int (nI w)), some (.int (nI r)), some (.int (nI i)), some (.int (nI n)), some (.int (nI 0)), some (.int (nI (mk ||| (1 * 2 ^ v)))), some (.int (nI v + nI 1)), some (.int (tf (lieQ X (gR σ) r i t n))), none], M5)) (φ := True) rfl trivial ?_
            refine sW_eq (st' := ([], [some (.ref 119), some (.int (nI t)), some (.int (nI w)), some (.int (nI r)), some (.int (nI i)), some (.int (nI n)), some (.int (nI 0)), some (.int (nI (mk ||| (1 * 2 ^ v)))), some (.int (nI (v + 1))), some (.int (tf (lieQ X (gR σ) r i t n))), none], M5)) (by simp (disch := omega) only [nI_add]) ?_
            refine sW_goto 77 d_Mo_who_243 (by decide) ?_
            refine sW_fg [false, false, false, false, false, false, false, false, false, true, false] ?_
            show sW G m_Mo_who 77 ([], [some (.ref 119), some (.int (nI t)), some (.int (nI w)), some (.int (nI r)), some (.int (nI i)), some (.int (nI n)), some (.int (nI 0)), some (.int (nI (mk ||| (1 * 2 ^ v)))), some (.int (nI (v + 1))), none, none], M5) _
            exact keep M5 fr5 h5 (wv.mpr ⟨c_147, c_226⟩)
  · obtain rfl : v = tr := by omega
    have hfin : mkN (whoP (gH σ) t w (bsum (rwBit (gR σ) r i) n) n) v = mk8 (whoP (gH σ) t w (bsum (rwBit (gR σ) r i) n) n) := by
      rw [mkN_8 h88]
      exact mk8_congr (fun u _ => ⟨fun q => q.2, fun q => ⟨by rw [htr]; exact q.1, q⟩⟩)
    rw [hfin]
    generalize hMK : mk8 (whoP (gH σ) t w (bsum (rwBit (gR σ) r i) n) n) = mk
    refine sW_go b_Mo_who_77 (st' := ([.int (nI w), .int (nI v)], [some (.ref 119), some (.int (nI t)), some (.int (nI w)), some (.int (nI r)), some (.int (nI i)), some (.int (nI n)), some (.int (nI 0)), some (.int (nI mk)), some (.int (nI v)), none, none], M2)) (φ := True) rfl trivial ?_
    refine sW_if_ne 87 d_Mo_who_80 (by decide) (fun c_80 => ?_) (fun c_80 => ?_)
    · skip
      simp (disch := omega) only [nI_z] at c_80
      refine sW_go b_Mo_who_87 (st' := ([.int (nI 7), .int (nI v)], [some (.ref 119), some (.int (nI t)), some (.int (nI w)), some (.int (nI r)), some (.int (nI i)), some (.int (nI n)), some (.int (nI 0)), some (.int (nI mk)), some (.int (nI v)), none, none], M2)) (φ := True) rfl trivial ?_
      refine sW_ic_gt 246 d_Mo_who_89 (by decide) (fun c_89 => ?_) (fun c_89 => ?_)
      · skip
        simp (disch := omega) only [nI_ltI] at c_89
        refine sW_go b_Mo_who_246 (st' := ([.int (nI mk)], [some (.ref 119), some (.int (nI t)), some (.int (nI w)), some (.int (nI r)), some (.int (nI i)), some (.int (nI n)), some (.int (nI 0)), some (.int (nI mk)), some (.int (nI v)), none, none], M2)) (φ := True) rfl trivial ?_
        refine sW_retI d_Mo_who_248 rfl (vp_nar_int _) ?_
        exact ⟨rfl, f2, h2⟩
      · skip
        simp (disch := omega) only [nI_ltI] at c_89
        exact absurd (ht8 c_80) (by omega)
    · skip
      simp (disch := omega) only [nI_z] at c_80
      refine sW_go b_Mo_who_83 (st' := ([.int (nI 5), .int (nI v)], [some (.ref 119), some (.int (nI t)), some (.int (nI w)), some (.int (nI r)), some (.int (nI i)), some (.int (nI n)), some (.int (nI 0)), some (.int (nI mk)), some (.int (nI v)), none, none], M2)) (φ := True) rfl trivial ?_
      refine sW_goto 89 d_Mo_who_84 (by decide) ?_
      refine sW_ic_gt 246 d_Mo_who_89 (by decide) (fun c_89 => ?_) (fun c_89 => ?_)
      · skip
        simp (disch := omega) only [nI_ltI] at c_89
        refine sW_go b_Mo_who_246 (st' := ([.int (nI mk)], [some (.ref 119), some (.int (nI t)), some (.int (nI w)), some (.int (nI r)), some (.int (nI i)), some (.int (nI n)), some (.int (nI 0)), some (.int (nI mk)), some (.int (nI v)), none, none], M2)) (φ := True) rfl trivial ?_
        refine sW_retI d_Mo_who_248 rfl (vp_nar_int _) ?_
        exact ⟨rfl, f2, h2⟩
      · skip
        simp (disch := omega) only [nI_ltI] at c_89
        exact absurd (ht6 c_80) (by omega)
theorem mo_who (G : mx_G) {M : mx_M} {σ : Sg} (h : MInv M σ) (hg : GOk σ) (t w r i n : Int32) : sOk G m_Mo_who [.ref 119, .int t, .int w, .int r, .int i, .int n] M (MOk M (sp_who σ t w r i n)) := by
  obtain ⟨M0, e0, h0, f0, g0⟩ := h.th
  have hR : RowAt M0 123 0 (gH σ) := h0.2.2.1.1
  have h8 := hg.1.1.1
  have en := hR.n
  have hP : ((lN 1).toInt ≤ n.toInt64.toInt ∧ n.toInt64.toInt ≤ (nI (gH σ).1).toInt64.toInt) ↔ (nI 1 ≤ n ∧ n ≤ nI (gH σ).1) := by
    rw [i2l_ti, i2l_ti, lN_ti (by decide), Int32.le_iff_toInt_le, Int32.le_iff_toInt_le, nI_toInt (by omega), nI_toInt (by omega)]
    all_goals omega
  by_cases hc : vp_in t (gH σ).1 ∧ vp_in w 3 ∧ vp_in r 8 ∧ nI 1 ≤ n ∧ n ≤ nI (gH σ).1
  · obtain ⟨vt, vw, vr, vn⟩ := id hc
    obtain ⟨t', ht, rfl⟩ := vp_in_of vt (by omega)
    obtain ⟨w', hw, rfl⟩ := vp_in_of vw (by decide)
    obtain ⟨r', hr, rfl⟩ := vp_in_of vr (by decide)
    have hn : ∃ n' : Nat, 1 ≤ n' ∧ n' ≤ (gH σ).1 ∧ n = nI n' := by
      obtain ⟨v1, v2⟩ := vn
      rw [Int32.le_iff_toInt_le, nI_toInt (by decide)] at v1
      rw [Int32.le_iff_toInt_le, nI_toInt (by omega)] at v2
      obtain ⟨k, hk, rfl⟩ := nat_of (i := n) (by omega)
      rw [nI_toInt hk] at v1 v2
      exact ⟨k, by omega, by omega, rfl⟩
    obtain ⟨n', n1, n2, rfl⟩ := hn
    have ct : ∀ {x : Nat}, x < 100 → tn (nI x) = x := fun hx => nI_clamp (by omega)
    have e : sp_who σ (nI t') (nI w') (nI r') i (nI n') = cif (fndN (gR σ) r' i (nI n') = 0) (nI (mk8 (whoP (gH σ) t' w' (bsum (rwBit (gR σ) r' (tn i)) n') n')), ws σ 0) ((-1000010) - nI (fndN (gR σ) r' i (nI n')), ws σ (fndN (gR σ) r' i (nI n'))) := by
      unfold sp_who
      rw [cif_t hc, ct (by omega), ct (by omega), ct (by omega), ct (by omega)]
    rw [e]
    have krf := k_rowFound G h0.1 hr n1 (by omega) i
    have hle := fndN_le (gR σ) r' i (nI n')
    by_cases hf : fndN (gR σ) r' i (nI n') = 0
    · rw [cif_t hf]
      rw [hf, if_pos rfl] at krf
      obtain ⟨p1, p2, p3, p4⟩ := fnd0 hf
      obtain ⟨i', hi', rfl⟩ := nat_of (i := i) p2
      rw [nI_toInt hi', nI_toInt (by omega)] at p4
      rw [show tn (nI i') = i' from nI_clamp hi']
      obtain ⟨M1, e1, h1, f1, s1⟩ := h0.st0
      refine sOk_of ⟨by decide +kernel, by decide +kernel, Nat.le_of_ble_eq_true rfl⟩ ?_
      show sW G m_Mo_who 0 ([], [some (.ref 119), some (.int (nI t')), some (.int (nI w')), some (.int (nI r')), some (.int (nI i')), some (.int (nI n')), none, none, none, none, none], M) _
      refine sW_go b_Mo_who_0 (st' := ([.int (nI t'), .ref 119], [some (.ref 119), some (.int (nI t')), some (.int (nI w')), some (.int (nI r')), some (.int (nI i')), some (.int (nI n')), none, none, none, none, none], mx_wr M 119 0 (nI 0))) (φ := mx_ocl LAY 119 = 10 ∧ True) rfl ⟨oc_119, trivial⟩ ?_
      refine sW_eq (st' := ([.int (nI t'), .ref 119], [some (.ref 119), some (.int (nI t')), some (.int (nI w')), some (.int (nI r')), some (.int (nI i')), some (.int (nI n')), none, none, none, none, none], M0)) (by simp (disch := omega) only [e0]) ?_
      refine sW_callV 10 [.int (nI t')] [] d_Mo_who_7 c_Mo_who_7 ⟨rfl, rfl, rfl, Nat.le_of_ble_eq_true rfl, rfl, rfl⟩ oc_119 (k_isType G hR h8 (nI t')) ?_
      rintro _ M₁ ⟨rfl, h₁⟩
      rw [h₁]
      show sW G m_Mo_who 10 ([.int (tf (vp_in (nI t') (gH σ).1))], [some (.ref 119), some (.int (nI t')), some (.int (nI w')), some (.int (nI r')), some (.int (nI i')), some (.int (nI n')), none, none, none, none, none], M0) _
      refine sW_if_eq 49 d_Mo_who_10 (by decide) (fun c_10 => ?_) (fun c_10 => ?_)
      · skip
        replace c_10 := tf_z.mp c_10
        refine sW_go b_Mo_who_49 (st' := ([.int (-1000001)], [some (.ref 119), some (.int (nI t')), some (.int (nI w')), some (.int (nI r')), some (.int (nI i')), some (.int (nI n')), none, none, none, none, none], M0)) (φ := True) rfl trivial ?_
        refine sW_retI d_Mo_who_51 rfl (vp_nar_int _) ?_
        exact absurd vt c_10
      · skip
        replace c_10 := tf_nz.mp c_10
        refine sW_go b_Mo_who_13 (st' := ([.long (lN 2), .long (lN 0), .long (nI w').toInt64], [some (.ref 119), some (.int (nI t')), some (.int (nI w')), some (.int (nI r')), some (.int (nI i')), some (.int (nI n')), none, none, none, none, none], M0)) (φ := True) rfl trivial ?_
        refine sW_callS [.long (nI w').toInt64, .long (lN 0), .long (lN 2)] [] d_Mo_who_19 c_Mo_who_19 ⟨rfl, rfl, Nat.le_of_ble_eq_true rfl, rfl, rfl⟩ (k_in0 G (nI w') 2 (by decide)) ?_
        rintro _ M₁ ⟨rfl, h₁⟩
        rw [h₁]
        show sW G m_Mo_who 22 ([.int (tf (vp_in (nI w') 3))], [some (.ref 119), some (.int (nI t')), some (.int (nI w')), some (.int (nI r')), some (.int (nI i')), some (.int (nI n')), none, none, none, none, none], M0) _
        refine sW_if_eq 49 d_Mo_who_22 (by decide) (fun c_22 => ?_) (fun c_22 => ?_)
        · skip
          replace c_22 := tf_z.mp c_22
          refine sW_go b_Mo_who_49 (st' := ([.int (-1000001)], [some (.ref 119), some (.int (nI t')), some (.int (nI w')), some (.int (nI r')), some (.int (nI i')), some (.int (nI n')), none, none, none, none, none], M0)) (φ := True) rfl trivial ?_
          refine sW_retI d_Mo_who_51 rfl (vp_nar_int _) ?_
          exact absurd vw c_22
        · skip
          replace c_22 := tf_nz.mp c_22
          refine sW_go b_Mo_who_25 (st' := ([.int (nI r')], [some (.ref 119), some (.int (nI t')), some (.int (nI w')), some (.int (nI r')), some (.int (nI i')), some (.int (nI n')), none, none, none, none, none], M0)) (φ := True) rfl trivial ?_
          refine sW_callS [.int (nI r')] [] d_Mo_who_26 c_Mo_who_26 ⟨rfl, rfl, Nat.le_of_ble_eq_true rfl, rfl, rfl⟩ (k_isRow G (nI r')) ?_
          rintro _ M₁ ⟨rfl, h₁⟩
          rw [h₁]
          show sW G m_Mo_who 29 ([.int (tf (vp_in (nI r') 8))], [some (.ref 119), some (.int (nI t')), some (.int (nI w')), some (.int (nI r')), some (.int (nI i')), some (.int (nI n')), none, none, none, none, none], M0) _
          refine sW_if_eq 49 d_Mo_who_29 (by decide) (fun c_29 => ?_) (fun c_29 => ?_)
          · skip
            replace c_29 := tf_z.mp c_29
            refine sW_go b_Mo_who_49 (st' := ([.int (-1000001)], [some (.ref 119), some (.int (nI t')), some (.int (nI w')), some (.int (nI r')), some (.int (nI i')), some (.int (nI n')), none, none, none, none, none], M0)) (φ := True) rfl trivial ?_
            refine sW_retI d_Mo_who_51 rfl (vp_nar_int _) ?_
            exact absurd vr c_29
          · skip
            replace c_29 := tf_nz.mp c_29
            refine sW_go b_Mo_who_32 (st' := ([.long (M0 123 (nI 0).toNatClampNeg).toInt64, .long (lN 1), .long (nI n').toInt64], [some (.ref 119), some (.int (nI t')), some (.int (nI w')), some (.int (nI r')), some (.int (nI i')), some (.int (nI n')), none, none, none, none, none], M0)) (φ := mx_ocl LAY 119 = 10 ∧ vp_in (nI 0) (mx_len LAY false 123) ∧ True) rfl ⟨oc_119, (by simp (disch := omega) only [ln_123]; exact vp_in_nI (by omega) (by decide)), trivial⟩ ?_
            refine sW_eq (st' := ([.long (nI (gH σ).1).toInt64, .long (lN 1), .long (nI n').toInt64], [some (.ref 119), some (.int (nI t')), some (.int (nI w')), some (.int (nI r')), some (.int (nI i')), some (.int (nI n')), none, none, none, none, none], M0)) (by simp (disch := omega) only [en, nI_clamp]) ?_
            refine sW_callS [.long (nI n').toInt64, .long (lN 1), .long (nI (gH σ).1).toInt64] [] d_Mo_who_43 c_Mo_who_43 ⟨rfl, rfl, Nat.le_of_ble_eq_true rfl, rfl, rfl⟩ (k_inP G hP) ?_
            rintro _ M₁ ⟨rfl, h₁⟩
            rw [h₁]
            show sW G m_Mo_who 46 ([.int (tf (nI 1 ≤ nI n' ∧ nI n' ≤ nI (gH σ).1))], [some (.ref 119), some (.int (nI t')), some (.int (nI w')), some (.int (nI r')), some (.int (nI i')), some (.int (nI n')), none, none, none, none, none], M0) _
            refine sW_if_ne 52 d_Mo_who_46 (by decide) (fun c_46 => ?_) (fun c_46 => ?_)
            · skip
              replace c_46 := tf_nz.mp c_46
              refine sW_go b_Mo_who_52 (st' := ([.int (nI n'), .int (nI i'), .int (nI r'), .ref 119], [some (.ref 119), some (.int (nI t')), some (.int (nI w')), some (.int (nI r')), some (.int (nI i')), some (.int (nI n')), none, none, none, none, none], M0)) (φ := True) rfl trivial ?_
              refine sW_callV 10 [.int (nI r'), .int (nI i'), .int (nI n')] [] d_Mo_who_58 c_Mo_who_58 ⟨rfl, rfl, rfl, Nat.le_of_ble_eq_true rfl, rfl, rfl⟩ oc_119 (krf) ?_
              rintro _ M2 ⟨rfl, g2⟩
              rw [e1] at g2
              subst g2
              show sW G m_Mo_who 61 ([.int (nI 0)], [some (.ref 119), some (.int (nI t')), some (.int (nI w')), some (.int (nI r')), some (.int (nI i')), some (.int (nI n')), none, none, none, none, none], M2) _
              refine sW_go b_Mo_who_61 (st' := ([.int (nI 0)], [some (.ref 119), some (.int (nI t')), some (.int (nI w')), some (.int (nI r')), some (.int (nI i')), some (.int (nI n')), some (.int (nI 0)), none, none, none, none], M2)) (φ := True) rfl trivial ?_
              refine sW_if_eq 71 d_Mo_who_65 (by decide) (fun c_65 => ?_) (fun c_65 => ?_)
              · skip
                simp (disch := omega) only [nI_z] at c_65
                refine sW_go b_Mo_who_71 (st' := ([], [some (.ref 119), some (.int (nI t')), some (.int (nI w')), some (.int (nI r')), some (.int (nI i')), some (.int (nI n')), some (.int (nI 0)), some (.int (nI 0)), some (.int (nI 0)), none, none], M2)) (φ := True) rfl trivial ?_
                exact k_mwho77 (σ := ws σ 0) G (f0.tr (f1.fr (by decide))) h1 (hg.ws (by decide)) ht (by omega) hr p1 (by show i' + n' ≤ (gR σ).2.1 r'; omega) n2 rfl
              · skip
                exact absurd (by decide +kernel) c_65
            · skip
              replace c_46 := tf_z.mp c_46
              refine sW_go b_Mo_who_49 (st' := ([.int (-1000001)], [some (.ref 119), some (.int (nI t')), some (.int (nI w')), some (.int (nI r')), some (.int (nI i')), some (.int (nI n')), none, none, none, none, none], M0)) (φ := True) rfl trivial ?_
              refine sW_retI d_Mo_who_51 rfl (vp_nar_int _) ?_
              exact absurd vn c_46
    · rw [cif_f hf]
      rw [if_neg hf] at krf
      generalize hff : fndN (gR σ) r' i (nI n') = f at hf hle krf ⊢
      have hne : ¬ ((-1000010) - nI f : Int32) = 0 := by
        rcases (by omega : f = 1 ∨ f = 2) with rfl | rfl <;> decide +kernel
      refine sOk_of ⟨by decide +kernel, by decide +kernel, Nat.le_of_ble_eq_true rfl⟩ ?_
      show sW G m_Mo_who 0 ([], [some (.ref 119), some (.int (nI t')), some (.int (nI w')), some (.int (nI r')), some (.int i), some (.int (nI n')), none, none, none, none, none], M) _
      refine sW_go b_Mo_who_0 (st' := ([.int (nI t'), .ref 119], [some (.ref 119), some (.int (nI t')), some (.int (nI w')), some (.int (nI r')), some (.int i), some (.int (nI n')), none, none, none, none, none], mx_wr M 119 0 (nI 0))) (φ := mx_ocl LAY 119 = 10 ∧ True) rfl ⟨oc_119, trivial⟩ ?_
      refine sW_eq (st' := ([.int (nI t'), .ref 119], [some (.ref 119), some (.int (nI t')), some (.int (nI w')), some (.int (nI r')), some (.int i), some (.int (nI n')), none, none, none, none, none], M0)) (by simp (disch := omega) only [e0]) ?_
      refine sW_callV 10 [.int (nI t')] [] d_Mo_who_7 c_Mo_who_7 ⟨rfl, rfl, rfl, Nat.le_of_ble_eq_true rfl, rfl, rfl⟩ oc_119 (k_isType G hR h8 (nI t')) ?_
      rintro _ M₁ ⟨rfl, h₁⟩
      rw [h₁]
      show sW G m_Mo_who 10 ([.int (tf (vp_in (nI t') (gH σ).1))], [some (.ref 119), some (.int (nI t')), some (.int (nI w')), some (.int (nI r')), some (.int i), some (.int (nI n')), none, none, none, none, none], M0) _
      refine sW_if_eq 49 d_Mo_who_10 (by decide) (fun c_10 => ?_) (fun c_10 => ?_)
      · skip
        replace c_10 := tf_z.mp c_10
        refine sW_go b_Mo_who_49 (st' := ([.int (-1000001)], [some (.ref 119), some (.int (nI t')), some (.int (nI w')), some (.int (nI r')), some (.int i), some (.int (nI n')), none, none, none, none, none], M0)) (φ := True) rfl trivial ?_
        refine sW_retI d_Mo_who_51 rfl (vp_nar_int _) ?_
        exact absurd vt c_10
      · skip
        replace c_10 := tf_nz.mp c_10
        refine sW_go b_Mo_who_13 (st' := ([.long (lN 2), .long (lN 0), .long (nI w').toInt64], [some (.ref 119), some (.int (nI t')), some (.int (nI w')), some (.int (nI r')), some (.int i), some (.int (nI n')), none, none, none, none, none], M0)) (φ := True) rfl trivial ?_
        refine sW_callS [.long (nI w').toInt64, .long (lN 0), .long (lN 2)] [] d_Mo_who_19 c_Mo_who_19 ⟨rfl, rfl, Nat.le_of_ble_eq_true rfl, rfl, rfl⟩ (k_in0 G (nI w') 2 (by decide)) ?_
        rintro _ M₁ ⟨rfl, h₁⟩
        rw [h₁]
        show sW G m_Mo_who 22 ([.int (tf (vp_in (nI w') 3))], [some (.ref 119), some (.int (nI t')), some (.int (nI w')), some (.int (nI r')), some (.int i), some (.int (nI n')), none, none, none, none, none], M0) _
        refine sW_if_eq 49 d_Mo_who_22 (by decide) (fun c_22 => ?_) (fun c_22 => ?_)
        · skip
          replace c_22 := tf_z.mp c_22
          refine sW_go b_Mo_who_49 (st' := ([.int (-1000001)], [some (.ref 119), some (.int (nI t')), some (.int (nI w')), some (.int (nI r')), some (.int i), some (.int (nI n')), none, none, none, none, none], M0)) (φ := True) rfl trivial ?_
          refine sW_retI d_Mo_who_51 rfl (vp_nar_int _) ?_
          exact absurd vw c_22
        · skip
          replace c_22 := tf_nz.mp c_22
          refine sW_go b_Mo_who_25 (st' := ([.int (nI r')], [some (.ref 119), some (.int (nI t')), some (.int (nI w')), some (.int (nI r')), some (.int i), some (.int (nI n')), none, none, none, none, none], M0)) (φ := True) rfl trivial ?_
          refine sW_callS [.int (nI r')] [] d_Mo_who_26 c_Mo_who_26 ⟨rfl, rfl, Nat.le_of_ble_eq_true rfl, rfl, rfl⟩ (k_isRow G (nI r')) ?_
          rintro _ M₁ ⟨rfl, h₁⟩
          rw [h₁]
          show sW G m_Mo_who 29 ([.int (tf (vp_in (nI r') 8))], [some (.ref 119), some (.int (nI t')), some (.int (nI w')), some (.int (nI r')), some (.int i), some (.int (nI n')), none, none, none, none, none], M0) _
          refine sW_if_eq 49 d_Mo_who_29 (by decide) (fun c_29 => ?_) (fun c_29 => ?_)
          · skip
            replace c_29 := tf_z.mp c_29
            refine sW_go b_Mo_who_49 (st' := ([.int (-1000001)], [some (.ref 119), some (.int (nI t')), some (.int (nI w')), some (.int (nI r')), some (.int i), some (.int (nI n')), none, none, none, none, none], M0)) (φ := True) rfl trivial ?_
            refine sW_retI d_Mo_who_51 rfl (vp_nar_int _) ?_
            exact absurd vr c_29
          · skip
            replace c_29 := tf_nz.mp c_29
            refine sW_go b_Mo_who_32 (st' := ([.long (M0 123 (nI 0).toNatClampNeg).toInt64, .long (lN 1), .long (nI n').toInt64], [some (.ref 119), some (.int (nI t')), some (.int (nI w')), some (.int (nI r')), some (.int i), some (.int (nI n')), none, none, none, none, none], M0)) (φ := mx_ocl LAY 119 = 10 ∧ vp_in (nI 0) (mx_len LAY false 123) ∧ True) rfl ⟨oc_119, (by simp (disch := omega) only [ln_123]; exact vp_in_nI (by omega) (by decide)), trivial⟩ ?_
            refine sW_eq (st' := ([.long (nI (gH σ).1).toInt64, .long (lN 1), .long (nI n').toInt64], [some (.ref 119), some (.int (nI t')), some (.int (nI w')), some (.int (nI r')), some (.int i), some (.int (nI n')), none, none, none, none, none], M0)) (by simp (disch := omega) only [en, nI_clamp]) ?_
            refine sW_callS [.long (nI n').toInt64, .long (lN 1), .long (nI (gH σ).1).toInt64] [] d_Mo_who_43 c_Mo_who_43 ⟨rfl, rfl, Nat.le_of_ble_eq_true rfl, rfl, rfl⟩ (k_inP G hP) ?_
            rintro _ M₁ ⟨rfl, h₁⟩
            rw [h₁]
            show sW G m_Mo_who 46 ([.int (tf (nI 1 ≤ nI n' ∧ nI n' ≤ nI (gH σ).1))], [some (.ref 119), some (.int (nI t')), some (.int (nI w')), some (.int (nI r')), some (.int i), some (.int (nI n')), none, none, none, none, none], M0) _
            refine sW_if_ne 52 d_Mo_who_46 (by decide) (fun c_46 => ?_) (fun c_46 => ?_)
            · skip
              replace c_46 := tf_nz.mp c_46
              refine sW_go b_Mo_who_52 (st' := ([.int (nI n'), .int i, .int (nI r'), .ref 119], [some (.ref 119), some (.int (nI t')), some (.int (nI w')), some (.int (nI r')), some (.int i), some (.int (nI n')), none, none, none, none, none], M0)) (φ := True) rfl trivial ?_
              refine sW_callV 10 [.int (nI r'), .int i, .int (nI n')] [] d_Mo_who_58 c_Mo_who_58 ⟨rfl, rfl, rfl, Nat.le_of_ble_eq_true rfl, rfl, rfl⟩ oc_119 (krf) ?_
              rintro _ M2 ⟨rfl, g2⟩
              show sW G m_Mo_who 61 ([.int ((-1000010) - nI f)], [some (.ref 119), some (.int (nI t')), some (.int (nI w')), some (.int (nI r')), some (.int i), some (.int (nI n')), none, none, none, none, none], M2) _
              refine sW_go b_Mo_who_61 (st' := ([.int ((-1000010) - nI f)], [some (.ref 119), some (.int (nI t')), some (.int (nI w')), some (.int (nI r')), some (.int i), some (.int (nI n')), some (.int ((-1000010) - nI f)), none, none, none, none], M2)) (φ := True) rfl trivial ?_
              refine sW_if_eq 71 d_Mo_who_65 (by decide) (fun c_65 => ?_) (fun c_65 => ?_)
              · skip
                exact absurd c_65 hne
              · skip
                refine sW_go b_Mo_who_68 (st' := ([.int ((-1000010) - nI f)], [some (.ref 119), some (.int (nI t')), some (.int (nI w')), some (.int (nI r')), some (.int i), some (.int (nI n')), some (.int ((-1000010) - nI f)), none, none, none, none], M2)) (φ := True) rfl trivial ?_
                refine sW_retI d_Mo_who_70 rfl (vp_nar_int _) ?_
                exact MOk.find h0 f0 MFr.rf g2
            · skip
              replace c_46 := tf_z.mp c_46
              refine sW_go b_Mo_who_49 (st' := ([.int (-1000001)], [some (.ref 119), some (.int (nI t')), some (.int (nI w')), some (.int (nI r')), some (.int i), some (.int (nI n')), none, none, none, none, none], M0)) (φ := True) rfl trivial ?_
              refine sW_retI d_Mo_who_51 rfl (vp_nar_int _) ?_
              exact absurd vn c_46
  · have e : sp_who σ t w r i n = ((-1000001), σ) := by unfold sp_who; rw [cif_f hc]
    rw [e]
    refine sOk_of ⟨by decide +kernel, by decide +kernel, Nat.le_of_ble_eq_true rfl⟩ ?_
    show sW G m_Mo_who 0 ([], [some (.ref 119), some (.int t), some (.int w), some (.int r), some (.int i), some (.int n), none, none, none, none, none], M) _
    refine sW_go b_Mo_who_0 (st' := ([.int t, .ref 119], [some (.ref 119), some (.int t), some (.int w), some (.int r), some (.int i), some (.int n), none, none, none, none, none], mx_wr M 119 0 (nI 0))) (φ := mx_ocl LAY 119 = 10 ∧ True) rfl ⟨oc_119, trivial⟩ ?_
    refine sW_eq (st' := ([.int t, .ref 119], [some (.ref 119), some (.int t), some (.int w), some (.int r), some (.int i), some (.int n), none, none, none, none, none], M0)) (by simp (disch := omega) only [e0]) ?_
    refine sW_callV 10 [.int t] [] d_Mo_who_7 c_Mo_who_7 ⟨rfl, rfl, rfl, Nat.le_of_ble_eq_true rfl, rfl, rfl⟩ oc_119 (k_isType G hR h8 t) ?_
    rintro _ M₁ ⟨rfl, h₁⟩
    rw [h₁]
    show sW G m_Mo_who 10 ([.int (tf (vp_in t (gH σ).1))], [some (.ref 119), some (.int t), some (.int w), some (.int r), some (.int i), some (.int n), none, none, none, none, none], M0) _
    refine sW_if_eq 49 d_Mo_who_10 (by decide) (fun c_10 => ?_) (fun c_10 => ?_)
    · skip
      replace c_10 := tf_z.mp c_10
      refine sW_go b_Mo_who_49 (st' := ([.int (-1000001)], [some (.ref 119), some (.int t), some (.int w), some (.int r), some (.int i), some (.int n), none, none, none, none, none], M0)) (φ := True) rfl trivial ?_
      refine sW_retI d_Mo_who_51 rfl (vp_nar_int _) ?_
      exact ⟨rfl, f0, h0⟩
    · skip
      replace c_10 := tf_nz.mp c_10
      refine sW_go b_Mo_who_13 (st' := ([.long (lN 2), .long (lN 0), .long w.toInt64], [some (.ref 119), some (.int t), some (.int w), some (.int r), some (.int i), some (.int n), none, none, none, none, none], M0)) (φ := True) rfl trivial ?_
      refine sW_callS [.long w.toInt64, .long (lN 0), .long (lN 2)] [] d_Mo_who_19 c_Mo_who_19 ⟨rfl, rfl, Nat.le_of_ble_eq_true rfl, rfl, rfl⟩ (k_in0 G w 2 (by decide)) ?_
      rintro _ M₁ ⟨rfl, h₁⟩
      rw [h₁]
      show sW G m_Mo_who 22 ([.int (tf (vp_in w 3))], [some (.ref 119), some (.int t), some (.int w), some (.int r), some (.int i), some (.int n), none, none, none, none, none], M0) _
      refine sW_if_eq 49 d_Mo_who_22 (by decide) (fun c_22 => ?_) (fun c_22 => ?_)
      · skip
        replace c_22 := tf_z.mp c_22
        refine sW_go b_Mo_who_49 (st' := ([.int (-1000001)], [some (.ref 119), some (.int t), some (.int w), some (.int r), some (.int i), some (.int n), none, none, none, none, none], M0)) (φ := True) rfl trivial ?_
        refine sW_retI d_Mo_who_51 rfl (vp_nar_int _) ?_
        exact ⟨rfl, f0, h0⟩
      · skip
        replace c_22 := tf_nz.mp c_22
        refine sW_go b_Mo_who_25 (st' := ([.int r], [some (.ref 119), some (.int t), some (.int w), some (.int r), some (.int i), some (.int n), none, none, none, none, none], M0)) (φ := True) rfl trivial ?_
        refine sW_callS [.int r] [] d_Mo_who_26 c_Mo_who_26 ⟨rfl, rfl, Nat.le_of_ble_eq_true rfl, rfl, rfl⟩ (k_isRow G r) ?_
        rintro _ M₁ ⟨rfl, h₁⟩
        rw [h₁]
        show sW G m_Mo_who 29 ([.int (tf (vp_in r 8))], [some (.ref 119), some (.int t), some (.int w), some (.int r), some (.int i), some (.int n), none, none, none, none, none], M0) _
        refine sW_if_eq 49 d_Mo_who_29 (by decide) (fun c_29 => ?_) (fun c_29 => ?_)
        · skip
          replace c_29 := tf_z.mp c_29
          refine sW_go b_Mo_who_49 (st' := ([.int (-1000001)], [some (.ref 119), some (.int t), some (.int w), some (.int r), some (.int i), some (.int n), none, none, none, none, none], M0)) (φ := True) rfl trivial ?_
          refine sW_retI d_Mo_who_51 rfl (vp_nar_int _) ?_
          exact ⟨rfl, f0, h0⟩
        · skip
          replace c_29 := tf_nz.mp c_29
          refine sW_go b_Mo_who_32 (st' := ([.long (M0 123 (nI 0).toNatClampNeg).toInt64, .long (lN 1), .long n.toInt64], [some (.ref 119), some (.int t), some (.int w), some (.int r), some (.int i), some (.int n), none, none, none, none, none], M0)) (φ := mx_ocl LAY 119 = 10 ∧ vp_in (nI 0) (mx_len LAY false 123) ∧ True) rfl ⟨oc_119, (by simp (disch := omega) only [ln_123]; exact vp_in_nI (by omega) (by decide)), trivial⟩ ?_
          refine sW_eq (st' := ([.long (nI (gH σ).1).toInt64, .long (lN 1), .long n.toInt64], [some (.ref 119), some (.int t), some (.int w), some (.int r), some (.int i), some (.int n), none, none, none, none, none], M0)) (by simp (disch := omega) only [en, nI_clamp]) ?_
          refine sW_callS [.long n.toInt64, .long (lN 1), .long (nI (gH σ).1).toInt64] [] d_Mo_who_43 c_Mo_who_43 ⟨rfl, rfl, Nat.le_of_ble_eq_true rfl, rfl, rfl⟩ (k_inP G hP) ?_
          rintro _ M₁ ⟨rfl, h₁⟩
          rw [h₁]
          show sW G m_Mo_who 46 ([.int (tf (nI 1 ≤ n ∧ n ≤ nI (gH σ).1))], [some (.ref 119), some (.int t), some (.int w), some (.int r), some (.int i), some (.int n), none, none, none, none, none], M0) _
          refine sW_if_ne 52 d_Mo_who_46 (by decide) (fun c_46 => ?_) (fun c_46 => ?_)
          · skip
            replace c_46 := tf_nz.mp c_46
            exact absurd ⟨c_10, c_22, c_29, c_46⟩ hc
          · skip
            replace c_46 := tf_z.mp c_46
            refine sW_go b_Mo_who_49 (st' := ([.int (-1000001)], [some (.ref 119), some (.int t), some (.int w), some (.int r), some (.int i), some (.int n), none, none, none, none, none], M0)) (φ := True) rfl trivial ?_
            refine sW_retI d_Mo_who_51 rfl (vp_nar_int _) ?_
            exact ⟨rfl, f0, h0⟩

