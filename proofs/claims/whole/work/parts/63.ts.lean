noncomputable def sp_copy (σ : Sg) (a i b j n : Int32) : Int32 × Sg := cif (vp_in a 8 ∧ vp_in b 8) (cif (fndM (gR σ) (tn a) i (tn b) j n = 0) (n, wR (ws σ 0) (rwMove (gR σ) (tn a) (tn i) (tn b) (tn j) (tn n))) ((-1000010) - nI (fndM (gR σ) (tn a) i (tn b) j n), ws σ (fndM (gR σ) (tn a) i (tn b) j n))) ((-1000001), σ)
theorem ts_copy (G : mx_G) {M : mx_M} {σ : Sg} (h : CInv M σ) (a i b j n : Int32) : sOk G m_TS_copy [.ref 0, .int a, .int i, .int b, .int j, .int n] M (COk M (sp_copy σ a i b j n)) := by
  by_cases hr : vp_in a 8 ∧ vp_in b 8
  · obtain ⟨ra, rb⟩ := id hr
    obtain ⟨x, hx, rfl⟩ := vp_in_of ra (by decide)
    obtain ⟨y, hy, rfl⟩ := vp_in_of rb (by decide)
    have cx : tn (nI x) = x := nI_clamp (by omega)
    have cy : tn (nI y) = y := nI_clamp (by omega)
    have hle := fndM_le (gR σ) x y i j n
    by_cases hf : fndM (gR σ) x i y j n = 0
    · obtain ⟨q1, q2, q3, ⟨p1, p2, p3⟩, ⟨p4, p5, p6⟩⟩ := fndM0 hf
      obtain ⟨i', hi', rfl⟩ := nat_of p1
      obtain ⟨j', hj', rfl⟩ := nat_of p4
      obtain ⟨n', hn', rfl⟩ := nat_of p2
      rw [nI_toInt hi', nI_toInt hn'] at p3
      rw [nI_toInt hj', nI_toInt hn'] at p6
      have b1 : i' + n' ≤ (gR σ).2.1 x := by omega
      have b2 : j' + n' ≤ (gR σ).2.1 y := by omega
      have e : sp_copy σ (nI x) (nI i') (nI y) (nI j') (nI n') = (nI n', wR (ws σ 0) (rwMove (gR σ) x i' y j' n')) := by
        unfold sp_copy; rw [cif_t hr, cx, cy, cif_t hf, show tn (nI i') = i' from nI_clamp hi', show tn (nI j') = j' from nI_clamp hj', show tn (nI n') = n' from nI_clamp hn']
      have z : (mx_wr M 0 13 (nI 0)) 0 13 = nI 0 := wr13
      have h' := h.st 0
      have kf := k_findingOfMove G h.1 hx hy (nI i') (nI j') (nI n')
      rw [hf] at kf
      rw [e]
      refine sOk_of ⟨by decide +kernel, by decide +kernel, Nat.le_of_ble_eq_true rfl⟩ ?_
      show sW G m_TS_copy 0 ([], [some (.ref 0), some (.int (nI x)), some (.int (nI i')), some (.int (nI y)), some (.int (nI j')), some (.int (nI n'))], M) _
      refine sW_go b_TS_copy_0 (st' := ([.int (nI x)], [some (.ref 0), some (.int (nI x)), some (.int (nI i')), some (.int (nI y)), some (.int (nI j')), some (.int (nI n'))], M)) (φ := True) rfl trivial ?_
      refine sW_callS [.int (nI x)] [] d_TS_copy_1 c_TS_copy_1 ⟨rfl, rfl, Nat.le_of_ble_eq_true rfl, rfl, rfl⟩ (k_isNumber G (nI x)) ?_
      rintro _ M₁ ⟨rfl, h₁⟩
      rw [h₁]
      show sW G m_TS_copy 4 ([.int (tf (vp_in (nI x) 8))], [some (.ref 0), some (.int (nI x)), some (.int (nI i')), some (.int (nI y)), some (.int (nI j')), some (.int (nI n'))], M) _
      refine sW_if_eq 14 d_TS_copy_4 (by decide) (fun c_4 => ?_) (fun c_4 => ?_)
      · skip
        replace c_4 := tf_z.mp c_4
        refine sW_go b_TS_copy_14 (st' := ([.int (-1000001)], [some (.ref 0), some (.int (nI x)), some (.int (nI i')), some (.int (nI y)), some (.int (nI j')), some (.int (nI n'))], M)) (φ := True) rfl trivial ?_
        refine sW_retI d_TS_copy_16 rfl (vp_nar_int _) ?_
        exact absurd ra c_4
      · skip
        replace c_4 := tf_nz.mp c_4
        refine sW_go b_TS_copy_7 (st' := ([.int (nI y)], [some (.ref 0), some (.int (nI x)), some (.int (nI i')), some (.int (nI y)), some (.int (nI j')), some (.int (nI n'))], M)) (φ := True) rfl trivial ?_
        refine sW_callS [.int (nI y)] [] d_TS_copy_8 c_TS_copy_8 ⟨rfl, rfl, Nat.le_of_ble_eq_true rfl, rfl, rfl⟩ (k_isNumber G (nI y)) ?_
        rintro _ M₁ ⟨rfl, h₁⟩
        rw [h₁]
        show sW G m_TS_copy 11 ([.int (tf (vp_in (nI y) 8))], [some (.ref 0), some (.int (nI x)), some (.int (nI i')), some (.int (nI y)), some (.int (nI j')), some (.int (nI n'))], M) _
        refine sW_if_ne 17 d_TS_copy_11 (by decide) (fun c_11 => ?_) (fun c_11 => ?_)
        · skip
          replace c_11 := tf_nz.mp c_11
          refine sW_go b_TS_copy_17 (st' := ([.int (nI n'), .int (nI j'), .int (nI y), .int (nI i'), .int (nI x), .ref 1, .ref 0], [some (.ref 0), some (.int (nI x)), some (.int (nI i')), some (.int (nI y)), some (.int (nI j')), some (.int (nI n'))], M)) (φ := mx_ocl LAY 0 = 9 ∧ True) rfl ⟨oc_0, trivial⟩ ?_
          refine sW_callV 5 [.int (nI x), .int (nI i'), .int (nI y), .int (nI j'), .int (nI n')] [.ref 0] d_TS_copy_29 c_TS_copy_29 ⟨rfl, rfl, rfl, Nat.le_of_ble_eq_true rfl, rfl, rfl⟩ oc_1 (kf) ?_
          rintro _ M₁ ⟨rfl, h₁⟩
          rw [h₁]
          show sW G m_TS_copy 32 ([.int (nI 0), .ref 0], [some (.ref 0), some (.int (nI x)), some (.int (nI i')), some (.int (nI y)), some (.int (nI j')), some (.int (nI n'))], M) _
          refine sW_go b_TS_copy_32 (st' := ([.int ((mx_wr M 0 13 (nI 0)) 0 13)], [some (.ref 0), some (.int (nI x)), some (.int (nI i')), some (.int (nI y)), some (.int (nI j')), some (.int (nI n'))], mx_wr M 0 13 (nI 0))) (φ := mx_ocl LAY 0 = 9 ∧ mx_ocl LAY 0 = 9 ∧ True) rfl ⟨oc_0, oc_0, trivial⟩ ?_
          refine sW_eq (st' := ([.int (nI 0)], [some (.ref 0), some (.int (nI x)), some (.int (nI i')), some (.int (nI y)), some (.int (nI j')), some (.int (nI n'))], mx_wr M 0 13 (nI 0))) (by simp (disch := omega) only [z]) ?_
          refine sW_if_eq 50 d_TS_copy_39 (by decide) (fun c_39 => ?_) (fun c_39 => ?_)
          · skip
            simp (disch := omega) only [nI_z] at c_39
            refine sW_go b_TS_copy_50 (st' := ([.int (nI n'), .int (nI j'), .int (nI y), .int (nI i'), .int (nI x), .ref 1], [some (.ref 0), some (.int (nI x)), some (.int (nI i')), some (.int (nI y)), some (.int (nI j')), some (.int (nI n'))], mx_wr M 0 13 (nI 0))) (φ := mx_ocl LAY 0 = 9 ∧ True) rfl ⟨oc_0, trivial⟩ ?_
            refine sW_callV 5 [.int (nI x), .int (nI i'), .int (nI y), .int (nI j'), .int (nI n')] [] d_TS_copy_61 c_TS_copy_61 ⟨rfl, rfl, rfl, Nat.le_of_ble_eq_true rfl, rfl, rfl⟩ oc_1 (k_move G h'.1 hx hy b1 b2) ?_
            rintro _ M2 ⟨rfl, g2⟩
            show sW G m_TS_copy 64 ([], [some (.ref 0), some (.int (nI x)), some (.int (nI i')), some (.int (nI y)), some (.int (nI j')), some (.int (nI n'))], M2) _
            refine sW_go b_TS_copy_64 (st' := ([.int (nI n')], [some (.ref 0), some (.int (nI x)), some (.int (nI i')), some (.int (nI y)), some (.int (nI j')), some (.int (nI n'))], M2)) (φ := True) rfl trivial ?_
            refine sW_retI d_TS_copy_66 rfl (vp_nar_int _) ?_
            rw [g2]
            have f2 : Fr (mx_wr M 0 13 (nI 0)) (mx_cp (mx_wr M 0 13 (nI 0)) 4 4 (x * 40 + i') (y * 40 + j') n') 2 5 := Fr.rf.cp (by decide) (by decide)
            exact ⟨rfl, (Fr.rf.wr (by decide) (by decide)).tr (f2.mono (by decide) (by decide)), h'.rows f2 (h'.1.move (mx_cp_n _ _ _ _ _ (by decide)) (mx_cp_n _ _ _ _ _ (by decide)) hx hy b1 b2 q1 (fun k => by rw [mx_cp_s]))⟩
          · skip
            simp (disch := omega) only [nI_z] at c_39
            refine sW_go b_TS_copy_42 (st' := ([.int ((-1000010) - (mx_wr M 0 13 (nI 0)) 0 13)], [some (.ref 0), some (.int (nI x)), some (.int (nI i')), some (.int (nI y)), some (.int (nI j')), some (.int (nI n'))], mx_wr M 0 13 (nI 0))) (φ := mx_ocl LAY 0 = 9 ∧ True) rfl ⟨oc_0, trivial⟩ ?_
            refine sW_eq (st' := ([.int ((-1000010) - nI 0)], [some (.ref 0), some (.int (nI x)), some (.int (nI i')), some (.int (nI y)), some (.int (nI j')), some (.int (nI n'))], mx_wr M 0 13 (nI 0))) (by simp (disch := omega) only [z]) ?_
            refine sW_retI d_TS_copy_49 rfl (vp_nar_int _) ?_
            exact absurd trivial c_39
        · skip
          replace c_11 := tf_z.mp c_11
          refine sW_go b_TS_copy_14 (st' := ([.int (-1000001)], [some (.ref 0), some (.int (nI x)), some (.int (nI i')), some (.int (nI y)), some (.int (nI j')), some (.int (nI n'))], M)) (φ := True) rfl trivial ?_
          refine sW_retI d_TS_copy_16 rfl (vp_nar_int _) ?_
          exact absurd rb c_11
    · have e : sp_copy σ (nI x) i (nI y) j n = ((-1000010) - nI (fndM (gR σ) x i y j n), ws σ (fndM (gR σ) x i y j n)) := by
        unfold sp_copy; rw [cif_t hr, cx, cy, cif_f hf]
      have kf := k_findingOfMove G h.1 hx hy i j n
      rw [e]
      generalize hff : fndM (gR σ) x i y j n = f at hf hle kf ⊢
      have z : (mx_wr M 0 13 (nI f)) 0 13 = nI f := wr13
      refine sOk_of ⟨by decide +kernel, by decide +kernel, Nat.le_of_ble_eq_true rfl⟩ ?_
      show sW G m_TS_copy 0 ([], [some (.ref 0), some (.int (nI x)), some (.int i), some (.int (nI y)), some (.int j), some (.int n)], M) _
      refine sW_go b_TS_copy_0 (st' := ([.int (nI x)], [some (.ref 0), some (.int (nI x)), some (.int i), some (.int (nI y)), some (.int j), some (.int n)], M)) (φ := True) rfl trivial ?_
      refine sW_callS [.int (nI x)] [] d_TS_copy_1 c_TS_copy_1 ⟨rfl, rfl, Nat.le_of_ble_eq_true rfl, rfl, rfl⟩ (k_isNumber G (nI x)) ?_
      rintro _ M₁ ⟨rfl, h₁⟩
      rw [h₁]
      show sW G m_TS_copy 4 ([.int (tf (vp_in (nI x) 8))], [some (.ref 0), some (.int (nI x)), some (.int i), some (.int (nI y)), some (.int j), some (.int n)], M) _
      refine sW_if_eq 14 d_TS_copy_4 (by decide) (fun c_4 => ?_) (fun c_4 => ?_)
      · skip
        replace c_4 := tf_z.mp c_4
        refine sW_go b_TS_copy_14 (st' := ([.int (-1000001)], [some (.ref 0), some (.int (nI x)), some (.int i), some (.int (nI y)), some (.int j), some (.int n)], M)) (φ := True) rfl trivial ?_
        refine sW_retI d_TS_copy_16 rfl (vp_nar_int _) ?_
        exact absurd ra c_4
      · skip
        replace c_4 := tf_nz.mp c_4
        refine sW_go b_TS_copy_7 (st' := ([.int (nI y)], [some (.ref 0), some (.int (nI x)), some (.int i), some (.int (nI y)), some (.int j), some (.int n)], M)) (φ := True) rfl trivial ?_
        refine sW_callS [.int (nI y)] [] d_TS_copy_8 c_TS_copy_8 ⟨rfl, rfl, Nat.le_of_ble_eq_true rfl, rfl, rfl⟩ (k_isNumber G (nI y)) ?_
        rintro _ M₁ ⟨rfl, h₁⟩
        rw [h₁]
        show sW G m_TS_copy 11 ([.int (tf (vp_in (nI y) 8))], [some (.ref 0), some (.int (nI x)), some (.int i), some (.int (nI y)), some (.int j), some (.int n)], M) _
        refine sW_if_ne 17 d_TS_copy_11 (by decide) (fun c_11 => ?_) (fun c_11 => ?_)
        · skip
          replace c_11 := tf_nz.mp c_11
          refine sW_go b_TS_copy_17 (st' := ([.int n, .int j, .int (nI y), .int i, .int (nI x), .ref 1, .ref 0], [some (.ref 0), some (.int (nI x)), some (.int i), some (.int (nI y)), some (.int j), some (.int n)], M)) (φ := mx_ocl LAY 0 = 9 ∧ True) rfl ⟨oc_0, trivial⟩ ?_
          refine sW_callV 5 [.int (nI x), .int i, .int (nI y), .int j, .int n] [.ref 0] d_TS_copy_29 c_TS_copy_29 ⟨rfl, rfl, rfl, Nat.le_of_ble_eq_true rfl, rfl, rfl⟩ oc_1 (kf) ?_
          rintro _ M₁ ⟨rfl, h₁⟩
          rw [h₁]
          show sW G m_TS_copy 32 ([.int (nI f), .ref 0], [some (.ref 0), some (.int (nI x)), some (.int i), some (.int (nI y)), some (.int j), some (.int n)], M) _
          refine sW_go b_TS_copy_32 (st' := ([.int ((mx_wr M 0 13 (nI f)) 0 13)], [some (.ref 0), some (.int (nI x)), some (.int i), some (.int (nI y)), some (.int j), some (.int n)], mx_wr M 0 13 (nI f))) (φ := mx_ocl LAY 0 = 9 ∧ mx_ocl LAY 0 = 9 ∧ True) rfl ⟨oc_0, oc_0, trivial⟩ ?_
          refine sW_eq (st' := ([.int (nI f)], [some (.ref 0), some (.int (nI x)), some (.int i), some (.int (nI y)), some (.int j), some (.int n)], mx_wr M 0 13 (nI f))) (by simp (disch := omega) only [z]) ?_
          refine sW_if_eq 50 d_TS_copy_39 (by decide) (fun c_39 => ?_) (fun c_39 => ?_)
          · skip
            simp (disch := omega) only [nI_z] at c_39
            exact absurd c_39 hf
          · skip
            simp (disch := omega) only [nI_z] at c_39
            refine sW_go b_TS_copy_42 (st' := ([.int ((-1000010) - (mx_wr M 0 13 (nI f)) 0 13)], [some (.ref 0), some (.int (nI x)), some (.int i), some (.int (nI y)), some (.int j), some (.int n)], mx_wr M 0 13 (nI f))) (φ := mx_ocl LAY 0 = 9 ∧ True) rfl ⟨oc_0, trivial⟩ ?_
            refine sW_eq (st' := ([.int ((-1000010) - nI f)], [some (.ref 0), some (.int (nI x)), some (.int i), some (.int (nI y)), some (.int j), some (.int n)], mx_wr M 0 13 (nI f))) (by simp (disch := omega) only [z]) ?_
            refine sW_retI d_TS_copy_49 rfl (vp_nar_int _) ?_
            exact ⟨rfl, Fr.rf.wr (by decide) (by decide), h.st f⟩
        · skip
          replace c_11 := tf_z.mp c_11
          refine sW_go b_TS_copy_14 (st' := ([.int (-1000001)], [some (.ref 0), some (.int (nI x)), some (.int i), some (.int (nI y)), some (.int j), some (.int n)], M)) (φ := True) rfl trivial ?_
          refine sW_retI d_TS_copy_16 rfl (vp_nar_int _) ?_
          exact absurd rb c_11
  · have e : sp_copy σ a i b j n = ((-1000001), σ) := by unfold sp_copy; rw [cif_f hr]
    rw [e]
    refine sOk_of ⟨by decide +kernel, by decide +kernel, Nat.le_of_ble_eq_true rfl⟩ ?_
    show sW G m_TS_copy 0 ([], [some (.ref 0), some (.int a), some (.int i), some (.int b), some (.int j), some (.int n)], M) _
    refine sW_go b_TS_copy_0 (st' := ([.int a], [some (.ref 0), some (.int a), some (.int i), some (.int b), some (.int j), some (.int n)], M)) (φ := True) rfl trivial ?_
    refine sW_callS [.int a] [] d_TS_copy_1 c_TS_copy_1 ⟨rfl, rfl, Nat.le_of_ble_eq_true rfl, rfl, rfl⟩ (k_isNumber G a) ?_
    rintro _ M₁ ⟨rfl, h₁⟩
    rw [h₁]
    show sW G m_TS_copy 4 ([.int (tf (vp_in a 8))], [some (.ref 0), some (.int a), some (.int i), some (.int b), some (.int j), some (.int n)], M) _
    refine sW_if_eq 14 d_TS_copy_4 (by decide) (fun c_4 => ?_) (fun c_4 => ?_)
    · skip
      replace c_4 := tf_z.mp c_4
      refine sW_go b_TS_copy_14 (st' := ([.int (-1000001)], [some (.ref 0), some (.int a), some (.int i), some (.int b), some (.int j), some (.int n)], M)) (φ := True) rfl trivial ?_
      refine sW_retI d_TS_copy_16 rfl (vp_nar_int _) ?_
      exact ⟨rfl, Fr.rf, h⟩
    · skip
      replace c_4 := tf_nz.mp c_4
      refine sW_go b_TS_copy_7 (st' := ([.int b], [some (.ref 0), some (.int a), some (.int i), some (.int b), some (.int j), some (.int n)], M)) (φ := True) rfl trivial ?_
      refine sW_callS [.int b] [] d_TS_copy_8 c_TS_copy_8 ⟨rfl, rfl, Nat.le_of_ble_eq_true rfl, rfl, rfl⟩ (k_isNumber G b) ?_
      rintro _ M₁ ⟨rfl, h₁⟩
      rw [h₁]
      show sW G m_TS_copy 11 ([.int (tf (vp_in b 8))], [some (.ref 0), some (.int a), some (.int i), some (.int b), some (.int j), some (.int n)], M) _
      refine sW_if_ne 17 d_TS_copy_11 (by decide) (fun c_11 => ?_) (fun c_11 => ?_)
      · skip
        replace c_11 := tf_nz.mp c_11
        exact absurd ⟨c_4, c_11⟩ hr
      · skip
        replace c_11 := tf_z.mp c_11
        refine sW_go b_TS_copy_14 (st' := ([.int (-1000001)], [some (.ref 0), some (.int a), some (.int i), some (.int b), some (.int j), some (.int n)], M)) (φ := True) rfl trivial ?_
        refine sW_retI d_TS_copy_16 rfl (vp_nar_int _) ?_
        exact ⟨rfl, Fr.rf, h⟩
noncomputable def sp_feed (σ : Sg) (b : Int32) : Int32 × Sg := cif (vp_in b 256) (if gn σ < 80 then (nI (gn σ + 1), wTp σ (updN (gB σ) (gn σ) (tn b), gn σ + 1, gf σ)) else ((-1000003), σ)) ((-1000001), σ)
theorem ts_feed (G : mx_G) {M : mx_M} {σ : Sg} (h : CInv M σ) (b : Int32) : sOk G m_TS_feed [.ref 0, .int b] M (COk M (sp_feed σ b)) := by
  by_cases hb : vp_in b 256
  · obtain ⟨x, hx, rfl⟩ := vp_in_of hb (by decide)
    have hT := h.2.1.1
    have hT2 := hT.2.1
    have hx0 : ¬ nI x < 0 := fun q => hb (Or.inl q)
    refine sOk_of ⟨by decide +kernel, by decide +kernel, Nat.le_of_ble_eq_true rfl⟩ ?_
    show sW G m_TS_feed 0 ([], [some (.ref 0), some (.int (nI x))], M) _
    refine sW_go b_TS_feed_0 (st' := ([.int (nI x)], [some (.ref 0), some (.int (nI x))], M)) (φ := True) rfl trivial ?_
    refine sW_if_lt 11 d_TS_feed_1 (by decide) (fun c_1 => ?_) (fun c_1 => ?_)
    · skip
      refine sW_go b_TS_feed_11 (st' := ([.int (-1000001)], [some (.ref 0), some (.int (nI x))], M)) (φ := True) rfl trivial ?_
      refine sW_retI d_TS_feed_13 rfl (vp_nar_int _) ?_
      exact absurd c_1 hx0
    · skip
      refine sW_go b_TS_feed_4 (st' := ([.int (nI 255), .int (nI x)], [some (.ref 0), some (.int (nI x))], M)) (φ := True) rfl trivial ?_
      refine sW_ic_le 14 d_TS_feed_8 (by decide) (fun c_8 => ?_) (fun c_8 => ?_)
      · skip
        simp (disch := omega) only [nI_leI] at c_8
        refine sW_go b_TS_feed_14 (st' := ([.int (nI x), .ref 5], [some (.ref 0), some (.int (nI x))], M)) (φ := mx_ocl LAY 0 = 9 ∧ True) rfl ⟨oc_0, trivial⟩ ?_
        refine sW_callV 8 [.int (nI x)] [] d_TS_feed_19 c_TS_feed_19 ⟨rfl, rfl, rfl, Nat.le_of_ble_eq_true rfl, rfl, rfl⟩ oc_5 (k_tadd G hT hx) ?_
        rintro _ M2 ⟨rfl, g2⟩
        show sW G m_TS_feed 22 ([.int (tf (gn σ < 80))], [some (.ref 0), some (.int (nI x))], M2) _
        refine sW_if_eq 35 d_TS_feed_22 (by decide) (fun c_22 => ?_) (fun c_22 => ?_)
        · skip
          replace c_22 := tf_z.mp c_22
          have e : sp_feed σ (nI x) = ((-1000003), σ) := by unfold sp_feed; rw [cif_t hb, if_neg c_22]
          rw [e]
          rw [if_neg c_22] at g2
          rw [g2]
          refine sW_go b_TS_feed_35 (st' := ([.int (-1000003)], [some (.ref 0), some (.int (nI x))], M)) (φ := True) rfl trivial ?_
          refine sW_retI d_TS_feed_37 rfl (vp_nar_int _) ?_
          exact ⟨rfl, Fr.rf, h⟩
        · skip
          replace c_22 := tf_nz.mp c_22
          have e : sp_feed σ (nI x) = (nI (gn σ + 1), wTp σ (updN (gB σ) (gn σ) x, gn σ + 1, gf σ)) := by unfold sp_feed; rw [cif_t hb, if_pos c_22, show tn (nI x) = x from nI_clamp (by omega)]
          rw [e]
          rw [if_pos c_22] at g2
          have hP := hT.push c_22 hx
          rw [← g2] at hP
          have f2 : Fr M M2 5 7 := by rw [g2]; exact (Fr.rf.wr (by decide) (by decide)).wr (by decide) (by decide)
          have e6 : M2 5 6 = nI (gf σ) := by rw [g2, mx_wr_s, pk_un (by decide), mx_wr_n _ _ _ (by decide)]; exact h.2.1.2
          have z := hP.1
          refine sW_go b_TS_feed_25 (st' := ([.int (M2 5 1)], [some (.ref 0), some (.int (nI x))], M2)) (φ := mx_ocl LAY 0 = 9 ∧ mx_ocl LAY 5 = 8 ∧ True) rfl ⟨oc_0, oc_5, trivial⟩ ?_
          refine sW_eq (st' := ([.int (nI (gn σ + 1))], [some (.ref 0), some (.int (nI x))], M2)) (by simp (disch := omega) only [z]) ?_
          refine sW_goto 37 d_TS_feed_32 (by decide) ?_
          refine sW_retI d_TS_feed_37 rfl (vp_nar_int _) ?_
          exact ⟨rfl, f2.mono (by decide) (by decide), h.tape f2 hP e6⟩
      · skip
        simp (disch := omega) only [nI_leI] at c_8
        refine sW_go b_TS_feed_11 (st' := ([.int (-1000001)], [some (.ref 0), some (.int (nI x))], M)) (φ := True) rfl trivial ?_
        refine sW_retI d_TS_feed_13 rfl (vp_nar_int _) ?_
        omega
  · have e : sp_feed σ b = ((-1000001), σ) := by unfold sp_feed; rw [cif_f hb]
    rw [e]
    refine sOk_of ⟨by decide +kernel, by decide +kernel, Nat.le_of_ble_eq_true rfl⟩ ?_
    show sW G m_TS_feed 0 ([], [some (.ref 0), some (.int b)], M) _
    refine sW_go b_TS_feed_0 (st' := ([.int b], [some (.ref 0), some (.int b)], M)) (φ := True) rfl trivial ?_
    refine sW_if_lt 11 d_TS_feed_1 (by decide) (fun c_1 => ?_) (fun c_1 => ?_)
    · skip
      refine sW_go b_TS_feed_11 (st' := ([.int (-1000001)], [some (.ref 0), some (.int b)], M)) (φ := True) rfl trivial ?_
      refine sW_retI d_TS_feed_13 rfl (vp_nar_int _) ?_
      exact ⟨rfl, Fr.rf, h⟩
    · skip
      refine sW_go b_TS_feed_4 (st' := ([.int (nI 255), .int b], [some (.ref 0), some (.int b)], M)) (φ := True) rfl trivial ?_
      refine sW_ic_le 14 d_TS_feed_8 (by decide) (fun c_8 => ?_) (fun c_8 => ?_)
      · skip
        exact absurd (vp_in_iff.mpr (by
          rw [Int32.lt_iff_toInt_lt] at c_1
          rw [Int32.le_iff_toInt_le, nI_toInt (by decide)] at c_8
          have : (0 : Int32).toInt = 0 := by decide
          omega)) hb
      · skip
        refine sW_go b_TS_feed_11 (st' := ([.int (-1000001)], [some (.ref 0), some (.int b)], M)) (φ := True) rfl trivial ?_
        refine sW_retI d_TS_feed_13 rfl (vp_nar_int _) ?_
        exact ⟨rfl, Fr.rf, h⟩
def sp_fault (σ : Sg) : Int32 × Sg := (nI (gf σ), σ)
theorem ts_fault (G : mx_G) {M : mx_M} {σ : Sg} (h : CInv M σ) : sOk G m_TS_fault [.ref 0] M (COk M (sp_fault σ)) := by
  have z := h.2.1.2
  refine sOk_of ⟨by decide +kernel, by decide +kernel, Nat.le_of_ble_eq_true rfl⟩ ?_
  show sW G m_TS_fault 0 ([], [some (.ref 0)], M) _
  refine sW_go b_TS_fault_0 (st' := ([.int (M 5 6)], [some (.ref 0)], M)) (φ := mx_ocl LAY 0 = 9 ∧ mx_ocl LAY 5 = 8 ∧ True) rfl ⟨oc_0, oc_5, trivial⟩ ?_
  refine sW_eq (st' := ([.int (nI (gf σ))], [some (.ref 0)], M)) (by simp (disch := omega) only [z]) ?_
  refine sW_retI d_TS_fault_7 rfl (vp_nar_int _) ?_
  exact ⟨rfl, Fr.rf, h⟩

