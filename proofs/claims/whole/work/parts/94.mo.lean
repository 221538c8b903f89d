def RtR (M M' : mx_M) (B : Nat → Nat) (n : Nat) (hs : Hs) (s : Nat) (x : Except (Nat × Nat) (Nat × Nat × Nat)) : Prop := MFr M M' [124] rS ∧ (∀ e, x = .error e → RdF M' e) ∧ ∀ a b q, x = .ok (a, b, q) → RdS M' B n q ∧ RowAt M' 124 0 (hsAdd hs s a b)
theorem RtR.er {M M' : mx_M} {B : Nat → Nat} {n : Nat} {hs : Hs} {s : Nat} {e : Nat × Nat} (f : MFr M M' [124] rS) (h : RdF M' e) : RtR M M' B n hs s (.error e) := ⟨f, fun e' q => (by cases q; exact h), fun a b q w => (by cases w)⟩
theorem k_rt90 (G : mx_G) {M M2 : mx_M} {B : Nat → Nat} {n p s a b : Nat} {hs : Hs} {l3 : Int32} (f2 : MFr M M2 [124] rS) (h : RdS M2 B n p) (hR : RowAt M2 124 0 hs) (hk : hs.1 < 8) (hs6 : s < 6) (ha : a < 1000) (hb : b < 1000) :
  sW G m_Mo_readType 90 ([], [some (.ref 119), some (.int (nI s)), some (.int (nI hs.1)), some (.int l3), some (.int (nI a)), some (.int (nI b)), none], M2) (fun r M' => r = none ∧ RtR M M' B n hs s (.ok (a, b, p))) := by
  have e1 := h.2.2.1
  have er := hR.n
  have z : mx_wr (mx_wr (mx_wr M2 124 (2 + 3 * hs.1) (nI s)) 124 (2 + 3 * hs.1 + 1) (nI a)) 124 (2 + 3 * hs.1 + 2) (nI b) 124 0 = nI hs.1 := by
    rw [rd_n (by omega), rd_n (by omega), rd_n (by omega)]; exact er
  refine sW_go b_Mo_readType_90 (st' := ([.int (M2 119 16)], [some (.ref 119), some (.int (nI s)), some (.int (nI hs.1)), some (.int l3), some (.int (nI a)), some (.int (nI b)), none], M2)) (φ := mx_ocl LAY 119 = 10 ∧ True) rfl ⟨oc_119, trivial⟩ ?_
  refine sW_eq (st' := ([.int (nI 0)], [some (.ref 119), some (.int (nI s)), some (.int (nI hs.1)), some (.int l3), some (.int (nI a)), some (.int (nI b)), none], M2)) (by simp (disch := omega) only [e1]) ?_
  refine sW_if_ne 144 d_Mo_readType_94 (by decide) (fun c_94 => ?_) (fun c_94 => ?_)
  · skip
    exact absurd (by decide +kernel) c_94
  · skip
    simp (disch := omega) only [nI_z] at c_94
    refine sW_go b_Mo_readType_97 (st' := ([], [some (.ref 119), some (.int (nI s)), some (.int (nI hs.1)), some (.int l3), some (.int (nI a)), some (.int (nI b)), some (.int (nI 2 + (nI 3 * nI hs.1)))], mx_wr (mx_wr (mx_wr (mx_wr M2 124 (nI 2 + (nI 3 * nI hs.1)).toNatClampNeg (nI s)) 124 ((nI 2 + (nI 3 * nI hs.1)) + nI 1).toNatClampNeg (nI a)) 124 ((nI 2 + (nI 3 * nI hs.1)) + nI 2).toNatClampNeg (nI b)) 124 (nI 0).toNatClampNeg ((mx_wr (mx_wr (mx_wr M2 124 (nI 2 + (nI 3 * nI hs.1)).toNatClampNeg (nI s)) 124 ((nI 2 + (nI 3 * nI hs.1)) + nI 1).toNatClampNeg (nI a)) 124 ((nI 2 + (nI 3 * nI hs.1)) + nI 2).toNatClampNeg (nI b)) 124 (nI 0).toNatClampNeg + nI 1))) (φ := mx_ocl LAY 119 = 10 ∧ vp_in (nI 2 + (nI 3 * nI hs.1)) (mx_len LAY false 124) ∧ mx_ocl LAY 119 = 10 ∧ vp_in ((nI 2 + (nI 3 * nI hs.1)) + nI 1) (mx_len LAY false 124) ∧ mx_ocl LAY 119 = 10 ∧ vp_in ((nI 2 + (nI 3 * nI hs.1)) + nI 2) (mx_len LAY false 124) ∧ mx_ocl LAY 119 = 10 ∧ vp_in (nI 0) (mx_len LAY false 124) ∧ vp_in (nI 0) (mx_len LAY false 124) ∧ True) rfl ⟨oc_119, (by simp (disch := omega) only [nI_add, pk_mul, ln_124]; exact vp_in_nI (by omega) (by decide)), oc_119, (by simp (disch := omega) only [nI_add, pk_mul, ln_124]; exact vp_in_nI (by omega) (by decide)), oc_119, (by simp (disch := omega) only [nI_add, pk_mul, ln_124]; exact vp_in_nI (by omega) (by decide)), oc_119, (by simp (disch := omega) only [ln_124]; exact vp_in_nI (by omega) (by decide)), (by simp (disch := omega) only [ln_124]; exact vp_in_nI (by omega) (by decide)), trivial⟩ ?_
    refine sW_eq (st' := ([], [some (.ref 119), some (.int (nI s)), some (.int (nI hs.1)), some (.int l3), some (.int (nI a)), some (.int (nI b)), some (.int (nI (2 + 3 * hs.1)))], mx_wr (mx_wr (mx_wr (mx_wr M2 124 (2 + 3 * hs.1) (nI s)) 124 (2 + 3 * hs.1 + 1) (nI a)) 124 (2 + 3 * hs.1 + 2) (nI b)) 124 0 (nI (hs.1 + 1)))) (by simp (disch := omega) only [nI_add, nI_clamp, pk_mul, z]) ?_
    refine sW_retV d_Mo_readType_144 rfl ?_
    have f3 : MFr M2 (mx_wr (mx_wr (mx_wr (mx_wr M2 124 (2 + 3 * hs.1) (nI s)) 124 (2 + 3 * hs.1 + 1) (nI a)) 124 (2 + 3 * hs.1 + 2) (nI b)) 124 0 (nI (hs.1 + 1))) [124] [0] := (((MFr.rf.wr (by decide) (by decide)).wr (by decide) (by decide)).wr (by decide) (by decide)).wr (by decide) (by decide)
    have f4 : MFr M2 (mx_wr (mx_wr (mx_wr (mx_wr M2 124 (2 + 3 * hs.1) (nI s)) 124 (2 + 3 * hs.1 + 1) (nI a)) 124 (2 + 3 * hs.1 + 2) (nI b)) 124 0 (nI (hs.1 + 1))) [124] rS := (((MFr.rf.wr (by decide) (by decide)).wr (by decide) (by decide)).wr (by decide) (by decide)).wr (by decide) (by decide)
    refine ⟨rfl, f2.tr f4, fun e q => (by cases q), fun a' b' q w => ?_⟩
    cases w
    exact ⟨h.of f3, hR.add hk⟩
theorem k_rt52 (G : mx_G) {M M2 : mx_M} {B : Nat → Nat} {n p s : Nat} {hs : Hs} (f2 : MFr M M2 [124] rS) (h : RdS M2 B n p) (hR : RowAt M2 124 0 hs) (hk : hs.1 < 8) (hs6 : s < 6) :
  sW G m_Mo_readType 52 ([.int (mostI s hs.1)], [some (.ref 119), some (.int (nI s)), some (.int (nI hs.1)), none, none, none, none], M2) (fun r M' => r = none ∧ RtR M M' B n hs s (pEq B n p hs.1 s)) := by
  have hz := mostI_z s hs.1 hs6 (by omega)
  have hp := h.2.2.2
  have n1 := nmA_lt (B := B) hp
  have n3 := nmA_lt (B := B) (p := nx2 B n p) (nxA_le (nxA_le hp))
  have mn : ∀ {M M' : mx_M}, MFr M M' [] rS → MFr M M' [124] rS := fun q => q.mono (by decide) (by decide)
  have rw124 : ∀ {Ma Mb : mx_M}, MFr Ma Mb [] rS → RowAt Ma 124 0 hs → RowAt Mb 124 0 hs := fun q r => r.eq (q.1 _ (by decide) (by decide))
  generalize hmo : mostI s hs.1 = mo at hz ⊢
  by_cases h1 : numF B n p 0 (mostZ s hs.1) = 0
  · by_cases h2 : tkA B n (nxA B n p) = 44
    · have lo0 : (if s = 0 then nmA B n p else 0) < 1000 := by split <;> omega
      by_cases h3 : numF B n (nx2 B n p) (if s = 0 then nmA B n p else 0) (mostZ s hs.1) = 0
      · by_cases h4 : tkA B n (nx3 B n p) = 59
        · have e : pEq B n p hs.1 s = .ok (nmA B n p, nmA B n (nx2 B n p), nxA B n (nx3 B n p)) := by
            unfold pEq; rw [if_neg (fun q => q h1), if_neg (fun q => q h2), if_neg (fun q => q h3), if_neg (fun q => q h4)]
          rw [e]
          refine sW_go b_Mo_readType_52 (st' := ([.int mo, .int (nI 0), .ref 119], [some (.ref 119), some (.int (nI s)), some (.int (nI hs.1)), some (.int mo), none, none, none], M2)) (φ := True) rfl trivial ?_
          refine sW_callV 10 [.int (nI 0), .int mo] [] d_Mo_readType_56 c_Mo_readType_56 ⟨rfl, rfl, rfl, Nat.le_of_ble_eq_true rfl, rfl, rfl⟩ oc_119 (k_num0 G h (by decide) hz h1) ?_
          rintro _ M3 ⟨rfl, f3, t3⟩
          show sW G m_Mo_readType 59 ([.int (nI (nmA B n p))], [some (.ref 119), some (.int (nI s)), some (.int (nI hs.1)), some (.int mo), none, none, none], M3) _
          refine sW_go b_Mo_readType_59 (st' := ([.int (nI 44), .ref 119], [some (.ref 119), some (.int (nI s)), some (.int (nI hs.1)), some (.int mo), some (.int (nI (nmA B n p))), none, none], M3)) (φ := True) rfl trivial ?_
          refine sW_callV 10 [.int (nI 44)] [] d_Mo_readType_64 c_Mo_readType_64 ⟨rfl, rfl, rfl, Nat.le_of_ble_eq_true rfl, rfl, rfl⟩ oc_119 (k_mustSignT G t3 (by decide) h2) ?_
          rintro _ M4 ⟨rfl, f4, t4⟩
          show sW G m_Mo_readType 67 ([], [some (.ref 119), some (.int (nI s)), some (.int (nI hs.1)), some (.int mo), some (.int (nI (nmA B n p))), none, none], M4) _
          refine sW_go b_Mo_readType_67 (st' := ([.int (nI s), .ref 119], [some (.ref 119), some (.int (nI s)), some (.int (nI hs.1)), some (.int mo), some (.int (nI (nmA B n p))), none, none], M4)) (φ := True) rfl trivial ?_
          refine sW_if_ne 77 d_Mo_readType_69 (by decide) (fun c_69 => ?_) (fun c_69 => ?_)
          · skip
            simp (disch := omega) only [nI_z] at c_69
            refine sW_go b_Mo_readType_77 (st' := ([.int (nI 0), .ref 119], [some (.ref 119), some (.int (nI s)), some (.int (nI hs.1)), some (.int mo), some (.int (nI (nmA B n p))), none, none], M4)) (φ := True) rfl trivial ?_
            rw [show nI 0 = nI (if s = 0 then nmA B n p else 0) by rw [if_neg c_69]]
            refine sW_go b_Mo_readType_78 (st' := ([.int mo, .int (nI (if s = 0 then nmA B n p else 0)), .ref 119], [some (.ref 119), some (.int (nI s)), some (.int (nI hs.1)), some (.int mo), some (.int (nI (nmA B n p))), none, none], M4)) (φ := True) rfl trivial ?_
            refine sW_callV 10 [.int (nI (if s = 0 then nmA B n p else 0)), .int mo] [] d_Mo_readType_79 c_Mo_readType_79 ⟨rfl, rfl, rfl, Nat.le_of_ble_eq_true rfl, rfl, rfl⟩ oc_119 (k_num0 (lo := if s = 0 then nmA B n p else 0) G t4 lo0 hz h3) ?_
            rintro _ M5 ⟨rfl, f5, t5⟩
            show sW G m_Mo_readType 82 ([.int (nI (nmA B n (nx2 B n p)))], [some (.ref 119), some (.int (nI s)), some (.int (nI hs.1)), some (.int mo), some (.int (nI (nmA B n p))), none, none], M5) _
            refine sW_go b_Mo_readType_82 (st' := ([.int (nI 59), .ref 119], [some (.ref 119), some (.int (nI s)), some (.int (nI hs.1)), some (.int mo), some (.int (nI (nmA B n p))), some (.int (nI (nmA B n (nx2 B n p)))), none], M5)) (φ := True) rfl trivial ?_
            refine sW_callV 10 [.int (nI 59)] [] d_Mo_readType_87 c_Mo_readType_87 ⟨rfl, rfl, rfl, Nat.le_of_ble_eq_true rfl, rfl, rfl⟩ oc_119 (k_mustSignT G t5 (by decide) h4) ?_
            rintro _ M6 ⟨rfl, f6, t6⟩
            show sW G m_Mo_readType 90 ([], [some (.ref 119), some (.int (nI s)), some (.int (nI hs.1)), some (.int mo), some (.int (nI (nmA B n p))), some (.int (nI (nmA B n (nx2 B n p)))), none], M6) _
            exact k_rt90 G ((((f2.tr (mn f3)).tr (mn f4)).tr (mn f5)).tr (mn f6)) t6 (rw124 f6 (rw124 f5 (rw124 f4 (rw124 f3 hR)))) hk hs6 n1 n3
          · skip
            simp (disch := omega) only [nI_z] at c_69
            refine sW_go b_Mo_readType_72 (st' := ([.int (nI (nmA B n p)), .ref 119], [some (.ref 119), some (.int (nI s)), some (.int (nI hs.1)), some (.int mo), some (.int (nI (nmA B n p))), none, none], M4)) (φ := True) rfl trivial ?_
            refine sW_goto 78 d_Mo_readType_74 (by decide) ?_
            rw [show nI (nmA B n p) = nI (if s = 0 then nmA B n p else 0) by rw [if_pos c_69]]
            rw [show nI (if s = 0 then nmA B n p else 0) = nI (nmA B n p) by rw [if_pos c_69]]
            have h3 := h3
            rw [if_pos c_69] at h3
            refine sW_go b_Mo_readType_78 (st' := ([.int mo, .int (nI (nmA B n p)), .ref 119], [some (.ref 119), some (.int (nI s)), some (.int (nI hs.1)), some (.int mo), some (.int (nI (nmA B n p))), none, none], M4)) (φ := True) rfl trivial ?_
            refine sW_callV 10 [.int (nI (nmA B n p)), .int mo] [] d_Mo_readType_79 c_Mo_readType_79 ⟨rfl, rfl, rfl, Nat.le_of_ble_eq_true rfl, rfl, rfl⟩ oc_119 (k_num0 G t4 n1 hz h3) ?_
            rintro _ M5 ⟨rfl, f5, t5⟩
            show sW G m_Mo_readType 82 ([.int (nI (nmA B n (nx2 B n p)))], [some (.ref 119), some (.int (nI s)), some (.int (nI hs.1)), some (.int mo), some (.int (nI (nmA B n p))), none, none], M5) _
            refine sW_go b_Mo_readType_82 (st' := ([.int (nI 59), .ref 119], [some (.ref 119), some (.int (nI s)), some (.int (nI hs.1)), some (.int mo), some (.int (nI (nmA B n p))), some (.int (nI (nmA B n (nx2 B n p)))), none], M5)) (φ := True) rfl trivial ?_
            refine sW_callV 10 [.int (nI 59)] [] d_Mo_readType_87 c_Mo_readType_87 ⟨rfl, rfl, rfl, Nat.le_of_ble_eq_true rfl, rfl, rfl⟩ oc_119 (k_mustSignT G t5 (by decide) h4) ?_
            rintro _ M6 ⟨rfl, f6, t6⟩
            show sW G m_Mo_readType 90 ([], [some (.ref 119), some (.int (nI s)), some (.int (nI hs.1)), some (.int mo), some (.int (nI (nmA B n p))), some (.int (nI (nmA B n (nx2 B n p)))), none], M6) _
            exact k_rt90 G ((((f2.tr (mn f3)).tr (mn f4)).tr (mn f5)).tr (mn f6)) t6 (rw124 f6 (rw124 f5 (rw124 f4 (rw124 f3 hR)))) hk hs6 n1 n3
        · have e : pEq B n p hs.1 s = .error (1, nx3 B n p) := by
            unfold pEq; rw [if_neg (fun q => q h1), if_neg (fun q => q h2), if_neg (fun q => q h3), if_pos h4]
          rw [e]
          refine sW_go b_Mo_readType_52 (st' := ([.int mo, .int (nI 0), .ref 119], [some (.ref 119), some (.int (nI s)), some (.int (nI hs.1)), some (.int mo), none, none, none], M2)) (φ := True) rfl trivial ?_
          refine sW_callV 10 [.int (nI 0), .int mo] [] d_Mo_readType_56 c_Mo_readType_56 ⟨rfl, rfl, rfl, Nat.le_of_ble_eq_true rfl, rfl, rfl⟩ oc_119 (k_num0 G h (by decide) hz h1) ?_
          rintro _ M3 ⟨rfl, f3, t3⟩
          show sW G m_Mo_readType 59 ([.int (nI (nmA B n p))], [some (.ref 119), some (.int (nI s)), some (.int (nI hs.1)), some (.int mo), none, none, none], M3) _
          refine sW_go b_Mo_readType_59 (st' := ([.int (nI 44), .ref 119], [some (.ref 119), some (.int (nI s)), some (.int (nI hs.1)), some (.int mo), some (.int (nI (nmA B n p))), none, none], M3)) (φ := True) rfl trivial ?_
          refine sW_callV 10 [.int (nI 44)] [] d_Mo_readType_64 c_Mo_readType_64 ⟨rfl, rfl, rfl, Nat.le_of_ble_eq_true rfl, rfl, rfl⟩ oc_119 (k_mustSignT G t3 (by decide) h2) ?_
          rintro _ M4 ⟨rfl, f4, t4⟩
          show sW G m_Mo_readType 67 ([], [some (.ref 119), some (.int (nI s)), some (.int (nI hs.1)), some (.int mo), some (.int (nI (nmA B n p))), none, none], M4) _
          refine sW_go b_Mo_readType_67 (st' := ([.int (nI s), .ref 119], [some (.ref 119), some (.int (nI s)), some (.int (nI hs.1)), some (.int mo), some (.int (nI (nmA B n p))), none, none], M4)) (φ := True) rfl trivial ?_
          refine sW_if_ne 77 d_Mo_readType_69 (by decide) (fun c_69 => ?_) (fun c_69 => ?_)
          · skip
            simp (disch := omega) only [nI_z] at c_69
            refine sW_go b_Mo_readType_77 (st' := ([.int (nI 0), .ref 119], [some (.ref 119), some (.int (nI s)), some (.int (nI hs.1)), some (.int mo), some (.int (nI (nmA B n p))), none, none], M4)) (φ := True) rfl trivial ?_
            have h3 := h3
            rw [if_neg c_69] at h3
            refine sW_go b_Mo_readType_78 (st' := ([.int mo, .int (nI 0), .ref 119], [some (.ref 119), some (.int (nI s)), some (.int (nI hs.1)), some (.int mo), some (.int (nI (nmA B n p))), none, none], M4)) (φ := True) rfl trivial ?_
            refine sW_callV 10 [.int (nI 0), .int mo] [] d_Mo_readType_79 c_Mo_readType_79 ⟨rfl, rfl, rfl, Nat.le_of_ble_eq_true rfl, rfl, rfl⟩ oc_119 (k_num0 G t4 (by decide) hz h3) ?_
            rintro _ M5 ⟨rfl, f5, t5⟩
            show sW G m_Mo_readType 82 ([.int (nI (nmA B n (nx2 B n p)))], [some (.ref 119), some (.int (nI s)), some (.int (nI hs.1)), some (.int mo), some (.int (nI (nmA B n p))), none, none], M5) _
            refine sW_go b_Mo_readType_82 (st' := ([.int (nI 59), .ref 119], [some (.ref 119), some (.int (nI s)), some (.int (nI hs.1)), some (.int mo), some (.int (nI (nmA B n p))), some (.int (nI (nmA B n (nx2 B n p)))), none], M5)) (φ := True) rfl trivial ?_
            refine sW_callV 10 [.int (nI 59)] [] d_Mo_readType_87 c_Mo_readType_87 ⟨rfl, rfl, rfl, Nat.le_of_ble_eq_true rfl, rfl, rfl⟩ oc_119 (k_mustSignN G t5 (by decide) h4) ?_
            rintro _ M6 ⟨rfl, f6, t6⟩
            have ne6 := t6.ne
            show sW G m_Mo_readType 90 ([], [some (.ref 119), some (.int (nI s)), some (.int (nI hs.1)), some (.int mo), some (.int (nI (nmA B n p))), some (.int (nI (nmA B n (nx2 B n p)))), none], M6) _
            refine sW_go b_Mo_readType_90 (st' := ([.int (M6 119 16)], [some (.ref 119), some (.int (nI s)), some (.int (nI hs.1)), some (.int mo), some (.int (nI (nmA B n p))), some (.int (nI (nmA B n (nx2 B n p)))), none], M6)) (φ := mx_ocl LAY 119 = 10 ∧ True) rfl ⟨oc_119, trivial⟩ ?_
            refine sW_if_ne 144 d_Mo_readType_94 (by decide) (fun c_94 => ?_) (fun c_94 => ?_)
            · skip
              refine sW_retV d_Mo_readType_144 rfl ?_
              exact ⟨rfl, RtR.er ((((f2.tr (mn f3)).tr (mn f4)).tr (mn f5)).tr (mn f6)) t6⟩
            · skip
              exact absurd c_94 ne6
          · skip
            simp (disch := omega) only [nI_z] at c_69
            refine sW_go b_Mo_readType_72 (st' := ([.int (nI (nmA B n p)), .ref 119], [some (.ref 119), some (.int (nI s)), some (.int (nI hs.1)), some (.int mo), some (.int (nI (nmA B n p))), none, none], M4)) (φ := True) rfl trivial ?_
            refine sW_goto 78 d_Mo_readType_74 (by decide) ?_
            have h3 := h3
            rw [if_pos c_69] at h3
            refine sW_go b_Mo_readType_78 (st' := ([.int mo, .int (nI (nmA B n p)), .ref 119], [some (.ref 119), some (.int (nI s)), some (.int (nI hs.1)), some (.int mo), some (.int (nI (nmA B n p))), none, none], M4)) (φ := True) rfl trivial ?_
            refine sW_callV 10 [.int (nI (nmA B n p)), .int mo] [] d_Mo_readType_79 c_Mo_readType_79 ⟨rfl, rfl, rfl, Nat.le_of_ble_eq_true rfl, rfl, rfl⟩ oc_119 (k_num0 G t4 n1 hz h3) ?_
            rintro _ M5 ⟨rfl, f5, t5⟩
            show sW G m_Mo_readType 82 ([.int (nI (nmA B n (nx2 B n p)))], [some (.ref 119), some (.int (nI s)), some (.int (nI hs.1)), some (.int mo), some (.int (nI (nmA B n p))), none, none], M5) _
            refine sW_go b_Mo_readType_82 (st' := ([.int (nI 59), .ref 119], [some (.ref 119), some (.int (nI s)), some (.int (nI hs.1)), some (.int mo), some (.int (nI (nmA B n p))), some (.int (nI (nmA B n (nx2 B n p)))), none], M5)) (φ := True) rfl trivial ?_
            refine sW_callV 10 [.int (nI 59)] [] d_Mo_readType_87 c_Mo_readType_87 ⟨rfl, rfl, rfl, Nat.le_of_ble_eq_true rfl, rfl, rfl⟩ oc_119 (k_mustSignN G t5 (by decide) h4) ?_
            rintro _ M6 ⟨rfl, f6, t6⟩
            have ne6 := t6.ne
            show sW G m_Mo_readType 90 ([], [some (.ref 119), some (.int (nI s)), some (.int (nI hs.1)), some (.int mo), some (.int (nI (nmA B n p))), some (.int (nI (nmA B n (nx2 B n p)))), none], M6) _
            refine sW_go b_Mo_readType_90 (st' := ([.int (M6 119 16)], [some (.ref 119), some (.int (nI s)), some (.int (nI hs.1)), some (.int mo), some (.int (nI (nmA B n p))), some (.int (nI (nmA B n (nx2 B n p)))), none], M6)) (φ := mx_ocl LAY 119 = 10 ∧ True) rfl ⟨oc_119, trivial⟩ ?_
            refine sW_if_ne 144 d_Mo_readType_94 (by decide) (fun c_94 => ?_) (fun c_94 => ?_)
            · skip
              refine sW_retV d_Mo_readType_144 rfl ?_
              exact ⟨rfl, RtR.er ((((f2.tr (mn f3)).tr (mn f4)).tr (mn f5)).tr (mn f6)) t6⟩
            · skip
              exact absurd c_94 ne6
      · have e : pEq B n p hs.1 s = .error (numF B n (nx2 B n p) (if s = 0 then nmA B n p else 0) (mostZ s hs.1), nx2 B n p) := by
          unfold pEq; rw [if_neg (fun q => q h1), if_neg (fun q => q h2), if_pos h3]
        rw [e]
        refine sW_go b_Mo_readType_52 (st' := ([.int mo, .int (nI 0), .ref 119], [some (.ref 119), some (.int (nI s)), some (.int (nI hs.1)), some (.int mo), none, none, none], M2)) (φ := True) rfl trivial ?_
        refine sW_callV 10 [.int (nI 0), .int mo] [] d_Mo_readType_56 c_Mo_readType_56 ⟨rfl, rfl, rfl, Nat.le_of_ble_eq_true rfl, rfl, rfl⟩ oc_119 (k_num0 G h (by decide) hz h1) ?_
        rintro _ M3 ⟨rfl, f3, t3⟩
        show sW G m_Mo_readType 59 ([.int (nI (nmA B n p))], [some (.ref 119), some (.int (nI s)), some (.int (nI hs.1)), some (.int mo), none, none, none], M3) _
        refine sW_go b_Mo_readType_59 (st' := ([.int (nI 44), .ref 119], [some (.ref 119), some (.int (nI s)), some (.int (nI hs.1)), some (.int mo), some (.int (nI (nmA B n p))), none, none], M3)) (φ := True) rfl trivial ?_
        refine sW_callV 10 [.int (nI 44)] [] d_Mo_readType_64 c_Mo_readType_64 ⟨rfl, rfl, rfl, Nat.le_of_ble_eq_true rfl, rfl, rfl⟩ oc_119 (k_mustSignT G t3 (by decide) h2) ?_
        rintro _ M4 ⟨rfl, f4, t4⟩
        show sW G m_Mo_readType 67 ([], [some (.ref 119), some (.int (nI s)), some (.int (nI hs.1)), some (.int mo), some (.int (nI (nmA B n p))), none, none], M4) _
        refine sW_go b_Mo_readType_67 (st' := ([.int (nI s), .ref 119], [some (.ref 119), some (.int (nI s)), some (.int (nI hs.1)), some (.int mo), some (.int (nI (nmA B n p))), none, none], M4)) (φ := True) rfl trivial ?_
        refine sW_if_ne 77 d_Mo_readType_69 (by decide) (fun c_69 => ?_) (fun c_69 => ?_)
        · skip
          simp (disch := omega) only [nI_z] at c_69
          refine sW_go b_Mo_readType_77 (st' := ([.int (nI 0), .ref 119], [some (.ref 119), some (.int (nI s)), some (.int (nI hs.1)), some (.int mo), some (.int (nI (nmA B n p))), none, none], M4)) (φ := True) rfl trivial ?_
          rw [if_neg c_69] at h3 ⊢
          refine sW_go b_Mo_readType_78 (st' := ([.int mo, .int (nI 0), .ref 119], [some (.ref 119), some (.int (nI s)), some (.int (nI hs.1)), some (.int mo), some (.int (nI (nmA B n p))), none, none], M4)) (φ := True) rfl trivial ?_
          refine sW_callV 10 [.int (nI 0), .int mo] [] d_Mo_readType_79 c_Mo_readType_79 ⟨rfl, rfl, rfl, Nat.le_of_ble_eq_true rfl, rfl, rfl⟩ oc_119 (k_num1 G t4 (by decide) hz h3) ?_
          rintro _ M5 ⟨rfl, f5, t5⟩
          have ne5 := t5.ne
          show sW G m_Mo_readType 82 ([.int (nI 0)], [some (.ref 119), some (.int (nI s)), some (.int (nI hs.1)), some (.int mo), some (.int (nI (nmA B n p))), none, none], M5) _
          refine sW_go b_Mo_readType_82 (st' := ([.int (nI 59), .ref 119], [some (.ref 119), some (.int (nI s)), some (.int (nI hs.1)), some (.int mo), some (.int (nI (nmA B n p))), some (.int (nI 0)), none], M5)) (φ := True) rfl trivial ?_
          refine sW_callV 10 [.int (nI 59)] [] d_Mo_readType_87 c_Mo_readType_87 ⟨rfl, rfl, rfl, Nat.le_of_ble_eq_true rfl, rfl, rfl⟩ oc_119 (k_mustSignF G t5 (nI 59)) ?_
          rintro _ M₁ ⟨rfl, h₁⟩
          rw [h₁]
          show sW G m_Mo_readType 90 ([], [some (.ref 119), some (.int (nI s)), some (.int (nI hs.1)), some (.int mo), some (.int (nI (nmA B n p))), some (.int (nI 0)), none], M5) _
          refine sW_go b_Mo_readType_90 (st' := ([.int (M5 119 16)], [some (.ref 119), some (.int (nI s)), some (.int (nI hs.1)), some (.int mo), some (.int (nI (nmA B n p))), some (.int (nI 0)), none], M5)) (φ := mx_ocl LAY 119 = 10 ∧ True) rfl ⟨oc_119, trivial⟩ ?_
          refine sW_if_ne 144 d_Mo_readType_94 (by decide) (fun c_94 => ?_) (fun c_94 => ?_)
          · skip
            refine sW_retV d_Mo_readType_144 rfl ?_
            exact ⟨rfl, RtR.er (((f2.tr (mn f3)).tr (mn f4)).tr (mn f5)) t5⟩
          · skip
            exact absurd c_94 ne5
        · skip
          simp (disch := omega) only [nI_z] at c_69
          refine sW_go b_Mo_readType_72 (st' := ([.int (nI (nmA B n p)), .ref 119], [some (.ref 119), some (.int (nI s)), some (.int (nI hs.1)), some (.int mo), some (.int (nI (nmA B n p))), none, none], M4)) (φ := True) rfl trivial ?_
          refine sW_goto 78 d_Mo_readType_74 (by decide) ?_
          rw [if_pos c_69] at h3 ⊢
          refine sW_go b_Mo_readType_78 (st' := ([.int mo, .int (nI (nmA B n p)), .ref 119], [some (.ref 119), some (.int (nI s)), some (.int (nI hs.1)), some (.int mo), some (.int (nI (nmA B n p))), none, none], M4)) (φ := True) rfl trivial ?_
          refine sW_callV 10 [.int (nI (nmA B n p)), .int mo] [] d_Mo_readType_79 c_Mo_readType_79 ⟨rfl, rfl, rfl, Nat.le_of_ble_eq_true rfl, rfl, rfl⟩ oc_119 (k_num1 G t4 n1 hz h3) ?_
          rintro _ M5 ⟨rfl, f5, t5⟩
          have ne5 := t5.ne
          show sW G m_Mo_readType 82 ([.int (nI (nmA B n p))], [some (.ref 119), some (.int (nI s)), some (.int (nI hs.1)), some (.int mo), some (.int (nI (nmA B n p))), none, none], M5) _
          refine sW_go b_Mo_readType_82 (st' := ([.int (nI 59), .ref 119], [some (.ref 119), some (.int (nI s)), some (.int (nI hs.1)), some (.int mo), some (.int (nI (nmA B n p))), some (.int (nI (nmA B n p))), none], M5)) (φ := True) rfl trivial ?_
          refine sW_callV 10 [.int (nI 59)] [] d_Mo_readType_87 c_Mo_readType_87 ⟨rfl, rfl, rfl, Nat.le_of_ble_eq_true rfl, rfl, rfl⟩ oc_119 (k_mustSignF G t5 (nI 59)) ?_
          rintro _ M₁ ⟨rfl, h₁⟩
          rw [h₁]
          show sW G m_Mo_readType 90 ([], [some (.ref 119), some (.int (nI s)), some (.int (nI hs.1)), some (.int mo), some (.int (nI (nmA B n p))), some (.int (nI (nmA B n p))), none], M5) _
          refine sW_go b_Mo_readType_90 (st' := ([.int (M5 119 16)], [some (.ref 119), some (.int (nI s)), some (.int (nI hs.1)), some (.int mo), some (.int (nI (nmA B n p))), some (.int (nI (nmA B n p))), none], M5)) (φ := mx_ocl LAY 119 = 10 ∧ True) rfl ⟨oc_119, trivial⟩ ?_
          refine sW_if_ne 144 d_Mo_readType_94 (by decide) (fun c_94 => ?_) (fun c_94 => ?_)
          · skip
            refine sW_retV d_Mo_readType_144 rfl ?_
            exact ⟨rfl, RtR.er (((f2.tr (mn f3)).tr (mn f4)).tr (mn f5)) t5⟩
          · skip
            exact absurd c_94 ne5
    · have e : pEq B n p hs.1 s = .error (1, nxA B n p) := by
        unfold pEq; rw [if_neg (fun q => q h1), if_pos h2]
      rw [e]
      refine sW_go b_Mo_readType_52 (st' := ([.int mo, .int (nI 0), .ref 119], [some (.ref 119), some (.int (nI s)), some (.int (nI hs.1)), some (.int mo), none, none, none], M2)) (φ := True) rfl trivial ?_
      refine sW_callV 10 [.int (nI 0), .int mo] [] d_Mo_readType_56 c_Mo_readType_56 ⟨rfl, rfl, rfl, Nat.le_of_ble_eq_true rfl, rfl, rfl⟩ oc_119 (k_num0 G h (by decide) hz h1) ?_
      rintro _ M3 ⟨rfl, f3, t3⟩
      show sW G m_Mo_readType 59 ([.int (nI (nmA B n p))], [some (.ref 119), some (.int (nI s)), some (.int (nI hs.1)), some (.int mo), none, none, none], M3) _
      refine sW_go b_Mo_readType_59 (st' := ([.int (nI 44), .ref 119], [some (.ref 119), some (.int (nI s)), some (.int (nI hs.1)), some (.int mo), some (.int (nI (nmA B n p))), none, none], M3)) (φ := True) rfl trivial ?_
      refine sW_callV 10 [.int (nI 44)] [] d_Mo_readType_64 c_Mo_readType_64 ⟨rfl, rfl, rfl, Nat.le_of_ble_eq_true rfl, rfl, rfl⟩ oc_119 (k_mustSignN G t3 (by decide) h2) ?_
      rintro _ M4 ⟨rfl, f4, t4⟩
      have ne4 := t4.ne
      show sW G m_Mo_readType 67 ([], [some (.ref 119), some (.int (nI s)), some (.int (nI hs.1)), some (.int mo), some (.int (nI (nmA B n p))), none, none], M4) _
      refine sW_go b_Mo_readType_67 (st' := ([.int (nI s), .ref 119], [some (.ref 119), some (.int (nI s)), some (.int (nI hs.1)), some (.int mo), some (.int (nI (nmA B n p))), none, none], M4)) (φ := True) rfl trivial ?_
      refine sW_if_ne 77 d_Mo_readType_69 (by decide) (fun c_69 => ?_) (fun c_69 => ?_)
      · skip
        simp (disch := omega) only [nI_z] at c_69
        refine sW_go b_Mo_readType_77 (st' := ([.int (nI 0), .ref 119], [some (.ref 119), some (.int (nI s)), some (.int (nI hs.1)), some (.int mo), some (.int (nI (nmA B n p))), none, none], M4)) (φ := True) rfl trivial ?_
        refine sW_go b_Mo_readType_78 (st' := ([.int mo, .int (nI 0), .ref 119], [some (.ref 119), some (.int (nI s)), some (.int (nI hs.1)), some (.int mo), some (.int (nI (nmA B n p))), none, none], M4)) (φ := True) rfl trivial ?_
        refine sW_callV 10 [.int (nI 0), .int mo] [] d_Mo_readType_79 c_Mo_readType_79 ⟨rfl, rfl, rfl, Nat.le_of_ble_eq_true rfl, rfl, rfl⟩ oc_119 (k_numF G t4 (nI 0) mo) ?_
        rintro _ M₁ ⟨rfl, h₁⟩
        rw [h₁]
        show sW G m_Mo_readType 82 ([.int (nI 0)], [some (.ref 119), some (.int (nI s)), some (.int (nI hs.1)), some (.int mo), some (.int (nI (nmA B n p))), none, none], M4) _
        refine sW_go b_Mo_readType_82 (st' := ([.int (nI 59), .ref 119], [some (.ref 119), some (.int (nI s)), some (.int (nI hs.1)), some (.int mo), some (.int (nI (nmA B n p))), some (.int (nI 0)), none], M4)) (φ := True) rfl trivial ?_
        refine sW_callV 10 [.int (nI 59)] [] d_Mo_readType_87 c_Mo_readType_87 ⟨rfl, rfl, rfl, Nat.le_of_ble_eq_true rfl, rfl, rfl⟩ oc_119 (k_mustSignF G t4 (nI 59)) ?_
        rintro _ M₁ ⟨rfl, h₁⟩
        rw [h₁]
        show sW G m_Mo_readType 90 ([], [some (.ref 119), some (.int (nI s)), some (.int (nI hs.1)), some (.int mo), some (.int (nI (nmA B n p))), some (.int (nI 0)), none], M4) _
        refine sW_go b_Mo_readType_90 (st' := ([.int (M4 119 16)], [some (.ref 119), some (.int (nI s)), some (.int (nI hs.1)), some (.int mo), some (.int (nI (nmA B n p))), some (.int (nI 0)), none], M4)) (φ := mx_ocl LAY 119 = 10 ∧ True) rfl ⟨oc_119, trivial⟩ ?_
        refine sW_if_ne 144 d_Mo_readType_94 (by decide) (fun c_94 => ?_) (fun c_94 => ?_)
        · skip
          refine sW_retV d_Mo_readType_144 rfl ?_
          first | exact ⟨rfl, RtR.er ((f2.tr (mn f3)).tr (mn f4)) t4⟩ | exact absurd c_94 ne4
        · skip
          first | exact ⟨rfl, RtR.er ((f2.tr (mn f3)).tr (mn f4)) t4⟩ | exact absurd c_94 ne4
      · skip
        simp (disch := omega) only [nI_z] at c_69
        refine sW_go b_Mo_readType_72 (st' := ([.int (nI (nmA B n p)), .ref 119], [some (.ref 119), some (.int (nI s)), some (.int (nI hs.1)), some (.int mo), some (.int (nI (nmA B n p))), none, none], M4)) (φ := True) rfl trivial ?_
        refine sW_goto 78 d_Mo_readType_74 (by decide) ?_
        refine sW_go b_Mo_readType_78 (st' := ([.int mo, .int (nI (nmA B n p)), .ref 119], [some (.ref 119), some (.int (nI s)), some (.int (nI hs.1)), some (.int mo), some (.int (nI (nmA B n p))), none, none], M4)) (φ := True) rfl trivial ?_
        refine sW_callV 10 [.int (nI (nmA B n p)), .int mo] [] d_Mo_readType_79 c_Mo_readType_79 ⟨rfl, rfl, rfl, Nat.le_of_ble_eq_true rfl, rfl, rfl⟩ oc_119 (k_numF G t4 (nI (nmA B n p)) mo) ?_
        rintro _ M₁ ⟨rfl, h₁⟩
        rw [h₁]
        show sW G m_Mo_readType 82 ([.int (nI (nmA B n p))], [some (.ref 119), some (.int (nI s)), some (.int (nI hs.1)), some (.int mo), some (.int (nI (nmA B n p))), none, none], M4) _
        refine sW_go b_Mo_readType_82 (st' := ([.int (nI 59), .ref 119], [some (.ref 119), some (.int (nI s)), some (.int (nI hs.1)), some (.int mo), some (.int (nI (nmA B n p))), some (.int (nI (nmA B n p))), none], M4)) (φ := True) rfl trivial ?_
        refine sW_callV 10 [.int (nI 59)] [] d_Mo_readType_87 c_Mo_readType_87 ⟨rfl, rfl, rfl, Nat.le_of_ble_eq_true rfl, rfl, rfl⟩ oc_119 (k_mustSignF G t4 (nI 59)) ?_
        rintro _ M₁ ⟨rfl, h₁⟩
        rw [h₁]
        show sW G m_Mo_readType 90 ([], [some (.ref 119), some (.int (nI s)), some (.int (nI hs.1)), some (.int mo), some (.int (nI (nmA B n p))), some (.int (nI (nmA B n p))), none], M4) _
        refine sW_go b_Mo_readType_90 (st' := ([.int (M4 119 16)], [some (.ref 119), some (.int (nI s)), some (.int (nI hs.1)), some (.int mo), some (.int (nI (nmA B n p))), some (.int (nI (nmA B n p))), none], M4)) (φ := mx_ocl LAY 119 = 10 ∧ True) rfl ⟨oc_119, trivial⟩ ?_
        refine sW_if_ne 144 d_Mo_readType_94 (by decide) (fun c_94 => ?_) (fun c_94 => ?_)
        · skip
          refine sW_retV d_Mo_readType_144 rfl ?_
          first | exact ⟨rfl, RtR.er ((f2.tr (mn f3)).tr (mn f4)) t4⟩ | exact absurd c_94 ne4
        · skip
          first | exact ⟨rfl, RtR.er ((f2.tr (mn f3)).tr (mn f4)) t4⟩ | exact absurd c_94 ne4
  · have e : pEq B n p hs.1 s = .error (numF B n p 0 (mostZ s hs.1), p) := by unfold pEq; rw [if_pos h1]
    rw [e]
    refine sW_go b_Mo_readType_52 (st' := ([.int mo, .int (nI 0), .ref 119], [some (.ref 119), some (.int (nI s)), some (.int (nI hs.1)), some (.int mo), none, none, none], M2)) (φ := True) rfl trivial ?_
    refine sW_callV 10 [.int (nI 0), .int mo] [] d_Mo_readType_56 c_Mo_readType_56 ⟨rfl, rfl, rfl, Nat.le_of_ble_eq_true rfl, rfl, rfl⟩ oc_119 (k_num1 G h (by decide) hz h1) ?_
    rintro _ M3 ⟨rfl, f3, t3⟩
    have ne3 := t3.ne
    show sW G m_Mo_readType 59 ([.int (nI 0)], [some (.ref 119), some (.int (nI s)), some (.int (nI hs.1)), some (.int mo), none, none, none], M3) _
    refine sW_go b_Mo_readType_59 (st' := ([.int (nI 44), .ref 119], [some (.ref 119), some (.int (nI s)), some (.int (nI hs.1)), some (.int mo), some (.int (nI 0)), none, none], M3)) (φ := True) rfl trivial ?_
    refine sW_callV 10 [.int (nI 44)] [] d_Mo_readType_64 c_Mo_readType_64 ⟨rfl, rfl, rfl, Nat.le_of_ble_eq_true rfl, rfl, rfl⟩ oc_119 (k_mustSignF G t3 (nI 44)) ?_
    rintro _ M₁ ⟨rfl, h₁⟩
    rw [h₁]
    show sW G m_Mo_readType 67 ([], [some (.ref 119), some (.int (nI s)), some (.int (nI hs.1)), some (.int mo), some (.int (nI 0)), none, none], M3) _
    refine sW_go b_Mo_readType_67 (st' := ([.int (nI s), .ref 119], [some (.ref 119), some (.int (nI s)), some (.int (nI hs.1)), some (.int mo), some (.int (nI 0)), none, none], M3)) (φ := True) rfl trivial ?_
    refine sW_if_ne 77 d_Mo_readType_69 (by decide) (fun c_69 => ?_) (fun c_69 => ?_)
    · skip
      simp (disch := omega) only [nI_z] at c_69
      refine sW_go b_Mo_readType_77 (st' := ([.int (nI 0), .ref 119], [some (.ref 119), some (.int (nI s)), some (.int (nI hs.1)), some (.int mo), some (.int (nI 0)), none, none], M3)) (φ := True) rfl trivial ?_
      refine sW_go b_Mo_readType_78 (st' := ([.int mo, .int (nI 0), .ref 119], [some (.ref 119), some (.int (nI s)), some (.int (nI hs.1)), some (.int mo), some (.int (nI 0)), none, none], M3)) (φ := True) rfl trivial ?_
      refine sW_callV 10 [.int (nI 0), .int mo] [] d_Mo_readType_79 c_Mo_readType_79 ⟨rfl, rfl, rfl, Nat.le_of_ble_eq_true rfl, rfl, rfl⟩ oc_119 (k_numF G t3 (nI 0) mo) ?_
      rintro _ M₁ ⟨rfl, h₁⟩
      rw [h₁]
      show sW G m_Mo_readType 82 ([.int (nI 0)], [some (.ref 119), some (.int (nI s)), some (.int (nI hs.1)), some (.int mo), some (.int (nI 0)), none, none], M3) _
      refine sW_go b_Mo_readType_82 (st' := ([.int (nI 59), .ref 119], [some (.ref 119), some (.int (nI s)), some (.int (nI hs.1)), some (.int mo), some (.int (nI 0)), some (.int (nI 0)), none], M3)) (φ := True) rfl trivial ?_
      refine sW_callV 10 [.int (nI 59)] [] d_Mo_readType_87 c_Mo_readType_87 ⟨rfl, rfl, rfl, Nat.le_of_ble_eq_true rfl, rfl, rfl⟩ oc_119 (k_mustSignF G t3 (nI 59)) ?_
      rintro _ M₁ ⟨rfl, h₁⟩
      rw [h₁]
      show sW G m_Mo_readType 90 ([], [some (.ref 119), some (.int (nI s)), some (.int (nI hs.1)), some (.int mo), some (.int (nI 0)), some (.int (nI 0)), none], M3) _
      refine sW_go b_Mo_readType_90 (st' := ([.int (M3 119 16)], [some (.ref 119), some (.int (nI s)), some (.int (nI hs.1)), some (.int mo), some (.int (nI 0)), some (.int (nI 0)), none], M3)) (φ := mx_ocl LAY 119 = 10 ∧ True) rfl ⟨oc_119, trivial⟩ ?_
      refine sW_if_ne 144 d_Mo_readType_94 (by decide) (fun c_94 => ?_) (fun c_94 => ?_)
      · skip
        refine sW_retV d_Mo_readType_144 rfl ?_
        first | exact ⟨rfl, RtR.er (f2.tr (mn f3)) t3⟩ | exact absurd c_94 ne3
      · skip
        first | exact ⟨rfl, RtR.er (f2.tr (mn f3)) t3⟩ | exact absurd c_94 ne3
    · skip
      simp (disch := omega) only [nI_z] at c_69
      refine sW_go b_Mo_readType_72 (st' := ([.int (nI 0), .ref 119], [some (.ref 119), some (.int (nI s)), some (.int (nI hs.1)), some (.int mo), some (.int (nI 0)), none, none], M3)) (φ := True) rfl trivial ?_
      refine sW_goto 78 d_Mo_readType_74 (by decide) ?_
      refine sW_go b_Mo_readType_78 (st' := ([.int mo, .int (nI 0), .ref 119], [some (.ref 119), some (.int (nI s)), some (.int (nI hs.1)), some (.int mo), some (.int (nI 0)), none, none], M3)) (φ := True) rfl trivial ?_
      refine sW_callV 10 [.int (nI 0), .int mo] [] d_Mo_readType_79 c_Mo_readType_79 ⟨rfl, rfl, rfl, Nat.le_of_ble_eq_true rfl, rfl, rfl⟩ oc_119 (k_numF G t3 (nI 0) mo) ?_
      rintro _ M₁ ⟨rfl, h₁⟩
      rw [h₁]
      show sW G m_Mo_readType 82 ([.int (nI 0)], [some (.ref 119), some (.int (nI s)), some (.int (nI hs.1)), some (.int mo), some (.int (nI 0)), none, none], M3) _
      refine sW_go b_Mo_readType_82 (st' := ([.int (nI 59), .ref 119], [some (.ref 119), some (.int (nI s)), some (.int (nI hs.1)), some (.int mo), some (.int (nI 0)), some (.int (nI 0)), none], M3)) (φ := True) rfl trivial ?_
      refine sW_callV 10 [.int (nI 59)] [] d_Mo_readType_87 c_Mo_readType_87 ⟨rfl, rfl, rfl, Nat.le_of_ble_eq_true rfl, rfl, rfl⟩ oc_119 (k_mustSignF G t3 (nI 59)) ?_
      rintro _ M₁ ⟨rfl, h₁⟩
      rw [h₁]
      show sW G m_Mo_readType 90 ([], [some (.ref 119), some (.int (nI s)), some (.int (nI hs.1)), some (.int mo), some (.int (nI 0)), some (.int (nI 0)), none], M3) _
      refine sW_go b_Mo_readType_90 (st' := ([.int (M3 119 16)], [some (.ref 119), some (.int (nI s)), some (.int (nI hs.1)), some (.int mo), some (.int (nI 0)), some (.int (nI 0)), none], M3)) (φ := mx_ocl LAY 119 = 10 ∧ True) rfl ⟨oc_119, trivial⟩ ?_
      refine sW_if_ne 144 d_Mo_readType_94 (by decide) (fun c_94 => ?_) (fun c_94 => ?_)
      · skip
        refine sW_retV d_Mo_readType_144 rfl ?_
        first | exact ⟨rfl, RtR.er (f2.tr (mn f3)) t3⟩ | exact absurd c_94 ne3
      · skip
        first | exact ⟨rfl, RtR.er (f2.tr (mn f3)) t3⟩ | exact absurd c_94 ne3
/-- a type: its letter, its equation -/
theorem k_readType (G : mx_G) {M : mx_M} {B : Nat → Nat} {n p : Nat} {hs : Hs} (h : RdS M B n p) (hR : RowAt M 124 0 hs) (h8 : hs.1 ≤ 8) (hs9 : srtN (tkA B n p) ≠ 9) :
  sOk G m_Mo_readType [.ref 119] M (fun r M' => r = none ∧ RtR M M' B n hs (srtN (tkA B n p)) (if hs.1 = 8 then .error (3, p) else pEq B n (nxA B n p) hs.1 (srtN (tkA B n p)))) := by
  have hl := srt_letter hs9
  have hs6 : srtN (tkA B n p) < 6 := by have := srtN_or (tkA B n p); omega
  have k15 := h.2.1.2.2.2 (by omega)
  have er := hR.n
  have ks := k_sortBy G (M := M) (t := tkA B n p) (by omega)
  have es : srtM (tkA B n p) = nI (srtN (tkA B n p)) := by unfold srtM; rw [if_neg hs9]
  rw [es] at ks
  generalize hs0 : srtN (tkA B n p) = s at hs6 ks ⊢
  by_cases hk : hs.1 = 8
  · rw [if_pos hk]
    refine sOk_of ⟨by decide +kernel, by decide +kernel, Nat.le_of_ble_eq_true rfl⟩ ?_
    show sW G m_Mo_readType 0 ([], [some (.ref 119), none, none, none, none, none, none], M) _
    refine sW_go b_Mo_readType_0 (st' := ([.int (M 119 15)], [some (.ref 119), none, none, none, none, none, none], M)) (φ := mx_ocl LAY 119 = 10 ∧ True) rfl ⟨oc_119, trivial⟩ ?_
    refine sW_eq (st' := ([.int (nI (tkA B n p))], [some (.ref 119), none, none, none, none, none, none], M)) (by simp (disch := omega) only [k15]) ?_
    refine sW_callS [.int (nI (tkA B n p))] [] d_Mo_readType_4 c_Mo_readType_4 ⟨rfl, rfl, Nat.le_of_ble_eq_true rfl, rfl, rfl⟩ (ks) ?_
    rintro _ M₁ ⟨rfl, h₁⟩
    rw [h₁]
    show sW G m_Mo_readType 7 ([.int (nI s)], [some (.ref 119), none, none, none, none, none, none], M) _
    refine sW_go b_Mo_readType_7 (st' := ([.int (nI 8), .int (M 124 (nI 0).toNatClampNeg)], [some (.ref 119), some (.int (nI s)), some (.int (M 124 (nI 0).toNatClampNeg)), none, none, none, none], M)) (φ := mx_ocl LAY 119 = 10 ∧ vp_in (nI 0) (mx_len LAY false 124) ∧ True) rfl ⟨oc_119, (by simp (disch := omega) only [ln_124]; exact vp_in_nI (by omega) (by decide)), trivial⟩ ?_
    refine sW_eq (st' := ([.int (nI 8), .int (nI hs.1)], [some (.ref 119), some (.int (nI s)), some (.int (nI hs.1)), none, none, none, none], M)) (by simp (disch := omega) only [er, nI_clamp]) ?_
    refine sW_ic_ne 26 d_Mo_readType_18 (by decide) (fun c_18 => ?_) (fun c_18 => ?_)
    · skip
      simp (disch := omega) only [nI_eq] at c_18
      exact absurd hk c_18
    · skip
      simp (disch := omega) only [nI_eq] at c_18
      refine sW_go b_Mo_readType_21 (st' := ([.int (nI 3), .ref 119], [some (.ref 119), some (.int (nI s)), some (.int (nI hs.1)), none, none, none, none], M)) (φ := True) rfl trivial ?_
      refine sW_callV 10 [.int (nI 3)] [] d_Mo_readType_23 c_Mo_readType_23 ⟨rfl, rfl, rfl, Nat.le_of_ble_eq_true rfl, rfl, rfl⟩ oc_119 (k_bad0 G h (by decide) (by decide)) ?_
      rintro _ M2 ⟨rfl, f2, t2⟩
      show sW G m_Mo_readType 26 ([], [some (.ref 119), some (.int (nI s)), some (.int (nI hs.1)), none, none, none, none], M2) _
      exact k_readTypeF (M := M) G t2 h8 hs6 ⟨rfl, RtR.er (f2.mono (by decide) (by decide)) t2⟩ (l4 := none) (l5 := none) (l6 := none)
  · rw [if_neg hk]
    have rw124 : ∀ {Ma Mb : mx_M}, MFr Ma Mb [] rS → RowAt Ma 124 0 hs → RowAt Mb 124 0 hs := fun q r => r.eq (q.1 _ (by decide) (by decide))
    refine sOk_of ⟨by decide +kernel, by decide +kernel, Nat.le_of_ble_eq_true rfl⟩ ?_
    show sW G m_Mo_readType 0 ([], [some (.ref 119), none, none, none, none, none, none], M) _
    refine sW_go b_Mo_readType_0 (st' := ([.int (M 119 15)], [some (.ref 119), none, none, none, none, none, none], M)) (φ := mx_ocl LAY 119 = 10 ∧ True) rfl ⟨oc_119, trivial⟩ ?_
    refine sW_eq (st' := ([.int (nI (tkA B n p))], [some (.ref 119), none, none, none, none, none, none], M)) (by simp (disch := omega) only [k15]) ?_
    refine sW_callS [.int (nI (tkA B n p))] [] d_Mo_readType_4 c_Mo_readType_4 ⟨rfl, rfl, Nat.le_of_ble_eq_true rfl, rfl, rfl⟩ (ks) ?_
    rintro _ M₁ ⟨rfl, h₁⟩
    rw [h₁]
    show sW G m_Mo_readType 7 ([.int (nI s)], [some (.ref 119), none, none, none, none, none, none], M) _
    refine sW_go b_Mo_readType_7 (st' := ([.int (nI 8), .int (M 124 (nI 0).toNatClampNeg)], [some (.ref 119), some (.int (nI s)), some (.int (M 124 (nI 0).toNatClampNeg)), none, none, none, none], M)) (φ := mx_ocl LAY 119 = 10 ∧ vp_in (nI 0) (mx_len LAY false 124) ∧ True) rfl ⟨oc_119, (by simp (disch := omega) only [ln_124]; exact vp_in_nI (by omega) (by decide)), trivial⟩ ?_
    refine sW_eq (st' := ([.int (nI 8), .int (nI hs.1)], [some (.ref 119), some (.int (nI s)), some (.int (nI hs.1)), none, none, none, none], M)) (by simp (disch := omega) only [er, nI_clamp]) ?_
    refine sW_ic_ne 26 d_Mo_readType_18 (by decide) (fun c_18 => ?_) (fun c_18 => ?_)
    · skip
      simp (disch := omega) only [nI_eq] at c_18
      refine sW_go b_Mo_readType_26 (st' := ([.int (nI 1), .ref 119], [some (.ref 119), some (.int (nI s)), some (.int (nI hs.1)), none, none, none, none], M)) (φ := True) rfl trivial ?_
      refine sW_callV 10 [.int (nI 1)] [] d_Mo_readType_28 c_Mo_readType_28 ⟨rfl, rfl, rfl, Nat.le_of_ble_eq_true rfl, rfl, rfl⟩ oc_119 (k_mustT G h) ?_
      rintro _ M2 ⟨rfl, f2, t2⟩
      show sW G m_Mo_readType 31 ([], [some (.ref 119), some (.int (nI s)), some (.int (nI hs.1)), none, none, none, none], M2) _
      refine sW_go b_Mo_readType_31 (st' := ([.int (nI s)], [some (.ref 119), some (.int (nI s)), some (.int (nI hs.1)), none, none, none, none], M2)) (φ := True) rfl trivial ?_
      refine sW_if_ne 39 d_Mo_readType_32 (by decide) (fun c_32 => ?_) (fun c_32 => ?_)
      · skip
        simp (disch := omega) only [nI_z] at c_32
        refine sW_go b_Mo_readType_39 (st' := ([.int (nI 3), .int (nI s)], [some (.ref 119), some (.int (nI s)), some (.int (nI hs.1)), none, none, none, none], M2)) (φ := True) rfl trivial ?_
        refine sW_ic_ge 49 d_Mo_readType_41 (by decide) (fun c_41 => ?_) (fun c_41 => ?_)
        · skip
          simp (disch := omega) only [nI_leI] at c_41
          refine sW_go b_Mo_readType_49 (st' := ([.int (nI hs.1 - nI 1)], [some (.ref 119), some (.int (nI s)), some (.int (nI hs.1)), none, none, none, none], M2)) (φ := True) rfl trivial ?_
          rw [show nI hs.1 - nI 1 = mostI s hs.1 by unfold mostI; rw [if_neg c_32, if_neg (by omega)]]
          exact k_rt52 G (f2.mono (by decide) (by decide)) t2 (rw124 f2 hR) (by omega) hs6
        · skip
          simp (disch := omega) only [nI_leI] at c_41
          refine sW_go b_Mo_readType_44 (st' := ([.int (nI 7)], [some (.ref 119), some (.int (nI s)), some (.int (nI hs.1)), none, none, none, none], M2)) (φ := True) rfl trivial ?_
          refine sW_goto 52 d_Mo_readType_46 (by decide) ?_
          rw [show nI 7 = mostI s hs.1 by unfold mostI; rw [if_neg c_32, if_pos (by omega)]]
          exact k_rt52 G (f2.mono (by decide) (by decide)) t2 (rw124 f2 hR) (by omega) hs6
      · skip
        simp (disch := omega) only [nI_z] at c_32
        refine sW_go b_Mo_readType_35 (st' := ([.int (nI 3)], [some (.ref 119), some (.int (nI s)), some (.int (nI hs.1)), none, none, none, none], M2)) (φ := True) rfl trivial ?_
        refine sW_goto 52 d_Mo_readType_36 (by decide) ?_
        rw [show nI 3 = mostI s hs.1 by unfold mostI; rw [if_pos c_32]]
        exact k_rt52 G (f2.mono (by decide) (by decide)) t2 (rw124 f2 hR) (by omega) hs6
    · skip
      simp (disch := omega) only [nI_eq] at c_18
      exact absurd c_18 hk

