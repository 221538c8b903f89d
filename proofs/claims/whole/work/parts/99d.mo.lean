def fitC (p q c : Nat) : Prop := c &&& p = p ∧ c &&& q = 0
theorem k_low48 (G : mx_G) {M M1 : mx_M} {σ : Sg} {n p q : Nat} {H S : Nat → Nat} (hw : HsOk (gH σ)) (hM : MC M1 (gH σ) n H S) (hp : p < 256) (hq : q < 256) (f1 : Fr M M1 119 139) (h1 : MInv M1 σ) :
  sW G m_Mo_lowest 48 ([], [some (.ref 119), some (.int (nI p)), some (.int (nI q)), some (.int (-1000000)), some (.int (nI 0)), none, none], M1) (MOk M (lowV (gH σ) p q, σ)) := by
  obtain ⟨hn, c1, c2, c3, c4, c5, c6⟩ := id hM
  have hlen := gat_len H
  have e22 := c3.1
  have hH : ∀ c, c < 256 → H c ≤ 300 := fun c hc => by have := (c4 c hc).2.2; omega
  refine mx_ind (α := Nat × Int32) (fun z => (gat H).length - z.1) (fun z => z.1 ≤ (gat H).length → ((z.2 = -1000000 ∧ ∀ i, i < z.1 → ¬ fitC p q ((gat H).getD i 0)) ∨ ∃ i0, i0 < z.1 ∧ z.2 = nI (H ((gat H).getD i0 0)) ∧ fitC p q ((gat H).getD i0 0) ∧ ∀ i, i < z.1 → fitC p q ((gat H).getD i 0) → H ((gat H).getD i0 0) ≤ H ((gat H).getD i 0)) → sW G m_Mo_lowest 48 ([], [some (.ref 119), some (.int (nI p)), some (.int (nI q)), some (.int z.2), some (.int (nI z.1)), none, none], M1) _) ?_ (0, -1000000) (Nat.zero_le _) (Or.inl ⟨rfl, fun i hi => absurd hi (Nat.not_lt_zero i)⟩)
  rintro ⟨i, lv⟩ ih hi hinv
  dsimp only at ih hi hinv ⊢
  by_cases hin : i < (gat H).length
  · have e1 := c3.2 i hin
    have hx := gat_at hin
    obtain ⟨x, hxx⟩ : ∃ x, (gat H).getD i 0 = x := ⟨_, rfl⟩
    rw [hxx] at e1 hx
    have e2 := c1 x hx.1
    have hhx := hH x hx.1
    have z4 : (x &&& p) < 256 := Nat.lt_of_le_of_lt Nat.and_le_left hx.1
    have z5 : (x &&& q) < 256 := Nat.lt_of_le_of_lt Nat.and_le_left hx.1
    have kn : ∀ k, ¬ nI k = (-1000000 : Int32) ∨ 301 ≤ k := fun k => by
      by_cases hk : 301 ≤ k
      · exact Or.inr hk
      · refine Or.inl (fun w => ?_)
        have w2 := congrArg Int32.toInt w
        rw [nI_toInt (by omega), show (-1000000 : Int32).toInt = -1000000 by decide] at w2
        omega
    have lem : ∀ {a : Nat}, a < i + 1 → a ≠ i → a < i := fun h1 h2 => by omega
    rcases hinv with ⟨rfl, hno⟩ | ⟨i0, hi0, rfl, hfit, hmin⟩
    · have stay : ¬ fitC p q x → sW G m_Mo_lowest 48 ([], [some (.ref 119), some (.int (nI p)), some (.int (nI q)), some (.int (-1000000)), some (.int (nI (i + 1))), none, none], M1) (MOk M (lowV (gH σ) p q, σ)) := fun w => by
        refine ih (i + 1, -1000000) (by dsimp only; omega) (by dsimp only; omega) (Or.inl ⟨rfl, fun j hj => ?_⟩)
        dsimp only at hj
        by_cases hji : j = i
        · rw [hji, hxx]; exact w
        · exact hno j (lem hj hji)
      refine sW_go b_Mo_lowest_48 (st' := ([.int (M1 119 22), .int (nI i)], [some (.ref 119), some (.int (nI p)), some (.int (nI q)), some (.int (-1000000)), some (.int (nI i)), none, none], M1)) (φ := mx_ocl LAY 119 = 10 ∧ True) rfl ⟨oc_119, trivial⟩ ?_
      refine sW_eq (st' := ([.int (nI (gat H).length), .int (nI i)], [some (.ref 119), some (.int (nI p)), some (.int (nI q)), some (.int (-1000000)), some (.int (nI i)), none, none], M1)) (by simp (disch := omega) only [e22]) ?_
      refine sW_ic_ge 128 d_Mo_lowest_54 (by decide) (fun c_54 => ?_) (fun c_54 => ?_)
      · skip
        simp (disch := omega) only [nI_leI] at c_54
        omega
      · skip
        simp (disch := omega) only [nI_leI] at c_54
        refine sW_go b_Mo_lowest_57 (st' := ([.int (nI p), .int (M1 130 (nI i).toNatClampNeg &&& nI p)], [some (.ref 119), some (.int (nI p)), some (.int (nI q)), some (.int (-1000000)), some (.int (nI i)), some (.int (M1 130 (nI i).toNatClampNeg)), none], M1)) (φ := mx_ocl LAY 119 = 10 ∧ vp_in (nI i) (mx_len LAY false 130) ∧ True) rfl ⟨oc_119, (by simp (disch := omega) only [ln_130]; exact vp_in_nI (by omega) (by decide)), trivial⟩ ?_
        refine sW_eq (st' := ([.int (nI p), .int (nI (x &&& p))], [some (.ref 119), some (.int (nI p)), some (.int (nI q)), some (.int (-1000000)), some (.int (nI i)), some (.int (nI x)), none], M1)) (by simp (disch := omega) only [e1, nI_clamp, nx_and]) ?_
        refine sW_ic_ne 85 d_Mo_lowest_71 (by decide) (fun c_71 => ?_) (fun c_71 => ?_)
        · skip
          simp (disch := omega) only [nI_eq] at c_71
          refine sW_go b_Mo_lowest_85 (st' := ([.int (nI 0)], [some (.ref 119), some (.int (nI p)), some (.int (nI q)), some (.int (-1000000)), some (.int (nI i)), some (.int (nI x)), none], M1)) (φ := True) rfl trivial ?_
          refine sW_go b_Mo_lowest_86 (st' := ([.int (nI 0)], [some (.ref 119), some (.int (nI p)), some (.int (nI q)), some (.int (-1000000)), some (.int (nI i)), some (.int (nI x)), some (.int (nI 0))], M1)) (φ := True) rfl trivial ?_
          refine sW_if_eq 120 d_Mo_lowest_90 (by decide) (fun c_90 => ?_) (fun c_90 => ?_)
          · skip
            simp (disch := omega) only [nI_z] at c_90
            refine sW_go b_Mo_lowest_120 (st' := ([.int (-1000000)], [some (.ref 119), some (.int (nI p)), some (.int (nI q)), some (.int (-1000000)), some (.int (nI i)), some (.int (nI x)), some (.int (nI 0))], M1)) (φ := True) rfl trivial ?_
            refine sW_go b_Mo_lowest_121 (st' := ([], [some (.ref 119), some (.int (nI p)), some (.int (nI q)), some (.int (-1000000)), some (.int (nI i + nI 1)), some (.int (nI x)), some (.int (nI 0))], M1)) (φ := True) rfl trivial ?_
            refine sW_eq (st' := ([], [some (.ref 119), some (.int (nI p)), some (.int (nI q)), some (.int (-1000000)), some (.int (nI (i + 1))), some (.int (nI x)), some (.int (nI 0))], M1)) (by simp (disch := omega) only [nI_add]) ?_
            refine sW_goto 48 d_Mo_lowest_125 (by decide) ?_
            refine sW_fg [false, false, false, false, false, true, true] ?_
            show sW G m_Mo_lowest 48 ([], [some (.ref 119), some (.int (nI p)), some (.int (nI q)), some (.int (-1000000)), some (.int (nI (i + 1))), none, none], M1) _
            exact stay (fun w => c_71 w.1)
          · skip
            exact absurd (by decide +kernel) c_90
        · skip
          simp (disch := omega) only [nI_eq] at c_71
          refine sW_go b_Mo_lowest_74 (st' := ([.int (nI x &&& nI q)], [some (.ref 119), some (.int (nI p)), some (.int (nI q)), some (.int (-1000000)), some (.int (nI i)), some (.int (nI x)), none], M1)) (φ := True) rfl trivial ?_
          refine sW_eq (st' := ([.int (nI (x &&& q))], [some (.ref 119), some (.int (nI p)), some (.int (nI q)), some (.int (-1000000)), some (.int (nI i)), some (.int (nI x)), none], M1)) (by simp (disch := omega) only [nx_and]) ?_
          refine sW_if_ne 85 d_Mo_lowest_78 (by decide) (fun c_78 => ?_) (fun c_78 => ?_)
          · skip
            simp (disch := omega) only [nI_z] at c_78
            refine sW_go b_Mo_lowest_85 (st' := ([.int (nI 0)], [some (.ref 119), some (.int (nI p)), some (.int (nI q)), some (.int (-1000000)), some (.int (nI i)), some (.int (nI x)), none], M1)) (φ := True) rfl trivial ?_
            refine sW_go b_Mo_lowest_86 (st' := ([.int (nI 0)], [some (.ref 119), some (.int (nI p)), some (.int (nI q)), some (.int (-1000000)), some (.int (nI i)), some (.int (nI x)), some (.int (nI 0))], M1)) (φ := True) rfl trivial ?_
            refine sW_if_eq 120 d_Mo_lowest_90 (by decide) (fun c_90 => ?_) (fun c_90 => ?_)
            · skip
              simp (disch := omega) only [nI_z] at c_90
              refine sW_go b_Mo_lowest_120 (st' := ([.int (-1000000)], [some (.ref 119), some (.int (nI p)), some (.int (nI q)), some (.int (-1000000)), some (.int (nI i)), some (.int (nI x)), some (.int (nI 0))], M1)) (φ := True) rfl trivial ?_
              refine sW_go b_Mo_lowest_121 (st' := ([], [some (.ref 119), some (.int (nI p)), some (.int (nI q)), some (.int (-1000000)), some (.int (nI i + nI 1)), some (.int (nI x)), some (.int (nI 0))], M1)) (φ := True) rfl trivial ?_
              refine sW_eq (st' := ([], [some (.ref 119), some (.int (nI p)), some (.int (nI q)), some (.int (-1000000)), some (.int (nI (i + 1))), some (.int (nI x)), some (.int (nI 0))], M1)) (by simp (disch := omega) only [nI_add]) ?_
              refine sW_goto 48 d_Mo_lowest_125 (by decide) ?_
              refine sW_fg [false, false, false, false, false, true, true] ?_
              show sW G m_Mo_lowest 48 ([], [some (.ref 119), some (.int (nI p)), some (.int (nI q)), some (.int (-1000000)), some (.int (nI (i + 1))), none, none], M1) _
              exact stay (fun w => c_78 w.2)
            · skip
              exact absurd (by decide +kernel) c_90
          · skip
            simp (disch := omega) only [nI_z] at c_78
            refine sW_go b_Mo_lowest_81 (st' := ([.int (nI 1)], [some (.ref 119), some (.int (nI p)), some (.int (nI q)), some (.int (-1000000)), some (.int (nI i)), some (.int (nI x)), none], M1)) (φ := True) rfl trivial ?_
            refine sW_goto 86 d_Mo_lowest_82 (by decide) ?_
            refine sW_go b_Mo_lowest_86 (st' := ([.int (nI 1)], [some (.ref 119), some (.int (nI p)), some (.int (nI q)), some (.int (-1000000)), some (.int (nI i)), some (.int (nI x)), some (.int (nI 1))], M1)) (φ := True) rfl trivial ?_
            refine sW_if_eq 120 d_Mo_lowest_90 (by decide) (fun c_90 => ?_) (fun c_90 => ?_)
            · skip
              exact absurd c_90 (by decide +kernel)
            · skip
              simp (disch := omega) only [nI_z] at c_90
              refine sW_go b_Mo_lowest_93 (st' := ([.int (-1000000), .int (-1000000)], [some (.ref 119), some (.int (nI p)), some (.int (nI q)), some (.int (-1000000)), some (.int (nI i)), some (.int (nI x)), some (.int (nI 1))], M1)) (φ := True) rfl trivial ?_
              refine sW_ic_eq 110 d_Mo_lowest_96 (by decide) (fun c_96 => ?_) (fun c_96 => ?_)
              · skip
                refine sW_go b_Mo_lowest_110 (st' := ([.int (M1 128 (nI x).toNatClampNeg)], [some (.ref 119), some (.int (nI p)), some (.int (nI q)), some (.int (-1000000)), some (.int (nI i)), some (.int (nI x)), some (.int (nI 1))], M1)) (φ := mx_ocl LAY 119 = 10 ∧ vp_in (nI x) (mx_len LAY false 128) ∧ True) rfl ⟨oc_119, (by simp (disch := omega) only [ln_128]; exact vp_in_nI (by omega) (by decide)), trivial⟩ ?_
                refine sW_eq (st' := ([.int (nI (H x))], [some (.ref 119), some (.int (nI p)), some (.int (nI q)), some (.int (-1000000)), some (.int (nI i)), some (.int (nI x)), some (.int (nI 1))], M1)) (by simp (disch := omega) only [e2, nI_clamp]) ?_
                refine sW_goto 121 d_Mo_lowest_117 (by decide) ?_
                refine sW_go b_Mo_lowest_121 (st' := ([], [some (.ref 119), some (.int (nI p)), some (.int (nI q)), some (.int (nI (H x))), some (.int (nI i + nI 1)), some (.int (nI x)), some (.int (nI 1))], M1)) (φ := True) rfl trivial ?_
                refine sW_eq (st' := ([], [some (.ref 119), some (.int (nI p)), some (.int (nI q)), some (.int (nI (H x))), some (.int (nI (i + 1))), some (.int (nI x)), some (.int (nI 1))], M1)) (by simp (disch := omega) only [nI_add]) ?_
                refine sW_goto 48 d_Mo_lowest_125 (by decide) ?_
                refine sW_fg [false, false, false, false, false, true, true] ?_
                show sW G m_Mo_lowest 48 ([], [some (.ref 119), some (.int (nI p)), some (.int (nI q)), some (.int (nI (H x))), some (.int (nI (i + 1))), none, none], M1) _
                refine ih (i + 1, nI (H x)) (by dsimp only; omega) (by dsimp only; omega) (Or.inr ⟨i, by dsimp only; omega, by dsimp only; rw [hxx], by rw [hxx]; exact ⟨c_71, c_78⟩, fun j hj hf => ?_⟩)
                dsimp only at hj
                by_cases hji : j = i
                · rw [hji]; exact Nat.le_refl _
                · exact absurd hf (hno j (lem hj hji))
              · skip
                exact absurd (by decide +kernel) c_96
    · have hi0l : i0 < (gat H).length := by omega
      have hy := gat_at hi0l
      obtain ⟨y, hyy⟩ : ∃ y, (gat H).getD i0 0 = y := ⟨_, rfl⟩
      rw [hyy] at hy hfit hmin ⊢
      have hhy := hH y hy.1
      have stay : (fitC p q x → H y ≤ H x) → sW G m_Mo_lowest 48 ([], [some (.ref 119), some (.int (nI p)), some (.int (nI q)), some (.int (nI (H y))), some (.int (nI (i + 1))), none, none], M1) (MOk M (lowV (gH σ) p q, σ)) := fun w => by
        refine ih (i + 1, nI (H y)) (by dsimp only; omega) (by dsimp only; omega) (Or.inr ⟨i0, by dsimp only; omega, by dsimp only; rw [hyy], by rw [hyy]; exact hfit, fun j hj hf => ?_⟩)
        dsimp only at hj
        rw [hyy]
        by_cases hji : j = i
        · rw [hji, hxx] at hf ⊢; exact w hf
        · exact hmin j (lem hj hji) hf
      refine sW_go b_Mo_lowest_48 (st' := ([.int (M1 119 22), .int (nI i)], [some (.ref 119), some (.int (nI p)), some (.int (nI q)), some (.int (nI (H y))), some (.int (nI i)), none, none], M1)) (φ := mx_ocl LAY 119 = 10 ∧ True) rfl ⟨oc_119, trivial⟩ ?_
      refine sW_eq (st' := ([.int (nI (gat H).length), .int (nI i)], [some (.ref 119), some (.int (nI p)), some (.int (nI q)), some (.int (nI (H y))), some (.int (nI i)), none, none], M1)) (by simp (disch := omega) only [e22]) ?_
      refine sW_ic_ge 128 d_Mo_lowest_54 (by decide) (fun c_54 => ?_) (fun c_54 => ?_)
      · skip
        simp (disch := omega) only [nI_leI] at c_54
        omega
      · skip
        simp (disch := omega) only [nI_leI] at c_54
        refine sW_go b_Mo_lowest_57 (st' := ([.int (nI p), .int (M1 130 (nI i).toNatClampNeg &&& nI p)], [some (.ref 119), some (.int (nI p)), some (.int (nI q)), some (.int (nI (H y))), some (.int (nI i)), some (.int (M1 130 (nI i).toNatClampNeg)), none], M1)) (φ := mx_ocl LAY 119 = 10 ∧ vp_in (nI i) (mx_len LAY false 130) ∧ True) rfl ⟨oc_119, (by simp (disch := omega) only [ln_130]; exact vp_in_nI (by omega) (by decide)), trivial⟩ ?_
        refine sW_eq (st' := ([.int (nI p), .int (nI (x &&& p))], [some (.ref 119), some (.int (nI p)), some (.int (nI q)), some (.int (nI (H y))), some (.int (nI i)), some (.int (nI x)), none], M1)) (by simp (disch := omega) only [e1, nI_clamp, nx_and]) ?_
        refine sW_ic_ne 85 d_Mo_lowest_71 (by decide) (fun c_71 => ?_) (fun c_71 => ?_)
        · skip
          simp (disch := omega) only [nI_eq] at c_71
          refine sW_go b_Mo_lowest_85 (st' := ([.int (nI 0)], [some (.ref 119), some (.int (nI p)), some (.int (nI q)), some (.int (nI (H y))), some (.int (nI i)), some (.int (nI x)), none], M1)) (φ := True) rfl trivial ?_
          refine sW_go b_Mo_lowest_86 (st' := ([.int (nI 0)], [some (.ref 119), some (.int (nI p)), some (.int (nI q)), some (.int (nI (H y))), some (.int (nI i)), some (.int (nI x)), some (.int (nI 0))], M1)) (φ := True) rfl trivial ?_
          refine sW_if_eq 120 d_Mo_lowest_90 (by decide) (fun c_90 => ?_) (fun c_90 => ?_)
          · skip
            simp (disch := omega) only [nI_z] at c_90
            refine sW_go b_Mo_lowest_120 (st' := ([.int (nI (H y))], [some (.ref 119), some (.int (nI p)), some (.int (nI q)), some (.int (nI (H y))), some (.int (nI i)), some (.int (nI x)), some (.int (nI 0))], M1)) (φ := True) rfl trivial ?_
            refine sW_go b_Mo_lowest_121 (st' := ([], [some (.ref 119), some (.int (nI p)), some (.int (nI q)), some (.int (nI (H y))), some (.int (nI i + nI 1)), some (.int (nI x)), some (.int (nI 0))], M1)) (φ := True) rfl trivial ?_
            refine sW_eq (st' := ([], [some (.ref 119), some (.int (nI p)), some (.int (nI q)), some (.int (nI (H y))), some (.int (nI (i + 1))), some (.int (nI x)), some (.int (nI 0))], M1)) (by simp (disch := omega) only [nI_add]) ?_
            refine sW_goto 48 d_Mo_lowest_125 (by decide) ?_
            refine sW_fg [false, false, false, false, false, true, true] ?_
            show sW G m_Mo_lowest 48 ([], [some (.ref 119), some (.int (nI p)), some (.int (nI q)), some (.int (nI (H y))), some (.int (nI (i + 1))), none, none], M1) _
            exact stay (fun w => absurd w.1 c_71)
          · skip
            exact absurd (by decide +kernel) c_90
        · skip
          simp (disch := omega) only [nI_eq] at c_71
          refine sW_go b_Mo_lowest_74 (st' := ([.int (nI x &&& nI q)], [some (.ref 119), some (.int (nI p)), some (.int (nI q)), some (.int (nI (H y))), some (.int (nI i)), some (.int (nI x)), none], M1)) (φ := True) rfl trivial ?_
          refine sW_eq (st' := ([.int (nI (x &&& q))], [some (.ref 119), some (.int (nI p)), some (.int (nI q)), some (.int (nI (H y))), some (.int (nI i)), some (.int (nI x)), none], M1)) (by simp (disch := omega) only [nx_and]) ?_
          refine sW_if_ne 85 d_Mo_lowest_78 (by decide) (fun c_78 => ?_) (fun c_78 => ?_)
          · skip
            simp (disch := omega) only [nI_z] at c_78
            refine sW_go b_Mo_lowest_85 (st' := ([.int (nI 0)], [some (.ref 119), some (.int (nI p)), some (.int (nI q)), some (.int (nI (H y))), some (.int (nI i)), some (.int (nI x)), none], M1)) (φ := True) rfl trivial ?_
            refine sW_go b_Mo_lowest_86 (st' := ([.int (nI 0)], [some (.ref 119), some (.int (nI p)), some (.int (nI q)), some (.int (nI (H y))), some (.int (nI i)), some (.int (nI x)), some (.int (nI 0))], M1)) (φ := True) rfl trivial ?_
            refine sW_if_eq 120 d_Mo_lowest_90 (by decide) (fun c_90 => ?_) (fun c_90 => ?_)
            · skip
              simp (disch := omega) only [nI_z] at c_90
              refine sW_go b_Mo_lowest_120 (st' := ([.int (nI (H y))], [some (.ref 119), some (.int (nI p)), some (.int (nI q)), some (.int (nI (H y))), some (.int (nI i)), some (.int (nI x)), some (.int (nI 0))], M1)) (φ := True) rfl trivial ?_
              refine sW_go b_Mo_lowest_121 (st' := ([], [some (.ref 119), some (.int (nI p)), some (.int (nI q)), some (.int (nI (H y))), some (.int (nI i + nI 1)), some (.int (nI x)), some (.int (nI 0))], M1)) (φ := True) rfl trivial ?_
              refine sW_eq (st' := ([], [some (.ref 119), some (.int (nI p)), some (.int (nI q)), some (.int (nI (H y))), some (.int (nI (i + 1))), some (.int (nI x)), some (.int (nI 0))], M1)) (by simp (disch := omega) only [nI_add]) ?_
              refine sW_goto 48 d_Mo_lowest_125 (by decide) ?_
              refine sW_fg [false, false, false, false, false, true, true] ?_
              show sW G m_Mo_lowest 48 ([], [some (.ref 119), some (.int (nI p)), some (.int (nI q)), some (.int (nI (H y))), some (.int (nI (i + 1))), none, none], M1) _
              exact stay (fun w => absurd w.2 c_78)
            · skip
              exact absurd (by decide +kernel) c_90
          · skip
            simp (disch := omega) only [nI_z] at c_78
            refine sW_go b_Mo_lowest_81 (st' := ([.int (nI 1)], [some (.ref 119), some (.int (nI p)), some (.int (nI q)), some (.int (nI (H y))), some (.int (nI i)), some (.int (nI x)), none], M1)) (φ := True) rfl trivial ?_
            refine sW_goto 86 d_Mo_lowest_82 (by decide) ?_
            refine sW_go b_Mo_lowest_86 (st' := ([.int (nI 1)], [some (.ref 119), some (.int (nI p)), some (.int (nI q)), some (.int (nI (H y))), some (.int (nI i)), some (.int (nI x)), some (.int (nI 1))], M1)) (φ := True) rfl trivial ?_
            refine sW_if_eq 120 d_Mo_lowest_90 (by decide) (fun c_90 => ?_) (fun c_90 => ?_)
            · skip
              exact absurd c_90 (by decide +kernel)
            · skip
              simp (disch := omega) only [nI_z] at c_90
              refine sW_go b_Mo_lowest_93 (st' := ([.int (-1000000), .int (nI (H y))], [some (.ref 119), some (.int (nI p)), some (.int (nI q)), some (.int (nI (H y))), some (.int (nI i)), some (.int (nI x)), some (.int (nI 1))], M1)) (φ := True) rfl trivial ?_
              refine sW_ic_eq 110 d_Mo_lowest_96 (by decide) (fun c_96 => ?_) (fun c_96 => ?_)
              · skip
                refine sW_go b_Mo_lowest_110 (st' := ([.int (M1 128 (nI x).toNatClampNeg)], [some (.ref 119), some (.int (nI p)), some (.int (nI q)), some (.int (nI (H y))), some (.int (nI i)), some (.int (nI x)), some (.int (nI 1))], M1)) (φ := mx_ocl LAY 119 = 10 ∧ vp_in (nI x) (mx_len LAY false 128) ∧ True) rfl ⟨oc_119, (by simp (disch := omega) only [ln_128]; exact vp_in_nI (by omega) (by decide)), trivial⟩ ?_
                refine sW_eq (st' := ([.int (nI (H x))], [some (.ref 119), some (.int (nI p)), some (.int (nI q)), some (.int (nI (H y))), some (.int (nI i)), some (.int (nI x)), some (.int (nI 1))], M1)) (by simp (disch := omega) only [e2, nI_clamp]) ?_
                refine sW_goto 121 d_Mo_lowest_117 (by decide) ?_
                refine sW_go b_Mo_lowest_121 (st' := ([], [some (.ref 119), some (.int (nI p)), some (.int (nI q)), some (.int (nI (H x))), some (.int (nI i + nI 1)), some (.int (nI x)), some (.int (nI 1))], M1)) (φ := True) rfl trivial ?_
                refine sW_eq (st' := ([], [some (.ref 119), some (.int (nI p)), some (.int (nI q)), some (.int (nI (H x))), some (.int (nI (i + 1))), some (.int (nI x)), some (.int (nI 1))], M1)) (by simp (disch := omega) only [nI_add]) ?_
                refine sW_goto 48 d_Mo_lowest_125 (by decide) ?_
                exact absurd c_96 ((kn (H y)).elim id (fun w => absurd w (by omega)))
              · skip
                refine sW_go b_Mo_lowest_99 (st' := ([.int (nI (H y)), .int (M1 128 (nI x).toNatClampNeg)], [some (.ref 119), some (.int (nI p)), some (.int (nI q)), some (.int (nI (H y))), some (.int (nI i)), some (.int (nI x)), some (.int (nI 1))], M1)) (φ := mx_ocl LAY 119 = 10 ∧ vp_in (nI x) (mx_len LAY false 128) ∧ True) rfl ⟨oc_119, (by simp (disch := omega) only [ln_128]; exact vp_in_nI (by omega) (by decide)), trivial⟩ ?_
                refine sW_eq (st' := ([.int (nI (H y)), .int (nI (H x))], [some (.ref 119), some (.int (nI p)), some (.int (nI q)), some (.int (nI (H y))), some (.int (nI i)), some (.int (nI x)), some (.int (nI 1))], M1)) (by simp (disch := omega) only [e2, nI_clamp]) ?_
                refine sW_ic_ge 120 d_Mo_lowest_107 (by decide) (fun c_107 => ?_) (fun c_107 => ?_)
                · skip
                  simp (disch := omega) only [nI_leI] at c_107
                  refine sW_go b_Mo_lowest_120 (st' := ([.int (nI (H y))], [some (.ref 119), some (.int (nI p)), some (.int (nI q)), some (.int (nI (H y))), some (.int (nI i)), some (.int (nI x)), some (.int (nI 1))], M1)) (φ := True) rfl trivial ?_
                  refine sW_go b_Mo_lowest_121 (st' := ([], [some (.ref 119), some (.int (nI p)), some (.int (nI q)), some (.int (nI (H y))), some (.int (nI i + nI 1)), some (.int (nI x)), some (.int (nI 1))], M1)) (φ := True) rfl trivial ?_
                  refine sW_eq (st' := ([], [some (.ref 119), some (.int (nI p)), some (.int (nI q)), some (.int (nI (H y))), some (.int (nI (i + 1))), some (.int (nI x)), some (.int (nI 1))], M1)) (by simp (disch := omega) only [nI_add]) ?_
                  refine sW_goto 48 d_Mo_lowest_125 (by decide) ?_
                  refine sW_fg [false, false, false, false, false, true, true] ?_
                  show sW G m_Mo_lowest 48 ([], [some (.ref 119), some (.int (nI p)), some (.int (nI q)), some (.int (nI (H y))), some (.int (nI (i + 1))), none, none], M1) _
                  exact stay (fun _ => c_107)
                · skip
                  simp (disch := omega) only [nI_leI] at c_107
                  refine sW_go b_Mo_lowest_110 (st' := ([.int (M1 128 (nI x).toNatClampNeg)], [some (.ref 119), some (.int (nI p)), some (.int (nI q)), some (.int (nI (H y))), some (.int (nI i)), some (.int (nI x)), some (.int (nI 1))], M1)) (φ := mx_ocl LAY 119 = 10 ∧ vp_in (nI x) (mx_len LAY false 128) ∧ True) rfl ⟨oc_119, (by simp (disch := omega) only [ln_128]; exact vp_in_nI (by omega) (by decide)), trivial⟩ ?_
                  refine sW_eq (st' := ([.int (nI (H x))], [some (.ref 119), some (.int (nI p)), some (.int (nI q)), some (.int (nI (H y))), some (.int (nI i)), some (.int (nI x)), some (.int (nI 1))], M1)) (by simp (disch := omega) only [e2, nI_clamp]) ?_
                  refine sW_goto 121 d_Mo_lowest_117 (by decide) ?_
                  refine sW_go b_Mo_lowest_121 (st' := ([], [some (.ref 119), some (.int (nI p)), some (.int (nI q)), some (.int (nI (H x))), some (.int (nI i + nI 1)), some (.int (nI x)), some (.int (nI 1))], M1)) (φ := True) rfl trivial ?_
                  refine sW_eq (st' := ([], [some (.ref 119), some (.int (nI p)), some (.int (nI q)), some (.int (nI (H x))), some (.int (nI (i + 1))), some (.int (nI x)), some (.int (nI 1))], M1)) (by simp (disch := omega) only [nI_add]) ?_
                  refine sW_goto 48 d_Mo_lowest_125 (by decide) ?_
                  refine sW_fg [false, false, false, false, false, true, true] ?_
                  show sW G m_Mo_lowest 48 ([], [some (.ref 119), some (.int (nI p)), some (.int (nI q)), some (.int (nI (H x))), some (.int (nI (i + 1))), none, none], M1) _
                  refine ih (i + 1, nI (H x)) (by dsimp only; omega) (by dsimp only; omega) (Or.inr ⟨i, by dsimp only; omega, by dsimp only; rw [hxx], by rw [hxx]; exact ⟨c_71, c_78⟩, fun j hj hf => ?_⟩)
                  dsimp only at hj
                  rw [hxx]
                  by_cases hji : j = i
                  · rw [hji, hxx]; exact Nat.le_refl _
                  · have := hmin j (lem hj hji) hf
                    omega
  · obtain rfl : i = (gat H).length := by omega
    have hlow : LowR (gH σ) p q lv := by
      rcases hinv with ⟨rfl, hno⟩ | ⟨i0, hi0, rfl, hfit, hmin⟩
      · refine Or.inl ⟨rfl, fun s hs w => ?_⟩
        obtain ⟨j, j1, j2⟩ := mem_at ((hM.mem hw s).mpr hs)
        exact hno j j1 (by rw [j2]; exact w)
      · have hy := gat_at hi0
        obtain ⟨y1, y2⟩ := (c4 _ hy.1).2.1 hy.2
        refine Or.inr ⟨_, rfl, ⟨_, y1, hfit⟩, fun j s hj hk w => ?_⟩
        obtain ⟨i', j1, j2⟩ := mem_at ((hM.mem hw s).mpr ⟨j, hk⟩)
        have h3 := hmin i' j1 (by rw [j2]; exact w)
        rw [j2] at h3
        have hs2 := mem_gat.mp ((hM.mem hw s).mpr ⟨j, hk⟩)
        exact ((c4 s hs2.1).2.1 hs2.2).2 j (by omega) hk
    refine sW_go b_Mo_lowest_48 (st' := ([.int (M1 119 22), .int (nI (gat H).length)], [some (.ref 119), some (.int (nI p)), some (.int (nI q)), some (.int lv), some (.int (nI (gat H).length)), none, none], M1)) (φ := mx_ocl LAY 119 = 10 ∧ True) rfl ⟨oc_119, trivial⟩ ?_
    refine sW_eq (st' := ([.int (nI (gat H).length), .int (nI (gat H).length)], [some (.ref 119), some (.int (nI p)), some (.int (nI q)), some (.int lv), some (.int (nI (gat H).length)), none, none], M1)) (by simp (disch := omega) only [e22]) ?_
    refine sW_ic_ge 128 d_Mo_lowest_54 (by decide) (fun c_54 => ?_) (fun c_54 => ?_)
    · skip
      simp (disch := omega) only [nI_leI] at c_54
      refine sW_go b_Mo_lowest_128 (st' := ([.int lv], [some (.ref 119), some (.int (nI p)), some (.int (nI q)), some (.int lv), some (.int (nI (gat H).length)), none, none], M1)) (φ := True) rfl trivial ?_
      refine sW_retI d_Mo_lowest_129 rfl (vp_nar_int _) ?_
      exact ⟨by rw [lowV_eq hlow], f1, h1⟩
    · skip
      simp (disch := omega) only [nI_leI] at c_54
      omega
theorem mo_lowest (G : mx_G) {M : mx_M} {σ : Sg} (h : MInv M σ) (hg : GOk σ) (p q : Int32) : sOk G m_Mo_lowest [.ref 119, .int p, .int q] M (MOk M (sp_lowest σ p q)) := by
  obtain ⟨M0, e0, h0, f0, g0⟩ := h.th
  have hR : RowAt M0 123 0 (gH σ) := h0.2.2.1.1
  have h8 := hg.1.1.1
  have hp8 := p8 h8
  by_cases hc : vp_in p (2 ^ (gH σ).1) ∧ vp_in q (2 ^ (gH σ).1)
  · obtain ⟨va, vb⟩ := id hc
    obtain ⟨x, hx, rfl⟩ := vp_in_of va (by omega)
    obtain ⟨y, hy, rfl⟩ := vp_in_of vb (by omega)
    refine sOk_of ⟨by decide +kernel, by decide +kernel, Nat.le_of_ble_eq_true rfl⟩ ?_
    show sW G m_Mo_lowest 0 ([], [some (.ref 119), some (.int (nI x)), some (.int (nI y)), none, none, none, none], M) _
    refine sW_go b_Mo_lowest_0 (st' := ([.ref 119], [some (.ref 119), some (.int (nI x)), some (.int (nI y)), none, none, none, none], mx_wr M 119 0 (nI 0))) (φ := mx_ocl LAY 119 = 10 ∧ True) rfl ⟨oc_119, trivial⟩ ?_
    refine sW_eq (st' := ([.ref 119], [some (.ref 119), some (.int (nI x)), some (.int (nI y)), none, none, none, none], M0)) (by simp (disch := omega) only [e0]) ?_
    refine sW_callV 10 [] [] d_Mo_lowest_6 c_Mo_lowest_6 ⟨rfl, rfl, rfl, Nat.le_of_ble_eq_true rfl, rfl, rfl⟩ oc_119 (k_isThere G hR h8) ?_
    rintro _ M₁ ⟨rfl, h₁⟩
    rw [h₁]
    show sW G m_Mo_lowest 9 ([.int (tf ((gH σ).1 ≠ 0))], [some (.ref 119), some (.int (nI x)), some (.int (nI y)), none, none, none, none], M0) _
    refine sW_if_ne 15 d_Mo_lowest_9 (by decide) (fun c_9 => ?_) (fun c_9 => ?_)
    · skip
      replace c_9 := tf_nz.mp c_9
      refine sW_go b_Mo_lowest_15 (st' := ([.int (nI x), .ref 119], [some (.ref 119), some (.int (nI x)), some (.int (nI y)), none, none, none, none], M0)) (φ := True) rfl trivial ?_
      refine sW_callV 10 [.int (nI x)] [] d_Mo_lowest_17 c_Mo_lowest_17 ⟨rfl, rfl, rfl, Nat.le_of_ble_eq_true rfl, rfl, rfl⟩ oc_119 (k_isSet G hR h8 (nI x)) ?_
      rintro _ M₁ ⟨rfl, h₁⟩
      rw [h₁]
      show sW G m_Mo_lowest 20 ([.int (tf (vp_in (nI x) (2 ^ (gH σ).1)))], [some (.ref 119), some (.int (nI x)), some (.int (nI y)), none, none, none, none], M0) _
      refine sW_if_eq 31 d_Mo_lowest_20 (by decide) (fun c_20 => ?_) (fun c_20 => ?_)
      · skip
        replace c_20 := tf_z.mp c_20
        refine sW_go b_Mo_lowest_31 (st' := ([.int (-1000001)], [some (.ref 119), some (.int (nI x)), some (.int (nI y)), none, none, none, none], M0)) (φ := True) rfl trivial ?_
        refine sW_retI d_Mo_lowest_33 rfl (vp_nar_int _) ?_
        exact absurd va c_20
      · skip
        replace c_20 := tf_nz.mp c_20
        refine sW_go b_Mo_lowest_23 (st' := ([.int (nI y), .ref 119], [some (.ref 119), some (.int (nI x)), some (.int (nI y)), none, none, none, none], M0)) (φ := True) rfl trivial ?_
        refine sW_callV 10 [.int (nI y)] [] d_Mo_lowest_25 c_Mo_lowest_25 ⟨rfl, rfl, rfl, Nat.le_of_ble_eq_true rfl, rfl, rfl⟩ oc_119 (k_isSet G hR h8 (nI y)) ?_
        rintro _ M₁ ⟨rfl, h₁⟩
        rw [h₁]
        show sW G m_Mo_lowest 28 ([.int (tf (vp_in (nI y) (2 ^ (gH σ).1)))], [some (.ref 119), some (.int (nI x)), some (.int (nI y)), none, none, none, none], M0) _
        refine sW_if_ne 34 d_Mo_lowest_28 (by decide) (fun c_28 => ?_) (fun c_28 => ?_)
        · skip
          replace c_28 := tf_nz.mp c_28
          refine sW_go b_Mo_lowest_34 (st' := ([.ref 123, .ref 119], [some (.ref 119), some (.int (nI x)), some (.int (nI y)), none, none, none, none], M0)) (φ := mx_ocl LAY 119 = 10 ∧ True) rfl ⟨oc_119, trivial⟩ ?_
          refine sW_callV 10 [.ref 123] [] d_Mo_lowest_39 c_Mo_lowest_39 ⟨rfl, rfl, rfl, Nat.le_of_ble_eq_true rfl, rfl, rfl⟩ oc_119 (k_rkH G h0 hg) ?_
          rintro _ M1 ⟨rfl, f1, h1, r1, q1⟩
          show sW G m_Mo_lowest 42 ([], [some (.ref 119), some (.int (nI x)), some (.int (nI y)), none, none, none, none], M1) _
          refine sW_go b_Mo_lowest_42 (st' := ([], [some (.ref 119), some (.int (nI x)), some (.int (nI y)), some (.int (-1000000)), some (.int (nI 0)), none, none], M1)) (φ := True) rfl trivial ?_
          obtain ⟨n, H, S, hM⟩ := q1 c_9
          have e : sp_lowest σ (nI x) (nI y) = (lowV (gH σ) x y, σ) := by
            unfold sp_lowest; rw [if_neg c_9, cif_t hc, show tn (nI x) = x from nI_clamp (by omega), show tn (nI y) = y from nI_clamp (by omega)]
          rw [e]
          exact k_low48 G hg.1.1 hM (by omega) (by omega) (f0.tr f1) h1
        · skip
          replace c_28 := tf_z.mp c_28
          refine sW_go b_Mo_lowest_31 (st' := ([.int (-1000001)], [some (.ref 119), some (.int (nI x)), some (.int (nI y)), none, none, none, none], M0)) (φ := True) rfl trivial ?_
          refine sW_retI d_Mo_lowest_33 rfl (vp_nar_int _) ?_
          exact absurd vb c_28
    · skip
      replace c_9 := tf_z.mp c_9
      refine sW_go b_Mo_lowest_12 (st' := ([.int (-1000002)], [some (.ref 119), some (.int (nI x)), some (.int (nI y)), none, none, none, none], M0)) (φ := True) rfl trivial ?_
      refine sW_retI d_Mo_lowest_14 rfl (vp_nar_int _) ?_
      have e : sp_lowest σ (nI x) (nI y) = ((-1000002), σ) := by unfold sp_lowest; rw [if_pos (Classical.not_not.mp c_9)]
      rw [e]
      exact ⟨rfl, f0, h0⟩
  · skip
    refine sOk_of ⟨by decide +kernel, by decide +kernel, Nat.le_of_ble_eq_true rfl⟩ ?_
    show sW G m_Mo_lowest 0 ([], [some (.ref 119), some (.int p), some (.int q), none, none, none, none], M) _
    refine sW_go b_Mo_lowest_0 (st' := ([.ref 119], [some (.ref 119), some (.int p), some (.int q), none, none, none, none], mx_wr M 119 0 (nI 0))) (φ := mx_ocl LAY 119 = 10 ∧ True) rfl ⟨oc_119, trivial⟩ ?_
    refine sW_eq (st' := ([.ref 119], [some (.ref 119), some (.int p), some (.int q), none, none, none, none], M0)) (by simp (disch := omega) only [e0]) ?_
    refine sW_callV 10 [] [] d_Mo_lowest_6 c_Mo_lowest_6 ⟨rfl, rfl, rfl, Nat.le_of_ble_eq_true rfl, rfl, rfl⟩ oc_119 (k_isThere G hR h8) ?_
    rintro _ M₁ ⟨rfl, h₁⟩
    rw [h₁]
    show sW G m_Mo_lowest 9 ([.int (tf ((gH σ).1 ≠ 0))], [some (.ref 119), some (.int p), some (.int q), none, none, none, none], M0) _
    refine sW_if_ne 15 d_Mo_lowest_9 (by decide) (fun c_9 => ?_) (fun c_9 => ?_)
    · skip
      replace c_9 := tf_nz.mp c_9
      refine sW_go b_Mo_lowest_15 (st' := ([.int p, .ref 119], [some (.ref 119), some (.int p), some (.int q), none, none, none, none], M0)) (φ := True) rfl trivial ?_
      refine sW_callV 10 [.int p] [] d_Mo_lowest_17 c_Mo_lowest_17 ⟨rfl, rfl, rfl, Nat.le_of_ble_eq_true rfl, rfl, rfl⟩ oc_119 (k_isSet G hR h8 p) ?_
      rintro _ M₁ ⟨rfl, h₁⟩
      rw [h₁]
      show sW G m_Mo_lowest 20 ([.int (tf (vp_in p (2 ^ (gH σ).1)))], [some (.ref 119), some (.int p), some (.int q), none, none, none, none], M0) _
      refine sW_if_eq 31 d_Mo_lowest_20 (by decide) (fun c_20 => ?_) (fun c_20 => ?_)
      · skip
        replace c_20 := tf_z.mp c_20
        refine sW_go b_Mo_lowest_31 (st' := ([.int (-1000001)], [some (.ref 119), some (.int p), some (.int q), none, none, none, none], M0)) (φ := True) rfl trivial ?_
        refine sW_retI d_Mo_lowest_33 rfl (vp_nar_int _) ?_
        have e : sp_lowest σ p q = ((-1000001), σ) := by unfold sp_lowest; rw [if_neg c_9, cif_f hc]
        rw [e]
        exact ⟨rfl, f0, h0⟩
      · skip
        replace c_20 := tf_nz.mp c_20
        refine sW_go b_Mo_lowest_23 (st' := ([.int q, .ref 119], [some (.ref 119), some (.int p), some (.int q), none, none, none, none], M0)) (φ := True) rfl trivial ?_
        refine sW_callV 10 [.int q] [] d_Mo_lowest_25 c_Mo_lowest_25 ⟨rfl, rfl, rfl, Nat.le_of_ble_eq_true rfl, rfl, rfl⟩ oc_119 (k_isSet G hR h8 q) ?_
        rintro _ M₁ ⟨rfl, h₁⟩
        rw [h₁]
        show sW G m_Mo_lowest 28 ([.int (tf (vp_in q (2 ^ (gH σ).1)))], [some (.ref 119), some (.int p), some (.int q), none, none, none, none], M0) _
        refine sW_if_ne 34 d_Mo_lowest_28 (by decide) (fun c_28 => ?_) (fun c_28 => ?_)
        · skip
          replace c_28 := tf_nz.mp c_28
          exact absurd ⟨c_20, c_28⟩ hc
        · skip
          replace c_28 := tf_z.mp c_28
          refine sW_go b_Mo_lowest_31 (st' := ([.int (-1000001)], [some (.ref 119), some (.int p), some (.int q), none, none, none, none], M0)) (φ := True) rfl trivial ?_
          refine sW_retI d_Mo_lowest_33 rfl (vp_nar_int _) ?_
          have e : sp_lowest σ p q = ((-1000001), σ) := by unfold sp_lowest; rw [if_neg c_9, cif_f hc]
          rw [e]
          exact ⟨rfl, f0, h0⟩
    · skip
      replace c_9 := tf_z.mp c_9
      refine sW_go b_Mo_lowest_12 (st' := ([.int (-1000002)], [some (.ref 119), some (.int p), some (.int q), none, none, none, none], M0)) (φ := True) rfl trivial ?_
      refine sW_retI d_Mo_lowest_14 rfl (vp_nar_int _) ?_
      have e : sp_lowest σ p q = ((-1000002), σ) := by unfold sp_lowest; rw [if_pos (Classical.not_not.mp c_9)]
      rw [e]
      exact ⟨rfl, f0, h0⟩
theorem mo_count (G : mx_G) {M : mx_M} {σ : Sg} (h : MInv M σ) (hg : GOk σ) (w : Int32) : sOk G m_Mo_count [.ref 119, .int w] M (MOk M (sp_count σ w)) := by
  obtain ⟨M0, e0, h0, f0, g0⟩ := h.th
  have hR : RowAt M0 123 0 (gH σ) := h0.2.2.1.1
  have h8 := hg.1.1.1
  have z1 := hR.n
  have z2 := hR.c
  have z3 : M0 119 9 = nI (gA σ).length := h0.2.2.1.2.1
  have z4 : M0 119 11 = nI (gn σ) := h0.2.1.1
  refine sOk_of ⟨by decide +kernel, by decide +kernel, Nat.le_of_ble_eq_true rfl⟩ ?_
  show sW G m_Mo_count 0 ([], [some (.ref 119), some (.int w), none, none], M) _
  refine sW_go b_Mo_count_0 (st' := ([.int w], [some (.ref 119), some (.int w), some (.int (nI 0)), none], mx_wr M 119 0 (nI 0))) (φ := mx_ocl LAY 119 = 10 ∧ True) rfl ⟨oc_119, trivial⟩ ?_
  refine sW_eq (st' := ([.int w], [some (.ref 119), some (.int w), some (.int (nI 0)), none], M0)) (by simp (disch := omega) only [e0]) ?_
  refine sW_tsw 0 125 [48, 81, 88, 95, 115, 120] d_Mo_count_8 (by decide) (by decide) (fun c_8 => ?_) ⟨fun c_8 => ?_, fun c_8 => ?_, fun c_8 => ?_, fun c_8 => ?_, fun c_8 => ?_, fun c_8 => ?_, trivial⟩
  · skip
    refine sW_go b_Mo_count_125 (st' := ([.int (-1000001)], [some (.ref 119), some (.int w), some (.int (nI 0)), none], M0)) (φ := True) rfl trivial ?_
    refine sW_retI d_Mo_count_127 rfl (vp_nar_int _) ?_
    have n0 : ∀ k, k < 6 → ¬ w = nI k := fun k hk q => by rw [q, nI_toInt (by omega)] at c_8; omega
    unfold sp_count
    rw [cif_f (n0 0 (by decide)), cif_f (n0 1 (by decide)), cif_f (n0 2 (by decide)), cif_f (n0 3 (by decide)), cif_f (n0 4 (by decide)), cif_f (n0 5 (by decide))]
    exact ⟨rfl, f0, h0⟩
  · skip
    refine sW_go b_Mo_count_48 (st' := ([], [some (.ref 119), some (.int w), some (.int (nI 0)), some (.int (nI 0))], M0)) (φ := True) rfl trivial ?_
    have e : sp_count σ w = (nI (rwCnt (gR σ) 8), σ) := by unfold sp_count; rw [cif_t c_8]
    rw [e]
    refine mx_ind (α := Nat) (fun k => 8 - k) (fun k => k ≤ 8 → sW G m_Mo_count 50 ([], [some (.ref 119), some (.int w), some (.int (nI (rwCnt (gR σ) k))), some (.int (nI k))], M0) _) ?_ 0 (Nat.zero_le _)
    intro k ih hk
    have hle := rwCnt_le (gR σ) k
    by_cases hkn : k < 8
    · obtain ⟨a1, a2, a3, a4, a5⟩ := h0.1 k hkn
      have hln := lane_neg a2
      have ec : rwCnt (gR σ) (k + 1) = rwCnt (gR σ) k + cif ((gR σ).1 k = -1) 0 1 := rfl
      refine sW_go b_Mo_count_50 (st' := ([.int (nI 8), .int (nI k)], [some (.ref 119), some (.int w), some (.int (nI (rwCnt (gR σ) k))), some (.int (nI k))], M0)) (φ := True) rfl trivial ?_
      refine sW_ic_ge 79 d_Mo_count_53 (by decide) (fun c_53 => ?_) (fun c_53 => ?_)
      · skip
        simp (disch := omega) only [nI_leI] at c_53
        omega
      · skip
        simp (disch := omega) only [nI_leI] at c_53
        refine sW_go b_Mo_count_56 (st' := ([.int (M0 120 (nI k).toNatClampNeg), .int (nI (rwCnt (gR σ) k))], [some (.ref 119), some (.int w), some (.int (nI (rwCnt (gR σ) k))), some (.int (nI k))], M0)) (φ := mx_ocl LAY 119 = 10 ∧ vp_in (nI k) (mx_len LAY false 120) ∧ True) rfl ⟨oc_119, (by simp (disch := omega) only [ln_120]; exact vp_in_nI (by omega) (by decide)), trivial⟩ ?_
        refine sW_eq (st' := ([.int ((gR σ).1 k), .int (nI (rwCnt (gR σ) k))], [some (.ref 119), some (.int w), some (.int (nI (rwCnt (gR σ) k))), some (.int (nI k))], M0)) (by simp (disch := omega) only [a1, nI_clamp]) ?_
        refine sW_if_lt 70 d_Mo_count_63 (by decide) (fun c_63 => ?_) (fun c_63 => ?_)
        · skip
          refine sW_go b_Mo_count_70 (st' := ([.int (nI 0), .int (nI (rwCnt (gR σ) k))], [some (.ref 119), some (.int w), some (.int (nI (rwCnt (gR σ) k))), some (.int (nI k))], M0)) (φ := True) rfl trivial ?_
          refine sW_go b_Mo_count_71 (st' := ([], [some (.ref 119), some (.int w), some (.int (nI (rwCnt (gR σ) k) + nI 0)), some (.int (nI k + nI 1))], M0)) (φ := True) rfl trivial ?_
          refine sW_eq (st' := ([], [some (.ref 119), some (.int w), some (.int (nI (rwCnt (gR σ) k))), some (.int (nI (k + 1)))], M0)) (by simp (disch := omega) only [Nat.add_zero, nI_add]) ?_
          refine sW_goto 50 d_Mo_count_76 (by decide) ?_
          have := ih (k + 1) (by omega) (by omega)
          rw [ec, cif_t (hln.mp c_63)] at this
          exact this
        · skip
          refine sW_go b_Mo_count_66 (st' := ([.int (nI 1), .int (nI (rwCnt (gR σ) k))], [some (.ref 119), some (.int w), some (.int (nI (rwCnt (gR σ) k))), some (.int (nI k))], M0)) (φ := True) rfl trivial ?_
          refine sW_goto 71 d_Mo_count_67 (by decide) ?_
          refine sW_go b_Mo_count_71 (st' := ([], [some (.ref 119), some (.int w), some (.int (nI (rwCnt (gR σ) k) + nI 1)), some (.int (nI k + nI 1))], M0)) (φ := True) rfl trivial ?_
          refine sW_eq (st' := ([], [some (.ref 119), some (.int w), some (.int (nI (rwCnt (gR σ) k + 1))), some (.int (nI (k + 1)))], M0)) (by simp (disch := omega) only [nI_add]) ?_
          refine sW_goto 50 d_Mo_count_76 (by decide) ?_
          have := ih (k + 1) (by omega) (by omega)
          rw [ec, cif_f (fun q => c_63 (hln.mpr q))] at this
          exact this
    · obtain rfl : k = 8 := by omega
      refine sW_go b_Mo_count_50 (st' := ([.int (nI 8), .int (nI 8)], [some (.ref 119), some (.int w), some (.int (nI (rwCnt (gR σ) 8))), some (.int (nI 8))], M0)) (φ := True) rfl trivial ?_
      refine sW_ic_ge 79 d_Mo_count_53 (by decide) (fun c_53 => ?_) (fun c_53 => ?_)
      · skip
        simp (disch := omega) only [nI_leI] at c_53
        refine sW_go b_Mo_count_79 (st' := ([.int (nI (rwCnt (gR σ) 8))], [some (.ref 119), some (.int w), some (.int (nI (rwCnt (gR σ) 8))), some (.int (nI 8))], M0)) (φ := True) rfl trivial ?_
        refine sW_retI d_Mo_count_80 rfl (vp_nar_int _) ?_
        exact ⟨rfl, f0, h0⟩
      · skip
        exact absurd (by decide +kernel) c_53
  · skip
    refine sW_go b_Mo_count_81 (st' := ([.int (M0 123 (nI 0).toNatClampNeg)], [some (.ref 119), some (.int w), some (.int (nI 0)), none], M0)) (φ := mx_ocl LAY 119 = 10 ∧ vp_in (nI 0) (mx_len LAY false 123) ∧ True) rfl ⟨oc_119, (by simp (disch := omega) only [ln_123]; exact vp_in_nI (by omega) (by decide)), trivial⟩ ?_
    refine sW_eq (st' := ([.int (nI (gH σ).1)], [some (.ref 119), some (.int w), some (.int (nI 0)), none], M0)) (by simp (disch := omega) only [nI_clamp, z1]) ?_
    refine sW_retI d_Mo_count_87 rfl (vp_nar_int _) ?_
    subst c_8
    unfold sp_count
    rw [cif_f (by decide), cif_t rfl]
    exact ⟨rfl, f0, h0⟩
  · skip
    refine sW_go b_Mo_count_88 (st' := ([.int (M0 123 (nI 1).toNatClampNeg)], [some (.ref 119), some (.int w), some (.int (nI 0)), none], M0)) (φ := mx_ocl LAY 119 = 10 ∧ vp_in (nI 1) (mx_len LAY false 123) ∧ True) rfl ⟨oc_119, (by simp (disch := omega) only [ln_123]; exact vp_in_nI (by omega) (by decide)), trivial⟩ ?_
    refine sW_eq (st' := ([.int (nI (gH σ).2.1)], [some (.ref 119), some (.int w), some (.int (nI 0)), none], M0)) (by simp (disch := omega) only [nI_clamp, z2]) ?_
    refine sW_retI d_Mo_count_94 rfl (vp_nar_int _) ?_
    subst c_8
    unfold sp_count
    rw [cif_f (by decide), cif_f (by decide), cif_t rfl]
    exact ⟨rfl, f0, h0⟩
  · skip
    refine sW_go b_Mo_count_95 (st' := ([.ref 123, .ref 119], [some (.ref 119), some (.int w), some (.int (nI 0)), none], M0)) (φ := mx_ocl LAY 119 = 10 ∧ True) rfl ⟨oc_119, trivial⟩ ?_
    refine sW_callV 10 [.ref 123] [] d_Mo_count_100 c_Mo_count_100 ⟨rfl, rfl, rfl, Nat.le_of_ble_eq_true rfl, rfl, rfl⟩ oc_119 (k_rkH G h0 hg) ?_
    rintro _ M1 ⟨rfl, f1, h1, r1, q1⟩
    show sW G m_Mo_count 103 ([], [some (.ref 119), some (.int w), some (.int (nI 0)), none], M1) _
    refine sW_go b_Mo_count_103 (st' := ([.ref 123, .ref 119], [some (.ref 119), some (.int w), some (.int (nI 0)), none], M1)) (φ := mx_ocl LAY 119 = 10 ∧ True) rfl ⟨oc_119, trivial⟩ ?_
    refine sW_callV 10 [.ref 123] [] d_Mo_count_108 c_Mo_count_108 ⟨rfl, rfl, rfl, Nat.le_of_ble_eq_true rfl, rfl, rfl⟩ oc_119 (k_emptySet G ln_123 r1 hg.1.1 q1) ?_
    rintro _ M₁ ⟨rfl, h₁⟩
    rw [h₁]
    show sW G m_Mo_count 111 ([.int (nI (empM (gH σ)))], [some (.ref 119), some (.int w), some (.int (nI 0)), none], M1) _
    refine sW_callS [.int (nI (empM (gH σ)))] [] d_Mo_count_111 c_Mo_count_111 ⟨rfl, rfl, Nat.le_of_ble_eq_true rfl, rfl, rfl⟩ (k_bitsM G (mk8_lt _)) ?_
    rintro _ M₁ ⟨rfl, h₁⟩
    rw [h₁]
    show sW G m_Mo_count 114 ([.int (nI (pop (empM (gH σ))))], [some (.ref 119), some (.int w), some (.int (nI 0)), none], M1) _
    refine sW_retI d_Mo_count_114 rfl (vp_nar_int _) ?_
    subst c_8
    unfold sp_count
    rw [cif_f (by decide), cif_f (by decide), cif_f (by decide), cif_t rfl]
    exact ⟨rfl, f0.tr f1, h1⟩
  · skip
    refine sW_go b_Mo_count_115 (st' := ([.int (M0 119 9)], [some (.ref 119), some (.int w), some (.int (nI 0)), none], M0)) (φ := mx_ocl LAY 119 = 10 ∧ True) rfl ⟨oc_119, trivial⟩ ?_
    refine sW_eq (st' := ([.int (nI (gA σ).length)], [some (.ref 119), some (.int w), some (.int (nI 0)), none], M0)) (by simp (disch := omega) only [z3]) ?_
    refine sW_retI d_Mo_count_119 rfl (vp_nar_int _) ?_
    subst c_8
    unfold sp_count
    rw [cif_f (by decide), cif_f (by decide), cif_f (by decide), cif_f (by decide), cif_t rfl]
    exact ⟨rfl, f0, h0⟩
  · skip
    refine sW_go b_Mo_count_120 (st' := ([.int (M0 119 11)], [some (.ref 119), some (.int w), some (.int (nI 0)), none], M0)) (φ := mx_ocl LAY 119 = 10 ∧ True) rfl ⟨oc_119, trivial⟩ ?_
    refine sW_eq (st' := ([.int (nI (gn σ))], [some (.ref 119), some (.int w), some (.int (nI 0)), none], M0)) (by simp (disch := omega) only [z4]) ?_
    refine sW_retI d_Mo_count_124 rfl (vp_nar_int _) ?_
    subst c_8
    unfold sp_count
    rw [cif_f (by decide), cif_f (by decide), cif_f (by decide), cif_f (by decide), cif_f (by decide), cif_t rfl]
    exact ⟨rfl, f0, h0⟩

