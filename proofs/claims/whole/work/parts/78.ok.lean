/-! ===== the state stays well ===== -/
theorem GOk.ws {σ : Sg} (h : GOk σ) {k : Nat} (hk : k ≤ 5) : GOk (ws σ k) := ⟨h.1, h.2.1, h.2.2.1, h.2.2.2.1, h.2.2.2.2.1, hk, h.2.2.2.2.2.2⟩
theorem GOk.wR {σ : Sg} (h : GOk σ) (R : Rw) : GOk (wR σ R) := h
theorem GOk.wTp {σ : Sg} (h : GOk σ) {x : (Nat → Nat) × Nat × Nat} (hf : x.2.2 ≤ 4) : GOk (wTp σ x) := ⟨h.1, h.2.1, h.2.2.1, h.2.2.2.1, hf, h.2.2.2.2.2.1, h.2.2.2.2.2.2⟩
theorem GOk.wT {σ : Sg} (h : GOk σ) {T : List Nat} (hT : T.length ≤ 16) : GOk (wT σ T) := ⟨h.1, h.2.1, h.2.2.1, h.2.2.2.1, h.2.2.2.2.1, h.2.2.2.2.2.1, hT⟩
theorem GOk.wI {σ : Sg} (h : GOk σ) {x : Hs × Hs} (h1 : WHs x.1) (h2 : WHs x.2) : GOk (wI σ x) := ⟨h.1, h1, h2, h.2.2.2.1, h.2.2.2.2.1, h.2.2.2.2.2.1, h.2.2.2.2.2.2⟩
theorem GOk.wH {σ : Sg} (h : GOk σ) {x : Hs × List Hs} (h1 : WHs x.1) (h2 : ∀ H, H ∈ x.2 → H.1 = x.1.1 ∧ H.2.1 = x.1.2.1 ∧ WHs H) : GOk (wH σ x) := ⟨h1, h.2.1, h.2.2.1, h2, h.2.2.2.2.1, h.2.2.2.2.2.1, h.2.2.2.2.2.2⟩
theorem ok_row {σ : Sg} (h : GOk σ) (r l n : Int32) : GOk (sp_row σ r l n).2 := by
  unfold sp_row cif
  split
  · split
    · exact h.ws (by decide)
    · exact (h.ws (by decide)).wR _
  · exact h
theorem ok_set {σ : Sg} (h : GOk σ) (r i v : Int32) : GOk (sp_set σ r i v).2 := by
  have hl := fndN_le (gR σ) (tn r) i (nI 1)
  unfold sp_set cif
  split
  · split
    · exact (h.ws (by decide)).wR _
    · exact h.ws (by omega)
  · exact h
theorem ok_copy {σ : Sg} (h : GOk σ) (a i b j n : Int32) : GOk (sp_copy σ a i b j n).2 := by
  have hl := fndM_le (gR σ) (tn a) (tn b) i j n
  unfold sp_copy cif
  split
  · split
    · exact (h.ws (by decide)).wR _
    · exact h.ws (by omega)
  · exact h
theorem ok_drop {σ : Sg} (h : GOk σ) (r : Int32) : GOk (sp_drop σ r).2 := by
  unfold sp_drop cif
  split
  · split
    · exact h.ws (by decide)
    · exact (h.ws (by decide)).wR _
  · exact h
theorem ok_feed {σ : Sg} (h : GOk σ) (b : Int32) : GOk (sp_feed σ b).2 := by
  unfold sp_feed cif
  split
  · split
    · exact h.wTp h.2.2.2.2.1
    · exact h
  · exact h
theorem ok_house {σ : Sg} (h : GOk σ) : GOk (sp_house σ).2 := by
  have hp := pHs_sp (gB σ) (gn σ)
  unfold sp_house
  match hq : pHs (gB σ) (gn σ) with
  | .error e => exact h.wTp (hp.1 e hq)
  | .ok hs => exact (h.wTp (x := (gB σ, 0, gf σ)) h.2.2.2.2.1).wH (x := (hs, [])) (hp.2 hs hq).1 (fun H hH => absurd hH (by simp))
theorem ok_as {σ : Sg} (h : GOk σ) (t w : Int32) : GOk (sp_as σ t w).2 := by
  unfold sp_as cif
  split
  · split
    · exact h.ws (by decide)
    · exact h.ws (by decide)
  · exact h
theorem ok_ask {σ : Sg} (h : GOk σ) (t w : Int32) : GOk (sp_ask σ t w).2 := by
  have h1 := szT_le (kindN (Sf (gH σ) (tn t)))
  have h2 := mkT_le (kindN (Sf (gH σ) (tn t)))
  unfold sp_ask cif
  split
  · split
    · exact h.wT (by omega)
    · exact h.wT (by omega)
  · exact h
theorem ok_who {σ : Sg} (h : GOk σ) (t w r i n : Int32) : GOk (sp_who σ t w r i n).2 := by
  have hl := fndN_le (gR σ) (tn r) i n
  unfold sp_who cif
  split
  · split
    · exact h.ws (by decide)
    · exact h.ws (by omega)
  · exact h

