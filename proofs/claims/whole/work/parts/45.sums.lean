/-! ===== sums; weights told by what they give to each test ===== -/
def ls (g : Nat → Nat) : List Nat → Nat
  | [] => 0
  | a :: l => g a + ls g l
theorem ls_app (g : Nat → Nat) : ∀ a b, ls g (a ++ b) = ls g a + ls g b
  | [], b => by show ls g b = 0 + ls g b; omega
  | x :: a, b => by show g x + ls g (a ++ b) = g x + ls g a + ls g b; rw [ls_app g a b]; omega
theorem ls_perm (g : Nat → Nat) {a b : List Nat} (h : a.Perm b) : ls g a = ls g b := by
  induction h with
  | nil => rfl
  | cons x _ ih => show g x + _ = g x + _; rw [ih]
  | swap x y l => show g y + (g x + _) = g x + (g y + _); omega
  | trans _ _ h1 h2 => exact h1.trans h2
theorem ls_congr {g g' : Nat → Nat} : ∀ {l : List Nat}, (∀ x, x ∈ l → g x = g' x) → ls g l = ls g' l
  | [], _ => rfl
  | a :: l, h => by show g a + ls g l = g' a + ls g' l; rw [h a List.mem_cons_self, ls_congr (fun x hx => h x (List.mem_cons_of_mem _ hx))]
theorem ls_le {g g' : Nat → Nat} : ∀ {l : List Nat}, (∀ x, x ∈ l → g x ≤ g' x) → ls g l ≤ ls g' l
  | [], _ => Nat.le_refl _
  | a :: l, h => by
    show g a + ls g l ≤ g' a + ls g' l
    have h1 := h a List.mem_cons_self
    have h2 := ls_le (fun x hx => h x (List.mem_cons_of_mem a hx))
    omega
theorem ls_mul (c : Nat) (g : Nat → Nat) : ∀ l, ls (fun x => c * g x) l = c * ls g l
  | [] => rfl
  | a :: l => by show c * g a + ls (fun x => c * g x) l = c * (g a + ls g l); rw [ls_mul c g l, Nat.mul_add]
theorem ls_0 {g : Nat → Nat} : ∀ {l : List Nat}, (∀ x, x ∈ l → g x = 0) → ls g l = 0
  | [], _ => rfl
  | a :: l, h => by show g a + ls g l = 0; rw [h a List.mem_cons_self, ls_0 (fun x hx => h x (List.mem_cons_of_mem _ hx))]
theorem ls_in {g : Nat → Nat} : ∀ {l : List Nat} {a : Nat}, a ∈ l → g a ≤ ls g l
  | b :: l, a, h => by
    show _ ≤ g b + ls g l
    rcases List.mem_cons.mp h with rfl | q
    · omega
    · have := ls_in (g := g) q
      omega
theorem ls_take (g : Nat → Nat) {L : List Nat} {k : Nat} (h : k < L.length) : ls g (L.take (k + 1)) = ls g (L.take k) + g (L.getD k 0) := by
  rw [List.take_add_one, ls_app]
  have e : L[k]? = some L[k] := List.getElem?_eq_getElem h
  rw [List.getD_eq_getElem?_getD, e]
  show _ + (g L[k] + 0) = _ + g L[k]
  omega
theorem ls_take_le (g : Nat → Nat) (L : List Nat) (k : Nat) : ls g (L.take k) ≤ ls g L := by
  have h := ls_app g (L.take k) (L.drop k)
  rw [List.take_append_drop] at h
  omega
theorem ls_sup (g : Nat → Nat) : ∀ (L R : List Nat), L.Nodup → R.Nodup → (∀ x, x ∈ L → x ∈ R) → (∀ x, x ∈ R → x ∉ L → g x = 0) → ls g R = ls g L
  | [], R, _, _, _, h0 => ls_0 (fun x hx => h0 x hx (by simp))
  | a :: l, R, hL, hR, hs, h0 => by
    have ha := hs a List.mem_cons_self
    rw [List.nodup_cons] at hL
    rw [ls_perm g (List.perm_cons_erase ha)]
    show g a + _ = g a + _
    congr 1
    refine ls_sup g l (R.erase a) hL.2 (hR.erase a) (fun x hx => ?_) (fun x hx hn => ?_)
    · rw [hR.mem_erase_iff]
      exact ⟨fun e => hL.1 (e ▸ hx), hs x (List.mem_cons_of_mem _ hx)⟩
    · rw [hR.mem_erase_iff] at hx
      exact h0 x hx.2 (fun q => (List.mem_cons.mp q).elim hx.1 hn)
def Iw (f φ : Nat → Nat) : Nat := ls (fun x => f x * φ x) (List.range 256)
theorem Iw_list {M : mx_M} {q : Nat} {L : List Nat} {f : Nat → Nat} (h : SetsAt M q L f) (φ : Nat → Nat) : Iw f φ = ls (fun x => f x * φ x) L := by
  refine ls_sup _ L (List.range 256) h.2.1 List.nodup_range (fun x hx => List.mem_range.mpr (h.2.2.1 x hx)) (fun x hx hn => ?_)
  have h6 := h.2.2.2.2.2 x (List.mem_range.mp hx)
  have : f x = 0 := Classical.not_not.mp (fun w => hn (h6.mp w))
  show f x * φ x = 0
  rw [this, Nat.zero_mul]
theorem Iw_0 (φ : Nat → Nat) : Iw (fun _ => 0) φ = 0 := ls_0 (fun x _ => Nat.zero_mul _)
theorem Iw_up (f φ : Nat → Nat) {s : Nat} (n : Nat) (hs : s < 256) : Iw (updN f s (f s + n)) φ = Iw f φ + n * φ s := by
  unfold Iw
  have hp := List.perm_cons_erase (List.mem_range.mpr hs)
  rw [ls_perm _ hp, ls_perm (fun x => f x * φ x) hp]
  show updN f s (f s + n) s * φ s + ls _ _ = f s * φ s + ls _ _ + n * φ s
  rw [updN_s, Nat.add_mul]
  have e : ls (fun x => updN f s (f s + n) x * φ x) ((List.range 256).erase s) = ls (fun x => f x * φ x) ((List.range 256).erase s) := ls_congr (fun x hx => by
    rw [(List.nodup_range (n := 256)).mem_erase_iff] at hx
    show updN f s (f s + n) x * φ x = f x * φ x
    rw [updN_n f _ hx.1])
  rw [e]
  omega
theorem Iw_in (f : Nat → Nat) {s : Nat} (hs : s < 256) : f s ≤ Iw f (fun _ => 1) := by
  have := ls_in (g := fun x => f x * 1) (List.mem_range.mpr hs)
  show _ ≤ ls (fun x => f x * 1) (List.range 256)
  omega
theorem Iw_mul (f : Nat → Nat) (c : Nat) : Iw f (fun _ => c) = c * Iw f (fun _ => 1) := by
  unfold Iw
  rw [← ls_mul]
  exact ls_congr (fun x _ => by show f x * c = c * (f x * 1); rw [Nat.mul_one, Nat.mul_comm])
/-- what plain values of a height give to a test of their cells -/
def PS (hs : Hs) : Nat → (Nat → Nat) → Nat
  | 0, _ => 0
  | h + 1, φ => ls (fun i => φ (constCell hs i)) (List.range hs.2.1) + PS hs h (fun x => PS hs h (fun y => φ (pairC hs x y)))
theorem PS_mono (hs : Hs) : ∀ h {φ ψ : Nat → Nat}, (∀ x, φ x ≤ ψ x) → PS hs h φ ≤ PS hs h ψ
  | 0, _, _, _ => Nat.le_refl _
  | h + 1, φ, ψ, hl => by
    show _ + _ ≤ _ + _
    refine Nat.add_le_add (ls_le (fun i _ => hl _)) (PS_mono hs h (fun x => PS_mono hs h (fun y => hl _)))
theorem PS_mul (hs : Hs) (c : Nat) : ∀ h (φ : Nat → Nat), PS hs h (fun x => c * φ x) = c * PS hs h φ
  | 0, _ => rfl
  | h + 1, φ => by
    show ls (fun i => c * φ (constCell hs i)) _ + PS hs h (fun x => PS hs h (fun y => c * φ (pairC hs x y))) = c * (_ + _)
    rw [ls_mul c (fun i => φ (constCell hs i))]
    have e : (fun x => PS hs h (fun y => c * φ (pairC hs x y))) = fun x => c * PS hs h (fun y => φ (pairC hs x y)) := funext (fun x => PS_mul hs c h (fun y => φ (pairC hs x y)))
    rw [e, PS_mul hs c h (fun x => PS hs h (fun y => φ (pairC hs x y))), Nat.mul_add]
def PSb : Nat → Nat
  | 0 => 0
  | h + 1 => 4 + PSb h * PSb h
theorem PS_le {hs : Hs} (hw : HsOk hs) : ∀ h {φ : Nat → Nat}, (∀ x, φ x ≤ 1) → PS hs h φ ≤ PSb h
  | 0, _, _ => Nat.le_refl _
  | h + 1, φ, hl => by
    show _ + _ ≤ 4 + _
    refine Nat.add_le_add ?_ ?_
    · have h1 : ls (fun i => φ (constCell hs i)) (List.range hs.2.1) ≤ ls (fun _ => 1) (List.range hs.2.1) := ls_le (fun i _ => hl _)
      have h2 : ∀ l : List Nat, ls (fun _ => 1) l = l.length := fun l => by
        induction l with
        | nil => rfl
        | cons a l ih => show 1 + ls _ l = l.length + 1; rw [ih]; omega
      rw [h2, List.length_range] at h1
      have := hw.2.1
      omega
    · refine Nat.le_trans (PS_mono hs h (ψ := fun x => PSb h * 1) (fun x => ?_)) ?_
      · rw [Nat.mul_one]
        exact PS_le hw h (fun y => hl _)
      · rw [PS_mul hs (PSb h) h (fun _ => 1)]
        exact Nat.mul_le_mul (Nat.le_refl _) (PS_le hw h (fun _ => Nat.le_refl _))
theorem PSb_mono {h : Nat} (hh : h ≤ 3) : PSb h ≤ 404 := by
  rcases (by omega : h = 0 ∨ h = 1 ∨ h = 2 ∨ h = 3) with rfl | rfl | rfl | rfl <;> decide
theorem PSb_4 {h : Nat} (hh : h ≤ 4) : PSb h ≤ 163220 := by
  rcases (by omega : h = 0 ∨ h = 1 ∨ h = 2 ∨ h = 3 ∨ h = 4) with rfl | rfl | rfl | rfl | rfl <;> decide

