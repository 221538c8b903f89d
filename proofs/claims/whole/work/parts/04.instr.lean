/-! ===== straight instructions, as a function ===== -/
abbrev mx_Op : Type := Instr × List Nat × Int32
def mx_refs (ci h : Nat) : List (Option (Option Nat)) := (mx_off.getD ci []).map (fun o => o.map (fun q => some (h + q)))
/-- the class of an object that is made whole; the length of an array of ints (false), of booleans (true) -/
def mx_ocl (Λ : List mx_K) (h : Nat) : Nat := match Λ[h]? with
  | some (.inl (ci, fs)) => if fs = mx_refs ci h then ci else 99
  | _ => 99
def mx_len (Λ : List mx_K) (z : Bool) (a : Nat) : Nat := match Λ[a]? with
  | some (.inr (y, n)) => if y = z then n else 0
  | _ => 0
def mx_wr (M : mx_M) (k j : Nat) (v : Int32) : mx_M := fun a => if a = k then upd (M k) j v else M a
theorem mx_wr_s (M : mx_M) (k j : Nat) (v : Int32) : mx_wr M k j v k = upd (M k) j v := if_pos rfl
theorem mx_wr_n (M : mx_M) {k a : Nat} (j : Nat) (v : Int32) (h : a ≠ k) : mx_wr M k j v a = M a := if_neg h
/-- a local gets a value of one slot; of two -/
def mx_set1 : List (Option Value) → Nat → Value → Option (List (Option Value))
  | [], _, _ => none
  | _ :: l, 0, v => some (some v :: l)
  | x :: l, i + 1, v => match mx_set1 l i v with
    | none => none
    | some l' => some ((if i = 0 then (match x with | some (.long _) => none | some (.double _) => none | y => y) else x) :: l')
def mx_set2 : List (Option Value) → Nat → Value → Option (List (Option Value))
  | [], _, _ => none
  | _ :: l, 0, v => match l with
    | [] => none
    | _ :: t => some (some v :: none :: t)
  | x :: l, i + 1, v => match mx_set2 l i v with
    | none => none
    | some l' => some ((if i = 0 then (match x with | some (.long _) => none | some (.double _) => none | y => y) else x) :: l')
abbrev mx_O : Type := Option (mx_St × Option Prop)
def mx_ldI (i : Nat) (st : mx_St) : mx_O := match st.2.1[i]? with
  | some (some (.int x)) => some ((.int x :: st.1, st.2.1, st.2.2), none)
  | _ => none
def mx_ldL (i : Nat) (st : mx_St) : mx_O := match st.2.1[i]? with
  | some (some (.long x)) => some ((.long x :: st.1, st.2.1, st.2.2), none)
  | _ => none
def mx_ldA (i : Nat) (st : mx_St) : mx_O := match st.2.1[i]? with
  | some (some (.ref x)) => some ((.ref x :: st.1, st.2.1, st.2.2), none)
  | _ => none
def mx_stI (i : Nat) (st : mx_St) : mx_O := match st.1 with
  | .int x :: s => match mx_set1 st.2.1 i (.int x) with
    | some l => some ((s, l, st.2.2), none)
    | none => none
  | _ => none
def mx_stA (i : Nat) (st : mx_St) : mx_O := match st.1 with
  | .ref x :: s => match mx_set1 st.2.1 i (.ref x) with
    | some l => some ((s, l, st.2.2), none)
    | none => none
  | _ => none
def mx_stL (i : Nat) (st : mx_St) : mx_O := match st.1 with
  | .long x :: s => match mx_set2 st.2.1 i (.long x) with
    | some l => some ((s, l, st.2.2), none)
    | none => none
  | _ => none
def mx_inc (i : Nat) (n : Int32) (st : mx_St) : mx_O := match st.2.1[i]? with
  | some (some (.int x)) => match mx_set1 st.2.1 i (.int (x + n)) with
    | some l => some ((st.1, l, st.2.2), none)
    | none => none
  | _ => none
def mx_push (v : Value) (st : mx_St) : mx_O := some ((v :: st.1, st.2.1, st.2.2), none)
def mx_un (f : Int32 → Int32) (st : mx_St) : mx_O := match st.1 with
  | .int x :: s => some ((.int (f x) :: s, st.2.1, st.2.2), none)
  | _ => none
def mx_bin (f : Int32 → Int32 → Int32) (st : mx_St) : mx_O := match st.1 with
  | .int y :: .int x :: s => some ((.int (f x y) :: s, st.2.1, st.2.2), none)
  | _ => none
def mx_binD (f : Int32 → Int32 → Int32) (st : mx_St) : mx_O := match st.1 with
  | .int y :: .int x :: s => some ((.int (f x y) :: s, st.2.1, st.2.2), some (¬ y = 0))
  | _ => none
def mx_lbin (f : Int64 → Int64 → Int64) (st : mx_St) : mx_O := match st.1 with
  | .long y :: .long x :: s => some ((.long (f x y) :: s, st.2.1, st.2.2), none)
  | _ => none
def mx_lbinD (f : Int64 → Int64 → Int64) (st : mx_St) : mx_O := match st.1 with
  | .long y :: .long x :: s => some ((.long (f x y) :: s, st.2.1, st.2.2), some (¬ y = 0))
  | _ => none
def mx_lcmp (st : mx_St) : mx_O := match st.1 with
  | .long y :: .long x :: s => some ((.int (lg_cmp x y) :: s, st.2.1, st.2.2), none)
  | _ => none
def mx_i2l (st : mx_St) : mx_O := match st.1 with
  | .int x :: s => some ((.long x.toInt64 :: s, st.2.1, st.2.2), none)
  | _ => none
def mx_l2i (st : mx_St) : mx_O := match st.1 with
  | .long x :: s => some ((.int x.toInt32 :: s, st.2.1, st.2.2), none)
  | _ => none
def mx_dup (st : mx_St) : mx_O := match st.1 with
  | .int x :: s => some ((.int x :: .int x :: s, st.2.1, st.2.2), none)
  | .ref x :: s => some ((.ref x :: .ref x :: s, st.2.1, st.2.2), none)
  | _ => none
def mx_dup2 (st : mx_St) : mx_O := match st.1 with
  | .int x :: .ref y :: s => some ((.int x :: .ref y :: .int x :: .ref y :: s, st.2.1, st.2.2), none)
  | _ => none
def mx_pop (st : mx_St) : mx_O := match st.1 with
  | .int _ :: s => some ((s, st.2.1, st.2.2), none)
  | _ => none
def mx_getf (Λ : List mx_K) (as : List Nat) (st : mx_St) : mx_O := match as, st.1 with
  | ci :: k :: r :: _, .ref h :: s => some (((match r with | 0 => Value.int (st.2.2 h k) | o + 1 => Value.ref (h + o)) :: s, st.2.1, st.2.2), some (mx_ocl Λ h = ci))
  | _, _ => none
def mx_putf (Λ : List mx_K) (as : List Nat) (st : mx_St) : mx_O := match as, st.1 with
  | ci :: k :: t :: _, .int v :: .ref h :: s => some ((s, st.2.1, mx_wr st.2.2 h k v), some (match t with | 0 => mx_ocl Λ h = ci | _ => mx_ocl Λ h = ci ∧ (v = 0 ∨ v = 1)))
  | _, _ => none
def mx_ald (Λ : List mx_K) (z : Bool) (st : mx_St) : mx_O := match st.1 with
  | .int i :: .ref a :: s => some ((.int (st.2.2 a i.toNatClampNeg) :: s, st.2.1, st.2.2), some (vp_in i (mx_len Λ z a)))
  | _ => none
def mx_iast (Λ : List mx_K) (st : mx_St) : mx_O := match st.1 with
  | .int v :: .int i :: .ref a :: s => some ((s, st.2.1, mx_wr st.2.2 a i.toNatClampNeg v), some (vp_in i (mx_len Λ false a)))
  | _ => none
def mx_zast (Λ : List mx_K) (st : mx_St) : mx_O := match st.1 with
  | .int v :: .int i :: .ref a :: s => some ((s, st.2.1, mx_wr st.2.2 a i.toNatClampNeg v), some (vp_in i (mx_len Λ true a) ∧ (v = 0 ∨ v = 1)))
  | _ => none
def mx_alen (Λ : List mx_K) (st : mx_St) : mx_O := match st.1 with
  | .ref a :: s => some ((.int (nI (mx_len Λ false a)) :: s, st.2.1, st.2.2), some (mx_len Λ false a ≠ 0))
  | _ => none
def mx_sld (L : Nat) (st : mx_St) : mx_O := match st.1 with
  | .int i :: .ref a :: s => some ((.int (st.2.2 1000 i.toNatClampNeg) :: s, st.2.1, st.2.2), some (a = 1000 ∧ vp_in i L))
  | _ => none
def mx_slen (L : Nat) (st : mx_St) : mx_O := match st.1 with
  | .ref a :: s => some ((.int (nI L) :: s, st.2.1, st.2.2), some (a = 1000))
  | _ => none
def mx_run (L : Nat) (Λ : List mx_K) (o : mx_Op) (st : mx_St) : mx_O := match o.1 with
  | .iload_n k => mx_ldI k.val st
  | .iload k => mx_ldI k st
  | .aload_n k => mx_ldA k.val st
  | .aload k => mx_ldA k st
  | .lload_n k => mx_ldL k.val st
  | .lload k => mx_ldL k st
  | .istore_n k => mx_stI k.val st
  | .istore k => mx_stI k st
  | .astore_n k => mx_stA k.val st
  | .astore k => mx_stA k st
  | .lstore_n k => mx_stL k.val st
  | .lstore k => mx_stL k st
  | .iinc k _ => mx_inc k o.2.2 st
  | .iconst _ => mx_push (.int o.2.2) st
  | .bipush _ => mx_push (.int o.2.2) st
  | .sipush _ => mx_push (.int o.2.2) st
  | .ldc _ => mx_push (.int o.2.2) st
  | .ldc_w _ => mx_push (.int o.2.2) st
  | .lconst _ => mx_push (.long (lN (o.2.1.headD 0))) st
  | .ldc2_w _ => mx_push (.long (lN (o.2.1.headD 0))) st
  | .iadd => mx_bin (fun x y => x + y) st
  | .isub => mx_bin (fun x y => x - y) st
  | .imul => mx_bin (fun x y => x * y) st
  | .iand => mx_bin (fun x y => x &&& y) st
  | .ior => mx_bin (fun x y => x ||| y) st
  | .ixor => mx_bin (fun x y => x ^^^ y) st
  | .ishl => mx_bin (fun x y => x <<< (y &&& 31)) st
  | .ishr => mx_bin (fun x y => x >>> (y &&& 31)) st
  | .iushr => mx_bin (fun x y => (x.toUInt32 >>> (y.toUInt32 &&& Int32.toUInt32 31)).toInt32) st
  | .idiv => mx_binD (fun x y => x / y) st
  | .irem => mx_binD (fun x y => x - x / y * y) st
  | .ineg => mx_un (fun x => -x) st
  | .i2b => mx_un (fun x => x.toInt8.toInt32) st
  | .i2s => mx_un (fun x => x.toInt16.toInt32) st
  | .ladd => mx_lbin (fun x y => x + y) st
  | .lmul => mx_lbin (fun x y => x * y) st
  | .ldiv => mx_lbinD (fun x y => x / y) st
  | .lrem => mx_lbinD (fun x y => x - x / y * y) st
  | .lcmp => mx_lcmp st
  | .i2l => mx_i2l st
  | .l2i => mx_l2i st
  | .dup => mx_dup st
  | .dup2 => mx_dup2 st
  | .pop => mx_pop st
  | .getfield _ => mx_getf Λ o.2.1 st
  | .putfield _ => mx_putf Λ o.2.1 st
  | .iaload => match o.2.1 with | [] => mx_ald Λ false st | _ => mx_sld L st
  | .baload => mx_ald Λ true st
  | .iastore => mx_iast Λ st
  | .bastore => mx_zast Λ st
  | .arraylength => match o.2.1 with | [] => mx_alen Λ st | _ => mx_slen L st
  | _ => none
def mx_blk (L : Nat) (Λ : List mx_K) : List mx_Op → mx_St → Option (mx_St × Prop)
  | [], st => some (st, True)
  | o :: os, st => match mx_run L Λ o st with
    | none => none
    | some (st1, none) => mx_blk L Λ os st1
    | some (st1, some φ) => match mx_blk L Λ os st1 with
      | none => none
      | some (st2, ψ) => some (st2, φ ∧ ψ)
/-! ===== what the tables must say of an instruction ===== -/
def mx_okF (m : MR) (idx ci k place : Nat) : Bool := match vwCl[ci]? with
  | some (C, T, N) => decide (k < N) && decide ((T k).1 = C) && inTT place (.fieldLink m.1.cls idx C (T k).2.1 (T k).2.2.1)
  | none => false
def mx_okG (m : MR) (idx : Nat) (as : List Nat) : Bool := match as with
  | [ci, k, r, pl] => mx_okF m idx ci k pl && decide ((mx_off.getD ci [])[k]? = some (match r with | 0 => none | o + 1 => some o))
  | _ => false
def mx_okP (m : MR) (idx : Nat) (as : List Nat) : Bool := match as with
  | [ci, k, t, pl] => mx_okF m idx ci k pl && decide ((mx_off.getD ci [])[k]? = some none) && decide (mx_ty ci k = (match t with | 0 => .int | _ => .boolean)) && (match vwCl[ci]? with | some (_, T, _) => !(T k).2.2.2 | none => false)
  | _ => false
def mx_okO (m : MR) (o : mx_Op) : Bool := match o.1 with
  | .getfield idx => mx_okG m idx o.2.1
  | .putfield idx => mx_okP m idx o.2.1
  | .iconst n => decide (Int32.ofInt n = o.2.2)
  | .bipush n => decide ((Int8.ofInt n).toInt32 = o.2.2)
  | .sipush n => decide ((Int16.ofInt n).toInt32 = o.2.2)
  | .iinc _ n => decide (Int32.ofInt n = o.2.2)
  | .ldc idx => inTT (o.2.1.headD 0) (.constant m.1.cls idx o.2.2)
  | .ldc_w idx => inTT (o.2.1.headD 0) (.constant m.1.cls idx o.2.2)
  | .lconst n => decide (n.val = o.2.1.headD 0)
  | .ldc2_w idx => inTT (o.2.1.getD 1 0) (.constantLong m.1.cls idx (lN (o.2.1.headD 0)))
  | .iaload => match o.2.1 with | [] => true | _ => decide (m.1.cls = "TypeSetsLaw")
  | .arraylength => match o.2.1 with | [] => true | _ => decide (m.1.cls = "TypeSetsLaw")
  | _ => true
def mx_il (i : Instr) : Nat := match i with
  | .iload _ => 2 | .aload _ => 2 | .lload _ => 2 | .istore _ => 2 | .astore _ => 2 | .lstore _ => 2 | .bipush _ => 2 | .ldc _ => 2
  | .iinc _ _ => 3 | .sipush _ => 3 | .ldc_w _ => 3 | .ldc2_w _ => 3 | .getfield _ => 3 | .putfield _ => 3
  | _ => 1
/-- the code at pc is these instructions: where they end -/
def mx_ck (m : MR) : Nat → List mx_Op → Option Nat
  | pc, [] => some pc
  | pc, o :: os => match decode m.2.1 pc with
    | .ok (i, n) => if i = o.1 ∧ mx_okO m o = true ∧ n = mx_il o.1 then mx_ck m (pc + n) os else none
    | .error _ => none
