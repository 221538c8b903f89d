def RX0 : String := "TypeSets$Acts"
def TX0 : u_T := fun k => match k with
  | 0 => ("TypeSets$Acts", "types", "[I", true)
  | 1 => ("TypeSets$Acts", "sorts", "[I", true)
  | 2 => ("TypeSets$Acts", "firsts", "[I", true)
  | 3 => ("TypeSets$Acts", "seconds", "[I", true)
  | _ => ("TypeSets$Acts", "kept", "I", false)
def tyX0 : Nat → FieldType := fun k => match k with
  | 0 => .array .int
  | 1 => .array .int
  | 2 => .array .int
  | 3 => .array .int
  | _ => .int
theorem nmX0 : ∀ a, a < 5 → ∀ b, b < 5 → a ≠ b → (TX0 a).2.1 ≠ (TX0 b).2.1 := by decide +kernel
theorem tyX0_ok : ∀ k, k < 5 → parseFieldDescriptor (TX0 k).2.2.1 = some (tyX0 k) := by decide +kernel
abbrev cX0_init : ByteArray := prog_2_method_1_code
def yX0_init : MethodName := ⟨RX0, "<init>", "()V"⟩
abbrev cX0_keep : ByteArray := prog_2_method_2_code
def yX0_keep : MethodName := ⟨RX0, "keep", "(LTypeSets$House;I)V"⟩
abbrev cX0_takeBack : ByteArray := prog_2_method_3_code
def yX0_takeBack : MethodName := ⟨RX0, "takeBack", "(LTypeSets$House;)V"⟩
abbrev cX0_forgetOldest : ByteArray := prog_2_method_4_code
def yX0_forgetOldest : MethodName := ⟨RX0, "forgetOldest", "()V"⟩
def RX1 : String := "TypeSets$Asks"
def TX1 : u_T := fun k => match k with
  | 0 => ("TypeSets$Asks", "numbers", "[I", true)
  | 1 => ("TypeSets$Asks", "left", "I", false)
  | 2 => ("TypeSets$Asks", "one", "I", false)
  | 3 => ("TypeSets$Asks", "kindOfOne", "I", false)
  | 4 => ("TypeSets$Asks", "a", "I", false)
  | _ => ("TypeSets$Asks", "b", "I", false)
def tyX1 : Nat → FieldType := fun k => match k with
  | 0 => .array .int
  | 1 => .int
  | 2 => .int
  | 3 => .int
  | 4 => .int
  | _ => .int
theorem nmX1 : ∀ a, a < 6 → ∀ b, b < 6 → a ≠ b → (TX1 a).2.1 ≠ (TX1 b).2.1 := by decide +kernel
theorem tyX1_ok : ∀ k, k < 6 → parseFieldDescriptor (TX1 k).2.2.1 = some (tyX1 k) := by decide +kernel
abbrev cX1_init : ByteArray := prog_3_method_1_code
def yX1_init : MethodName := ⟨RX1, "<init>", "()V"⟩
abbrev cX1_kindOf : ByteArray := prog_3_method_2_code
def yX1_kindOf : MethodName := ⟨RX1, "kindOf", "(I)I"⟩
abbrev cX1_isOne : ByteArray := prog_3_method_3_code
def yX1_isOne : MethodName := ⟨RX1, "isOne", "(II)Z"⟩
abbrev cX1_begin : ByteArray := prog_3_method_4_code
def yX1_begin : MethodName := ⟨RX1, "begin", "(LTypeSets$House;I)V"⟩
abbrev cX1_sizeOfOne : ByteArray := prog_3_method_5_code
def yX1_sizeOfOne : MethodName := ⟨RX1, "sizeOfOne", "()I"⟩
abbrev cX1_markOfOne : ByteArray := prog_3_method_6_code
def yX1_markOfOne : MethodName := ⟨RX1, "markOfOne", "()I"⟩
abbrev cX1_body10 : ByteArray := prog_3_method_7_code
def yX1_body10 : MethodName := ⟨RX1, "body10", "()I"⟩
abbrev cX1_body11 : ByteArray := prog_3_method_8_code
def yX1_body11 : MethodName := ⟨RX1, "body11", "()I"⟩
abbrev cX1_body12 : ByteArray := prog_3_method_9_code
def yX1_body12 : MethodName := ⟨RX1, "body12", "()I"⟩
abbrev cX1_body13 : ByteArray := prog_3_method_10_code
def yX1_body13 : MethodName := ⟨RX1, "body13", "()I"⟩
abbrev cX1_body14 : ByteArray := prog_3_method_11_code
def yX1_body14 : MethodName := ⟨RX1, "body14", "()I"⟩
abbrev cX1_body20 : ByteArray := prog_3_method_12_code
def yX1_body20 : MethodName := ⟨RX1, "body20", "()I"⟩
abbrev cX1_body21 : ByteArray := prog_3_method_13_code
def yX1_body21 : MethodName := ⟨RX1, "body21", "()I"⟩
abbrev cX1_body22 : ByteArray := prog_3_method_14_code
def yX1_body22 : MethodName := ⟨RX1, "body22", "()I"⟩
abbrev cX1_body23 : ByteArray := prog_3_method_15_code
def yX1_body23 : MethodName := ⟨RX1, "body23", "()I"⟩
abbrev cX1_body24 : ByteArray := prog_3_method_16_code
def yX1_body24 : MethodName := ⟨RX1, "body24", "()I"⟩
abbrev cX1_leave : ByteArray := prog_3_method_17_code
def yX1_leave : MethodName := ⟨RX1, "leave", "(I)V"⟩
def RX2 : String := "TypeSets$Cells"
def TX2 : u_T := fun k => match k with
  | 0 => ("TypeSets$Cells", "house", "LTypeSets$House;", true)
  | 1 => ("TypeSets$Cells", "all", "I", false)
  | 2 => ("TypeSets$Cells", "arrows", "I", false)
  | 3 => ("TypeSets$Cells", "withConstant", "I", false)
  | 4 => ("TypeSets$Cells", "withPair", "I", false)
  | 5 => ("TypeSets$Cells", "withFunction", "I", false)
  | 6 => ("TypeSets$Cells", "found", "LTypeSets$Sets;", true)
  | 7 => ("TypeSets$Cells", "ofPairs", "LTypeSets$Sides;", true)
  | 8 => ("TypeSets$Cells", "ofCases", "LTypeSets$Sides;", true)
  | 9 => ("TypeSets$Cells", "pairSets", "LTypeSets$Sets;", true)
  | 10 => ("TypeSets$Cells", "missed", "LTypeSets$Sets;", true)
  | 11 => ("TypeSets$Cells", "cellOfPair", "[I", true)
  | 12 => ("TypeSets$Cells", "cellMissing", "[I", true)
  | 13 => ("TypeSets$Cells", "open", "[I", true)
  | 14 => ("TypeSets$Cells", "supers", "[I", true)
  | _ => ("TypeSets$Cells", "meets", "[I", true)
def tyX2 : Nat → FieldType := fun k => match k with
  | 0 => .object "TypeSets$House"
  | 1 => .int
  | 2 => .int
  | 3 => .int
  | 4 => .int
  | 5 => .int
  | 6 => .object "TypeSets$Sets"
  | 7 => .object "TypeSets$Sides"
  | 8 => .object "TypeSets$Sides"
  | 9 => .object "TypeSets$Sets"
  | 10 => .object "TypeSets$Sets"
  | 11 => .array .int
  | 12 => .array .int
  | 13 => .array .int
  | 14 => .array .int
  | _ => .array .int
theorem nmX2 : ∀ a, a < 16 → ∀ b, b < 16 → a ≠ b → (TX2 a).2.1 ≠ (TX2 b).2.1 := by decide +kernel
theorem tyX2_ok : ∀ k, k < 16 → parseFieldDescriptor (TX2 k).2.2.1 = some (tyX2 k) := by decide +kernel
abbrev cX2_init : ByteArray := prog_4_method_1_code
def yX2_init : MethodName := ⟨RX2, "<init>", "()V"⟩
abbrev cX2_measure : ByteArray := prog_4_method_2_code
def yX2_measure : MethodName := ⟨RX2, "measure", "(LTypeSets$House;)V"⟩
abbrev cX2_begin : ByteArray := prog_4_method_3_code
def yX2_begin : MethodName := ⟨RX2, "begin", "(LTypeSets$House;)V"⟩
abbrev cX2_addPairs : ByteArray := prog_4_method_4_code
def yX2_addPairs : MethodName := ⟨RX2, "addPairs", "(III)V"⟩
abbrev cX2_addPair : ByteArray := prog_4_method_5_code
def yX2_addPair : MethodName := ⟨RX2, "addPair", "(II)V"⟩
abbrev cX2_addCases : ByteArray := prog_4_method_6_code
def yX2_addCases : MethodName := ⟨RX2, "addCases", "(III)V"⟩
abbrev cX2_addCase : ByteArray := prog_4_method_7_code
def yX2_addCase : MethodName := ⟨RX2, "addCase", "(II)V"⟩
abbrev cX2_addFunction : ByteArray := prog_4_method_8_code
def yX2_addFunction : MethodName := ⟨RX2, "addFunction", "(II)V"⟩
abbrev cX2_relate : ByteArray := prog_4_method_9_code
def yX2_relate : MethodName := ⟨RX2, "relate", "()V"⟩
abbrev cX2_leastHeight : ByteArray := prog_4_method_10_code
def yX2_leastHeight : MethodName := ⟨RX2, "leastHeight", "(II)I"⟩
abbrev cX2_lyingIn : ByteArray := prog_4_method_11_code
def yX2_lyingIn : MethodName := ⟨RX2, "lyingIn", "(I)I"⟩
abbrev cX2_withoutValue : ByteArray := prog_4_method_12_code
def yX2_withoutValue : MethodName := ⟨RX2, "withoutValue", "()I"⟩
abbrev cX2_inOrder : ByteArray := prog_4_method_13_code
def yX2_inOrder : MethodName := ⟨RX2, "inOrder", "(I)I"⟩
abbrev cX2_holdingAnswers : ByteArray := prog_4_method_14_code
def yX2_holdingAnswers : MethodName := ⟨RX2, "holdingAnswers", "(II)I"⟩
abbrev cX2_holdingAnswersFrom : ByteArray := prog_4_method_15_code
def yX2_holdingAnswersFrom : MethodName := ⟨RX2, "holdingAnswersFrom", "(I)I"⟩
abbrev cX2_alwaysAnswered : ByteArray := prog_4_method_16_code
def yX2_alwaysAnswered : MethodName := ⟨RX2, "alwaysAnswered", "(I)I"⟩
abbrev cX2_openFor : ByteArray := prog_4_method_17_code
def yX2_openFor : MethodName := ⟨RX2, "openFor", "(I)V"⟩
abbrev cX2_holdingSide : ByteArray := prog_4_method_18_code
def yX2_holdingSide : MethodName := ⟨RX2, "holdingSide", "(II)I"⟩
abbrev cX2_pairsInto : ByteArray := prog_4_method_19_code
def yX2_pairsInto : MethodName := ⟨RX2, "pairsInto", "(IILTypeSets$Sets;)Z"⟩
def RX3 : String := "TypeSets$House"
def TX3 : u_T := fun k => match k with
  | 0 => ("TypeSets$House", "sorts", "[I", true)
  | 1 => ("TypeSets$House", "firsts", "[I", true)
  | 2 => ("TypeSets$House", "seconds", "[I", true)
  | 3 => ("TypeSets$House", "types", "I", false)
  | _ => ("TypeSets$House", "constants", "I", false)
def tyX3 : Nat → FieldType := fun k => match k with
  | 0 => .array .int
  | 1 => .array .int
  | 2 => .array .int
  | 3 => .int
  | _ => .int
theorem nmX3 : ∀ a, a < 5 → ∀ b, b < 5 → a ≠ b → (TX3 a).2.1 ≠ (TX3 b).2.1 := by decide +kernel
theorem tyX3_ok : ∀ k, k < 5 → parseFieldDescriptor (TX3 k).2.2.1 = some (tyX3 k) := by decide +kernel
abbrev cX3_init : ByteArray := prog_5_method_1_code
def yX3_init : MethodName := ⟨RX3, "<init>", "()V"⟩
abbrev cX3_isNone : ByteArray := prog_5_method_2_code
def yX3_isNone : MethodName := ⟨RX3, "isNone", "()Z"⟩
abbrev cX3_has : ByteArray := prog_5_method_3_code
def yX3_has : MethodName := ⟨RX3, "has", "(I)Z"⟩
abbrev cX3_all : ByteArray := prog_5_method_4_code
def yX3_all : MethodName := ⟨RX3, "all", "()I"⟩
abbrev cX3_isSet : ByteArray := prog_5_method_5_code
def yX3_isSet : MethodName := ⟨RX3, "isSet", "(I)Z"⟩
abbrev cX3_takeFrom : ByteArray := prog_5_method_6_code
def yX3_takeFrom : MethodName := ⟨RX3, "takeFrom", "(LTypeSets$House;)V"⟩
abbrev cX3_mayStand : ByteArray := prog_5_method_7_code
def yX3_mayStand : MethodName := ⟨RX3, "mayStand", "(IIII)Z"⟩
abbrev cX3_tell : ByteArray := prog_5_method_8_code
def yX3_tell : MethodName := ⟨RX3, "tell", "(IIII)V"⟩
abbrev cX3_namesOnlyItsOwn : ByteArray := prog_5_method_9_code
def yX3_namesOnlyItsOwn : MethodName := ⟨RX3, "namesOnlyItsOwn", "()Z"⟩
abbrev cX3_cellOfConstant : ByteArray := prog_5_method_10_code
def yX3_cellOfConstant : MethodName := ⟨RX3, "cellOfConstant", "(I)I"⟩
abbrev cX3_cellOf : ByteArray := prog_5_method_11_code
def yX3_cellOf : MethodName := ⟨RX3, "cellOf", "(I)I"⟩
abbrev cX3_ofSort : ByteArray := prog_5_method_12_code
def yX3_ofSort : MethodName := ⟨RX3, "ofSort", "(I)I"⟩
abbrev cX3_withFirstIn : ByteArray := prog_5_method_13_code
def yX3_withFirstIn : MethodName := ⟨RX3, "withFirstIn", "(II)I"⟩
abbrev cX3_withSecondIn : ByteArray := prog_5_method_14_code
def yX3_withSecondIn : MethodName := ⟨RX3, "withSecondIn", "(II)I"⟩
def RX4 : String := "TypeSets$PlainValues"
def TX4 : u_T := fun k => match k with
  | 0 => ("TypeSets$PlainValues", "ofType", "[I", true)
  | 1 => ("TypeSets$PlainValues", "total", "[I", true)
  | 2 => ("TypeSets$PlainValues", "byCell", "LTypeSets$Sets;", true)
  | 3 => ("TypeSets$PlainValues", "byLeft", "LTypeSets$Sets;", true)
  | 4 => ("TypeSets$PlainValues", "byRight", "LTypeSets$Sets;", true)
  | _ => ("TypeSets$PlainValues", "byPair", "LTypeSets$Sets;", true)
def tyX4 : Nat → FieldType := fun k => match k with
  | 0 => .array .int
  | 1 => .array .int
  | 2 => .object "TypeSets$Sets"
  | 3 => .object "TypeSets$Sets"
  | 4 => .object "TypeSets$Sets"
  | _ => .object "TypeSets$Sets"
theorem nmX4 : ∀ a, a < 6 → ∀ b, b < 6 → a ≠ b → (TX4 a).2.1 ≠ (TX4 b).2.1 := by decide +kernel
theorem tyX4_ok : ∀ k, k < 6 → parseFieldDescriptor (TX4 k).2.2.1 = some (tyX4 k) := by decide +kernel
abbrev cX4_init : ByteArray := prog_6_method_1_code
def yX4_init : MethodName := ⟨RX4, "<init>", "()V"⟩
abbrev cX4_measure : ByteArray := prog_6_method_2_code
def yX4_measure : MethodName := ⟨RX4, "measure", "(LTypeSets$House;)V"⟩
abbrev cX4_pairUp : ByteArray := prog_6_method_3_code
def yX4_pairUp : MethodName := ⟨RX4, "pairUp", "(LTypeSets$House;)V"⟩
abbrev cX4_sumUp : ByteArray := prog_6_method_4_code
def yX4_sumUp : MethodName := ⟨RX4, "sumUp", "(I)V"⟩
abbrev cX4_howMany : ByteArray := prog_6_method_5_code
def yX4_howMany : MethodName := ⟨RX4, "howMany", "(II)I"⟩
abbrev cX4_ofAny : ByteArray := prog_6_method_6_code
def yX4_ofAny : MethodName := ⟨RX4, "ofAny", "(I)I"⟩
def RX5 : String := "TypeSets$Rows"
def TX5 : u_T := fun k => match k with
  | 0 => ("TypeSets$Rows", "lanes", "[I", true)
  | 1 => ("TypeSets$Rows", "lengths", "[I", true)
  | _ => ("TypeSets$Rows", "items", "[I", true)
def tyX5 : Nat → FieldType := fun k => match k with
  | 0 => .array .int
  | 1 => .array .int
  | _ => .array .int
theorem nmX5 : ∀ a, a < 3 → ∀ b, b < 3 → a ≠ b → (TX5 a).2.1 ≠ (TX5 b).2.1 := by decide +kernel
theorem tyX5_ok : ∀ k, k < 3 → parseFieldDescriptor (TX5 k).2.2.1 = some (tyX5 k) := by decide +kernel
abbrev cX5_init : ByteArray := prog_7_method_1_code
def yX5_init : MethodName := ⟨RX5, "<init>", "()V"⟩
abbrev cX5_isNumber : ByteArray := prog_7_method_2_code
def yX5_isNumber : MethodName := ⟨RX5, "isNumber", "(I)Z"⟩
abbrev cX5_isLane : ByteArray := prog_7_method_3_code
def yX5_isLane : MethodName := ⟨RX5, "isLane", "(I)Z"⟩
abbrev cX5_make : ByteArray := prog_7_method_4_code
def yX5_make : MethodName := ⟨RX5, "make", "(III)V"⟩
abbrev cX5_put : ByteArray := prog_7_method_5_code
def yX5_put : MethodName := ⟨RX5, "put", "(III)I"⟩
abbrev cX5_move : ByteArray := prog_7_method_6_code
def yX5_move : MethodName := ⟨RX5, "move", "(IIIII)V"⟩
abbrev cX5_lose : ByteArray := prog_7_method_7_code
def yX5_lose : MethodName := ⟨RX5, "lose", "(I)I"⟩
abbrev cX5_present : ByteArray := prog_7_method_8_code
def yX5_present : MethodName := ⟨RX5, "present", "()I"⟩
abbrev cX5_bits : ByteArray := prog_7_method_9_code
def yX5_bits : MethodName := ⟨RX5, "bits", "(III)I"⟩
abbrev cX5_findingAt : ByteArray := prog_7_method_10_code
def yX5_findingAt : MethodName := ⟨RX5, "findingAt", "(III)I"⟩
abbrev cX5_findingOfMove : ByteArray := prog_7_method_11_code
def yX5_findingOfMove : MethodName := ⟨RX5, "findingOfMove", "(IIIII)I"⟩
abbrev cX5_isPlace : ByteArray := prog_7_method_12_code
def yX5_isPlace : MethodName := ⟨RX5, "isPlace", "(III)Z"⟩
def RX6 : String := "TypeSets$Sets"
def TX6 : u_T := fun k => match k with
  | 0 => ("TypeSets$Sets", "at", "[I", true)
  | 1 => ("TypeSets$Sets", "number", "[I", true)
  | _ => ("TypeSets$Sets", "size", "I", false)
def tyX6 : Nat → FieldType := fun k => match k with
  | 0 => .array .int
  | 1 => .array .int
  | _ => .int
theorem nmX6 : ∀ a, a < 3 → ∀ b, b < 3 → a ≠ b → (TX6 a).2.1 ≠ (TX6 b).2.1 := by decide +kernel
theorem tyX6_ok : ∀ k, k < 3 → parseFieldDescriptor (TX6 k).2.2.1 = some (tyX6 k) := by decide +kernel
abbrev cX6_init : ByteArray := prog_8_method_1_code
def yX6_init : MethodName := ⟨RX6, "<init>", "()V"⟩
abbrev cX6_clear : ByteArray := prog_8_method_2_code
def yX6_clear : MethodName := ⟨RX6, "clear", "()V"⟩
abbrev cX6_add : ByteArray := prog_8_method_3_code
def yX6_add : MethodName := ⟨RX6, "add", "(II)Z"⟩
abbrev cX6_raise : ByteArray := prog_8_method_4_code
def yX6_raise : MethodName := ⟨RX6, "raise", "(II)V"⟩
def RX7 : String := "TypeSets$Sides"
def TX7 : u_T := fun k => match k with
  | 0 => ("TypeSets$Sides", "leftOf", "[I", true)
  | 1 => ("TypeSets$Sides", "rightOf", "[I", true)
  | 2 => ("TypeSets$Sides", "lefts", "LTypeSets$Sets;", true)
  | _ => ("TypeSets$Sides", "rights", "LTypeSets$Sets;", true)
def tyX7 : Nat → FieldType := fun k => match k with
  | 0 => .array .int
  | 1 => .array .int
  | 2 => .object "TypeSets$Sets"
  | _ => .object "TypeSets$Sets"
theorem nmX7 : ∀ a, a < 4 → ∀ b, b < 4 → a ≠ b → (TX7 a).2.1 ≠ (TX7 b).2.1 := by decide +kernel
theorem tyX7_ok : ∀ k, k < 4 → parseFieldDescriptor (TX7 k).2.2.1 = some (tyX7 k) := by decide +kernel
abbrev cX7_init : ByteArray := prog_9_method_1_code
def yX7_init : MethodName := ⟨RX7, "<init>", "()V"⟩
abbrev cX7_clear : ByteArray := prog_9_method_2_code
def yX7_clear : MethodName := ⟨RX7, "clear", "()V"⟩
abbrev cX7_see : ByteArray := prog_9_method_3_code
def yX7_see : MethodName := ⟨RX7, "see", "(LTypeSets$House;III)V"⟩
def RX8 : String := "TypeSets$Tape"
def TX8 : u_T := fun k => match k with
  | 0 => ("TypeSets$Tape", "bytes", "[I", true)
  | 1 => ("TypeSets$Tape", "length", "I", false)
  | 2 => ("TypeSets$Tape", "next", "I", false)
  | 3 => ("TypeSets$Tape", "token", "I", false)
  | 4 => ("TypeSets$Tape", "number", "I", false)
  | 5 => ("TypeSets$Tape", "place", "I", false)
  | _ => ("TypeSets$Tape", "latestFault", "I", false)
def tyX8 : Nat → FieldType := fun k => match k with
  | 0 => .array .int
  | 1 => .int
  | 2 => .int
  | 3 => .int
  | 4 => .int
  | 5 => .int
  | _ => .int
theorem nmX8 : ∀ a, a < 7 → ∀ b, b < 7 → a ≠ b → (TX8 a).2.1 ≠ (TX8 b).2.1 := by decide +kernel
theorem tyX8_ok : ∀ k, k < 7 → parseFieldDescriptor (TX8 k).2.2.1 = some (tyX8 k) := by decide +kernel
abbrev cX8_init : ByteArray := prog_10_method_1_code
def yX8_init : MethodName := ⟨RX8, "<init>", "()V"⟩
abbrev cX8_add : ByteArray := prog_10_method_2_code
def yX8_add : MethodName := ⟨RX8, "add", "(I)Z"⟩
abbrev cX8_read : ByteArray := prog_10_method_3_code
def yX8_read : MethodName := ⟨RX8, "read", "(LTypeSets$House;)Z"⟩
abbrev cX8_readTypes : ByteArray := prog_10_method_4_code
def yX8_readTypes : MethodName := ⟨RX8, "readTypes", "(LTypeSets$House;)Z"⟩
abbrev cX8_readEquation : ByteArray := prog_10_method_5_code
def yX8_readEquation : MethodName := ⟨RX8, "readEquation", "(LTypeSets$House;II)Z"⟩
abbrev cX8_mostOf : ByteArray := prog_10_method_6_code
def yX8_mostOf : MethodName := ⟨RX8, "mostOf", "(II)I"⟩
abbrev cX8_sortOf : ByteArray := prog_10_method_7_code
def yX8_sortOf : MethodName := ⟨RX8, "sortOf", "(I)I"⟩
abbrev cX8_takesSign : ByteArray := prog_10_method_8_code
def yX8_takesSign : MethodName := ⟨RX8, "takesSign", "(I)Z"⟩
abbrev cX8_takesNumber : ByteArray := prog_10_method_9_code
def yX8_takesNumber : MethodName := ⟨RX8, "takesNumber", "(II)Z"⟩
abbrev cX8_fails : ByteArray := prog_10_method_10_code
def yX8_fails : MethodName := ⟨RX8, "fails", "(I)Z"⟩
abbrev cX8_step : ByteArray := prog_10_method_11_code
def yX8_step : MethodName := ⟨RX8, "step", "()V"⟩
abbrev cX8_isFigure : ByteArray := prog_10_method_12_code
def yX8_isFigure : MethodName := ⟨RX8, "isFigure", "(I)Z"⟩
def RX9 : String := "TypeSets"
def TX9 : u_T := fun k => match k with
  | 0 => ("TypeSets", "rows", "LTypeSets$Rows;", true)
  | 1 => ("TypeSets", "tape", "LTypeSets$Tape;", true)
  | 2 => ("TypeSets", "live", "LTypeSets$House;", true)
  | 3 => ("TypeSets", "trial", "LTypeSets$House;", true)
  | 4 => ("TypeSets", "firstImage", "LTypeSets$House;", true)
  | 5 => ("TypeSets", "secondImage", "LTypeSets$House;", true)
  | 6 => ("TypeSets", "acts", "LTypeSets$Acts;", true)
  | 7 => ("TypeSets", "liveCells", "LTypeSets$Cells;", true)
  | 8 => ("TypeSets", "trialCells", "LTypeSets$Cells;", true)
  | 9 => ("TypeSets", "plainValues", "LTypeSets$PlainValues;", true)
  | 10 => ("TypeSets", "asks", "LTypeSets$Asks;", true)
  | 11 => ("TypeSets", "cellsStand", "Z", false)
  | 12 => ("TypeSets", "plainStands", "Z", false)
  | _ => ("TypeSets", "latestFinding", "I", false)
def tyX9 : Nat → FieldType := fun k => match k with
  | 0 => .object "TypeSets$Rows"
  | 1 => .object "TypeSets$Tape"
  | 2 => .object "TypeSets$House"
  | 3 => .object "TypeSets$House"
  | 4 => .object "TypeSets$House"
  | 5 => .object "TypeSets$House"
  | 6 => .object "TypeSets$Acts"
  | 7 => .object "TypeSets$Cells"
  | 8 => .object "TypeSets$Cells"
  | 9 => .object "TypeSets$PlainValues"
  | 10 => .object "TypeSets$Asks"
  | 11 => .boolean
  | 12 => .boolean
  | _ => .int
theorem nmX9 : ∀ a, a < 14 → ∀ b, b < 14 → a ≠ b → (TX9 a).2.1 ≠ (TX9 b).2.1 := by decide +kernel
theorem tyX9_ok : ∀ k, k < 14 → parseFieldDescriptor (TX9 k).2.2.1 = some (tyX9 k) := by decide +kernel
abbrev cX9_init : ByteArray := prog_1_method_1_code
def yX9_init : MethodName := ⟨RX9, "<init>", "()V"⟩
abbrev cX9_row : ByteArray := prog_1_method_2_code
def yX9_row : MethodName := ⟨RX9, "row", "(III)I"⟩
abbrev cX9_set : ByteArray := prog_1_method_3_code
def yX9_set : MethodName := ⟨RX9, "set", "(III)I"⟩
abbrev cX9_copy : ByteArray := prog_1_method_4_code
def yX9_copy : MethodName := ⟨RX9, "copy", "(IIIII)I"⟩
abbrev cX9_drop : ByteArray := prog_1_method_5_code
def yX9_drop : MethodName := ⟨RX9, "drop", "(I)I"⟩
abbrev cX9_feed : ByteArray := prog_1_method_6_code
def yX9_feed : MethodName := ⟨RX9, "feed", "(I)I"⟩
abbrev cX9_house : ByteArray := prog_1_method_7_code
def yX9_house : MethodName := ⟨RX9, "house", "()I"⟩
abbrev cX9_fault : ByteArray := prog_1_method_8_code
def yX9_fault : MethodName := ⟨RX9, "fault", "()I"⟩
abbrev cX9_undo : ByteArray := prog_1_method_9_code
def yX9_undo : MethodName := ⟨RX9, "undo", "()I"⟩
abbrev cX9_anew : ByteArray := prog_1_method_10_code
def yX9_anew : MethodName := ⟨RX9, "anew", "(IIII)I"⟩
abbrev cX9_type : ByteArray := prog_1_method_11_code
def yX9_type : MethodName := ⟨RX9, "type", "(II)I"⟩
abbrev cX9_lowest : ByteArray := prog_1_method_12_code
def yX9_lowest : MethodName := ⟨RX9, "lowest", "(II)I"⟩
abbrev cX9_lies : ByteArray := prog_1_method_13_code
def yX9_lies : MethodName := ⟨RX9, "lies", "(II)I"⟩
abbrev cX9_others : ByteArray := prog_1_method_14_code
def yX9_others : MethodName := ⟨RX9, "others", "(II)I"⟩
abbrev cX9_empties : ByteArray := prog_1_method_15_code
def yX9_empties : MethodName := ⟨RX9, "empties", "()I"⟩
abbrev cX9_cellAt : ByteArray := prog_1_method_16_code
def yX9_cellAt : MethodName := ⟨RX9, "cellAt", "(I)I"⟩
abbrev cX9_answers : ByteArray := prog_1_method_17_code
def yX9_answers : MethodName := ⟨RX9, "answers", "(II)I"⟩
abbrev cX9_askable : ByteArray := prog_1_method_18_code
def yX9_askable : MethodName := ⟨RX9, "askable", "(I)I"⟩
abbrev cX9_ends : ByteArray := prog_1_method_19_code
def yX9_ends : MethodName := ⟨RX9, "ends", "(II)I"⟩
abbrev cX9_plain : ByteArray := prog_1_method_20_code
def yX9_plain : MethodName := ⟨RX9, "plain", "(II)I"⟩
abbrev cX9_pick : ByteArray := prog_1_method_21_code
def yX9_pick : MethodName := ⟨RX9, "pick", "(III)I"⟩
abbrev cX9_who : ByteArray := prog_1_method_22_code
def yX9_who : MethodName := ⟨RX9, "who", "(IIIII)I"⟩
abbrev cX9_drawn : ByteArray := prog_1_method_23_code
def yX9_drawn : MethodName := ⟨RX9, "drawn", "(III)I"⟩
abbrev cX9_image : ByteArray := prog_1_method_24_code
def yX9_image : MethodName := ⟨RX9, "image", "(I)I"⟩
abbrev cX9_restore : ByteArray := prog_1_method_25_code
def yX9_restore : MethodName := ⟨RX9, "restore", "(I)I"⟩
abbrev cX9_kind : ByteArray := prog_1_method_26_code
def yX9_kind : MethodName := ⟨RX9, "kind", "(I)I"⟩
abbrev cX9_as : ByteArray := prog_1_method_27_code
def yX9_as : MethodName := ⟨RX9, "as", "(II)I"⟩
abbrev cX9_ask : ByteArray := prog_1_method_28_code
def yX9_ask : MethodName := ⟨RX9, "ask", "(II)I"⟩
abbrev cX9_trace : ByteArray := prog_1_method_29_code
def yX9_trace : MethodName := ⟨RX9, "trace", "(I)I"⟩
abbrev cX9_count : ByteArray := prog_1_method_30_code
def yX9_count : MethodName := ⟨RX9, "count", "(I)I"⟩
abbrev cX9_status : ByteArray := prog_1_method_31_code
def yX9_status : MethodName := ⟨RX9, "status", "()I"⟩
abbrev cX9_standIn : ByteArray := prog_1_method_32_code
def yX9_standIn : MethodName := ⟨RX9, "standIn", "(LTypeSets$House;)V"⟩
abbrev cX9_forgetWhatStood : ByteArray := prog_1_method_33_code
def yX9_forgetWhatStood : MethodName := ⟨RX9, "forgetWhatStood", "()V"⟩
abbrev cX9_cellsNow : ByteArray := prog_1_method_34_code
def yX9_cellsNow : MethodName := ⟨RX9, "cellsNow", "()LTypeSets$Cells;"⟩
abbrev cX9_plainNow : ByteArray := prog_1_method_35_code
def yX9_plainNow : MethodName := ⟨RX9, "plainNow", "()LTypeSets$PlainValues;"⟩
abbrev cX9_imageOf : ByteArray := prog_1_method_36_code
def yX9_imageOf : MethodName := ⟨RX9, "imageOf", "(I)LTypeSets$House;"⟩
abbrev cX9_fits : ByteArray := prog_1_method_37_code
def yX9_fits : MethodName := ⟨RX9, "fits", "(IIIII)Z"⟩
abbrev cX9_drawEquation : ByteArray := prog_1_method_38_code
def yX9_drawEquation : MethodName := ⟨RX9, "drawEquation", "(J)V"⟩
abbrev cX9_greatestDivisor : ByteArray := prog_1_method_39_code
def yX9_greatestDivisor : MethodName := ⟨RX9, "greatestDivisor", "(II)I"⟩
def RX10 : String := "TypeSetsModel"
def TX10 : u_T := fun k => match k with
  | 0 => ("TypeSetsModel", "thrown", "I", false)
  | 1 => ("TypeSetsModel", "status", "I", false)
  | 2 => ("TypeSetsModel", "lane", "[I", true)
  | 3 => ("TypeSetsModel", "many", "[I", true)
  | 4 => ("TypeSetsModel", "item", "[I", true)
  | 5 => ("TypeSetsModel", "house", "[I", true)
  | 6 => ("TypeSetsModel", "fresh", "[I", true)
  | 7 => ("TypeSetsModel", "then", "[I", true)
  | 8 => ("TypeSetsModel", "was", "[I", true)
  | 9 => ("TypeSetsModel", "acts", "I", false)
  | 10 => ("TypeSetsModel", "tape", "[I", true)
  | 11 => ("TypeSetsModel", "taped", "I", false)
  | 12 => ("TypeSetsModel", "cursor", "I", false)
  | 13 => ("TypeSetsModel", "start", "I", false)
  | 14 => ("TypeSetsModel", "token", "I", false)
  | 15 => ("TypeSetsModel", "value", "I", false)
  | 16 => ("TypeSetsModel", "fault", "I", false)
  | 17 => ("TypeSetsModel", "faultAt", "I", false)
  | 18 => ("TypeSetsModel", "latest", "I", false)
  | 19 => ("TypeSetsModel", "height", "[I", true)
  | 20 => ("TypeSetsModel", "sorts", "[I", true)
  | 21 => ("TypeSetsModel", "cells", "[I", true)
  | 22 => ("TypeSetsModel", "found", "I", false)
  | 23 => ("TypeSetsModel", "broken", "[Z", true)
  | 24 => ("TypeSetsModel", "joined", "[Z", true)
  | 25 => ("TypeSetsModel", "known", "[I", true)
  | 26 => ("TypeSetsModel", "plainly", "[I", true)
  | 27 => ("TypeSetsModel", "higher", "[I", true)
  | 28 => ("TypeSetsModel", "isKept", "[Z", true)
  | 29 => ("TypeSetsModel", "kept", "[I", true)
  | 30 => ("TypeSetsModel", "trace", "[I", true)
  | _ => ("TypeSetsModel", "traced", "I", false)
def tyX10 : Nat → FieldType := fun k => match k with
  | 0 => .int
  | 1 => .int
  | 2 => .array .int
  | 3 => .array .int
  | 4 => .array .int
  | 5 => .array .int
  | 6 => .array .int
  | 7 => .array .int
  | 8 => .array .int
  | 9 => .int
  | 10 => .array .int
  | 11 => .int
  | 12 => .int
  | 13 => .int
  | 14 => .int
  | 15 => .int
  | 16 => .int
  | 17 => .int
  | 18 => .int
  | 19 => .array .int
  | 20 => .array .int
  | 21 => .array .int
  | 22 => .int
  | 23 => .array .boolean
  | 24 => .array .boolean
  | 25 => .array .int
  | 26 => .array .int
  | 27 => .array .int
  | 28 => .array .boolean
  | 29 => .array .int
  | 30 => .array .int
  | _ => .int
theorem nmX10 : ∀ a, a < 32 → ∀ b, b < 32 → a ≠ b → (TX10 a).2.1 ≠ (TX10 b).2.1 := by decide +kernel
theorem tyX10_ok : ∀ k, k < 32 → parseFieldDescriptor (TX10 k).2.2.1 = some (tyX10 k) := by decide +kernel
abbrev cX10_init : ByteArray := prog_12_method_1_code
def yX10_init : MethodName := ⟨RX10, "<init>", "()V"⟩
abbrev cX10_in : ByteArray := prog_12_method_3_code
def yX10_in : MethodName := ⟨RX10, "in", "(JJJ)Z"⟩
abbrev cX10_finding : ByteArray := prog_12_method_4_code
def yX10_finding : MethodName := ⟨RX10, "finding", "(I)I"⟩
abbrev cX10_isRow : ByteArray := prog_12_method_5_code
def yX10_isRow : MethodName := ⟨RX10, "isRow", "(I)Z"⟩
abbrev cX10_row : ByteArray := prog_12_method_6_code
def yX10_row : MethodName := ⟨RX10, "row", "(III)I"⟩
abbrev cX10_set : ByteArray := prog_12_method_7_code
def yX10_set : MethodName := ⟨RX10, "set", "(III)I"⟩
abbrev cX10_copy : ByteArray := prog_12_method_8_code
def yX10_copy : MethodName := ⟨RX10, "copy", "(IIIII)I"⟩
abbrev cX10_drop : ByteArray := prog_12_method_9_code
def yX10_drop : MethodName := ⟨RX10, "drop", "(I)I"⟩
abbrev cX10_feed : ByteArray := prog_12_method_10_code
def yX10_feed : MethodName := ⟨RX10, "feed", "(I)I"⟩
abbrev cX10_bad : ByteArray := prog_12_method_11_code
def yX10_bad : MethodName := ⟨RX10, "bad", "(I)V"⟩
abbrev cX10_nextToken : ByteArray := prog_12_method_12_code
def yX10_nextToken : MethodName := ⟨RX10, "nextToken", "()V"⟩
abbrev cX10_must : ByteArray := prog_12_method_13_code
def yX10_must : MethodName := ⟨RX10, "must", "(Z)V"⟩
abbrev cX10_isLetter : ByteArray := prog_12_method_14_code
def yX10_isLetter : MethodName := ⟨RX10, "isLetter", "(I)Z"⟩
abbrev cX10_number : ByteArray := prog_12_method_15_code
def yX10_number : MethodName := ⟨RX10, "number", "(II)I"⟩
abbrev cX10_mustSign : ByteArray := prog_12_method_16_code
def yX10_mustSign : MethodName := ⟨RX10, "mustSign", "(I)V"⟩
abbrev cX10_begin : ByteArray := prog_12_method_17_code
def yX10_begin : MethodName := ⟨RX10, "begin", "()V"⟩
abbrev cX10_failed : ByteArray := prog_12_method_18_code
def yX10_failed : MethodName := ⟨RX10, "failed", "()Z"⟩
abbrev cX10_fault : ByteArray := prog_12_method_19_code
def yX10_fault : MethodName := ⟨RX10, "fault", "()I"⟩
abbrev cX10_sortBy : ByteArray := prog_12_method_20_code
def yX10_sortBy : MethodName := ⟨RX10, "sortBy", "(I)I"⟩
abbrev cX10_isSort : ByteArray := prog_12_method_21_code
def yX10_isSort : MethodName := ⟨RX10, "isSort", "()Z"⟩
abbrev cX10_readType : ByteArray := prog_12_method_22_code
def yX10_readType : MethodName := ⟨RX10, "readType", "()V"⟩
abbrev cX10_areNamed : ByteArray := prog_12_method_23_code
def yX10_areNamed : MethodName := ⟨RX10, "areNamed", "()Z"⟩
abbrev cX10_house : ByteArray := prog_12_method_24_code
def yX10_house : MethodName := ⟨RX10, "house", "()I"⟩
abbrev cX10_isThere : ByteArray := prog_12_method_25_code
def yX10_isThere : MethodName := ⟨RX10, "isThere", "()Z"⟩
abbrev cX10_isType : ByteArray := prog_12_method_26_code
def yX10_isType : MethodName := ⟨RX10, "isType", "(I)Z"⟩
abbrev cX10_bits : ByteArray := prog_12_method_27_code
def yX10_bits : MethodName := ⟨RX10, "bits", "(I)I"⟩
abbrev cX10_has : ByteArray := prog_12_method_28_code
def yX10_has : MethodName := ⟨RX10, "has", "(II)Z"⟩
abbrev cX10_of : ByteArray := prog_12_method_29_code
def yX10_of : MethodName := ⟨RX10, "of", "([III)I"⟩
abbrev cX10_may : ByteArray := prog_12_method_30_code
def yX10_may : MethodName := ⟨RX10, "may", "(IIIII)Z"⟩
abbrev cX10_cellOf : ByteArray := prog_12_method_31_code
def yX10_cellOf : MethodName := ⟨RX10, "cellOf", "([II)I"⟩
abbrev cX10_constantCell : ByteArray := prog_12_method_32_code
def yX10_constantCell : MethodName := ⟨RX10, "constantCell", "([II)I"⟩
abbrev cX10_pairCell : ByteArray := prog_12_method_33_code
def yX10_pairCell : MethodName := ⟨RX10, "pairCell", "([III)I"⟩
abbrev cX10_functionCell : ByteArray := prog_12_method_34_code
def yX10_functionCell : MethodName := ⟨RX10, "functionCell", "([II)I"⟩
abbrev cX10_breaks : ByteArray := prog_12_method_35_code
def yX10_breaks : MethodName := ⟨RX10, "breaks", "([III)I"⟩
abbrev cX10_comes : ByteArray := prog_12_method_36_code
def yX10_comes : MethodName := ⟨RX10, "comes", "(III)V"⟩
abbrev cX10_gather : ByteArray := prog_12_method_37_code
def yX10_gather : MethodName := ⟨RX10, "gather", "()V"⟩
abbrev cX10_join : ByteArray := prog_12_method_38_code
def yX10_join : MethodName := ⟨RX10, "join", "()V"⟩
abbrev cX10_layCases : ByteArray := prog_12_method_39_code
def yX10_layCases : MethodName := ⟨RX10, "layCases", "([III)V"⟩
abbrev cX10_isKnown : ByteArray := prog_12_method_40_code
def yX10_isKnown : MethodName := ⟨RX10, "isKnown", "([I)Z"⟩
abbrev cX10_reckon : ByteArray := prog_12_method_41_code
def yX10_reckon : MethodName := ⟨RX10, "reckon", "([I)V"⟩
abbrev cX10_goOn : ByteArray := prog_12_method_42_code
def yX10_goOn : MethodName := ⟨RX10, "goOn", "([III)V"⟩
abbrev cX10_layThen : ByteArray := prog_12_method_43_code
def yX10_layThen : MethodName := ⟨RX10, "layThen", "()V"⟩
abbrev cX10_sortsOf : ByteArray := prog_12_method_44_code
def yX10_sortsOf : MethodName := ⟨RX10, "sortsOf", "(I)I"⟩
abbrev cX10_isEmpty : ByteArray := prog_12_method_45_code
def yX10_isEmpty : MethodName := ⟨RX10, "isEmpty", "(I)Z"⟩
abbrev cX10_liesIn : ByteArray := prog_12_method_46_code
def yX10_liesIn : MethodName := ⟨RX10, "liesIn", "(II)Z"⟩
abbrev cX10_areApart : ByteArray := prog_12_method_47_code
def yX10_areApart : MethodName := ⟨RX10, "areApart", "(II)Z"⟩
abbrev cX10_keep : ByteArray := prog_12_method_48_code
def yX10_keep : MethodName := ⟨RX10, "keep", "()V"⟩
abbrev cX10_anew : ByteArray := prog_12_method_49_code
def yX10_anew : MethodName := ⟨RX10, "anew", "(IIII)I"⟩
abbrev cX10_undo : ByteArray := prog_12_method_50_code
def yX10_undo : MethodName := ⟨RX10, "undo", "()I"⟩
abbrev cX10_type : ByteArray := prog_12_method_51_code
def yX10_type : MethodName := ⟨RX10, "type", "(II)I"⟩
abbrev cX10_isSet : ByteArray := prog_12_method_52_code
def yX10_isSet : MethodName := ⟨RX10, "isSet", "(I)Z"⟩
abbrev cX10_lowest : ByteArray := prog_12_method_53_code
def yX10_lowest : MethodName := ⟨RX10, "lowest", "(II)I"⟩
abbrev cX10_lies : ByteArray := prog_12_method_54_code
def yX10_lies : MethodName := ⟨RX10, "lies", "(II)I"⟩
abbrev cX10_others : ByteArray := prog_12_method_55_code
def yX10_others : MethodName := ⟨RX10, "others", "(II)I"⟩
abbrev cX10_emptySet : ByteArray := prog_12_method_56_code
def yX10_emptySet : MethodName := ⟨RX10, "emptySet", "([I)I"⟩
abbrev cX10_empties : ByteArray := prog_12_method_57_code
def yX10_empties : MethodName := ⟨RX10, "empties", "()I"⟩
abbrev cX10_cellAt : ByteArray := prog_12_method_58_code
def yX10_cellAt : MethodName := ⟨RX10, "cellAt", "(I)I"⟩
abbrev cX10_isMarked : ByteArray := prog_12_method_59_code
def yX10_isMarked : MethodName := ⟨RX10, "isMarked", "(I)Z"⟩
abbrev cX10_everyType : ByteArray := prog_12_method_60_code
def yX10_everyType : MethodName := ⟨RX10, "everyType", "()I"⟩
abbrev cX10_answers : ByteArray := prog_12_method_61_code
def yX10_answers : MethodName := ⟨RX10, "answers", "(II)I"⟩
abbrev cX10_askable : ByteArray := prog_12_method_62_code
def yX10_askable : MethodName := ⟨RX10, "askable", "(I)I"⟩
abbrev cX10_ends : ByteArray := prog_12_method_63_code
def yX10_ends : MethodName := ⟨RX10, "ends", "(II)I"⟩
abbrev cX10_layPlain : ByteArray := prog_12_method_64_code
def yX10_layPlain : MethodName := ⟨RX10, "layPlain", "(I)V"⟩
abbrev cX10_plainOf : ByteArray := prog_12_method_65_code
def yX10_plainOf : MethodName := ⟨RX10, "plainOf", "(I)I"⟩
abbrev cX10_plain : ByteArray := prog_12_method_66_code
def yX10_plain : MethodName := ⟨RX10, "plain", "(II)I"⟩
abbrev cX10_pick : ByteArray := prog_12_method_67_code
def yX10_pick : MethodName := ⟨RX10, "pick", "(III)I"⟩
abbrev cX10_rowFound : ByteArray := prog_12_method_68_code
def yX10_rowFound : MethodName := ⟨RX10, "rowFound", "(III)I"⟩
abbrev cX10_who : ByteArray := prog_12_method_69_code
def yX10_who : MethodName := ⟨RX10, "who", "(IIIII)I"⟩
abbrev cX10_drawn : ByteArray := prog_12_method_70_code
def yX10_drawn : MethodName := ⟨RX10, "drawn", "(III)I"⟩
abbrev cX10_image : ByteArray := prog_12_method_71_code
def yX10_image : MethodName := ⟨RX10, "image", "(I)I"⟩
abbrev cX10_restore : ByteArray := prog_12_method_72_code
def yX10_restore : MethodName := ⟨RX10, "restore", "(I)I"⟩
abbrev cX10_kindOf : ByteArray := prog_12_method_73_code
def yX10_kindOf : MethodName := ⟨RX10, "kindOf", "(I)I"⟩
abbrev cX10_isOf : ByteArray := prog_12_method_74_code
def yX10_isOf : MethodName := ⟨RX10, "isOf", "(II)Z"⟩
abbrev cX10_kind : ByteArray := prog_12_method_75_code
def yX10_kind : MethodName := ⟨RX10, "kind", "(I)I"⟩
abbrev cX10_as : ByteArray := prog_12_method_76_code
def yX10_as : MethodName := ⟨RX10, "as", "(II)I"⟩
abbrev cX10_began : ByteArray := prog_12_method_77_code
def yX10_began : MethodName := ⟨RX10, "began", "(I)V"⟩
abbrev cX10_plainSize : ByteArray := prog_12_method_78_code
def yX10_plainSize : MethodName := ⟨RX10, "plainSize", "(I)I"⟩
abbrev cX10_pairSize : ByteArray := prog_12_method_79_code
def yX10_pairSize : MethodName := ⟨RX10, "pairSize", "(I)I"⟩
abbrev cX10_markOf : ByteArray := prog_12_method_80_code
def yX10_markOf : MethodName := ⟨RX10, "markOf", "(I)I"⟩
abbrev cX10_sizeOf : ByteArray := prog_12_method_81_code
def yX10_sizeOf : MethodName := ⟨RX10, "sizeOf", "(I)I"⟩
abbrev cX10_ask : ByteArray := prog_12_method_82_code
def yX10_ask : MethodName := ⟨RX10, "ask", "(II)I"⟩
abbrev cX10_trace : ByteArray := prog_12_method_83_code
def yX10_trace : MethodName := ⟨RX10, "trace", "(I)I"⟩
abbrev cX10_count : ByteArray := prog_12_method_84_code
def yX10_count : MethodName := ⟨RX10, "count", "(I)I"⟩
abbrev cX10_status : ByteArray := prog_12_method_85_code
def yX10_status : MethodName := ⟨RX10, "status", "()I"⟩
def RJ6 : String := "java/lang/Integer"
abbrev cJ6_bitCount_0f7a4 : ByteArray := prog_13_method_49_code
def yJ6_bitCount_0f7a4 : MethodName := ⟨RJ6, "bitCount", "(I)I"⟩
def RJ7 : String := "java/util/Arrays"
abbrev cJ7_fill_53178 : ByteArray := prog_15_method_103_code
def yJ7_fill_53178 : MethodName := ⟨RJ7, "fill", "([II)V"⟩
def RL : String := "TypeSetsLaw"
abbrev cL_law : ByteArray := code
def yL_law : MethodName := ⟨RL, "law", "([I)Z"⟩
abbrev vwCl : List vw_C := [(RX0, TX0, 5), (RX1, TX1, 6), (RX2, TX2, 16), (RX3, TX3, 5), (RX4, TX4, 6), (RX5, TX5, 3), (RX6, TX6, 3), (RX7, TX7, 4), (RX8, TX8, 7), (RX9, TX9, 14), (RX10, TX10, 32)]
/-- a method: its name, its code, its locals, what it returns, its room -/
abbrev MR : Type := MethodName × ByteArray × Nat × Option FieldType × Room
def m_Acts_forgetOldest : MR := (yX0_forgetOldest, prog_2_method_4_code, 1, none, { frames := 1, cells := 0, slots := 0, locals := 40 })
def m_Acts_init : MR := (yX0_init, prog_2_method_1_code, 1, none, { frames := 1, cells := 4, slots := 96, locals := 20 })
def m_Acts_keep : MR := (yX0_keep, prog_2_method_2_code, 3, none, { frames := 2, cells := 0, slots := 0, locals := 60 })
def m_Acts_takeBack : MR := (yX0_takeBack, prog_2_method_3_code, 2, none, { frames := 1, cells := 0, slots := 0, locals := 24 })
def m_Asks_begin : MR := (yX1_begin, prog_3_method_4_code, 3, none, { frames := 1, cells := 0, slots := 0, locals := 20 })
def m_Asks_body10 : MR := (yX1_body10, prog_3_method_7_code, 1, (some .int), { frames := 1, cells := 0, slots := 0, locals := 21 })
def m_Asks_body11 : MR := (yX1_body11, prog_3_method_8_code, 2, (some .int), { frames := 4, cells := 0, slots := 0, locals := 81 })
def m_Asks_body12 : MR := (yX1_body12, prog_3_method_9_code, 1, (some .int), { frames := 5, cells := 0, slots := 0, locals := 102 })
def m_Asks_body13 : MR := (yX1_body13, prog_3_method_10_code, 1, (some .int), { frames := 2, cells := 0, slots := 0, locals := 41 })
def m_Asks_body14 : MR := (yX1_body14, prog_3_method_11_code, 1, (some .int), { frames := 3, cells := 0, slots := 0, locals := 61 })
def m_Asks_body20 : MR := (yX1_body20, prog_3_method_12_code, 1, (some .int), { frames := 1, cells := 0, slots := 0, locals := 21 })
def m_Asks_body21 : MR := (yX1_body21, prog_3_method_13_code, 1, (some .int), { frames := 2, cells := 0, slots := 0, locals := 41 })
def m_Asks_body22 : MR := (yX1_body22, prog_3_method_14_code, 1, (some .int), { frames := 3, cells := 0, slots := 0, locals := 61 })
def m_Asks_body23 : MR := (yX1_body23, prog_3_method_15_code, 2, (some .int), { frames := 4, cells := 0, slots := 0, locals := 81 })
def m_Asks_body24 : MR := (yX1_body24, prog_3_method_16_code, 1, (some .int), { frames := 3, cells := 0, slots := 0, locals := 61 })
def m_Asks_init : MR := (yX1_init, prog_3_method_1_code, 1, none, { frames := 1, cells := 1, slots := 16, locals := 20 })
def m_Asks_isOne : MR := (yX1_isOne, prog_3_method_3_code, 2, (some .boolean), { frames := 0, cells := 0, slots := 0, locals := 0 })
def m_Asks_kindOf : MR := (yX1_kindOf, prog_3_method_2_code, 1, (some .int), { frames := 0, cells := 0, slots := 0, locals := 0 })
def m_Asks_leave : MR := (yX1_leave, prog_3_method_17_code, 2, none, { frames := 0, cells := 0, slots := 0, locals := 0 })
def m_Asks_markOfOne : MR := (yX1_markOfOne, prog_3_method_6_code, 1, (some .int), { frames := 5, cells := 0, slots := 0, locals := 102 })
def m_Asks_sizeOfOne : MR := (yX1_sizeOfOne, prog_3_method_5_code, 1, (some .int), { frames := 6, cells := 0, slots := 0, locals := 122 })
def m_Cells_addCase : MR := (yX2_addCase, prog_4_method_7_code, 5, none, { frames := 2, cells := 0, slots := 0, locals := 48 })
def m_Cells_addCases : MR := (yX2_addCases, prog_4_method_6_code, 6, none, { frames := 3, cells := 0, slots := 0, locals := 72 })
def m_Cells_addFunction : MR := (yX2_addFunction, prog_4_method_8_code, 4, none, { frames := 1, cells := 0, slots := 0, locals := 25 })
def m_Cells_addPair : MR := (yX2_addPair, prog_4_method_5_code, 4, none, { frames := 1, cells := 0, slots := 0, locals := 25 })
def m_Cells_addPairs : MR := (yX2_addPairs, prog_4_method_4_code, 6, none, { frames := 2, cells := 0, slots := 0, locals := 48 })
def m_Cells_alwaysAnswered : MR := (yX2_alwaysAnswered, prog_4_method_16_code, 4, (some .int), { frames := 2, cells := 0, slots := 0, locals := 46 })
def m_Cells_begin : MR := (yX2_begin, prog_4_method_3_code, 4, none, { frames := 2, cells := 0, slots := 0, locals := 61 })
def m_Cells_holdingAnswers : MR := (yX2_holdingAnswers, prog_4_method_14_code, 5, (some .int), { frames := 2, cells := 0, slots := 0, locals := 46 })
def m_Cells_holdingAnswersFrom : MR := (yX2_holdingAnswersFrom, prog_4_method_15_code, 4, (some .int), { frames := 0, cells := 0, slots := 0, locals := 0 })
def m_Cells_holdingSide : MR := (yX2_holdingSide, prog_4_method_18_code, 7, (some .int), { frames := 1, cells := 0, slots := 0, locals := 24 })
def m_Cells_inOrder : MR := (yX2_inOrder, prog_4_method_13_code, 4, (some .int), { frames := 0, cells := 0, slots := 0, locals := 0 })
def m_Cells_init : MR := (yX2_init, prog_4_method_1_code, 1, none, { frames := 3, cells := 36, slots := 5450, locals := 60 })
def m_Cells_leastHeight : MR := (yX2_leastHeight, prog_4_method_10_code, 5, (some .int), { frames := 0, cells := 0, slots := 0, locals := 0 })
def m_Cells_lyingIn : MR := (yX2_lyingIn, prog_4_method_11_code, 4, (some .int), { frames := 0, cells := 0, slots := 0, locals := 0 })
def m_Cells_measure : MR := (yX2_measure, prog_4_method_2_code, 10, none, { frames := 4, cells := 0, slots := 0, locals := 97 })
def m_Cells_openFor : MR := (yX2_openFor, prog_4_method_17_code, 4, none, { frames := 1, cells := 0, slots := 0, locals := 23 })
def m_Cells_pairsInto : MR := (yX2_pairsInto, prog_4_method_19_code, 5, (some .boolean), { frames := 0, cells := 0, slots := 0, locals := 0 })
def m_Cells_relate : MR := (yX2_relate, prog_4_method_9_code, 4, none, { frames := 1, cells := 0, slots := 0, locals := 23 })
def m_Cells_withoutValue : MR := (yX2_withoutValue, prog_4_method_12_code, 1, (some .int), { frames := 0, cells := 0, slots := 0, locals := 0 })
def m_House_all : MR := (yX3_all, prog_5_method_4_code, 1, (some .int), { frames := 0, cells := 0, slots := 0, locals := 0 })
def m_House_cellOf : MR := (yX3_cellOf, prog_5_method_11_code, 6, (some .int), { frames := 0, cells := 0, slots := 0, locals := 0 })
def m_House_cellOfConstant : MR := (yX3_cellOfConstant, prog_5_method_10_code, 4, (some .int), { frames := 1, cells := 0, slots := 0, locals := 25 })
def m_House_has : MR := (yX3_has, prog_5_method_3_code, 2, (some .boolean), { frames := 0, cells := 0, slots := 0, locals := 0 })
def m_House_init : MR := (yX3_init, prog_5_method_1_code, 1, none, { frames := 1, cells := 3, slots := 24, locals := 20 })
def m_House_isNone : MR := (yX3_isNone, prog_5_method_2_code, 1, (some .boolean), { frames := 0, cells := 0, slots := 0, locals := 0 })
def m_House_isSet : MR := (yX3_isSet, prog_5_method_5_code, 2, (some .boolean), { frames := 1, cells := 0, slots := 0, locals := 20 })
def m_House_mayStand : MR := (yX3_mayStand, prog_5_method_7_code, 6, (some .boolean), { frames := 1, cells := 0, slots := 0, locals := 21 })
def m_House_namesOnlyItsOwn : MR := (yX3_namesOnlyItsOwn, prog_5_method_9_code, 2, (some .boolean), { frames := 2, cells := 0, slots := 0, locals := 46 })
def m_House_ofSort : MR := (yX3_ofSort, prog_5_method_12_code, 4, (some .int), { frames := 0, cells := 0, slots := 0, locals := 0 })
def m_House_takeFrom : MR := (yX3_takeFrom, prog_5_method_6_code, 2, none, { frames := 1, cells := 0, slots := 0, locals := 40 })
def m_House_tell : MR := (yX3_tell, prog_5_method_8_code, 5, none, { frames := 0, cells := 0, slots := 0, locals := 0 })
def m_House_withFirstIn : MR := (yX3_withFirstIn, prog_5_method_13_code, 5, (some .int), { frames := 0, cells := 0, slots := 0, locals := 0 })
def m_House_withSecondIn : MR := (yX3_withSecondIn, prog_5_method_14_code, 5, (some .int), { frames := 0, cells := 0, slots := 0, locals := 0 })
def m_Mo_anew : MR := (yX10_anew, prog_12_method_49_code, 7, (some .int), { frames := 2, cells := 0, slots := 0, locals := 50 })
def m_Mo_answers : MR := (yX10_answers, prog_12_method_61_code, 5, (some .int), { frames := 5, cells := 0, slots := 0, locals := 123 })
def m_Mo_areApart : MR := (yX10_areApart, prog_12_method_47_code, 4, (some .boolean), { frames := 1, cells := 0, slots := 0, locals := 21 })
def m_Mo_areNamed : MR := (yX10_areNamed, prog_12_method_23_code, 4, (some .boolean), { frames := 0, cells := 0, slots := 0, locals := 0 })
def m_Mo_as : MR := (yX10_as, prog_12_method_76_code, 3, (some .int), { frames := 2, cells := 0, slots := 0, locals := 46 })
def m_Mo_ask : MR := (yX10_ask, prog_12_method_82_code, 3, (some .int), { frames := 5, cells := 0, slots := 0, locals := 113 })
def m_Mo_askable : MR := (yX10_askable, prog_12_method_62_code, 4, (some .int), { frames := 5, cells := 0, slots := 0, locals := 123 })
def m_Mo_bad : MR := (yX10_bad, prog_12_method_11_code, 2, none, { frames := 0, cells := 0, slots := 0, locals := 0 })
def m_Mo_began : MR := (yX10_began, prog_12_method_77_code, 2, none, { frames := 0, cells := 0, slots := 0, locals := 0 })
def m_Mo_begin : MR := (yX10_begin, prog_12_method_17_code, 1, none, { frames := 2, cells := 0, slots := 0, locals := 45 })
def m_Mo_bits : MR := (yX10_bits, prog_12_method_27_code, 3, (some .int), { frames := 0, cells := 0, slots := 0, locals := 0 })
def m_Mo_breaks : MR := (yX10_breaks, prog_12_method_35_code, 6, (some .int), { frames := 1, cells := 0, slots := 0, locals := 22 })
def m_Mo_cellAt : MR := (yX10_cellAt, prog_12_method_58_code, 2, (some .int), { frames := 5, cells := 0, slots := 0, locals := 123 })
def m_Mo_cellOf : MR := (yX10_cellOf, prog_12_method_31_code, 8, (some .int), { frames := 1, cells := 0, slots := 0, locals := 22 })
def m_Mo_comes : MR := (yX10_comes, prog_12_method_36_code, 4, none, { frames := 0, cells := 0, slots := 0, locals := 0 })
def m_Mo_constantCell : MR := (yX10_constantCell, prog_12_method_32_code, 4, (some .int), { frames := 2, cells := 0, slots := 0, locals := 49 })
def m_Mo_copy : MR := (yX10_copy, prog_12_method_8_code, 9, (some .int), { frames := 2, cells := 0, slots := 0, locals := 45 })
def m_Mo_count : MR := (yX10_count, prog_12_method_84_code, 4, (some .int), { frames := 5, cells := 0, slots := 0, locals := 123 })
def m_Mo_drawn : MR := (yX10_drawn, prog_12_method_70_code, 11, (some .int), { frames := 5, cells := 0, slots := 0, locals := 123 })
def m_Mo_drop : MR := (yX10_drop, prog_12_method_9_code, 2, (some .int), { frames := 2, cells := 0, slots := 0, locals := 45 })
def m_Mo_empties : MR := (yX10_empties, prog_12_method_57_code, 1, (some .int), { frames := 5, cells := 0, slots := 0, locals := 123 })
def m_Mo_emptySet : MR := (yX10_emptySet, prog_12_method_56_code, 4, (some .int), { frames := 3, cells := 0, slots := 0, locals := 65 })
def m_Mo_ends : MR := (yX10_ends, prog_12_method_63_code, 6, (some .int), { frames := 5, cells := 0, slots := 0, locals := 123 })
def m_Mo_everyType : MR := (yX10_everyType, prog_12_method_60_code, 1, (some .int), { frames := 0, cells := 0, slots := 0, locals := 0 })
def m_Mo_failed : MR := (yX10_failed, prog_12_method_18_code, 1, (some .boolean), { frames := 1, cells := 0, slots := 0, locals := 21 })
def m_Mo_fault : MR := (yX10_fault, prog_12_method_19_code, 1, (some .int), { frames := 0, cells := 0, slots := 0, locals := 0 })
def m_Mo_feed : MR := (yX10_feed, prog_12_method_10_code, 2, (some .int), { frames := 1, cells := 0, slots := 0, locals := 25 })
def m_Mo_finding : MR := (yX10_finding, prog_12_method_4_code, 2, (some .int), { frames := 0, cells := 0, slots := 0, locals := 0 })
def m_Mo_functionCell : MR := (yX10_functionCell, prog_12_method_34_code, 4, (some .int), { frames := 2, cells := 0, slots := 0, locals := 49 })
def m_Mo_gather : MR := (yX10_gather, prog_12_method_37_code, 2, none, { frames := 0, cells := 0, slots := 0, locals := 0 })
def m_Mo_goOn : MR := (yX10_goOn, prog_12_method_42_code, 7, none, { frames := 3, cells := 0, slots := 0, locals := 73 })
def m_Mo_has : MR := (yX10_has, prog_12_method_28_code, 2, (some .boolean), { frames := 0, cells := 0, slots := 0, locals := 0 })
def m_Mo_house : MR := (yX10_house, prog_12_method_24_code, 2, (some .int), { frames := 5, cells := 0, slots := 0, locals := 115 })
def m_Mo_image : MR := (yX10_image, prog_12_method_71_code, 3, (some .int), { frames := 1, cells := 0, slots := 0, locals := 25 })
def m_Mo_in : MR := (yX10_in, prog_12_method_3_code, 6, (some .boolean), { frames := 0, cells := 0, slots := 0, locals := 0 })
def m_Mo_init : MR := (yX10_init, prog_12_method_1_code, 1, none, { frames := 1, cells := 19, slots := 3518, locals := 20 })
def m_Mo_isEmpty : MR := (yX10_isEmpty, prog_12_method_45_code, 2, (some .boolean), { frames := 2, cells := 0, slots := 0, locals := 44 })
def m_Mo_isKnown : MR := (yX10_isKnown, prog_12_method_40_code, 4, (some .boolean), { frames := 0, cells := 0, slots := 0, locals := 0 })
def m_Mo_isLetter : MR := (yX10_isLetter, prog_12_method_14_code, 2, (some .boolean), { frames := 0, cells := 0, slots := 0, locals := 0 })
def m_Mo_isMarked : MR := (yX10_isMarked, prog_12_method_59_code, 3, (some .boolean), { frames := 3, cells := 0, slots := 0, locals := 72 })
def m_Mo_isOf : MR := (yX10_isOf, prog_12_method_74_code, 2, (some .boolean), { frames := 0, cells := 0, slots := 0, locals := 0 })
def m_Mo_isRow : MR := (yX10_isRow, prog_12_method_5_code, 1, (some .boolean), { frames := 1, cells := 0, slots := 0, locals := 25 })
def m_Mo_isSet : MR := (yX10_isSet, prog_12_method_52_code, 2, (some .boolean), { frames := 1, cells := 0, slots := 0, locals := 25 })
def m_Mo_isSort : MR := (yX10_isSort, prog_12_method_21_code, 1, (some .boolean), { frames := 1, cells := 0, slots := 0, locals := 20 })
def m_Mo_isThere : MR := (yX10_isThere, prog_12_method_25_code, 1, (some .boolean), { frames := 0, cells := 0, slots := 0, locals := 0 })
def m_Mo_isType : MR := (yX10_isType, prog_12_method_26_code, 2, (some .boolean), { frames := 1, cells := 0, slots := 0, locals := 25 })
def m_Mo_join : MR := (yX10_join, prog_12_method_38_code, 3, none, { frames := 0, cells := 0, slots := 0, locals := 0 })
def m_Mo_keep : MR := (yX10_keep, prog_12_method_48_code, 2, none, { frames := 0, cells := 0, slots := 0, locals := 0 })
def m_Mo_kind : MR := (yX10_kind, prog_12_method_75_code, 2, (some .int), { frames := 2, cells := 0, slots := 0, locals := 46 })
def m_Mo_kindOf : MR := (yX10_kindOf, prog_12_method_73_code, 3, (some .int), { frames := 1, cells := 0, slots := 0, locals := 22 })
def m_Mo_layCases : MR := (yX10_layCases, prog_12_method_39_code, 9, none, { frames := 2, cells := 0, slots := 0, locals := 47 })
def m_Mo_layPlain : MR := (yX10_layPlain, prog_12_method_64_code, 5, none, { frames := 3, cells := 0, slots := 0, locals := 73 })
def m_Mo_layThen : MR := (yX10_layThen, prog_12_method_43_code, 2, none, { frames := 0, cells := 0, slots := 0, locals := 0 })
def m_Mo_lies : MR := (yX10_lies, prog_12_method_54_code, 3, (some .int), { frames := 5, cells := 0, slots := 0, locals := 123 })
def m_Mo_liesIn : MR := (yX10_liesIn, prog_12_method_46_code, 4, (some .boolean), { frames := 1, cells := 0, slots := 0, locals := 21 })
def m_Mo_lowest : MR := (yX10_lowest, prog_12_method_53_code, 7, (some .int), { frames := 5, cells := 0, slots := 0, locals := 123 })
def m_Mo_markOf : MR := (yX10_markOf, prog_12_method_80_code, 4, (some .int), { frames := 3, cells := 0, slots := 0, locals := 67 })
def m_Mo_may : MR := (yX10_may, prog_12_method_30_code, 6, (some .boolean), { frames := 1, cells := 0, slots := 0, locals := 25 })
def m_Mo_must : MR := (yX10_must, prog_12_method_13_code, 2, none, { frames := 2, cells := 0, slots := 0, locals := 45 })
def m_Mo_mustSign : MR := (yX10_mustSign, prog_12_method_16_code, 2, none, { frames := 3, cells := 0, slots := 0, locals := 66 })
def m_Mo_nextToken : MR := (yX10_nextToken, prog_12_method_12_code, 1, none, { frames := 1, cells := 0, slots := 0, locals := 25 })
def m_Mo_number : MR := (yX10_number, prog_12_method_15_code, 4, (some .int), { frames := 3, cells := 0, slots := 0, locals := 66 })
def m_Mo_of : MR := (yX10_of, prog_12_method_29_code, 3, (some .int), { frames := 0, cells := 0, slots := 0, locals := 0 })
def m_Mo_others : MR := (yX10_others, prog_12_method_55_code, 6, (some .int), { frames := 5, cells := 0, slots := 0, locals := 123 })
def m_Mo_pairCell : MR := (yX10_pairCell, prog_12_method_33_code, 5, (some .int), { frames := 2, cells := 0, slots := 0, locals := 49 })
def m_Mo_pairSize : MR := (yX10_pairSize, prog_12_method_79_code, 4, (some .int), { frames := 2, cells := 0, slots := 0, locals := 44 })
def m_Mo_pick : MR := (yX10_pick, prog_12_method_67_code, 9, (some .int), { frames := 4, cells := 0, slots := 0, locals := 97 })
def m_Mo_plain : MR := (yX10_plain, prog_12_method_66_code, 3, (some .int), { frames := 4, cells := 0, slots := 0, locals := 97 })
def m_Mo_plainOf : MR := (yX10_plainOf, prog_12_method_65_code, 4, (some .int), { frames := 1, cells := 0, slots := 0, locals := 21 })
def m_Mo_plainSize : MR := (yX10_plainSize, prog_12_method_78_code, 2, (some .int), { frames := 1, cells := 0, slots := 0, locals := 22 })
def m_Mo_readType : MR := (yX10_readType, prog_12_method_22_code, 7, none, { frames := 4, cells := 0, slots := 0, locals := 89 })
def m_Mo_reckon : MR := (yX10_reckon, prog_12_method_41_code, 5, none, { frames := 4, cells := 0, slots := 0, locals := 99 })
def m_Mo_restore : MR := (yX10_restore, prog_12_method_72_code, 3, (some .int), { frames := 1, cells := 0, slots := 0, locals := 25 })
def m_Mo_row : MR := (yX10_row, prog_12_method_6_code, 5, (some .int), { frames := 2, cells := 0, slots := 0, locals := 45 })
def m_Mo_rowFound : MR := (yX10_rowFound, prog_12_method_68_code, 4, (some .int), { frames := 1, cells := 0, slots := 0, locals := 21 })
def m_Mo_set : MR := (yX10_set, prog_12_method_7_code, 4, (some .int), { frames := 2, cells := 0, slots := 0, locals := 45 })
def m_Mo_sizeOf : MR := (yX10_sizeOf, prog_12_method_81_code, 4, (some .int), { frames := 4, cells := 0, slots := 0, locals := 90 })
def m_Mo_sortBy : MR := (yX10_sortBy, prog_12_method_20_code, 1, (some .int), { frames := 0, cells := 0, slots := 0, locals := 0 })
def m_Mo_sortsOf : MR := (yX10_sortsOf, prog_12_method_44_code, 4, (some .int), { frames := 1, cells := 0, slots := 0, locals := 21 })
def m_Mo_status : MR := (yX10_status, prog_12_method_85_code, 1, (some .int), { frames := 0, cells := 0, slots := 0, locals := 0 })
def m_Mo_trace : MR := (yX10_trace, prog_12_method_83_code, 2, (some .int), { frames := 1, cells := 0, slots := 0, locals := 25 })
def m_Mo_type : MR := (yX10_type, prog_12_method_51_code, 3, (some .int), { frames := 2, cells := 0, slots := 0, locals := 46 })
def m_Mo_undo : MR := (yX10_undo, prog_12_method_50_code, 2, (some .int), { frames := 0, cells := 0, slots := 0, locals := 0 })
def m_Mo_who : MR := (yX10_who, prog_12_method_69_code, 11, (some .int), { frames := 5, cells := 0, slots := 0, locals := 123 })
def m_Plain_howMany : MR := (yX4_howMany, prog_6_method_5_code, 3, (some .int), { frames := 0, cells := 0, slots := 0, locals := 0 })
def m_Plain_init : MR := (yX4_init, prog_6_method_1_code, 1, none, { frames := 2, cells := 14, slots := 2096, locals := 40 })
def m_Plain_measure : MR := (yX4_measure, prog_6_method_2_code, 5, none, { frames := 3, cells := 0, slots := 0, locals := 69 })
def m_Plain_ofAny : MR := (yX4_ofAny, prog_6_method_6_code, 2, (some .int), { frames := 0, cells := 0, slots := 0, locals := 0 })
def m_Plain_pairUp : MR := (yX4_pairUp, prog_6_method_3_code, 6, none, { frames := 2, cells := 0, slots := 0, locals := 44 })
def m_Plain_sumUp : MR := (yX4_sumUp, prog_6_method_4_code, 6, none, { frames := 0, cells := 0, slots := 0, locals := 0 })
def m_Rows_bits : MR := (yX5_bits, prog_7_method_9_code, 6, (some .int), { frames := 0, cells := 0, slots := 0, locals := 0 })
def m_Rows_findingAt : MR := (yX5_findingAt, prog_7_method_10_code, 4, (some .int), { frames := 1, cells := 0, slots := 0, locals := 23 })
def m_Rows_findingOfMove : MR := (yX5_findingOfMove, prog_7_method_11_code, 6, (some .int), { frames := 1, cells := 0, slots := 0, locals := 23 })
def m_Rows_init : MR := (yX5_init, prog_7_method_1_code, 1, none, { frames := 1, cells := 3, slots := 336, locals := 23 })
def m_Rows_isLane : MR := (yX5_isLane, prog_7_method_3_code, 1, (some .boolean), { frames := 0, cells := 0, slots := 0, locals := 0 })
def m_Rows_isNumber : MR := (yX5_isNumber, prog_7_method_2_code, 1, (some .boolean), { frames := 0, cells := 0, slots := 0, locals := 0 })
def m_Rows_isPlace : MR := (yX5_isPlace, prog_7_method_12_code, 4, (some .boolean), { frames := 0, cells := 0, slots := 0, locals := 0 })
def m_Rows_lose : MR := (yX5_lose, prog_7_method_7_code, 2, (some .int), { frames := 0, cells := 0, slots := 0, locals := 0 })
def m_Rows_make : MR := (yX5_make, prog_7_method_4_code, 5, none, { frames := 0, cells := 0, slots := 0, locals := 0 })
def m_Rows_move : MR := (yX5_move, prog_7_method_6_code, 6, none, { frames := 1, cells := 0, slots := 0, locals := 40 })
def m_Rows_present : MR := (yX5_present, prog_7_method_8_code, 3, (some .int), { frames := 0, cells := 0, slots := 0, locals := 0 })
def m_Rows_put : MR := (yX5_put, prog_7_method_5_code, 6, (some .int), { frames := 0, cells := 0, slots := 0, locals := 0 })
def m_Sets_add : MR := (yX6_add, prog_8_method_3_code, 3, (some .boolean), { frames := 0, cells := 0, slots := 0, locals := 0 })
def m_Sets_clear : MR := (yX6_clear, prog_8_method_2_code, 2, none, { frames := 0, cells := 0, slots := 0, locals := 0 })
def m_Sets_init : MR := (yX6_init, prog_8_method_1_code, 1, none, { frames := 1, cells := 2, slots := 512, locals := 20 })
def m_Sets_raise : MR := (yX6_raise, prog_8_method_4_code, 3, none, { frames := 1, cells := 0, slots := 0, locals := 22 })
def m_Sides_clear : MR := (yX7_clear, prog_9_method_2_code, 1, none, { frames := 1, cells := 0, slots := 0, locals := 21 })
def m_Sides_init : MR := (yX7_init, prog_9_method_1_code, 1, none, { frames := 2, cells := 8, slots := 1542, locals := 40 })
def m_Sides_see : MR := (yX7_see, prog_9_method_3_code, 5, none, { frames := 1, cells := 0, slots := 0, locals := 24 })
def m_TS_anew : MR := (yX9_anew, prog_1_method_10_code, 6, (some .int), { frames := 3, cells := 0, slots := 0, locals := 82 })
def m_TS_answers : MR := (yX9_answers, prog_1_method_17_code, 3, (some .int), { frames := 6, cells := 0, slots := 0, locals := 146 })
def m_TS_as : MR := (yX9_as, prog_1_method_27_code, 3, (some .int), { frames := 1, cells := 0, slots := 0, locals := 21 })
def m_TS_ask : MR := (yX9_ask, prog_1_method_28_code, 3, (some .int), { frames := 7, cells := 0, slots := 0, locals := 142 })
def m_TS_askable : MR := (yX9_askable, prog_1_method_18_code, 2, (some .int), { frames := 6, cells := 0, slots := 0, locals := 146 })
def m_TS_cellAt : MR := (yX9_cellAt, prog_1_method_16_code, 2, (some .int), { frames := 6, cells := 0, slots := 0, locals := 146 })
def m_TS_cellsNow : MR := (yX9_cellsNow, prog_1_method_34_code, 1, (some (FieldType.object "TypeSets$Cells")), { frames := 5, cells := 0, slots := 0, locals := 126 })
def m_TS_copy : MR := (yX9_copy, prog_1_method_4_code, 6, (some .int), { frames := 2, cells := 0, slots := 0, locals := 65 })
def m_TS_count : MR := (yX9_count, prog_1_method_30_code, 2, (some .int), { frames := 6, cells := 0, slots := 0, locals := 146 })
def m_TS_drawEquation : MR := (yX9_drawEquation, prog_1_method_38_code, 7, none, { frames := 2, cells := 0, slots := 0, locals := 46 })
def m_TS_drawn : MR := (yX9_drawn, prog_1_method_23_code, 7, (some .int), { frames := 5, cells := 0, slots := 0, locals := 126 })
def m_TS_drop : MR := (yX9_drop, prog_1_method_5_code, 2, (some .int), { frames := 2, cells := 0, slots := 0, locals := 46 })
def m_TS_empties : MR := (yX9_empties, prog_1_method_15_code, 1, (some .int), { frames := 6, cells := 0, slots := 0, locals := 146 })
def m_TS_ends : MR := (yX9_ends, prog_1_method_19_code, 3, (some .int), { frames := 6, cells := 0, slots := 0, locals := 146 })
def m_TS_fault : MR := (yX9_fault, prog_1_method_8_code, 1, (some .int), { frames := 0, cells := 0, slots := 0, locals := 0 })
def m_TS_feed : MR := (yX9_feed, prog_1_method_6_code, 2, (some .int), { frames := 1, cells := 0, slots := 0, locals := 21 })
def m_TS_fits : MR := (yX9_fits, prog_1_method_37_code, 9, (some .boolean), { frames := 5, cells := 0, slots := 0, locals := 126 })
def m_TS_forgetWhatStood : MR := (yX9_forgetWhatStood, prog_1_method_33_code, 1, none, { frames := 0, cells := 0, slots := 0, locals := 0 })
def m_TS_greatestDivisor : MR := (yX9_greatestDivisor, prog_1_method_39_code, 6, (some .int), { frames := 0, cells := 0, slots := 0, locals := 0 })
def m_TS_house : MR := (yX9_house, prog_1_method_7_code, 2, (some .int), { frames := 6, cells := 0, slots := 0, locals := 132 })
def m_TS_image : MR := (yX9_image, prog_1_method_24_code, 2, (some .int), { frames := 2, cells := 0, slots := 0, locals := 61 })
def m_TS_imageOf : MR := (yX9_imageOf, prog_1_method_36_code, 2, (some (FieldType.object "TypeSets$House")), { frames := 0, cells := 0, slots := 0, locals := 0 })
def m_TS_init : MR := (yX9_init, prog_1_method_1_code, 1, none, { frames := 4, cells := 118, slots := 13699, locals := 80 })
def m_TS_kind : MR := (yX9_kind, prog_1_method_26_code, 2, (some .int), { frames := 1, cells := 0, slots := 0, locals := 21 })
def m_TS_lies : MR := (yX9_lies, prog_1_method_13_code, 3, (some .int), { frames := 6, cells := 0, slots := 0, locals := 146 })
def m_TS_lowest : MR := (yX9_lowest, prog_1_method_12_code, 3, (some .int), { frames := 6, cells := 0, slots := 0, locals := 146 })
def m_TS_others : MR := (yX9_others, prog_1_method_14_code, 3, (some .int), { frames := 6, cells := 0, slots := 0, locals := 146 })
def m_TS_pick : MR := (yX9_pick, prog_1_method_21_code, 7, (some .int), { frames := 5, cells := 0, slots := 0, locals := 113 })
def m_TS_plain : MR := (yX9_plain, prog_1_method_20_code, 3, (some .int), { frames := 5, cells := 0, slots := 0, locals := 113 })
def m_TS_plainNow : MR := (yX9_plainNow, prog_1_method_35_code, 1, (some (FieldType.object "TypeSets$PlainValues")), { frames := 4, cells := 0, slots := 0, locals := 93 })
def m_TS_restore : MR := (yX9_restore, prog_1_method_25_code, 2, (some .int), { frames := 3, cells := 0, slots := 0, locals := 82 })
def m_TS_row : MR := (yX9_row, prog_1_method_2_code, 4, (some .int), { frames := 1, cells := 0, slots := 0, locals := 24 })
def m_TS_set : MR := (yX9_set, prog_1_method_3_code, 4, (some .int), { frames := 2, cells := 0, slots := 0, locals := 46 })
def m_TS_standIn : MR := (yX9_standIn, prog_1_method_32_code, 2, none, { frames := 2, cells := 0, slots := 0, locals := 61 })
def m_TS_status : MR := (yX9_status, prog_1_method_31_code, 1, (some .int), { frames := 0, cells := 0, slots := 0, locals := 0 })
def m_TS_trace : MR := (yX9_trace, prog_1_method_29_code, 2, (some .int), { frames := 0, cells := 0, slots := 0, locals := 0 })
def m_TS_type : MR := (yX9_type, prog_1_method_11_code, 3, (some .int), { frames := 1, cells := 0, slots := 0, locals := 21 })
def m_TS_undo : MR := (yX9_undo, prog_1_method_9_code, 1, (some .int), { frames := 2, cells := 0, slots := 0, locals := 45 })
def m_TS_who : MR := (yX9_who, prog_1_method_22_code, 10, (some .int), { frames := 6, cells := 0, slots := 0, locals := 154 })
def m_Tape_add : MR := (yX8_add, prog_10_method_2_code, 2, (some .boolean), { frames := 0, cells := 0, slots := 0, locals := 0 })
def m_Tape_fails : MR := (yX8_fails, prog_10_method_10_code, 2, (some .boolean), { frames := 0, cells := 0, slots := 0, locals := 0 })
def m_Tape_init : MR := (yX8_init, prog_10_method_1_code, 1, none, { frames := 1, cells := 1, slots := 80, locals := 20 })
def m_Tape_isFigure : MR := (yX8_isFigure, prog_10_method_12_code, 1, (some .boolean), { frames := 0, cells := 0, slots := 0, locals := 0 })
def m_Tape_mostOf : MR := (yX8_mostOf, prog_10_method_6_code, 2, (some .int), { frames := 0, cells := 0, slots := 0, locals := 0 })
def m_Tape_read : MR := (yX8_read, prog_10_method_3_code, 2, (some .boolean), { frames := 5, cells := 0, slots := 0, locals := 111 })
def m_Tape_readEquation : MR := (yX8_readEquation, prog_10_method_5_code, 6, (some .boolean), { frames := 3, cells := 0, slots := 0, locals := 63 })
def m_Tape_readTypes : MR := (yX8_readTypes, prog_10_method_4_code, 4, (some .boolean), { frames := 4, cells := 0, slots := 0, locals := 88 })
def m_Tape_sortOf : MR := (yX8_sortOf, prog_10_method_7_code, 1, (some .int), { frames := 0, cells := 0, slots := 0, locals := 0 })
def m_Tape_step : MR := (yX8_step, prog_10_method_11_code, 2, none, { frames := 1, cells := 0, slots := 0, locals := 20 })
def m_Tape_takesNumber : MR := (yX8_takesNumber, prog_10_method_9_code, 3, (some .boolean), { frames := 2, cells := 0, slots := 0, locals := 41 })
def m_Tape_takesSign : MR := (yX8_takesSign, prog_10_method_8_code, 2, (some .boolean), { frames := 2, cells := 0, slots := 0, locals := 41 })
def m_bitCount : MR := (yJ6_bitCount_0f7a4, prog_13_method_49_code, 1, (some .int), { frames := 0, cells := 0, slots := 0, locals := 0 })
def m_fill : MR := (yJ7_fill_53178, prog_15_method_103_code, 4, none, { frames := 0, cells := 0, slots := 0, locals := 0 })
def m_law : MR := (yL_law, code, 4, (some .boolean), room_1)
/-- of a class: where the cells that its fields name lie behind it (none: the field is a number) -/
def mx_off : List (List (Option Nat)) := [[some 1, some 2, some 3, some 4, none], [some 1, none, none, none, none, none], [some 1, none, none, none, none, none, some 5, some 8, some 17, some 26, some 29, some 32, some 33, some 34, some 35, some 36], [some 1, some 2, some 3, none, none], [some 1, some 2, some 3, some 6, some 9, some 12], [some 1, some 2, some 3], [some 1, some 2, none], [some 1, some 2, some 3, some 6], [some 1, none, none, none, none, none, none], [some 1, some 5, some 7, some 11, some 15, some 19, some 23, some 28, some 65, some 102, some 117, none, none, none], [none, none, some 1, some 2, some 3, some 4, some 5, some 6, some 7, none, some 8, none, none, none, none, none, none, none, none, some 9, some 10, some 11, none, some 12, some 13, some 14, some 15, some 16, some 17, some 18, some 19, none]]
abbrev mx_K : Type := (Nat × List (Option (Option Nat))) ⊕ (Bool × Nat)
/-- the cells of both systems, once they are made -/
def LAY : List mx_K := [.inl (9, [some (some 1), some (some 5), some (some 7), some (some 11), some (some 15), some (some 19), some (some 23), some (some 28), some (some 65), some (some 102), some (some 117), none, none, none]), .inl (5, [some (some 2), some (some 3), some (some 4)]), .inr (false, 8), .inr (false, 8), .inr (false, 320), .inl (8, [some (some 6), none, none, none, none, none, none]), .inr (false, 80), .inl (3, [some (some 8), some (some 9), some (some 10), none, none]), .inr (false, 8), .inr (false, 8), .inr (false, 8), .inl (3, [some (some 12), some (some 13), some (some 14), none, none]), .inr (false, 8), .inr (false, 8), .inr (false, 8), .inl (3, [some (some 16), some (some 17), some (some 18), none, none]), .inr (false, 8), .inr (false, 8), .inr (false, 8), .inl (3, [some (some 20), some (some 21), some (some 22), none, none]), .inr (false, 8), .inr (false, 8), .inr (false, 8), .inl (0, [some (some 24), some (some 25), some (some 26), some (some 27), none]), .inr (false, 24), .inr (false, 24), .inr (false, 24), .inr (false, 24), .inl (2, [some (some 29), none, none, none, none, none, some (some 33), some (some 36), some (some 45), some (some 54), some (some 57), some (some 60), some (some 61), some (some 62), some (some 63), some (some 64)]), .inl (3, [some (some 30), some (some 31), some (some 32), none, none]), .inr (false, 8), .inr (false, 8), .inr (false, 8), .inl (6, [some (some 34), some (some 35), none]), .inr (false, 256), .inr (false, 256), .inl (7, [some (some 37), some (some 38), some (some 39), some (some 42)]), .inr (false, 256), .inr (false, 256), .inl (6, [some (some 40), some (some 41), none]), .inr (false, 256), .inr (false, 256), .inl (6, [some (some 43), some (some 44), none]), .inr (false, 256), .inr (false, 256), .inl (7, [some (some 46), some (some 47), some (some 48), some (some 51)]), .inr (false, 256), .inr (false, 256), .inl (6, [some (some 49), some (some 50), none]), .inr (false, 256), .inr (false, 256), .inl (6, [some (some 52), some (some 53), none]), .inr (false, 256), .inr (false, 256), .inl (6, [some (some 55), some (some 56), none]), .inr (false, 256), .inr (false, 256), .inl (6, [some (some 58), some (some 59), none]), .inr (false, 256), .inr (false, 256), .inr (false, 256), .inr (false, 256), .inr (false, 256), .inr (false, 8), .inr (false, 8), .inl (2, [some (some 66), none, none, none, none, none, some (some 70), some (some 73), some (some 82), some (some 91), some (some 94), some (some 97), some (some 98), some (some 99), some (some 100), some (some 101)]), .inl (3, [some (some 67), some (some 68), some (some 69), none, none]), .inr (false, 8), .inr (false, 8), .inr (false, 8), .inl (6, [some (some 71), some (some 72), none]), .inr (false, 256), .inr (false, 256), .inl (7, [some (some 74), some (some 75), some (some 76), some (some 79)]), .inr (false, 256), .inr (false, 256), .inl (6, [some (some 77), some (some 78), none]), .inr (false, 256), .inr (false, 256), .inl (6, [some (some 80), some (some 81), none]), .inr (false, 256), .inr (false, 256), .inl (7, [some (some 83), some (some 84), some (some 85), some (some 88)]), .inr (false, 256), .inr (false, 256), .inl (6, [some (some 86), some (some 87), none]), .inr (false, 256), .inr (false, 256), .inl (6, [some (some 89), some (some 90), none]), .inr (false, 256), .inr (false, 256), .inl (6, [some (some 92), some (some 93), none]), .inr (false, 256), .inr (false, 256), .inl (6, [some (some 95), some (some 96), none]), .inr (false, 256), .inr (false, 256), .inr (false, 256), .inr (false, 256), .inr (false, 256), .inr (false, 8), .inr (false, 8), .inl (4, [some (some 103), some (some 104), some (some 105), some (some 108), some (some 111), some (some 114)]), .inr (false, 32), .inr (false, 4), .inl (6, [some (some 106), some (some 107), none]), .inr (false, 256), .inr (false, 256), .inl (6, [some (some 109), some (some 110), none]), .inr (false, 256), .inr (false, 256), .inl (6, [some (some 112), some (some 113), none]), .inr (false, 256), .inr (false, 256), .inl (6, [some (some 115), some (some 116), none]), .inr (false, 256), .inr (false, 256), .inl (1, [some (some 118), none, none, none, none, none]), .inr (false, 16), .inl (10, [none, none, some (some 120), some (some 121), some (some 122), some (some 123), some (some 124), some (some 125), some (some 126), none, some (some 127), none, none, none, none, none, none, none, none, some (some 128), some (some 129), some (some 130), none, some (some 131), some (some 132), some (some 133), some (some 134), some (some 135), some (some 136), some (some 137), some (some 138), none]), .inr (false, 8), .inr (false, 8), .inr (false, 320), .inr (false, 26), .inr (false, 26), .inr (false, 26), .inr (false, 624), .inr (false, 80), .inr (false, 256), .inr (false, 256), .inr (false, 256), .inr (true, 512), .inr (true, 512), .inr (false, 26), .inr (false, 256), .inr (false, 256), .inr (true, 2), .inr (false, 52), .inr (false, 16)]
def mx_lp0 : List Nat := [202, 204, 206, 208, 210]
def mx_lp1 : List Nat := [362, 364, 366, 368, 370, 372]
def mx_lp2 : List Nat := [288, 290, 292, 294, 296, 298, 300, 302, 304, 306, 308, 310, 312, 314, 316, 318]
def mx_lp3 : List Nat := [179, 181, 183, 185, 187]
def mx_lp4 : List Nat := [335, 337, 339, 341, 343, 345]
def mx_lp5 : List Nat := [113, 115, 117]
def mx_lp6 : List Nat := [237, 239, 241]
def mx_lp7 : List Nat := [260, 262, 264, 266]
def mx_lp8 : List Nat := [137, 139, 141, 143, 145, 147, 149]
def mx_lp9 : List Nat := [389, 391, 393, 395, 397, 399, 401, 403, 405, 407, 409, 411, 413, 415]
def mx_lp10 : List Nat := [972, 974, 976, 978, 980, 982, 984, 986, 988, 990, 992, 994, 996, 998, 1000, 1002, 1004, 1006, 1008, 1010, 1012, 1014, 1016, 1018, 1020, 1022, 1024, 1026, 1028, 1030, 1032, 1034]
