section
-- ===== PART A: goes FIRST, ahead of the names: the tables' words, and 'selects' of the private methods out of them =====
/-- a private method of a class that the tables say can be made, by its rows of tables_1 -/
def lw_okq (q : MethodName × Nat) : Prop := (q.1.cls ≠ "java/lang/invoke/MethodHandle" ∧ q.1.cls ≠ "java/lang/invoke/VarHandle") ∧ Cond.instantiable q.1.cls q.2 ∈ tables_1 ∧ Cond.privateMethod q.1 ∈ tables_1 ∧ Cond.instanceMethod q.1 ∈ tables_1
theorem lw_p0 : lw_okq (⟨"TypeSets$Rows", "isPlace", "(III)Z"⟩, 3) := ⟨⟨by decide +kernel, by decide +kernel⟩, List.mem_of_getElem? (i := 24) (by decide +kernel), List.mem_of_getElem? (i := 365) (by decide +kernel), List.mem_of_getElem? (i := 366) (by decide +kernel)⟩
theorem lw_p1 : lw_okq (⟨"TypeSets$Tape", "takesSign", "(I)Z"⟩, 7) := ⟨⟨by decide +kernel, by decide +kernel⟩, List.mem_of_getElem? (i := 44) (by decide +kernel), List.mem_of_getElem? (i := 413) (by decide +kernel), List.mem_of_getElem? (i := 414) (by decide +kernel)⟩
theorem lw_p2 : lw_okq (⟨"TypeSets$Tape", "step", "()V"⟩, 7) := ⟨⟨by decide +kernel, by decide +kernel⟩, List.mem_of_getElem? (i := 44) (by decide +kernel), List.mem_of_getElem? (i := 417) (by decide +kernel), List.mem_of_getElem? (i := 418) (by decide +kernel)⟩
theorem lw_p3 : lw_okq (⟨"TypeSets$Tape", "fails", "(I)Z"⟩, 7) := ⟨⟨by decide +kernel, by decide +kernel⟩, List.mem_of_getElem? (i := 44) (by decide +kernel), List.mem_of_getElem? (i := 424) (by decide +kernel), List.mem_of_getElem? (i := 425) (by decide +kernel)⟩
theorem lw_p4 : lw_okq (⟨"TypeSets$Tape", "takesNumber", "(II)Z"⟩, 7) := ⟨⟨by decide +kernel, by decide +kernel⟩, List.mem_of_getElem? (i := 44) (by decide +kernel), List.mem_of_getElem? (i := 428) (by decide +kernel), List.mem_of_getElem? (i := 429) (by decide +kernel)⟩
theorem lw_p5 : lw_okq (⟨"TypeSets$Tape", "readTypes", "(LTypeSets$House;)Z"⟩, 7) := ⟨⟨by decide +kernel, by decide +kernel⟩, List.mem_of_getElem? (i := 44) (by decide +kernel), List.mem_of_getElem? (i := 432) (by decide +kernel), List.mem_of_getElem? (i := 433) (by decide +kernel)⟩
theorem lw_p6 : lw_okq (⟨"TypeSets$Tape", "readEquation", "(LTypeSets$House;II)Z"⟩, 7) := ⟨⟨by decide +kernel, by decide +kernel⟩, List.mem_of_getElem? (i := 44) (by decide +kernel), List.mem_of_getElem? (i := 451) (by decide +kernel), List.mem_of_getElem? (i := 452) (by decide +kernel)⟩
theorem lw_p7 : lw_okq (⟨"TypeSets", "standIn", "(LTypeSets$House;)V"⟩, 14) := ⟨⟨by decide +kernel, by decide +kernel⟩, List.mem_of_getElem? (i := 16) (by decide +kernel), List.mem_of_getElem? (i := 463) (by decide +kernel), List.mem_of_getElem? (i := 464) (by decide +kernel)⟩
theorem lw_p8 : lw_okq (⟨"TypeSets", "forgetWhatStood", "()V"⟩, 14) := ⟨⟨by decide +kernel, by decide +kernel⟩, List.mem_of_getElem? (i := 16) (by decide +kernel), List.mem_of_getElem? (i := 472) (by decide +kernel), List.mem_of_getElem? (i := 473) (by decide +kernel)⟩
theorem lw_p9 : lw_okq (⟨"TypeSets$Acts", "forgetOldest", "()V"⟩, 5) := ⟨⟨by decide +kernel, by decide +kernel⟩, List.mem_of_getElem? (i := 113) (by decide +kernel), List.mem_of_getElem? (i := 499) (by decide +kernel), List.mem_of_getElem? (i := 500) (by decide +kernel)⟩
theorem lw_p10 : lw_okq (⟨"TypeSets", "cellsNow", "()LTypeSets$Cells;"⟩, 14) := ⟨⟨by decide +kernel, by decide +kernel⟩, List.mem_of_getElem? (i := 16) (by decide +kernel), List.mem_of_getElem? (i := 526) (by decide +kernel), List.mem_of_getElem? (i := 527) (by decide +kernel)⟩
theorem lw_p11 : lw_okq (⟨"TypeSets$Cells", "begin", "(LTypeSets$House;)V"⟩, 16) := ⟨⟨by decide +kernel, by decide +kernel⟩, List.mem_of_getElem? (i := 136) (by decide +kernel), List.mem_of_getElem? (i := 534) (by decide +kernel), List.mem_of_getElem? (i := 535) (by decide +kernel)⟩
theorem lw_p12 : lw_okq (⟨"TypeSets$Cells", "addFunction", "(II)V"⟩, 16) := ⟨⟨by decide +kernel, by decide +kernel⟩, List.mem_of_getElem? (i := 136) (by decide +kernel), List.mem_of_getElem? (i := 565) (by decide +kernel), List.mem_of_getElem? (i := 566) (by decide +kernel)⟩
theorem lw_p13 : lw_okq (⟨"TypeSets$Cells", "addPairs", "(III)V"⟩, 16) := ⟨⟨by decide +kernel, by decide +kernel⟩, List.mem_of_getElem? (i := 136) (by decide +kernel), List.mem_of_getElem? (i := 583) (by decide +kernel), List.mem_of_getElem? (i := 584) (by decide +kernel)⟩
theorem lw_p14 : lw_okq (⟨"TypeSets$Cells", "addPair", "(II)V"⟩, 16) := ⟨⟨by decide +kernel, by decide +kernel⟩, List.mem_of_getElem? (i := 136) (by decide +kernel), List.mem_of_getElem? (i := 587) (by decide +kernel), List.mem_of_getElem? (i := 588) (by decide +kernel)⟩
theorem lw_p15 : lw_okq (⟨"TypeSets$Cells", "addCases", "(III)V"⟩, 16) := ⟨⟨by decide +kernel, by decide +kernel⟩, List.mem_of_getElem? (i := 136) (by decide +kernel), List.mem_of_getElem? (i := 591) (by decide +kernel), List.mem_of_getElem? (i := 592) (by decide +kernel)⟩
def lw_privs_1 : List (MethodName × Nat) := [(⟨"TypeSets$Rows", "isPlace", "(III)Z"⟩, 3), (⟨"TypeSets$Tape", "takesSign", "(I)Z"⟩, 7), (⟨"TypeSets$Tape", "step", "()V"⟩, 7), (⟨"TypeSets$Tape", "fails", "(I)Z"⟩, 7), (⟨"TypeSets$Tape", "takesNumber", "(II)Z"⟩, 7), (⟨"TypeSets$Tape", "readTypes", "(LTypeSets$House;)Z"⟩, 7), (⟨"TypeSets$Tape", "readEquation", "(LTypeSets$House;II)Z"⟩, 7), (⟨"TypeSets", "standIn", "(LTypeSets$House;)V"⟩, 14), (⟨"TypeSets", "forgetWhatStood", "()V"⟩, 14), (⟨"TypeSets$Acts", "forgetOldest", "()V"⟩, 5), (⟨"TypeSets", "cellsNow", "()LTypeSets$Cells;"⟩, 14), (⟨"TypeSets$Cells", "begin", "(LTypeSets$House;)V"⟩, 16), (⟨"TypeSets$Cells", "addFunction", "(II)V"⟩, 16), (⟨"TypeSets$Cells", "addPairs", "(III)V"⟩, 16), (⟨"TypeSets$Cells", "addPair", "(II)V"⟩, 16), (⟨"TypeSets$Cells", "addCases", "(III)V"⟩, 16)]
theorem lw_r1 : ∀ q ∈ lw_privs_1, lw_okq q := List.forall_mem_cons.mpr ⟨lw_p0, List.forall_mem_cons.mpr ⟨lw_p1, List.forall_mem_cons.mpr ⟨lw_p2, List.forall_mem_cons.mpr ⟨lw_p3, List.forall_mem_cons.mpr ⟨lw_p4, List.forall_mem_cons.mpr ⟨lw_p5, List.forall_mem_cons.mpr ⟨lw_p6, List.forall_mem_cons.mpr ⟨lw_p7, List.forall_mem_cons.mpr ⟨lw_p8, List.forall_mem_cons.mpr ⟨lw_p9, List.forall_mem_cons.mpr ⟨lw_p10, List.forall_mem_cons.mpr ⟨lw_p11, List.forall_mem_cons.mpr ⟨lw_p12, List.forall_mem_cons.mpr ⟨lw_p13, List.forall_mem_cons.mpr ⟨lw_p14, List.forall_mem_cons.mpr ⟨lw_p15, fun _ h => absurd h List.not_mem_nil⟩⟩⟩⟩⟩⟩⟩⟩⟩⟩⟩⟩⟩⟩⟩⟩
theorem lw_p16 : lw_okq (⟨"TypeSets$Cells", "addCase", "(II)V"⟩, 16) := ⟨⟨by decide +kernel, by decide +kernel⟩, List.mem_of_getElem? (i := 136) (by decide +kernel), List.mem_of_getElem? (i := 595) (by decide +kernel), List.mem_of_getElem? (i := 596) (by decide +kernel)⟩
theorem lw_p17 : lw_okq (⟨"TypeSets$Cells", "relate", "()V"⟩, 16) := ⟨⟨by decide +kernel, by decide +kernel⟩, List.mem_of_getElem? (i := 136) (by decide +kernel), List.mem_of_getElem? (i := 599) (by decide +kernel), List.mem_of_getElem? (i := 600) (by decide +kernel)⟩
theorem lw_p18 : lw_okq (⟨"TypeSets$Cells", "openFor", "(I)V"⟩, 16) := ⟨⟨by decide +kernel, by decide +kernel⟩, List.mem_of_getElem? (i := 136) (by decide +kernel), List.mem_of_getElem? (i := 646) (by decide +kernel), List.mem_of_getElem? (i := 647) (by decide +kernel)⟩
theorem lw_p19 : lw_okq (⟨"TypeSets$Cells", "holdingAnswersFrom", "(I)I"⟩, 16) := ⟨⟨by decide +kernel, by decide +kernel⟩, List.mem_of_getElem? (i := 136) (by decide +kernel), List.mem_of_getElem? (i := 650) (by decide +kernel), List.mem_of_getElem? (i := 651) (by decide +kernel)⟩
theorem lw_p20 : lw_okq (⟨"TypeSets$Cells", "pairsInto", "(IILTypeSets$Sets;)Z"⟩, 16) := ⟨⟨by decide +kernel, by decide +kernel⟩, List.mem_of_getElem? (i := 136) (by decide +kernel), List.mem_of_getElem? (i := 670) (by decide +kernel), List.mem_of_getElem? (i := 671) (by decide +kernel)⟩
theorem lw_p21 : lw_okq (⟨"TypeSets", "plainNow", "()LTypeSets$PlainValues;"⟩, 14) := ⟨⟨by decide +kernel, by decide +kernel⟩, List.mem_of_getElem? (i := 16) (by decide +kernel), List.mem_of_getElem? (i := 678) (by decide +kernel), List.mem_of_getElem? (i := 679) (by decide +kernel)⟩
theorem lw_p22 : lw_okq (⟨"TypeSets$PlainValues", "pairUp", "(LTypeSets$House;)V"⟩, 6) := ⟨⟨by decide +kernel, by decide +kernel⟩, List.mem_of_getElem? (i := 244) (by decide +kernel), List.mem_of_getElem? (i := 688) (by decide +kernel), List.mem_of_getElem? (i := 689) (by decide +kernel)⟩
theorem lw_p23 : lw_okq (⟨"TypeSets$PlainValues", "sumUp", "(I)V"⟩, 6) := ⟨⟨by decide +kernel, by decide +kernel⟩, List.mem_of_getElem? (i := 244) (by decide +kernel), List.mem_of_getElem? (i := 701) (by decide +kernel), List.mem_of_getElem? (i := 702) (by decide +kernel)⟩
theorem lw_p24 : lw_okq (⟨"TypeSets", "fits", "(IIIII)Z"⟩, 14) := ⟨⟨by decide +kernel, by decide +kernel⟩, List.mem_of_getElem? (i := 16) (by decide +kernel), List.mem_of_getElem? (i := 728) (by decide +kernel), List.mem_of_getElem? (i := 729) (by decide +kernel)⟩
theorem lw_p25 : lw_okq (⟨"TypeSets", "drawEquation", "(J)V"⟩, 14) := ⟨⟨by decide +kernel, by decide +kernel⟩, List.mem_of_getElem? (i := 16) (by decide +kernel), List.mem_of_getElem? (i := 739) (by decide +kernel), List.mem_of_getElem? (i := 740) (by decide +kernel)⟩
theorem lw_p26 : lw_okq (⟨"TypeSets", "imageOf", "(I)LTypeSets$House;"⟩, 14) := ⟨⟨by decide +kernel, by decide +kernel⟩, List.mem_of_getElem? (i := 16) (by decide +kernel), List.mem_of_getElem? (i := 757) (by decide +kernel), List.mem_of_getElem? (i := 758) (by decide +kernel)⟩
theorem lw_p27 : lw_okq (⟨"TypeSets$Asks", "body12", "()I"⟩, 6) := ⟨⟨by decide +kernel, by decide +kernel⟩, List.mem_of_getElem? (i := 271) (by decide +kernel), List.mem_of_getElem? (i := 793) (by decide +kernel), List.mem_of_getElem? (i := 794) (by decide +kernel)⟩
theorem lw_p28 : lw_okq (⟨"TypeSets$Asks", "leave", "(I)V"⟩, 6) := ⟨⟨by decide +kernel, by decide +kernel⟩, List.mem_of_getElem? (i := 271) (by decide +kernel), List.mem_of_getElem? (i := 797) (by decide +kernel), List.mem_of_getElem? (i := 798) (by decide +kernel)⟩
theorem lw_p29 : lw_okq (⟨"TypeSets$Asks", "body11", "()I"⟩, 6) := ⟨⟨by decide +kernel, by decide +kernel⟩, List.mem_of_getElem? (i := 271) (by decide +kernel), List.mem_of_getElem? (i := 801) (by decide +kernel), List.mem_of_getElem? (i := 802) (by decide +kernel)⟩
theorem lw_p30 : lw_okq (⟨"TypeSets$Asks", "body10", "()I"⟩, 6) := ⟨⟨by decide +kernel, by decide +kernel⟩, List.mem_of_getElem? (i := 271) (by decide +kernel), List.mem_of_getElem? (i := 805) (by decide +kernel), List.mem_of_getElem? (i := 806) (by decide +kernel)⟩
theorem lw_p31 : lw_okq (⟨"TypeSets$Asks", "markOfJoint", "()I"⟩, 6) := ⟨⟨by decide +kernel, by decide +kernel⟩, List.mem_of_getElem? (i := 271) (by decide +kernel), List.mem_of_getElem? (i := 809) (by decide +kernel), List.mem_of_getElem? (i := 810) (by decide +kernel)⟩
def lw_privs_2 : List (MethodName × Nat) := [(⟨"TypeSets$Cells", "addCase", "(II)V"⟩, 16), (⟨"TypeSets$Cells", "relate", "()V"⟩, 16), (⟨"TypeSets$Cells", "openFor", "(I)V"⟩, 16), (⟨"TypeSets$Cells", "holdingAnswersFrom", "(I)I"⟩, 16), (⟨"TypeSets$Cells", "pairsInto", "(IILTypeSets$Sets;)Z"⟩, 16), (⟨"TypeSets", "plainNow", "()LTypeSets$PlainValues;"⟩, 14), (⟨"TypeSets$PlainValues", "pairUp", "(LTypeSets$House;)V"⟩, 6), (⟨"TypeSets$PlainValues", "sumUp", "(I)V"⟩, 6), (⟨"TypeSets", "fits", "(IIIII)Z"⟩, 14), (⟨"TypeSets", "drawEquation", "(J)V"⟩, 14), (⟨"TypeSets", "imageOf", "(I)LTypeSets$House;"⟩, 14), (⟨"TypeSets$Asks", "body12", "()I"⟩, 6), (⟨"TypeSets$Asks", "leave", "(I)V"⟩, 6), (⟨"TypeSets$Asks", "body11", "()I"⟩, 6), (⟨"TypeSets$Asks", "body10", "()I"⟩, 6), (⟨"TypeSets$Asks", "markOfJoint", "()I"⟩, 6)]
theorem lw_r2 : ∀ q ∈ lw_privs_2, lw_okq q := List.forall_mem_cons.mpr ⟨lw_p16, List.forall_mem_cons.mpr ⟨lw_p17, List.forall_mem_cons.mpr ⟨lw_p18, List.forall_mem_cons.mpr ⟨lw_p19, List.forall_mem_cons.mpr ⟨lw_p20, List.forall_mem_cons.mpr ⟨lw_p21, List.forall_mem_cons.mpr ⟨lw_p22, List.forall_mem_cons.mpr ⟨lw_p23, List.forall_mem_cons.mpr ⟨lw_p24, List.forall_mem_cons.mpr ⟨lw_p25, List.forall_mem_cons.mpr ⟨lw_p26, List.forall_mem_cons.mpr ⟨lw_p27, List.forall_mem_cons.mpr ⟨lw_p28, List.forall_mem_cons.mpr ⟨lw_p29, List.forall_mem_cons.mpr ⟨lw_p30, List.forall_mem_cons.mpr ⟨lw_p31, fun _ h => absurd h List.not_mem_nil⟩⟩⟩⟩⟩⟩⟩⟩⟩⟩⟩⟩⟩⟩⟩⟩
theorem lw_p32 : lw_okq (⟨"TypeSets$Asks", "body24", "()I"⟩, 6) := ⟨⟨by decide +kernel, by decide +kernel⟩, List.mem_of_getElem? (i := 271) (by decide +kernel), List.mem_of_getElem? (i := 813) (by decide +kernel), List.mem_of_getElem? (i := 814) (by decide +kernel)⟩
theorem lw_p33 : lw_okq (⟨"TypeSets$Asks", "body21", "()I"⟩, 6) := ⟨⟨by decide +kernel, by decide +kernel⟩, List.mem_of_getElem? (i := 271) (by decide +kernel), List.mem_of_getElem? (i := 817) (by decide +kernel), List.mem_of_getElem? (i := 818) (by decide +kernel)⟩
theorem lw_p34 : lw_okq (⟨"TypeSets$Asks", "body20", "()I"⟩, 6) := ⟨⟨by decide +kernel, by decide +kernel⟩, List.mem_of_getElem? (i := 271) (by decide +kernel), List.mem_of_getElem? (i := 821) (by decide +kernel), List.mem_of_getElem? (i := 822) (by decide +kernel)⟩
theorem lw_p35 : lw_okq (⟨"TypeSets$Asks", "body22", "()I"⟩, 6) := ⟨⟨by decide +kernel, by decide +kernel⟩, List.mem_of_getElem? (i := 271) (by decide +kernel), List.mem_of_getElem? (i := 825) (by decide +kernel), List.mem_of_getElem? (i := 826) (by decide +kernel)⟩
theorem lw_p36 : lw_okq (⟨"TypeSets$Asks", "sizeOfPairs", "()I"⟩, 6) := ⟨⟨by decide +kernel, by decide +kernel⟩, List.mem_of_getElem? (i := 271) (by decide +kernel), List.mem_of_getElem? (i := 829) (by decide +kernel), List.mem_of_getElem? (i := 830) (by decide +kernel)⟩
theorem lw_p37 : lw_okq (⟨"TypeSets$Asks", "body14", "()I"⟩, 6) := ⟨⟨by decide +kernel, by decide +kernel⟩, List.mem_of_getElem? (i := 271) (by decide +kernel), List.mem_of_getElem? (i := 833) (by decide +kernel), List.mem_of_getElem? (i := 834) (by decide +kernel)⟩
theorem lw_p38 : lw_okq (⟨"TypeSets$Asks", "body13", "()I"⟩, 6) := ⟨⟨by decide +kernel, by decide +kernel⟩, List.mem_of_getElem? (i := 271) (by decide +kernel), List.mem_of_getElem? (i := 837) (by decide +kernel), List.mem_of_getElem? (i := 838) (by decide +kernel)⟩
theorem lw_p39 : lw_okq (⟨"TypeSets$Asks", "body23", "()I"⟩, 6) := ⟨⟨by decide +kernel, by decide +kernel⟩, List.mem_of_getElem? (i := 271) (by decide +kernel), List.mem_of_getElem? (i := 845) (by decide +kernel), List.mem_of_getElem? (i := 846) (by decide +kernel)⟩
theorem lw_p40 : lw_okq (⟨"TypeSetsModel", "finding", "(I)I"⟩, 32) := ⟨⟨by decide +kernel, by decide +kernel⟩, List.mem_of_getElem? (i := 866) (by decide +kernel), List.mem_of_getElem? (i := 983) (by decide +kernel), List.mem_of_getElem? (i := 984) (by decide +kernel)⟩
theorem lw_p41 : lw_okq (⟨"TypeSetsModel", "begin", "()V"⟩, 32) := ⟨⟨by decide +kernel, by decide +kernel⟩, List.mem_of_getElem? (i := 866) (by decide +kernel), List.mem_of_getElem? (i := 1014) (by decide +kernel), List.mem_of_getElem? (i := 1015) (by decide +kernel)⟩
theorem lw_p42 : lw_okq (⟨"TypeSetsModel", "nextToken", "()V"⟩, 32) := ⟨⟨by decide +kernel, by decide +kernel⟩, List.mem_of_getElem? (i := 866) (by decide +kernel), List.mem_of_getElem? (i := 1018) (by decide +kernel), List.mem_of_getElem? (i := 1019) (by decide +kernel)⟩
theorem lw_p43 : lw_okq (⟨"TypeSetsModel", "isLetter", "(I)Z"⟩, 32) := ⟨⟨by decide +kernel, by decide +kernel⟩, List.mem_of_getElem? (i := 866) (by decide +kernel), List.mem_of_getElem? (i := 1027) (by decide +kernel), List.mem_of_getElem? (i := 1028) (by decide +kernel)⟩
theorem lw_p44 : lw_okq (⟨"TypeSetsModel", "must", "(Z)V"⟩, 32) := ⟨⟨by decide +kernel, by decide +kernel⟩, List.mem_of_getElem? (i := 866) (by decide +kernel), List.mem_of_getElem? (i := 1031) (by decide +kernel), List.mem_of_getElem? (i := 1032) (by decide +kernel)⟩
theorem lw_p45 : lw_okq (⟨"TypeSetsModel", "bad", "(I)V"⟩, 32) := ⟨⟨by decide +kernel, by decide +kernel⟩, List.mem_of_getElem? (i := 866) (by decide +kernel), List.mem_of_getElem? (i := 1035) (by decide +kernel), List.mem_of_getElem? (i := 1036) (by decide +kernel)⟩
theorem lw_p46 : lw_okq (⟨"TypeSetsModel", "number", "(II)I"⟩, 32) := ⟨⟨by decide +kernel, by decide +kernel⟩, List.mem_of_getElem? (i := 866) (by decide +kernel), List.mem_of_getElem? (i := 1039) (by decide +kernel), List.mem_of_getElem? (i := 1040) (by decide +kernel)⟩
theorem lw_p47 : lw_okq (⟨"TypeSetsModel", "mustSign", "(I)V"⟩, 32) := ⟨⟨by decide +kernel, by decide +kernel⟩, List.mem_of_getElem? (i := 866) (by decide +kernel), List.mem_of_getElem? (i := 1043) (by decide +kernel), List.mem_of_getElem? (i := 1044) (by decide +kernel)⟩
def lw_privs_3 : List (MethodName × Nat) := [(⟨"TypeSets$Asks", "body24", "()I"⟩, 6), (⟨"TypeSets$Asks", "body21", "()I"⟩, 6), (⟨"TypeSets$Asks", "body20", "()I"⟩, 6), (⟨"TypeSets$Asks", "body22", "()I"⟩, 6), (⟨"TypeSets$Asks", "sizeOfPairs", "()I"⟩, 6), (⟨"TypeSets$Asks", "body14", "()I"⟩, 6), (⟨"TypeSets$Asks", "body13", "()I"⟩, 6), (⟨"TypeSets$Asks", "body23", "()I"⟩, 6), (⟨"TypeSetsModel", "finding", "(I)I"⟩, 32), (⟨"TypeSetsModel", "begin", "()V"⟩, 32), (⟨"TypeSetsModel", "nextToken", "()V"⟩, 32), (⟨"TypeSetsModel", "isLetter", "(I)Z"⟩, 32), (⟨"TypeSetsModel", "must", "(Z)V"⟩, 32), (⟨"TypeSetsModel", "bad", "(I)V"⟩, 32), (⟨"TypeSetsModel", "number", "(II)I"⟩, 32), (⟨"TypeSetsModel", "mustSign", "(I)V"⟩, 32)]
theorem lw_r3 : ∀ q ∈ lw_privs_3, lw_okq q := List.forall_mem_cons.mpr ⟨lw_p32, List.forall_mem_cons.mpr ⟨lw_p33, List.forall_mem_cons.mpr ⟨lw_p34, List.forall_mem_cons.mpr ⟨lw_p35, List.forall_mem_cons.mpr ⟨lw_p36, List.forall_mem_cons.mpr ⟨lw_p37, List.forall_mem_cons.mpr ⟨lw_p38, List.forall_mem_cons.mpr ⟨lw_p39, List.forall_mem_cons.mpr ⟨lw_p40, List.forall_mem_cons.mpr ⟨lw_p41, List.forall_mem_cons.mpr ⟨lw_p42, List.forall_mem_cons.mpr ⟨lw_p43, List.forall_mem_cons.mpr ⟨lw_p44, List.forall_mem_cons.mpr ⟨lw_p45, List.forall_mem_cons.mpr ⟨lw_p46, List.forall_mem_cons.mpr ⟨lw_p47, fun _ h => absurd h List.not_mem_nil⟩⟩⟩⟩⟩⟩⟩⟩⟩⟩⟩⟩⟩⟩⟩⟩
theorem lw_p48 : lw_okq (⟨"TypeSetsModel", "isSort", "()Z"⟩, 32) := ⟨⟨by decide +kernel, by decide +kernel⟩, List.mem_of_getElem? (i := 866) (by decide +kernel), List.mem_of_getElem? (i := 1047) (by decide +kernel), List.mem_of_getElem? (i := 1048) (by decide +kernel)⟩
theorem lw_p49 : lw_okq (⟨"TypeSetsModel", "readType", "()V"⟩, 32) := ⟨⟨by decide +kernel, by decide +kernel⟩, List.mem_of_getElem? (i := 866) (by decide +kernel), List.mem_of_getElem? (i := 1054) (by decide +kernel), List.mem_of_getElem? (i := 1055) (by decide +kernel)⟩
theorem lw_p50 : lw_okq (⟨"TypeSetsModel", "areNamed", "()Z"⟩, 32) := ⟨⟨by decide +kernel, by decide +kernel⟩, List.mem_of_getElem? (i := 866) (by decide +kernel), List.mem_of_getElem? (i := 1058) (by decide +kernel), List.mem_of_getElem? (i := 1059) (by decide +kernel)⟩
theorem lw_p51 : lw_okq (⟨"TypeSetsModel", "failed", "()Z"⟩, 32) := ⟨⟨by decide +kernel, by decide +kernel⟩, List.mem_of_getElem? (i := 866) (by decide +kernel), List.mem_of_getElem? (i := 1062) (by decide +kernel), List.mem_of_getElem? (i := 1063) (by decide +kernel)⟩
theorem lw_p52 : lw_okq (⟨"TypeSetsModel", "isType", "(I)Z"⟩, 32) := ⟨⟨by decide +kernel, by decide +kernel⟩, List.mem_of_getElem? (i := 866) (by decide +kernel), List.mem_of_getElem? (i := 1071) (by decide +kernel), List.mem_of_getElem? (i := 1072) (by decide +kernel)⟩
theorem lw_p53 : lw_okq (⟨"TypeSetsModel", "keep", "()V"⟩, 32) := ⟨⟨by decide +kernel, by decide +kernel⟩, List.mem_of_getElem? (i := 866) (by decide +kernel), List.mem_of_getElem? (i := 1079) (by decide +kernel), List.mem_of_getElem? (i := 1080) (by decide +kernel)⟩
theorem lw_p54 : lw_okq (⟨"TypeSetsModel", "isThere", "()Z"⟩, 32) := ⟨⟨by decide +kernel, by decide +kernel⟩, List.mem_of_getElem? (i := 866) (by decide +kernel), List.mem_of_getElem? (i := 1099) (by decide +kernel), List.mem_of_getElem? (i := 1100) (by decide +kernel)⟩
theorem lw_p55 : lw_okq (⟨"TypeSetsModel", "isSet", "(I)Z"⟩, 32) := ⟨⟨by decide +kernel, by decide +kernel⟩, List.mem_of_getElem? (i := 866) (by decide +kernel), List.mem_of_getElem? (i := 1103) (by decide +kernel), List.mem_of_getElem? (i := 1104) (by decide +kernel)⟩
theorem lw_p56 : lw_okq (⟨"TypeSetsModel", "reckon", "([I)V"⟩, 32) := ⟨⟨by decide +kernel, by decide +kernel⟩, List.mem_of_getElem? (i := 866) (by decide +kernel), List.mem_of_getElem? (i := 1107) (by decide +kernel), List.mem_of_getElem? (i := 1108) (by decide +kernel)⟩
theorem lw_p57 : lw_okq (⟨"TypeSetsModel", "isKnown", "([I)Z"⟩, 32) := ⟨⟨by decide +kernel, by decide +kernel⟩, List.mem_of_getElem? (i := 866) (by decide +kernel), List.mem_of_getElem? (i := 1111) (by decide +kernel), List.mem_of_getElem? (i := 1112) (by decide +kernel)⟩
theorem lw_p58 : lw_okq (⟨"TypeSetsModel", "comes", "(III)V"⟩, 32) := ⟨⟨by decide +kernel, by decide +kernel⟩, List.mem_of_getElem? (i := 866) (by decide +kernel), List.mem_of_getElem? (i := 1124) (by decide +kernel), List.mem_of_getElem? (i := 1125) (by decide +kernel)⟩
theorem lw_p59 : lw_okq (⟨"TypeSetsModel", "gather", "()V"⟩, 32) := ⟨⟨by decide +kernel, by decide +kernel⟩, List.mem_of_getElem? (i := 866) (by decide +kernel), List.mem_of_getElem? (i := 1131) (by decide +kernel), List.mem_of_getElem? (i := 1132) (by decide +kernel)⟩
theorem lw_p60 : lw_okq (⟨"TypeSetsModel", "goOn", "([III)V"⟩, 32) := ⟨⟨by decide +kernel, by decide +kernel⟩, List.mem_of_getElem? (i := 866) (by decide +kernel), List.mem_of_getElem? (i := 1135) (by decide +kernel), List.mem_of_getElem? (i := 1136) (by decide +kernel)⟩
theorem lw_p61 : lw_okq (⟨"TypeSetsModel", "join", "()V"⟩, 32) := ⟨⟨by decide +kernel, by decide +kernel⟩, List.mem_of_getElem? (i := 866) (by decide +kernel), List.mem_of_getElem? (i := 1145) (by decide +kernel), List.mem_of_getElem? (i := 1146) (by decide +kernel)⟩
theorem lw_p62 : lw_okq (⟨"TypeSetsModel", "liesIn", "(II)Z"⟩, 32) := ⟨⟨by decide +kernel, by decide +kernel⟩, List.mem_of_getElem? (i := 866) (by decide +kernel), List.mem_of_getElem? (i := 1153) (by decide +kernel), List.mem_of_getElem? (i := 1154) (by decide +kernel)⟩
theorem lw_p63 : lw_okq (⟨"TypeSetsModel", "areApart", "(II)Z"⟩, 32) := ⟨⟨by decide +kernel, by decide +kernel⟩, List.mem_of_getElem? (i := 866) (by decide +kernel), List.mem_of_getElem? (i := 1161) (by decide +kernel), List.mem_of_getElem? (i := 1162) (by decide +kernel)⟩
def lw_privs_4 : List (MethodName × Nat) := [(⟨"TypeSetsModel", "isSort", "()Z"⟩, 32), (⟨"TypeSetsModel", "readType", "()V"⟩, 32), (⟨"TypeSetsModel", "areNamed", "()Z"⟩, 32), (⟨"TypeSetsModel", "failed", "()Z"⟩, 32), (⟨"TypeSetsModel", "isType", "(I)Z"⟩, 32), (⟨"TypeSetsModel", "keep", "()V"⟩, 32), (⟨"TypeSetsModel", "isThere", "()Z"⟩, 32), (⟨"TypeSetsModel", "isSet", "(I)Z"⟩, 32), (⟨"TypeSetsModel", "reckon", "([I)V"⟩, 32), (⟨"TypeSetsModel", "isKnown", "([I)Z"⟩, 32), (⟨"TypeSetsModel", "comes", "(III)V"⟩, 32), (⟨"TypeSetsModel", "gather", "()V"⟩, 32), (⟨"TypeSetsModel", "goOn", "([III)V"⟩, 32), (⟨"TypeSetsModel", "join", "()V"⟩, 32), (⟨"TypeSetsModel", "liesIn", "(II)Z"⟩, 32), (⟨"TypeSetsModel", "areApart", "(II)Z"⟩, 32)]
theorem lw_r4 : ∀ q ∈ lw_privs_4, lw_okq q := List.forall_mem_cons.mpr ⟨lw_p48, List.forall_mem_cons.mpr ⟨lw_p49, List.forall_mem_cons.mpr ⟨lw_p50, List.forall_mem_cons.mpr ⟨lw_p51, List.forall_mem_cons.mpr ⟨lw_p52, List.forall_mem_cons.mpr ⟨lw_p53, List.forall_mem_cons.mpr ⟨lw_p54, List.forall_mem_cons.mpr ⟨lw_p55, List.forall_mem_cons.mpr ⟨lw_p56, List.forall_mem_cons.mpr ⟨lw_p57, List.forall_mem_cons.mpr ⟨lw_p58, List.forall_mem_cons.mpr ⟨lw_p59, List.forall_mem_cons.mpr ⟨lw_p60, List.forall_mem_cons.mpr ⟨lw_p61, List.forall_mem_cons.mpr ⟨lw_p62, List.forall_mem_cons.mpr ⟨lw_p63, fun _ h => absurd h List.not_mem_nil⟩⟩⟩⟩⟩⟩⟩⟩⟩⟩⟩⟩⟩⟩⟩⟩
theorem lw_p64 : lw_okq (⟨"TypeSetsModel", "emptySet", "([I)I"⟩, 32) := ⟨⟨by decide +kernel, by decide +kernel⟩, List.mem_of_getElem? (i := 866) (by decide +kernel), List.mem_of_getElem? (i := 1169) (by decide +kernel), List.mem_of_getElem? (i := 1170) (by decide +kernel)⟩
theorem lw_p65 : lw_okq (⟨"TypeSetsModel", "isEmpty", "(I)Z"⟩, 32) := ⟨⟨by decide +kernel, by decide +kernel⟩, List.mem_of_getElem? (i := 866) (by decide +kernel), List.mem_of_getElem? (i := 1173) (by decide +kernel), List.mem_of_getElem? (i := 1174) (by decide +kernel)⟩
theorem lw_p66 : lw_okq (⟨"TypeSetsModel", "sortsOf", "(I)I"⟩, 32) := ⟨⟨by decide +kernel, by decide +kernel⟩, List.mem_of_getElem? (i := 866) (by decide +kernel), List.mem_of_getElem? (i := 1177) (by decide +kernel), List.mem_of_getElem? (i := 1178) (by decide +kernel)⟩
theorem lw_p67 : lw_okq (⟨"TypeSetsModel", "everyType", "()I"⟩, 32) := ⟨⟨by decide +kernel, by decide +kernel⟩, List.mem_of_getElem? (i := 866) (by decide +kernel), List.mem_of_getElem? (i := 1189) (by decide +kernel), List.mem_of_getElem? (i := 1190) (by decide +kernel)⟩
theorem lw_p68 : lw_okq (⟨"TypeSetsModel", "layCases", "([III)V"⟩, 32) := ⟨⟨by decide +kernel, by decide +kernel⟩, List.mem_of_getElem? (i := 866) (by decide +kernel), List.mem_of_getElem? (i := 1193) (by decide +kernel), List.mem_of_getElem? (i := 1194) (by decide +kernel)⟩
theorem lw_p69 : lw_okq (⟨"TypeSetsModel", "isMarked", "(I)Z"⟩, 32) := ⟨⟨by decide +kernel, by decide +kernel⟩, List.mem_of_getElem? (i := 866) (by decide +kernel), List.mem_of_getElem? (i := 1197) (by decide +kernel), List.mem_of_getElem? (i := 1198) (by decide +kernel)⟩
theorem lw_p70 : lw_okq (⟨"TypeSetsModel", "layPlain", "(I)V"⟩, 32) := ⟨⟨by decide +kernel, by decide +kernel⟩, List.mem_of_getElem? (i := 866) (by decide +kernel), List.mem_of_getElem? (i := 1214) (by decide +kernel), List.mem_of_getElem? (i := 1215) (by decide +kernel)⟩
theorem lw_p71 : lw_okq (⟨"TypeSetsModel", "plainOf", "(I)I"⟩, 32) := ⟨⟨by decide +kernel, by decide +kernel⟩, List.mem_of_getElem? (i := 866) (by decide +kernel), List.mem_of_getElem? (i := 1218) (by decide +kernel), List.mem_of_getElem? (i := 1219) (by decide +kernel)⟩
theorem lw_p72 : lw_okq (⟨"TypeSetsModel", "rowFound", "(III)I"⟩, 32) := ⟨⟨by decide +kernel, by decide +kernel⟩, List.mem_of_getElem? (i := 866) (by decide +kernel), List.mem_of_getElem? (i := 1230) (by decide +kernel), List.mem_of_getElem? (i := 1231) (by decide +kernel)⟩
theorem lw_p73 : lw_okq (⟨"TypeSetsModel", "layThen", "()V"⟩, 32) := ⟨⟨by decide +kernel, by decide +kernel⟩, List.mem_of_getElem? (i := 866) (by decide +kernel), List.mem_of_getElem? (i := 1234) (by decide +kernel), List.mem_of_getElem? (i := 1235) (by decide +kernel)⟩
theorem lw_p74 : lw_okq (⟨"TypeSetsModel", "kindOf", "(I)I"⟩, 32) := ⟨⟨by decide +kernel, by decide +kernel⟩, List.mem_of_getElem? (i := 866) (by decide +kernel), List.mem_of_getElem? (i := 1265) (by decide +kernel), List.mem_of_getElem? (i := 1266) (by decide +kernel)⟩
theorem lw_p75 : lw_okq (⟨"TypeSetsModel", "sizeOf", "(I)I"⟩, 32) := ⟨⟨by decide +kernel, by decide +kernel⟩, List.mem_of_getElem? (i := 866) (by decide +kernel), List.mem_of_getElem? (i := 1280) (by decide +kernel), List.mem_of_getElem? (i := 1281) (by decide +kernel)⟩
theorem lw_p76 : lw_okq (⟨"TypeSetsModel", "plainSize", "(I)I"⟩, 32) := ⟨⟨by decide +kernel, by decide +kernel⟩, List.mem_of_getElem? (i := 866) (by decide +kernel), List.mem_of_getElem? (i := 1284) (by decide +kernel), List.mem_of_getElem? (i := 1285) (by decide +kernel)⟩
theorem lw_p77 : lw_okq (⟨"TypeSetsModel", "began", "(I)V"⟩, 32) := ⟨⟨by decide +kernel, by decide +kernel⟩, List.mem_of_getElem? (i := 866) (by decide +kernel), List.mem_of_getElem? (i := 1288) (by decide +kernel), List.mem_of_getElem? (i := 1289) (by decide +kernel)⟩
theorem lw_p78 : lw_okq (⟨"TypeSetsModel", "pairSize", "(I)I"⟩, 32) := ⟨⟨by decide +kernel, by decide +kernel⟩, List.mem_of_getElem? (i := 866) (by decide +kernel), List.mem_of_getElem? (i := 1292) (by decide +kernel), List.mem_of_getElem? (i := 1293) (by decide +kernel)⟩
theorem lw_p79 : lw_okq (⟨"TypeSetsModel", "markOf", "(I)I"⟩, 32) := ⟨⟨by decide +kernel, by decide +kernel⟩, List.mem_of_getElem? (i := 866) (by decide +kernel), List.mem_of_getElem? (i := 1296) (by decide +kernel), List.mem_of_getElem? (i := 1297) (by decide +kernel)⟩
def lw_privs_5 : List (MethodName × Nat) := [(⟨"TypeSetsModel", "emptySet", "([I)I"⟩, 32), (⟨"TypeSetsModel", "isEmpty", "(I)Z"⟩, 32), (⟨"TypeSetsModel", "sortsOf", "(I)I"⟩, 32), (⟨"TypeSetsModel", "everyType", "()I"⟩, 32), (⟨"TypeSetsModel", "layCases", "([III)V"⟩, 32), (⟨"TypeSetsModel", "isMarked", "(I)Z"⟩, 32), (⟨"TypeSetsModel", "layPlain", "(I)V"⟩, 32), (⟨"TypeSetsModel", "plainOf", "(I)I"⟩, 32), (⟨"TypeSetsModel", "rowFound", "(III)I"⟩, 32), (⟨"TypeSetsModel", "layThen", "()V"⟩, 32), (⟨"TypeSetsModel", "kindOf", "(I)I"⟩, 32), (⟨"TypeSetsModel", "sizeOf", "(I)I"⟩, 32), (⟨"TypeSetsModel", "plainSize", "(I)I"⟩, 32), (⟨"TypeSetsModel", "began", "(I)V"⟩, 32), (⟨"TypeSetsModel", "pairSize", "(I)I"⟩, 32), (⟨"TypeSetsModel", "markOf", "(I)I"⟩, 32)]
theorem lw_r5 : ∀ q ∈ lw_privs_5, lw_okq q := List.forall_mem_cons.mpr ⟨lw_p64, List.forall_mem_cons.mpr ⟨lw_p65, List.forall_mem_cons.mpr ⟨lw_p66, List.forall_mem_cons.mpr ⟨lw_p67, List.forall_mem_cons.mpr ⟨lw_p68, List.forall_mem_cons.mpr ⟨lw_p69, List.forall_mem_cons.mpr ⟨lw_p70, List.forall_mem_cons.mpr ⟨lw_p71, List.forall_mem_cons.mpr ⟨lw_p72, List.forall_mem_cons.mpr ⟨lw_p73, List.forall_mem_cons.mpr ⟨lw_p74, List.forall_mem_cons.mpr ⟨lw_p75, List.forall_mem_cons.mpr ⟨lw_p76, List.forall_mem_cons.mpr ⟨lw_p77, List.forall_mem_cons.mpr ⟨lw_p78, List.forall_mem_cons.mpr ⟨lw_p79, fun _ h => absurd h List.not_mem_nil⟩⟩⟩⟩⟩⟩⟩⟩⟩⟩⟩⟩⟩⟩⟩⟩
def lw_privs : List (MethodName × Nat) := lw_privs_1 ++ (lw_privs_2 ++ (lw_privs_3 ++ (lw_privs_4 ++ (lw_privs_5))))
def lw_tbl : List Cond := k2_sels lw_privs ++ tables_1
theorem lw_privs_ok : ∀ q ∈ lw_privs, lw_okq q := by
  show ∀ q ∈ lw_privs_1 ++ (lw_privs_2 ++ (lw_privs_3 ++ (lw_privs_4 ++ (lw_privs_5)))), lw_okq q
  exact List.forall_mem_append.mpr ⟨lw_r1, List.forall_mem_append.mpr ⟨lw_r2, List.forall_mem_append.mpr ⟨lw_r3, List.forall_mem_append.mpr ⟨lw_r4, lw_r5⟩⟩⟩⟩
end
section
def RX0 : String := "TypeSets$Acts"
def TX0 : u_T := fun k => match k with
  | 0 => ("TypeSets$Acts", "types", "[I", true)
  | 1 => ("TypeSets$Acts", "sorts", "[I", true)
  | 2 => ("TypeSets$Acts", "firsts", "[I", true)
  | 3 => ("TypeSets$Acts", "seconds", "[I", true)
  | _ => ("TypeSets$Acts", "kept", "I", false)
def tyX0 : Nat → FieldType := fun k => match k with
  | 0 => .array .int
  | 1 => .array .int
  | 2 => .array .int
  | 3 => .array .int
  | _ => .int
theorem nmX0 : ∀ a, a < 5 → ∀ b, b < 5 → a ≠ b → (TX0 a).2.1 ≠ (TX0 b).2.1 := by decide +kernel
theorem tyX0_ok : ∀ k, k < 5 → parseFieldDescriptor (TX0 k).2.2.1 = some (tyX0 k) := by decide +kernel
abbrev cX0_init : ByteArray := prog_2_method_1_code
def yX0_init : MethodName := ⟨RX0, "<init>", "()V"⟩
abbrev cX0_keep : ByteArray := prog_2_method_2_code
def yX0_keep : MethodName := ⟨RX0, "keep", "(LTypeSets$House;I)V"⟩
abbrev cX0_takeBack : ByteArray := prog_2_method_3_code
def yX0_takeBack : MethodName := ⟨RX0, "takeBack", "(LTypeSets$House;)V"⟩
abbrev cX0_forgetOldest : ByteArray := prog_2_method_4_code
def yX0_forgetOldest : MethodName := ⟨RX0, "forgetOldest", "()V"⟩
def RX1 : String := "TypeSets$Asks"
def TX1 : u_T := fun k => match k with
  | 0 => ("TypeSets$Asks", "numbers", "[I", true)
  | 1 => ("TypeSets$Asks", "left", "I", false)
  | 2 => ("TypeSets$Asks", "one", "I", false)
  | 3 => ("TypeSets$Asks", "kindOfOne", "I", false)
  | 4 => ("TypeSets$Asks", "a", "I", false)
  | _ => ("TypeSets$Asks", "b", "I", false)
def tyX1 : Nat → FieldType := fun k => match k with
  | 0 => .array .int
  | 1 => .int
  | 2 => .int
  | 3 => .int
  | 4 => .int
  | _ => .int
theorem nmX1 : ∀ a, a < 6 → ∀ b, b < 6 → a ≠ b → (TX1 a).2.1 ≠ (TX1 b).2.1 := by decide +kernel
theorem tyX1_ok : ∀ k, k < 6 → parseFieldDescriptor (TX1 k).2.2.1 = some (tyX1 k) := by decide +kernel
abbrev cX1_init : ByteArray := prog_3_method_1_code
def yX1_init : MethodName := ⟨RX1, "<init>", "()V"⟩
abbrev cX1_kindOf : ByteArray := prog_3_method_2_code
def yX1_kindOf : MethodName := ⟨RX1, "kindOf", "(I)I"⟩
abbrev cX1_isOne : ByteArray := prog_3_method_3_code
def yX1_isOne : MethodName := ⟨RX1, "isOne", "(II)Z"⟩
abbrev cX1_begin : ByteArray := prog_3_method_4_code
def yX1_begin : MethodName := ⟨RX1, "begin", "(LTypeSets$House;I)V"⟩
abbrev cX1_sizeOfOne : ByteArray := prog_3_method_5_code
def yX1_sizeOfOne : MethodName := ⟨RX1, "sizeOfOne", "()I"⟩
abbrev cX1_markOfOne : ByteArray := prog_3_method_6_code
def yX1_markOfOne : MethodName := ⟨RX1, "markOfOne", "()I"⟩
abbrev cX1_sizeOfPairs : ByteArray := prog_3_method_7_code
def yX1_sizeOfPairs : MethodName := ⟨RX1, "sizeOfPairs", "()I"⟩
abbrev cX1_markOfJoint : ByteArray := prog_3_method_8_code
def yX1_markOfJoint : MethodName := ⟨RX1, "markOfJoint", "()I"⟩
abbrev cX1_body10 : ByteArray := prog_3_method_9_code
def yX1_body10 : MethodName := ⟨RX1, "body10", "()I"⟩
abbrev cX1_body11 : ByteArray := prog_3_method_10_code
def yX1_body11 : MethodName := ⟨RX1, "body11", "()I"⟩
abbrev cX1_body12 : ByteArray := prog_3_method_11_code
def yX1_body12 : MethodName := ⟨RX1, "body12", "()I"⟩
abbrev cX1_body13 : ByteArray := prog_3_method_12_code
def yX1_body13 : MethodName := ⟨RX1, "body13", "()I"⟩
abbrev cX1_body14 : ByteArray := prog_3_method_13_code
def yX1_body14 : MethodName := ⟨RX1, "body14", "()I"⟩
abbrev cX1_body20 : ByteArray := prog_3_method_14_code
def yX1_body20 : MethodName := ⟨RX1, "body20", "()I"⟩
abbrev cX1_body21 : ByteArray := prog_3_method_15_code
def yX1_body21 : MethodName := ⟨RX1, "body21", "()I"⟩
abbrev cX1_body22 : ByteArray := prog_3_method_16_code
def yX1_body22 : MethodName := ⟨RX1, "body22", "()I"⟩
abbrev cX1_body23 : ByteArray := prog_3_method_17_code
def yX1_body23 : MethodName := ⟨RX1, "body23", "()I"⟩
abbrev cX1_body24 : ByteArray := prog_3_method_18_code
def yX1_body24 : MethodName := ⟨RX1, "body24", "()I"⟩
abbrev cX1_leave : ByteArray := prog_3_method_19_code
def yX1_leave : MethodName := ⟨RX1, "leave", "(I)V"⟩
def RX2 : String := "TypeSets$Cells"
def TX2 : u_T := fun k => match k with
  | 0 => ("TypeSets$Cells", "house", "LTypeSets$House;", true)
  | 1 => ("TypeSets$Cells", "all", "I", false)
  | 2 => ("TypeSets$Cells", "arrows", "I", false)
  | 3 => ("TypeSets$Cells", "withConstant", "I", false)
  | 4 => ("TypeSets$Cells", "withPair", "I", false)
  | 5 => ("TypeSets$Cells", "withFunction", "I", false)
  | 6 => ("TypeSets$Cells", "found", "LTypeSets$Sets;", true)
  | 7 => ("TypeSets$Cells", "ofPairs", "LTypeSets$Sides;", true)
  | 8 => ("TypeSets$Cells", "ofCases", "LTypeSets$Sides;", true)
  | 9 => ("TypeSets$Cells", "pairSets", "LTypeSets$Sets;", true)
  | 10 => ("TypeSets$Cells", "missed", "LTypeSets$Sets;", true)
  | 11 => ("TypeSets$Cells", "cellOfPair", "[I", true)
  | 12 => ("TypeSets$Cells", "cellMissing", "[I", true)
  | 13 => ("TypeSets$Cells", "open", "[I", true)
  | 14 => ("TypeSets$Cells", "supers", "[I", true)
  | _ => ("TypeSets$Cells", "meets", "[I", true)
def tyX2 : Nat → FieldType := fun k => match k with
  | 0 => .object "TypeSets$House"
  | 1 => .int
  | 2 => .int
  | 3 => .int
  | 4 => .int
  | 5 => .int
  | 6 => .object "TypeSets$Sets"
  | 7 => .object "TypeSets$Sides"
  | 8 => .object "TypeSets$Sides"
  | 9 => .object "TypeSets$Sets"
  | 10 => .object "TypeSets$Sets"
  | 11 => .array .int
  | 12 => .array .int
  | 13 => .array .int
  | 14 => .array .int
  | _ => .array .int
theorem nmX2 : ∀ a, a < 16 → ∀ b, b < 16 → a ≠ b → (TX2 a).2.1 ≠ (TX2 b).2.1 := by decide +kernel
theorem tyX2_ok : ∀ k, k < 16 → parseFieldDescriptor (TX2 k).2.2.1 = some (tyX2 k) := by decide +kernel
abbrev cX2_init : ByteArray := prog_4_method_1_code
def yX2_init : MethodName := ⟨RX2, "<init>", "()V"⟩
abbrev cX2_measure : ByteArray := prog_4_method_2_code
def yX2_measure : MethodName := ⟨RX2, "measure", "(LTypeSets$House;)V"⟩
abbrev cX2_begin : ByteArray := prog_4_method_3_code
def yX2_begin : MethodName := ⟨RX2, "begin", "(LTypeSets$House;)V"⟩
abbrev cX2_addPairs : ByteArray := prog_4_method_4_code
def yX2_addPairs : MethodName := ⟨RX2, "addPairs", "(III)V"⟩
abbrev cX2_addPair : ByteArray := prog_4_method_5_code
def yX2_addPair : MethodName := ⟨RX2, "addPair", "(II)V"⟩
abbrev cX2_addCases : ByteArray := prog_4_method_6_code
def yX2_addCases : MethodName := ⟨RX2, "addCases", "(III)V"⟩
abbrev cX2_addCase : ByteArray := prog_4_method_7_code
def yX2_addCase : MethodName := ⟨RX2, "addCase", "(II)V"⟩
abbrev cX2_addFunction : ByteArray := prog_4_method_8_code
def yX2_addFunction : MethodName := ⟨RX2, "addFunction", "(II)V"⟩
abbrev cX2_relate : ByteArray := prog_4_method_9_code
def yX2_relate : MethodName := ⟨RX2, "relate", "()V"⟩
abbrev cX2_leastHeight : ByteArray := prog_4_method_10_code
def yX2_leastHeight : MethodName := ⟨RX2, "leastHeight", "(II)I"⟩
abbrev cX2_lyingIn : ByteArray := prog_4_method_11_code
def yX2_lyingIn : MethodName := ⟨RX2, "lyingIn", "(I)I"⟩
abbrev cX2_withoutValue : ByteArray := prog_4_method_12_code
def yX2_withoutValue : MethodName := ⟨RX2, "withoutValue", "()I"⟩
abbrev cX2_inOrder : ByteArray := prog_4_method_13_code
def yX2_inOrder : MethodName := ⟨RX2, "inOrder", "(I)I"⟩
abbrev cX2_holdingAnswers : ByteArray := prog_4_method_14_code
def yX2_holdingAnswers : MethodName := ⟨RX2, "holdingAnswers", "(II)I"⟩
abbrev cX2_holdingAnswersFrom : ByteArray := prog_4_method_15_code
def yX2_holdingAnswersFrom : MethodName := ⟨RX2, "holdingAnswersFrom", "(I)I"⟩
abbrev cX2_alwaysAnswered : ByteArray := prog_4_method_16_code
def yX2_alwaysAnswered : MethodName := ⟨RX2, "alwaysAnswered", "(I)I"⟩
abbrev cX2_openFor : ByteArray := prog_4_method_17_code
def yX2_openFor : MethodName := ⟨RX2, "openFor", "(I)V"⟩
abbrev cX2_holdingSide : ByteArray := prog_4_method_18_code
def yX2_holdingSide : MethodName := ⟨RX2, "holdingSide", "(II)I"⟩
abbrev cX2_pairsInto : ByteArray := prog_4_method_19_code
def yX2_pairsInto : MethodName := ⟨RX2, "pairsInto", "(IILTypeSets$Sets;)Z"⟩
def RX3 : String := "TypeSets$House"
def TX3 : u_T := fun k => match k with
  | 0 => ("TypeSets$House", "sorts", "[I", true)
  | 1 => ("TypeSets$House", "firsts", "[I", true)
  | 2 => ("TypeSets$House", "seconds", "[I", true)
  | 3 => ("TypeSets$House", "types", "I", false)
  | _ => ("TypeSets$House", "constants", "I", false)
def tyX3 : Nat → FieldType := fun k => match k with
  | 0 => .array .int
  | 1 => .array .int
  | 2 => .array .int
  | 3 => .int
  | _ => .int
theorem nmX3 : ∀ a, a < 5 → ∀ b, b < 5 → a ≠ b → (TX3 a).2.1 ≠ (TX3 b).2.1 := by decide +kernel
theorem tyX3_ok : ∀ k, k < 5 → parseFieldDescriptor (TX3 k).2.2.1 = some (tyX3 k) := by decide +kernel
abbrev cX3_init : ByteArray := prog_5_method_1_code
def yX3_init : MethodName := ⟨RX3, "<init>", "()V"⟩
abbrev cX3_isNone : ByteArray := prog_5_method_2_code
def yX3_isNone : MethodName := ⟨RX3, "isNone", "()Z"⟩
abbrev cX3_has : ByteArray := prog_5_method_3_code
def yX3_has : MethodName := ⟨RX3, "has", "(I)Z"⟩
abbrev cX3_all : ByteArray := prog_5_method_4_code
def yX3_all : MethodName := ⟨RX3, "all", "()I"⟩
abbrev cX3_isSet : ByteArray := prog_5_method_5_code
def yX3_isSet : MethodName := ⟨RX3, "isSet", "(I)Z"⟩
abbrev cX3_takeFrom : ByteArray := prog_5_method_6_code
def yX3_takeFrom : MethodName := ⟨RX3, "takeFrom", "(LTypeSets$House;)V"⟩
abbrev cX3_mayStand : ByteArray := prog_5_method_7_code
def yX3_mayStand : MethodName := ⟨RX3, "mayStand", "(IIII)Z"⟩
abbrev cX3_tell : ByteArray := prog_5_method_8_code
def yX3_tell : MethodName := ⟨RX3, "tell", "(IIII)V"⟩
abbrev cX3_namesOnlyItsOwn : ByteArray := prog_5_method_9_code
def yX3_namesOnlyItsOwn : MethodName := ⟨RX3, "namesOnlyItsOwn", "()Z"⟩
abbrev cX3_cellOfConstant : ByteArray := prog_5_method_10_code
def yX3_cellOfConstant : MethodName := ⟨RX3, "cellOfConstant", "(I)I"⟩
abbrev cX3_cellOf : ByteArray := prog_5_method_11_code
def yX3_cellOf : MethodName := ⟨RX3, "cellOf", "(I)I"⟩
abbrev cX3_ofSort : ByteArray := prog_5_method_12_code
def yX3_ofSort : MethodName := ⟨RX3, "ofSort", "(I)I"⟩
abbrev cX3_withFirstIn : ByteArray := prog_5_method_13_code
def yX3_withFirstIn : MethodName := ⟨RX3, "withFirstIn", "(II)I"⟩
abbrev cX3_withSecondIn : ByteArray := prog_5_method_14_code
def yX3_withSecondIn : MethodName := ⟨RX3, "withSecondIn", "(II)I"⟩
def RX4 : String := "TypeSets$PlainValues"
def TX4 : u_T := fun k => match k with
  | 0 => ("TypeSets$PlainValues", "ofType", "[I", true)
  | 1 => ("TypeSets$PlainValues", "total", "[I", true)
  | 2 => ("TypeSets$PlainValues", "byCell", "LTypeSets$Sets;", true)
  | 3 => ("TypeSets$PlainValues", "byLeft", "LTypeSets$Sets;", true)
  | 4 => ("TypeSets$PlainValues", "byRight", "LTypeSets$Sets;", true)
  | _ => ("TypeSets$PlainValues", "byPair", "LTypeSets$Sets;", true)
def tyX4 : Nat → FieldType := fun k => match k with
  | 0 => .array .int
  | 1 => .array .int
  | 2 => .object "TypeSets$Sets"
  | 3 => .object "TypeSets$Sets"
  | 4 => .object "TypeSets$Sets"
  | _ => .object "TypeSets$Sets"
theorem nmX4 : ∀ a, a < 6 → ∀ b, b < 6 → a ≠ b → (TX4 a).2.1 ≠ (TX4 b).2.1 := by decide +kernel
theorem tyX4_ok : ∀ k, k < 6 → parseFieldDescriptor (TX4 k).2.2.1 = some (tyX4 k) := by decide +kernel
abbrev cX4_init : ByteArray := prog_6_method_1_code
def yX4_init : MethodName := ⟨RX4, "<init>", "()V"⟩
abbrev cX4_measure : ByteArray := prog_6_method_2_code
def yX4_measure : MethodName := ⟨RX4, "measure", "(LTypeSets$House;)V"⟩
abbrev cX4_pairUp : ByteArray := prog_6_method_3_code
def yX4_pairUp : MethodName := ⟨RX4, "pairUp", "(LTypeSets$House;)V"⟩
abbrev cX4_sumUp : ByteArray := prog_6_method_4_code
def yX4_sumUp : MethodName := ⟨RX4, "sumUp", "(I)V"⟩
abbrev cX4_howMany : ByteArray := prog_6_method_5_code
def yX4_howMany : MethodName := ⟨RX4, "howMany", "(II)I"⟩
abbrev cX4_ofAny : ByteArray := prog_6_method_6_code
def yX4_ofAny : MethodName := ⟨RX4, "ofAny", "(I)I"⟩
def RX5 : String := "TypeSets$Rows"
def TX5 : u_T := fun k => match k with
  | 0 => ("TypeSets$Rows", "lanes", "[I", true)
  | 1 => ("TypeSets$Rows", "lengths", "[I", true)
  | _ => ("TypeSets$Rows", "items", "[I", true)
def tyX5 : Nat → FieldType := fun k => match k with
  | 0 => .array .int
  | 1 => .array .int
  | _ => .array .int
theorem nmX5 : ∀ a, a < 3 → ∀ b, b < 3 → a ≠ b → (TX5 a).2.1 ≠ (TX5 b).2.1 := by decide +kernel
theorem tyX5_ok : ∀ k, k < 3 → parseFieldDescriptor (TX5 k).2.2.1 = some (tyX5 k) := by decide +kernel
abbrev cX5_init : ByteArray := prog_7_method_1_code
def yX5_init : MethodName := ⟨RX5, "<init>", "()V"⟩
abbrev cX5_isNumber : ByteArray := prog_7_method_2_code
def yX5_isNumber : MethodName := ⟨RX5, "isNumber", "(I)Z"⟩
abbrev cX5_isLane : ByteArray := prog_7_method_3_code
def yX5_isLane : MethodName := ⟨RX5, "isLane", "(I)Z"⟩
abbrev cX5_make : ByteArray := prog_7_method_4_code
def yX5_make : MethodName := ⟨RX5, "make", "(III)V"⟩
abbrev cX5_put : ByteArray := prog_7_method_5_code
def yX5_put : MethodName := ⟨RX5, "put", "(III)I"⟩
abbrev cX5_move : ByteArray := prog_7_method_6_code
def yX5_move : MethodName := ⟨RX5, "move", "(IIIII)V"⟩
abbrev cX5_lose : ByteArray := prog_7_method_7_code
def yX5_lose : MethodName := ⟨RX5, "lose", "(I)I"⟩
abbrev cX5_present : ByteArray := prog_7_method_8_code
def yX5_present : MethodName := ⟨RX5, "present", "()I"⟩
abbrev cX5_bits : ByteArray := prog_7_method_9_code
def yX5_bits : MethodName := ⟨RX5, "bits", "(III)I"⟩
abbrev cX5_findingAt : ByteArray := prog_7_method_10_code
def yX5_findingAt : MethodName := ⟨RX5, "findingAt", "(III)I"⟩
abbrev cX5_findingOfMove : ByteArray := prog_7_method_11_code
def yX5_findingOfMove : MethodName := ⟨RX5, "findingOfMove", "(IIIII)I"⟩
abbrev cX5_isPlace : ByteArray := prog_7_method_12_code
def yX5_isPlace : MethodName := ⟨RX5, "isPlace", "(III)Z"⟩
def RX6 : String := "TypeSets$Sets"
def TX6 : u_T := fun k => match k with
  | 0 => ("TypeSets$Sets", "at", "[I", true)
  | 1 => ("TypeSets$Sets", "number", "[I", true)
  | _ => ("TypeSets$Sets", "size", "I", false)
def tyX6 : Nat → FieldType := fun k => match k with
  | 0 => .array .int
  | 1 => .array .int
  | _ => .int
theorem nmX6 : ∀ a, a < 3 → ∀ b, b < 3 → a ≠ b → (TX6 a).2.1 ≠ (TX6 b).2.1 := by decide +kernel
theorem tyX6_ok : ∀ k, k < 3 → parseFieldDescriptor (TX6 k).2.2.1 = some (tyX6 k) := by decide +kernel
abbrev cX6_init : ByteArray := prog_8_method_1_code
def yX6_init : MethodName := ⟨RX6, "<init>", "()V"⟩
abbrev cX6_clear : ByteArray := prog_8_method_2_code
def yX6_clear : MethodName := ⟨RX6, "clear", "()V"⟩
abbrev cX6_add : ByteArray := prog_8_method_3_code
def yX6_add : MethodName := ⟨RX6, "add", "(II)Z"⟩
abbrev cX6_raise : ByteArray := prog_8_method_4_code
def yX6_raise : MethodName := ⟨RX6, "raise", "(II)V"⟩
def RX7 : String := "TypeSets$Sides"
def TX7 : u_T := fun k => match k with
  | 0 => ("TypeSets$Sides", "leftOf", "[I", true)
  | 1 => ("TypeSets$Sides", "rightOf", "[I", true)
  | 2 => ("TypeSets$Sides", "lefts", "LTypeSets$Sets;", true)
  | _ => ("TypeSets$Sides", "rights", "LTypeSets$Sets;", true)
def tyX7 : Nat → FieldType := fun k => match k with
  | 0 => .array .int
  | 1 => .array .int
  | 2 => .object "TypeSets$Sets"
  | _ => .object "TypeSets$Sets"
theorem nmX7 : ∀ a, a < 4 → ∀ b, b < 4 → a ≠ b → (TX7 a).2.1 ≠ (TX7 b).2.1 := by decide +kernel
theorem tyX7_ok : ∀ k, k < 4 → parseFieldDescriptor (TX7 k).2.2.1 = some (tyX7 k) := by decide +kernel
abbrev cX7_init : ByteArray := prog_9_method_1_code
def yX7_init : MethodName := ⟨RX7, "<init>", "()V"⟩
abbrev cX7_clear : ByteArray := prog_9_method_2_code
def yX7_clear : MethodName := ⟨RX7, "clear", "()V"⟩
abbrev cX7_see : ByteArray := prog_9_method_3_code
def yX7_see : MethodName := ⟨RX7, "see", "(LTypeSets$House;III)V"⟩
def RX8 : String := "TypeSets$Tape"
def TX8 : u_T := fun k => match k with
  | 0 => ("TypeSets$Tape", "bytes", "[I", true)
  | 1 => ("TypeSets$Tape", "length", "I", false)
  | 2 => ("TypeSets$Tape", "next", "I", false)
  | 3 => ("TypeSets$Tape", "token", "I", false)
  | 4 => ("TypeSets$Tape", "number", "I", false)
  | 5 => ("TypeSets$Tape", "place", "I", false)
  | _ => ("TypeSets$Tape", "latestFault", "I", false)
def tyX8 : Nat → FieldType := fun k => match k with
  | 0 => .array .int
  | 1 => .int
  | 2 => .int
  | 3 => .int
  | 4 => .int
  | 5 => .int
  | _ => .int
theorem nmX8 : ∀ a, a < 7 → ∀ b, b < 7 → a ≠ b → (TX8 a).2.1 ≠ (TX8 b).2.1 := by decide +kernel
theorem tyX8_ok : ∀ k, k < 7 → parseFieldDescriptor (TX8 k).2.2.1 = some (tyX8 k) := by decide +kernel
abbrev cX8_init : ByteArray := prog_10_method_1_code
def yX8_init : MethodName := ⟨RX8, "<init>", "()V"⟩
abbrev cX8_add : ByteArray := prog_10_method_2_code
def yX8_add : MethodName := ⟨RX8, "add", "(I)Z"⟩
abbrev cX8_read : ByteArray := prog_10_method_3_code
def yX8_read : MethodName := ⟨RX8, "read", "(LTypeSets$House;)Z"⟩
abbrev cX8_readTypes : ByteArray := prog_10_method_4_code
def yX8_readTypes : MethodName := ⟨RX8, "readTypes", "(LTypeSets$House;)Z"⟩
abbrev cX8_readEquation : ByteArray := prog_10_method_5_code
def yX8_readEquation : MethodName := ⟨RX8, "readEquation", "(LTypeSets$House;II)Z"⟩
abbrev cX8_mostOf : ByteArray := prog_10_method_6_code
def yX8_mostOf : MethodName := ⟨RX8, "mostOf", "(II)I"⟩
abbrev cX8_sortOf : ByteArray := prog_10_method_7_code
def yX8_sortOf : MethodName := ⟨RX8, "sortOf", "(I)I"⟩
abbrev cX8_takesSign : ByteArray := prog_10_method_8_code
def yX8_takesSign : MethodName := ⟨RX8, "takesSign", "(I)Z"⟩
abbrev cX8_takesNumber : ByteArray := prog_10_method_9_code
def yX8_takesNumber : MethodName := ⟨RX8, "takesNumber", "(II)Z"⟩
abbrev cX8_fails : ByteArray := prog_10_method_10_code
def yX8_fails : MethodName := ⟨RX8, "fails", "(I)Z"⟩
abbrev cX8_step : ByteArray := prog_10_method_11_code
def yX8_step : MethodName := ⟨RX8, "step", "()V"⟩
abbrev cX8_isFigure : ByteArray := prog_10_method_12_code
def yX8_isFigure : MethodName := ⟨RX8, "isFigure", "(I)Z"⟩
def RX9 : String := "TypeSets"
def TX9 : u_T := fun k => match k with
  | 0 => ("TypeSets", "rows", "LTypeSets$Rows;", true)
  | 1 => ("TypeSets", "tape", "LTypeSets$Tape;", true)
  | 2 => ("TypeSets", "live", "LTypeSets$House;", true)
  | 3 => ("TypeSets", "trial", "LTypeSets$House;", true)
  | 4 => ("TypeSets", "firstImage", "LTypeSets$House;", true)
  | 5 => ("TypeSets", "secondImage", "LTypeSets$House;", true)
  | 6 => ("TypeSets", "acts", "LTypeSets$Acts;", true)
  | 7 => ("TypeSets", "liveCells", "LTypeSets$Cells;", true)
  | 8 => ("TypeSets", "trialCells", "LTypeSets$Cells;", true)
  | 9 => ("TypeSets", "plainValues", "LTypeSets$PlainValues;", true)
  | 10 => ("TypeSets", "asks", "LTypeSets$Asks;", true)
  | 11 => ("TypeSets", "cellsStand", "Z", false)
  | 12 => ("TypeSets", "plainStands", "Z", false)
  | _ => ("TypeSets", "latestFinding", "I", false)
def tyX9 : Nat → FieldType := fun k => match k with
  | 0 => .object "TypeSets$Rows"
  | 1 => .object "TypeSets$Tape"
  | 2 => .object "TypeSets$House"
  | 3 => .object "TypeSets$House"
  | 4 => .object "TypeSets$House"
  | 5 => .object "TypeSets$House"
  | 6 => .object "TypeSets$Acts"
  | 7 => .object "TypeSets$Cells"
  | 8 => .object "TypeSets$Cells"
  | 9 => .object "TypeSets$PlainValues"
  | 10 => .object "TypeSets$Asks"
  | 11 => .boolean
  | 12 => .boolean
  | _ => .int
theorem nmX9 : ∀ a, a < 14 → ∀ b, b < 14 → a ≠ b → (TX9 a).2.1 ≠ (TX9 b).2.1 := by decide +kernel
theorem tyX9_ok : ∀ k, k < 14 → parseFieldDescriptor (TX9 k).2.2.1 = some (tyX9 k) := by decide +kernel
abbrev cX9_init : ByteArray := prog_1_method_1_code
def yX9_init : MethodName := ⟨RX9, "<init>", "()V"⟩
abbrev cX9_row : ByteArray := prog_1_method_2_code
def yX9_row : MethodName := ⟨RX9, "row", "(III)I"⟩
abbrev cX9_set : ByteArray := prog_1_method_3_code
def yX9_set : MethodName := ⟨RX9, "set", "(III)I"⟩
abbrev cX9_copy : ByteArray := prog_1_method_4_code
def yX9_copy : MethodName := ⟨RX9, "copy", "(IIIII)I"⟩
abbrev cX9_drop : ByteArray := prog_1_method_5_code
def yX9_drop : MethodName := ⟨RX9, "drop", "(I)I"⟩
abbrev cX9_feed : ByteArray := prog_1_method_6_code
def yX9_feed : MethodName := ⟨RX9, "feed", "(I)I"⟩
abbrev cX9_house : ByteArray := prog_1_method_7_code
def yX9_house : MethodName := ⟨RX9, "house", "()I"⟩
abbrev cX9_fault : ByteArray := prog_1_method_8_code
def yX9_fault : MethodName := ⟨RX9, "fault", "()I"⟩
abbrev cX9_undo : ByteArray := prog_1_method_9_code
def yX9_undo : MethodName := ⟨RX9, "undo", "()I"⟩
abbrev cX9_anew : ByteArray := prog_1_method_10_code
def yX9_anew : MethodName := ⟨RX9, "anew", "(IIII)I"⟩
abbrev cX9_type : ByteArray := prog_1_method_11_code
def yX9_type : MethodName := ⟨RX9, "type", "(II)I"⟩
abbrev cX9_lowest : ByteArray := prog_1_method_12_code
def yX9_lowest : MethodName := ⟨RX9, "lowest", "(II)I"⟩
abbrev cX9_lies : ByteArray := prog_1_method_13_code
def yX9_lies : MethodName := ⟨RX9, "lies", "(II)I"⟩
abbrev cX9_others : ByteArray := prog_1_method_14_code
def yX9_others : MethodName := ⟨RX9, "others", "(II)I"⟩
abbrev cX9_empties : ByteArray := prog_1_method_15_code
def yX9_empties : MethodName := ⟨RX9, "empties", "()I"⟩
abbrev cX9_cellAt : ByteArray := prog_1_method_16_code
def yX9_cellAt : MethodName := ⟨RX9, "cellAt", "(I)I"⟩
abbrev cX9_answers : ByteArray := prog_1_method_17_code
def yX9_answers : MethodName := ⟨RX9, "answers", "(II)I"⟩
abbrev cX9_askable : ByteArray := prog_1_method_18_code
def yX9_askable : MethodName := ⟨RX9, "askable", "(I)I"⟩
abbrev cX9_ends : ByteArray := prog_1_method_19_code
def yX9_ends : MethodName := ⟨RX9, "ends", "(II)I"⟩
abbrev cX9_plain : ByteArray := prog_1_method_20_code
def yX9_plain : MethodName := ⟨RX9, "plain", "(II)I"⟩
abbrev cX9_pick : ByteArray := prog_1_method_21_code
def yX9_pick : MethodName := ⟨RX9, "pick", "(III)I"⟩
abbrev cX9_who : ByteArray := prog_1_method_22_code
def yX9_who : MethodName := ⟨RX9, "who", "(IIIII)I"⟩
abbrev cX9_drawn : ByteArray := prog_1_method_23_code
def yX9_drawn : MethodName := ⟨RX9, "drawn", "(III)I"⟩
abbrev cX9_image : ByteArray := prog_1_method_24_code
def yX9_image : MethodName := ⟨RX9, "image", "(I)I"⟩
abbrev cX9_restore : ByteArray := prog_1_method_25_code
def yX9_restore : MethodName := ⟨RX9, "restore", "(I)I"⟩
abbrev cX9_kind : ByteArray := prog_1_method_26_code
def yX9_kind : MethodName := ⟨RX9, "kind", "(I)I"⟩
abbrev cX9_as : ByteArray := prog_1_method_27_code
def yX9_as : MethodName := ⟨RX9, "as", "(II)I"⟩
abbrev cX9_ask : ByteArray := prog_1_method_28_code
def yX9_ask : MethodName := ⟨RX9, "ask", "(II)I"⟩
abbrev cX9_trace : ByteArray := prog_1_method_29_code
def yX9_trace : MethodName := ⟨RX9, "trace", "(I)I"⟩
abbrev cX9_count : ByteArray := prog_1_method_30_code
def yX9_count : MethodName := ⟨RX9, "count", "(I)I"⟩
abbrev cX9_status : ByteArray := prog_1_method_31_code
def yX9_status : MethodName := ⟨RX9, "status", "()I"⟩
abbrev cX9_standIn : ByteArray := prog_1_method_32_code
def yX9_standIn : MethodName := ⟨RX9, "standIn", "(LTypeSets$House;)V"⟩
abbrev cX9_forgetWhatStood : ByteArray := prog_1_method_33_code
def yX9_forgetWhatStood : MethodName := ⟨RX9, "forgetWhatStood", "()V"⟩
abbrev cX9_cellsNow : ByteArray := prog_1_method_34_code
def yX9_cellsNow : MethodName := ⟨RX9, "cellsNow", "()LTypeSets$Cells;"⟩
abbrev cX9_plainNow : ByteArray := prog_1_method_35_code
def yX9_plainNow : MethodName := ⟨RX9, "plainNow", "()LTypeSets$PlainValues;"⟩
abbrev cX9_imageOf : ByteArray := prog_1_method_36_code
def yX9_imageOf : MethodName := ⟨RX9, "imageOf", "(I)LTypeSets$House;"⟩
abbrev cX9_fits : ByteArray := prog_1_method_37_code
def yX9_fits : MethodName := ⟨RX9, "fits", "(IIIII)Z"⟩
abbrev cX9_drawEquation : ByteArray := prog_1_method_38_code
def yX9_drawEquation : MethodName := ⟨RX9, "drawEquation", "(J)V"⟩
abbrev cX9_greatestDivisor : ByteArray := prog_1_method_39_code
def yX9_greatestDivisor : MethodName := ⟨RX9, "greatestDivisor", "(II)I"⟩
def RX10 : String := "TypeSetsModel"
def TX10 : u_T := fun k => match k with
  | 0 => ("TypeSetsModel", "thrown", "I", false)
  | 1 => ("TypeSetsModel", "status", "I", false)
  | 2 => ("TypeSetsModel", "lane", "[I", true)
  | 3 => ("TypeSetsModel", "many", "[I", true)
  | 4 => ("TypeSetsModel", "item", "[I", true)
  | 5 => ("TypeSetsModel", "house", "[I", true)
  | 6 => ("TypeSetsModel", "fresh", "[I", true)
  | 7 => ("TypeSetsModel", "then", "[I", true)
  | 8 => ("TypeSetsModel", "was", "[I", true)
  | 9 => ("TypeSetsModel", "acts", "I", false)
  | 10 => ("TypeSetsModel", "tape", "[I", true)
  | 11 => ("TypeSetsModel", "taped", "I", false)
  | 12 => ("TypeSetsModel", "cursor", "I", false)
  | 13 => ("TypeSetsModel", "start", "I", false)
  | 14 => ("TypeSetsModel", "token", "I", false)
  | 15 => ("TypeSetsModel", "value", "I", false)
  | 16 => ("TypeSetsModel", "fault", "I", false)
  | 17 => ("TypeSetsModel", "faultAt", "I", false)
  | 18 => ("TypeSetsModel", "latest", "I", false)
  | 19 => ("TypeSetsModel", "height", "[I", true)
  | 20 => ("TypeSetsModel", "sorts", "[I", true)
  | 21 => ("TypeSetsModel", "cells", "[I", true)
  | 22 => ("TypeSetsModel", "found", "I", false)
  | 23 => ("TypeSetsModel", "broken", "[Z", true)
  | 24 => ("TypeSetsModel", "joined", "[Z", true)
  | 25 => ("TypeSetsModel", "known", "[I", true)
  | 26 => ("TypeSetsModel", "plainly", "[I", true)
  | 27 => ("TypeSetsModel", "higher", "[I", true)
  | 28 => ("TypeSetsModel", "isKept", "[Z", true)
  | 29 => ("TypeSetsModel", "kept", "[I", true)
  | 30 => ("TypeSetsModel", "trace", "[I", true)
  | _ => ("TypeSetsModel", "traced", "I", false)
def tyX10 : Nat → FieldType := fun k => match k with
  | 0 => .int
  | 1 => .int
  | 2 => .array .int
  | 3 => .array .int
  | 4 => .array .int
  | 5 => .array .int
  | 6 => .array .int
  | 7 => .array .int
  | 8 => .array .int
  | 9 => .int
  | 10 => .array .int
  | 11 => .int
  | 12 => .int
  | 13 => .int
  | 14 => .int
  | 15 => .int
  | 16 => .int
  | 17 => .int
  | 18 => .int
  | 19 => .array .int
  | 20 => .array .int
  | 21 => .array .int
  | 22 => .int
  | 23 => .array .boolean
  | 24 => .array .boolean
  | 25 => .array .int
  | 26 => .array .int
  | 27 => .array .int
  | 28 => .array .boolean
  | 29 => .array .int
  | 30 => .array .int
  | _ => .int
theorem nmX10 : ∀ a, a < 32 → ∀ b, b < 32 → a ≠ b → (TX10 a).2.1 ≠ (TX10 b).2.1 := by decide +kernel
theorem tyX10_ok : ∀ k, k < 32 → parseFieldDescriptor (TX10 k).2.2.1 = some (tyX10 k) := by decide +kernel
abbrev cX10_init : ByteArray := prog_12_method_1_code
def yX10_init : MethodName := ⟨RX10, "<init>", "()V"⟩
abbrev cX10_in : ByteArray := prog_12_method_3_code
def yX10_in : MethodName := ⟨RX10, "in", "(JJJ)Z"⟩
abbrev cX10_finding : ByteArray := prog_12_method_4_code
def yX10_finding : MethodName := ⟨RX10, "finding", "(I)I"⟩
abbrev cX10_isRow : ByteArray := prog_12_method_5_code
def yX10_isRow : MethodName := ⟨RX10, "isRow", "(I)Z"⟩
abbrev cX10_row : ByteArray := prog_12_method_6_code
def yX10_row : MethodName := ⟨RX10, "row", "(III)I"⟩
abbrev cX10_set : ByteArray := prog_12_method_7_code
def yX10_set : MethodName := ⟨RX10, "set", "(III)I"⟩
abbrev cX10_copy : ByteArray := prog_12_method_8_code
def yX10_copy : MethodName := ⟨RX10, "copy", "(IIIII)I"⟩
abbrev cX10_drop : ByteArray := prog_12_method_9_code
def yX10_drop : MethodName := ⟨RX10, "drop", "(I)I"⟩
abbrev cX10_feed : ByteArray := prog_12_method_10_code
def yX10_feed : MethodName := ⟨RX10, "feed", "(I)I"⟩
abbrev cX10_bad : ByteArray := prog_12_method_11_code
def yX10_bad : MethodName := ⟨RX10, "bad", "(I)V"⟩
abbrev cX10_nextToken : ByteArray := prog_12_method_12_code
def yX10_nextToken : MethodName := ⟨RX10, "nextToken", "()V"⟩
abbrev cX10_must : ByteArray := prog_12_method_13_code
def yX10_must : MethodName := ⟨RX10, "must", "(Z)V"⟩
abbrev cX10_isLetter : ByteArray := prog_12_method_14_code
def yX10_isLetter : MethodName := ⟨RX10, "isLetter", "(I)Z"⟩
abbrev cX10_number : ByteArray := prog_12_method_15_code
def yX10_number : MethodName := ⟨RX10, "number", "(II)I"⟩
abbrev cX10_mustSign : ByteArray := prog_12_method_16_code
def yX10_mustSign : MethodName := ⟨RX10, "mustSign", "(I)V"⟩
abbrev cX10_begin : ByteArray := prog_12_method_17_code
def yX10_begin : MethodName := ⟨RX10, "begin", "()V"⟩
abbrev cX10_failed : ByteArray := prog_12_method_18_code
def yX10_failed : MethodName := ⟨RX10, "failed", "()Z"⟩
abbrev cX10_fault : ByteArray := prog_12_method_19_code
def yX10_fault : MethodName := ⟨RX10, "fault", "()I"⟩
abbrev cX10_sortBy : ByteArray := prog_12_method_20_code
def yX10_sortBy : MethodName := ⟨RX10, "sortBy", "(I)I"⟩
abbrev cX10_isSort : ByteArray := prog_12_method_21_code
def yX10_isSort : MethodName := ⟨RX10, "isSort", "()Z"⟩
abbrev cX10_readType : ByteArray := prog_12_method_22_code
def yX10_readType : MethodName := ⟨RX10, "readType", "()V"⟩
abbrev cX10_areNamed : ByteArray := prog_12_method_23_code
def yX10_areNamed : MethodName := ⟨RX10, "areNamed", "()Z"⟩
abbrev cX10_house : ByteArray := prog_12_method_24_code
def yX10_house : MethodName := ⟨RX10, "house", "()I"⟩
abbrev cX10_isThere : ByteArray := prog_12_method_25_code
def yX10_isThere : MethodName := ⟨RX10, "isThere", "()Z"⟩
abbrev cX10_isType : ByteArray := prog_12_method_26_code
def yX10_isType : MethodName := ⟨RX10, "isType", "(I)Z"⟩
abbrev cX10_bits : ByteArray := prog_12_method_27_code
def yX10_bits : MethodName := ⟨RX10, "bits", "(I)I"⟩
abbrev cX10_has : ByteArray := prog_12_method_28_code
def yX10_has : MethodName := ⟨RX10, "has", "(II)Z"⟩
abbrev cX10_of : ByteArray := prog_12_method_29_code
def yX10_of : MethodName := ⟨RX10, "of", "([III)I"⟩
abbrev cX10_may : ByteArray := prog_12_method_30_code
def yX10_may : MethodName := ⟨RX10, "may", "(IIIII)Z"⟩
abbrev cX10_cellOf : ByteArray := prog_12_method_31_code
def yX10_cellOf : MethodName := ⟨RX10, "cellOf", "([II)I"⟩
abbrev cX10_constantCell : ByteArray := prog_12_method_32_code
def yX10_constantCell : MethodName := ⟨RX10, "constantCell", "([II)I"⟩
abbrev cX10_pairCell : ByteArray := prog_12_method_33_code
def yX10_pairCell : MethodName := ⟨RX10, "pairCell", "([III)I"⟩
abbrev cX10_functionCell : ByteArray := prog_12_method_34_code
def yX10_functionCell : MethodName := ⟨RX10, "functionCell", "([II)I"⟩
abbrev cX10_breaks : ByteArray := prog_12_method_35_code
def yX10_breaks : MethodName := ⟨RX10, "breaks", "([III)I"⟩
abbrev cX10_comes : ByteArray := prog_12_method_36_code
def yX10_comes : MethodName := ⟨RX10, "comes", "(III)V"⟩
abbrev cX10_gather : ByteArray := prog_12_method_37_code
def yX10_gather : MethodName := ⟨RX10, "gather", "()V"⟩
abbrev cX10_join : ByteArray := prog_12_method_38_code
def yX10_join : MethodName := ⟨RX10, "join", "()V"⟩
abbrev cX10_layCases : ByteArray := prog_12_method_39_code
def yX10_layCases : MethodName := ⟨RX10, "layCases", "([III)V"⟩
abbrev cX10_isKnown : ByteArray := prog_12_method_40_code
def yX10_isKnown : MethodName := ⟨RX10, "isKnown", "([I)Z"⟩
abbrev cX10_reckon : ByteArray := prog_12_method_41_code
def yX10_reckon : MethodName := ⟨RX10, "reckon", "([I)V"⟩
abbrev cX10_goOn : ByteArray := prog_12_method_42_code
def yX10_goOn : MethodName := ⟨RX10, "goOn", "([III)V"⟩
abbrev cX10_layThen : ByteArray := prog_12_method_43_code
def yX10_layThen : MethodName := ⟨RX10, "layThen", "()V"⟩
abbrev cX10_sortsOf : ByteArray := prog_12_method_44_code
def yX10_sortsOf : MethodName := ⟨RX10, "sortsOf", "(I)I"⟩
abbrev cX10_isEmpty : ByteArray := prog_12_method_45_code
def yX10_isEmpty : MethodName := ⟨RX10, "isEmpty", "(I)Z"⟩
abbrev cX10_liesIn : ByteArray := prog_12_method_46_code
def yX10_liesIn : MethodName := ⟨RX10, "liesIn", "(II)Z"⟩
abbrev cX10_areApart : ByteArray := prog_12_method_47_code
def yX10_areApart : MethodName := ⟨RX10, "areApart", "(II)Z"⟩
abbrev cX10_keep : ByteArray := prog_12_method_48_code
def yX10_keep : MethodName := ⟨RX10, "keep", "()V"⟩
abbrev cX10_anew : ByteArray := prog_12_method_49_code
def yX10_anew : MethodName := ⟨RX10, "anew", "(IIII)I"⟩
abbrev cX10_undo : ByteArray := prog_12_method_50_code
def yX10_undo : MethodName := ⟨RX10, "undo", "()I"⟩
abbrev cX10_type : ByteArray := prog_12_method_51_code
def yX10_type : MethodName := ⟨RX10, "type", "(II)I"⟩
abbrev cX10_isSet : ByteArray := prog_12_method_52_code
def yX10_isSet : MethodName := ⟨RX10, "isSet", "(I)Z"⟩
abbrev cX10_lowest : ByteArray := prog_12_method_53_code
def yX10_lowest : MethodName := ⟨RX10, "lowest", "(II)I"⟩
abbrev cX10_lies : ByteArray := prog_12_method_54_code
def yX10_lies : MethodName := ⟨RX10, "lies", "(II)I"⟩
abbrev cX10_others : ByteArray := prog_12_method_55_code
def yX10_others : MethodName := ⟨RX10, "others", "(II)I"⟩
abbrev cX10_emptySet : ByteArray := prog_12_method_56_code
def yX10_emptySet : MethodName := ⟨RX10, "emptySet", "([I)I"⟩
abbrev cX10_empties : ByteArray := prog_12_method_57_code
def yX10_empties : MethodName := ⟨RX10, "empties", "()I"⟩
abbrev cX10_cellAt : ByteArray := prog_12_method_58_code
def yX10_cellAt : MethodName := ⟨RX10, "cellAt", "(I)I"⟩
abbrev cX10_isMarked : ByteArray := prog_12_method_59_code
def yX10_isMarked : MethodName := ⟨RX10, "isMarked", "(I)Z"⟩
abbrev cX10_everyType : ByteArray := prog_12_method_60_code
def yX10_everyType : MethodName := ⟨RX10, "everyType", "()I"⟩
abbrev cX10_answers : ByteArray := prog_12_method_61_code
def yX10_answers : MethodName := ⟨RX10, "answers", "(II)I"⟩
abbrev cX10_askable : ByteArray := prog_12_method_62_code
def yX10_askable : MethodName := ⟨RX10, "askable", "(I)I"⟩
abbrev cX10_ends : ByteArray := prog_12_method_63_code
def yX10_ends : MethodName := ⟨RX10, "ends", "(II)I"⟩
abbrev cX10_layPlain : ByteArray := prog_12_method_64_code
def yX10_layPlain : MethodName := ⟨RX10, "layPlain", "(I)V"⟩
abbrev cX10_plainOf : ByteArray := prog_12_method_65_code
def yX10_plainOf : MethodName := ⟨RX10, "plainOf", "(I)I"⟩
abbrev cX10_plain : ByteArray := prog_12_method_66_code
def yX10_plain : MethodName := ⟨RX10, "plain", "(II)I"⟩
abbrev cX10_pick : ByteArray := prog_12_method_67_code
def yX10_pick : MethodName := ⟨RX10, "pick", "(III)I"⟩
abbrev cX10_rowFound : ByteArray := prog_12_method_68_code
def yX10_rowFound : MethodName := ⟨RX10, "rowFound", "(III)I"⟩
abbrev cX10_who : ByteArray := prog_12_method_69_code
def yX10_who : MethodName := ⟨RX10, "who", "(IIIII)I"⟩
abbrev cX10_drawn : ByteArray := prog_12_method_70_code
def yX10_drawn : MethodName := ⟨RX10, "drawn", "(III)I"⟩
abbrev cX10_image : ByteArray := prog_12_method_71_code
def yX10_image : MethodName := ⟨RX10, "image", "(I)I"⟩
abbrev cX10_restore : ByteArray := prog_12_method_72_code
def yX10_restore : MethodName := ⟨RX10, "restore", "(I)I"⟩
abbrev cX10_kindOf : ByteArray := prog_12_method_73_code
def yX10_kindOf : MethodName := ⟨RX10, "kindOf", "(I)I"⟩
abbrev cX10_isOf : ByteArray := prog_12_method_74_code
def yX10_isOf : MethodName := ⟨RX10, "isOf", "(II)Z"⟩
abbrev cX10_kind : ByteArray := prog_12_method_75_code
def yX10_kind : MethodName := ⟨RX10, "kind", "(I)I"⟩
abbrev cX10_as : ByteArray := prog_12_method_76_code
def yX10_as : MethodName := ⟨RX10, "as", "(II)I"⟩
abbrev cX10_began : ByteArray := prog_12_method_77_code
def yX10_began : MethodName := ⟨RX10, "began", "(I)V"⟩
abbrev cX10_plainSize : ByteArray := prog_12_method_78_code
def yX10_plainSize : MethodName := ⟨RX10, "plainSize", "(I)I"⟩
abbrev cX10_pairSize : ByteArray := prog_12_method_79_code
def yX10_pairSize : MethodName := ⟨RX10, "pairSize", "(I)I"⟩
abbrev cX10_markOf : ByteArray := prog_12_method_80_code
def yX10_markOf : MethodName := ⟨RX10, "markOf", "(I)I"⟩
abbrev cX10_sizeOf : ByteArray := prog_12_method_81_code
def yX10_sizeOf : MethodName := ⟨RX10, "sizeOf", "(I)I"⟩
abbrev cX10_ask : ByteArray := prog_12_method_82_code
def yX10_ask : MethodName := ⟨RX10, "ask", "(II)I"⟩
abbrev cX10_trace : ByteArray := prog_12_method_83_code
def yX10_trace : MethodName := ⟨RX10, "trace", "(I)I"⟩
abbrev cX10_count : ByteArray := prog_12_method_84_code
def yX10_count : MethodName := ⟨RX10, "count", "(I)I"⟩
abbrev cX10_status : ByteArray := prog_12_method_85_code
def yX10_status : MethodName := ⟨RX10, "status", "()I"⟩
def RJ6 : String := "java/lang/Integer"
abbrev cJ6_bitCount_0f7a4 : ByteArray := prog_13_method_49_code
def yJ6_bitCount_0f7a4 : MethodName := ⟨RJ6, "bitCount", "(I)I"⟩
def RJ7 : String := "java/util/Arrays"
abbrev cJ7_fill_53178 : ByteArray := prog_15_method_103_code
def yJ7_fill_53178 : MethodName := ⟨RJ7, "fill", "([II)V"⟩
def RL : String := "TypeSetsLaw"
abbrev cL_law : ByteArray := code
def yL_law : MethodName := ⟨RL, "law", "([I)Z"⟩
abbrev vwCl : List vw_C := [(RX0, TX0, 5), (RX1, TX1, 6), (RX2, TX2, 16), (RX3, TX3, 5), (RX4, TX4, 6), (RX5, TX5, 3), (RX6, TX6, 3), (RX7, TX7, 4), (RX8, TX8, 7), (RX9, TX9, 14), (RX10, TX10, 32)]
/-- a method: its name, its code, its locals, what it returns, its room -/
abbrev MR : Type := MethodName × ByteArray × Nat × Option FieldType × Room
def m_Acts_forgetOldest : MR := (yX0_forgetOldest, prog_2_method_4_code, 1, none, { frames := 1, cells := 0, slots := 0, locals := 40 })
def m_Acts_init : MR := (yX0_init, prog_2_method_1_code, 1, none, { frames := 1, cells := 4, slots := 96, locals := 20 })
def m_Acts_keep : MR := (yX0_keep, prog_2_method_2_code, 3, none, { frames := 2, cells := 0, slots := 0, locals := 60 })
def m_Acts_takeBack : MR := (yX0_takeBack, prog_2_method_3_code, 2, none, { frames := 1, cells := 0, slots := 0, locals := 24 })
def m_Asks_begin : MR := (yX1_begin, prog_3_method_4_code, 3, none, { frames := 1, cells := 0, slots := 0, locals := 20 })
def m_Asks_body10 : MR := (yX1_body10, prog_3_method_9_code, 1, (some .int), { frames := 1, cells := 0, slots := 0, locals := 21 })
def m_Asks_body11 : MR := (yX1_body11, prog_3_method_10_code, 1, (some .int), { frames := 5, cells := 0, slots := 0, locals := 101 })
def m_Asks_body12 : MR := (yX1_body12, prog_3_method_11_code, 1, (some .int), { frames := 6, cells := 0, slots := 0, locals := 121 })
def m_Asks_body13 : MR := (yX1_body13, prog_3_method_12_code, 1, (some .int), { frames := 2, cells := 0, slots := 0, locals := 41 })
def m_Asks_body14 : MR := (yX1_body14, prog_3_method_13_code, 1, (some .int), { frames := 3, cells := 0, slots := 0, locals := 61 })
def m_Asks_body20 : MR := (yX1_body20, prog_3_method_14_code, 1, (some .int), { frames := 1, cells := 0, slots := 0, locals := 21 })
def m_Asks_body21 : MR := (yX1_body21, prog_3_method_15_code, 1, (some .int), { frames := 2, cells := 0, slots := 0, locals := 41 })
def m_Asks_body22 : MR := (yX1_body22, prog_3_method_16_code, 1, (some .int), { frames := 3, cells := 0, slots := 0, locals := 61 })
def m_Asks_body23 : MR := (yX1_body23, prog_3_method_17_code, 1, (some .int), { frames := 5, cells := 0, slots := 0, locals := 101 })
def m_Asks_body24 : MR := (yX1_body24, prog_3_method_18_code, 1, (some .int), { frames := 3, cells := 0, slots := 0, locals := 61 })
def m_Asks_init : MR := (yX1_init, prog_3_method_1_code, 1, none, { frames := 1, cells := 1, slots := 16, locals := 20 })
def m_Asks_isOne : MR := (yX1_isOne, prog_3_method_3_code, 2, (some .boolean), { frames := 0, cells := 0, slots := 0, locals := 0 })
def m_Asks_kindOf : MR := (yX1_kindOf, prog_3_method_2_code, 1, (some .int), { frames := 0, cells := 0, slots := 0, locals := 0 })
def m_Asks_leave : MR := (yX1_leave, prog_3_method_19_code, 2, none, { frames := 0, cells := 0, slots := 0, locals := 0 })
def m_Asks_markOfJoint : MR := (yX1_markOfJoint, prog_3_method_8_code, 1, (some .int), { frames := 4, cells := 0, slots := 0, locals := 81 })
def m_Asks_markOfOne : MR := (yX1_markOfOne, prog_3_method_6_code, 1, (some .int), { frames := 6, cells := 0, slots := 0, locals := 121 })
def m_Asks_sizeOfOne : MR := (yX1_sizeOfOne, prog_3_method_5_code, 1, (some .int), { frames := 7, cells := 0, slots := 0, locals := 141 })
def m_Asks_sizeOfPairs : MR := (yX1_sizeOfPairs, prog_3_method_7_code, 1, (some .int), { frames := 4, cells := 0, slots := 0, locals := 81 })
def m_Cells_addCase : MR := (yX2_addCase, prog_4_method_7_code, 5, none, { frames := 2, cells := 0, slots := 0, locals := 48 })
def m_Cells_addCases : MR := (yX2_addCases, prog_4_method_6_code, 6, none, { frames := 3, cells := 0, slots := 0, locals := 72 })
def m_Cells_addFunction : MR := (yX2_addFunction, prog_4_method_8_code, 4, none, { frames := 1, cells := 0, slots := 0, locals := 25 })
def m_Cells_addPair : MR := (yX2_addPair, prog_4_method_5_code, 4, none, { frames := 1, cells := 0, slots := 0, locals := 25 })
def m_Cells_addPairs : MR := (yX2_addPairs, prog_4_method_4_code, 6, none, { frames := 2, cells := 0, slots := 0, locals := 48 })
def m_Cells_alwaysAnswered : MR := (yX2_alwaysAnswered, prog_4_method_16_code, 4, (some .int), { frames := 2, cells := 0, slots := 0, locals := 46 })
def m_Cells_begin : MR := (yX2_begin, prog_4_method_3_code, 4, none, { frames := 2, cells := 0, slots := 0, locals := 61 })
def m_Cells_holdingAnswers : MR := (yX2_holdingAnswers, prog_4_method_14_code, 5, (some .int), { frames := 2, cells := 0, slots := 0, locals := 46 })
def m_Cells_holdingAnswersFrom : MR := (yX2_holdingAnswersFrom, prog_4_method_15_code, 4, (some .int), { frames := 0, cells := 0, slots := 0, locals := 0 })
def m_Cells_holdingSide : MR := (yX2_holdingSide, prog_4_method_18_code, 7, (some .int), { frames := 1, cells := 0, slots := 0, locals := 24 })
def m_Cells_inOrder : MR := (yX2_inOrder, prog_4_method_13_code, 4, (some .int), { frames := 0, cells := 0, slots := 0, locals := 0 })
def m_Cells_init : MR := (yX2_init, prog_4_method_1_code, 1, none, { frames := 3, cells := 36, slots := 5450, locals := 60 })
def m_Cells_leastHeight : MR := (yX2_leastHeight, prog_4_method_10_code, 5, (some .int), { frames := 0, cells := 0, slots := 0, locals := 0 })
def m_Cells_lyingIn : MR := (yX2_lyingIn, prog_4_method_11_code, 4, (some .int), { frames := 0, cells := 0, slots := 0, locals := 0 })
def m_Cells_measure : MR := (yX2_measure, prog_4_method_2_code, 10, none, { frames := 4, cells := 0, slots := 0, locals := 97 })
def m_Cells_openFor : MR := (yX2_openFor, prog_4_method_17_code, 4, none, { frames := 1, cells := 0, slots := 0, locals := 23 })
def m_Cells_pairsInto : MR := (yX2_pairsInto, prog_4_method_19_code, 5, (some .boolean), { frames := 0, cells := 0, slots := 0, locals := 0 })
def m_Cells_relate : MR := (yX2_relate, prog_4_method_9_code, 4, none, { frames := 1, cells := 0, slots := 0, locals := 23 })
def m_Cells_withoutValue : MR := (yX2_withoutValue, prog_4_method_12_code, 1, (some .int), { frames := 0, cells := 0, slots := 0, locals := 0 })
def m_House_all : MR := (yX3_all, prog_5_method_4_code, 1, (some .int), { frames := 0, cells := 0, slots := 0, locals := 0 })
def m_House_cellOf : MR := (yX3_cellOf, prog_5_method_11_code, 6, (some .int), { frames := 0, cells := 0, slots := 0, locals := 0 })
def m_House_cellOfConstant : MR := (yX3_cellOfConstant, prog_5_method_10_code, 4, (some .int), { frames := 1, cells := 0, slots := 0, locals := 25 })
def m_House_has : MR := (yX3_has, prog_5_method_3_code, 2, (some .boolean), { frames := 0, cells := 0, slots := 0, locals := 0 })
def m_House_init : MR := (yX3_init, prog_5_method_1_code, 1, none, { frames := 1, cells := 3, slots := 24, locals := 20 })
def m_House_isNone : MR := (yX3_isNone, prog_5_method_2_code, 1, (some .boolean), { frames := 0, cells := 0, slots := 0, locals := 0 })
def m_House_isSet : MR := (yX3_isSet, prog_5_method_5_code, 2, (some .boolean), { frames := 1, cells := 0, slots := 0, locals := 20 })
def m_House_mayStand : MR := (yX3_mayStand, prog_5_method_7_code, 6, (some .boolean), { frames := 1, cells := 0, slots := 0, locals := 21 })
def m_House_namesOnlyItsOwn : MR := (yX3_namesOnlyItsOwn, prog_5_method_9_code, 2, (some .boolean), { frames := 2, cells := 0, slots := 0, locals := 46 })
def m_House_ofSort : MR := (yX3_ofSort, prog_5_method_12_code, 4, (some .int), { frames := 0, cells := 0, slots := 0, locals := 0 })
def m_House_takeFrom : MR := (yX3_takeFrom, prog_5_method_6_code, 2, none, { frames := 1, cells := 0, slots := 0, locals := 40 })
def m_House_tell : MR := (yX3_tell, prog_5_method_8_code, 5, none, { frames := 0, cells := 0, slots := 0, locals := 0 })
def m_House_withFirstIn : MR := (yX3_withFirstIn, prog_5_method_13_code, 5, (some .int), { frames := 0, cells := 0, slots := 0, locals := 0 })
def m_House_withSecondIn : MR := (yX3_withSecondIn, prog_5_method_14_code, 5, (some .int), { frames := 0, cells := 0, slots := 0, locals := 0 })
def m_Mo_anew : MR := (yX10_anew, prog_12_method_49_code, 7, (some .int), { frames := 2, cells := 0, slots := 0, locals := 50 })
def m_Mo_answers : MR := (yX10_answers, prog_12_method_61_code, 5, (some .int), { frames := 5, cells := 0, slots := 0, locals := 123 })
def m_Mo_areApart : MR := (yX10_areApart, prog_12_method_47_code, 4, (some .boolean), { frames := 1, cells := 0, slots := 0, locals := 21 })
def m_Mo_areNamed : MR := (yX10_areNamed, prog_12_method_23_code, 4, (some .boolean), { frames := 0, cells := 0, slots := 0, locals := 0 })
def m_Mo_as : MR := (yX10_as, prog_12_method_76_code, 3, (some .int), { frames := 2, cells := 0, slots := 0, locals := 46 })
def m_Mo_ask : MR := (yX10_ask, prog_12_method_82_code, 3, (some .int), { frames := 5, cells := 0, slots := 0, locals := 113 })
def m_Mo_askable : MR := (yX10_askable, prog_12_method_62_code, 4, (some .int), { frames := 5, cells := 0, slots := 0, locals := 123 })
def m_Mo_bad : MR := (yX10_bad, prog_12_method_11_code, 2, none, { frames := 0, cells := 0, slots := 0, locals := 0 })
def m_Mo_began : MR := (yX10_began, prog_12_method_77_code, 2, none, { frames := 0, cells := 0, slots := 0, locals := 0 })
def m_Mo_begin : MR := (yX10_begin, prog_12_method_17_code, 1, none, { frames := 2, cells := 0, slots := 0, locals := 45 })
def m_Mo_bits : MR := (yX10_bits, prog_12_method_27_code, 3, (some .int), { frames := 0, cells := 0, slots := 0, locals := 0 })
def m_Mo_breaks : MR := (yX10_breaks, prog_12_method_35_code, 6, (some .int), { frames := 1, cells := 0, slots := 0, locals := 22 })
def m_Mo_cellAt : MR := (yX10_cellAt, prog_12_method_58_code, 2, (some .int), { frames := 5, cells := 0, slots := 0, locals := 123 })
def m_Mo_cellOf : MR := (yX10_cellOf, prog_12_method_31_code, 8, (some .int), { frames := 1, cells := 0, slots := 0, locals := 22 })
def m_Mo_comes : MR := (yX10_comes, prog_12_method_36_code, 4, none, { frames := 0, cells := 0, slots := 0, locals := 0 })
def m_Mo_constantCell : MR := (yX10_constantCell, prog_12_method_32_code, 4, (some .int), { frames := 2, cells := 0, slots := 0, locals := 49 })
def m_Mo_copy : MR := (yX10_copy, prog_12_method_8_code, 9, (some .int), { frames := 2, cells := 0, slots := 0, locals := 45 })
def m_Mo_count : MR := (yX10_count, prog_12_method_84_code, 4, (some .int), { frames := 5, cells := 0, slots := 0, locals := 123 })
def m_Mo_drawn : MR := (yX10_drawn, prog_12_method_70_code, 11, (some .int), { frames := 5, cells := 0, slots := 0, locals := 123 })
def m_Mo_drop : MR := (yX10_drop, prog_12_method_9_code, 2, (some .int), { frames := 2, cells := 0, slots := 0, locals := 45 })
def m_Mo_empties : MR := (yX10_empties, prog_12_method_57_code, 1, (some .int), { frames := 5, cells := 0, slots := 0, locals := 123 })
def m_Mo_emptySet : MR := (yX10_emptySet, prog_12_method_56_code, 4, (some .int), { frames := 3, cells := 0, slots := 0, locals := 65 })
def m_Mo_ends : MR := (yX10_ends, prog_12_method_63_code, 6, (some .int), { frames := 5, cells := 0, slots := 0, locals := 123 })
def m_Mo_everyType : MR := (yX10_everyType, prog_12_method_60_code, 1, (some .int), { frames := 0, cells := 0, slots := 0, locals := 0 })
def m_Mo_failed : MR := (yX10_failed, prog_12_method_18_code, 1, (some .boolean), { frames := 1, cells := 0, slots := 0, locals := 21 })
def m_Mo_fault : MR := (yX10_fault, prog_12_method_19_code, 1, (some .int), { frames := 0, cells := 0, slots := 0, locals := 0 })
def m_Mo_feed : MR := (yX10_feed, prog_12_method_10_code, 2, (some .int), { frames := 1, cells := 0, slots := 0, locals := 25 })
def m_Mo_finding : MR := (yX10_finding, prog_12_method_4_code, 2, (some .int), { frames := 0, cells := 0, slots := 0, locals := 0 })
def m_Mo_functionCell : MR := (yX10_functionCell, prog_12_method_34_code, 4, (some .int), { frames := 2, cells := 0, slots := 0, locals := 49 })
def m_Mo_gather : MR := (yX10_gather, prog_12_method_37_code, 2, none, { frames := 0, cells := 0, slots := 0, locals := 0 })
def m_Mo_goOn : MR := (yX10_goOn, prog_12_method_42_code, 7, none, { frames := 3, cells := 0, slots := 0, locals := 73 })
def m_Mo_has : MR := (yX10_has, prog_12_method_28_code, 2, (some .boolean), { frames := 0, cells := 0, slots := 0, locals := 0 })
def m_Mo_house : MR := (yX10_house, prog_12_method_24_code, 2, (some .int), { frames := 5, cells := 0, slots := 0, locals := 115 })
def m_Mo_image : MR := (yX10_image, prog_12_method_71_code, 3, (some .int), { frames := 1, cells := 0, slots := 0, locals := 25 })
def m_Mo_in : MR := (yX10_in, prog_12_method_3_code, 6, (some .boolean), { frames := 0, cells := 0, slots := 0, locals := 0 })
def m_Mo_init : MR := (yX10_init, prog_12_method_1_code, 1, none, { frames := 1, cells := 19, slots := 3518, locals := 20 })
def m_Mo_isEmpty : MR := (yX10_isEmpty, prog_12_method_45_code, 2, (some .boolean), { frames := 2, cells := 0, slots := 0, locals := 44 })
def m_Mo_isKnown : MR := (yX10_isKnown, prog_12_method_40_code, 4, (some .boolean), { frames := 0, cells := 0, slots := 0, locals := 0 })
def m_Mo_isLetter : MR := (yX10_isLetter, prog_12_method_14_code, 2, (some .boolean), { frames := 0, cells := 0, slots := 0, locals := 0 })
def m_Mo_isMarked : MR := (yX10_isMarked, prog_12_method_59_code, 3, (some .boolean), { frames := 3, cells := 0, slots := 0, locals := 72 })
def m_Mo_isOf : MR := (yX10_isOf, prog_12_method_74_code, 2, (some .boolean), { frames := 0, cells := 0, slots := 0, locals := 0 })
def m_Mo_isRow : MR := (yX10_isRow, prog_12_method_5_code, 1, (some .boolean), { frames := 1, cells := 0, slots := 0, locals := 25 })
def m_Mo_isSet : MR := (yX10_isSet, prog_12_method_52_code, 2, (some .boolean), { frames := 1, cells := 0, slots := 0, locals := 25 })
def m_Mo_isSort : MR := (yX10_isSort, prog_12_method_21_code, 1, (some .boolean), { frames := 1, cells := 0, slots := 0, locals := 20 })
def m_Mo_isThere : MR := (yX10_isThere, prog_12_method_25_code, 1, (some .boolean), { frames := 0, cells := 0, slots := 0, locals := 0 })
def m_Mo_isType : MR := (yX10_isType, prog_12_method_26_code, 2, (some .boolean), { frames := 1, cells := 0, slots := 0, locals := 25 })
def m_Mo_join : MR := (yX10_join, prog_12_method_38_code, 3, none, { frames := 0, cells := 0, slots := 0, locals := 0 })
def m_Mo_keep : MR := (yX10_keep, prog_12_method_48_code, 2, none, { frames := 0, cells := 0, slots := 0, locals := 0 })
def m_Mo_kind : MR := (yX10_kind, prog_12_method_75_code, 2, (some .int), { frames := 2, cells := 0, slots := 0, locals := 46 })
def m_Mo_kindOf : MR := (yX10_kindOf, prog_12_method_73_code, 3, (some .int), { frames := 1, cells := 0, slots := 0, locals := 22 })
def m_Mo_layCases : MR := (yX10_layCases, prog_12_method_39_code, 9, none, { frames := 2, cells := 0, slots := 0, locals := 47 })
def m_Mo_layPlain : MR := (yX10_layPlain, prog_12_method_64_code, 5, none, { frames := 3, cells := 0, slots := 0, locals := 73 })
def m_Mo_layThen : MR := (yX10_layThen, prog_12_method_43_code, 2, none, { frames := 0, cells := 0, slots := 0, locals := 0 })
def m_Mo_lies : MR := (yX10_lies, prog_12_method_54_code, 3, (some .int), { frames := 5, cells := 0, slots := 0, locals := 123 })
def m_Mo_liesIn : MR := (yX10_liesIn, prog_12_method_46_code, 4, (some .boolean), { frames := 1, cells := 0, slots := 0, locals := 21 })
def m_Mo_lowest : MR := (yX10_lowest, prog_12_method_53_code, 7, (some .int), { frames := 5, cells := 0, slots := 0, locals := 123 })
def m_Mo_markOf : MR := (yX10_markOf, prog_12_method_80_code, 4, (some .int), { frames := 3, cells := 0, slots := 0, locals := 67 })
def m_Mo_may : MR := (yX10_may, prog_12_method_30_code, 6, (some .boolean), { frames := 1, cells := 0, slots := 0, locals := 25 })
def m_Mo_must : MR := (yX10_must, prog_12_method_13_code, 2, none, { frames := 2, cells := 0, slots := 0, locals := 45 })
def m_Mo_mustSign : MR := (yX10_mustSign, prog_12_method_16_code, 2, none, { frames := 3, cells := 0, slots := 0, locals := 66 })
def m_Mo_nextToken : MR := (yX10_nextToken, prog_12_method_12_code, 1, none, { frames := 1, cells := 0, slots := 0, locals := 25 })
def m_Mo_number : MR := (yX10_number, prog_12_method_15_code, 4, (some .int), { frames := 3, cells := 0, slots := 0, locals := 66 })
def m_Mo_of : MR := (yX10_of, prog_12_method_29_code, 3, (some .int), { frames := 0, cells := 0, slots := 0, locals := 0 })
def m_Mo_others : MR := (yX10_others, prog_12_method_55_code, 6, (some .int), { frames := 5, cells := 0, slots := 0, locals := 123 })
def m_Mo_pairCell : MR := (yX10_pairCell, prog_12_method_33_code, 5, (some .int), { frames := 2, cells := 0, slots := 0, locals := 49 })
def m_Mo_pairSize : MR := (yX10_pairSize, prog_12_method_79_code, 4, (some .int), { frames := 2, cells := 0, slots := 0, locals := 44 })
def m_Mo_pick : MR := (yX10_pick, prog_12_method_67_code, 9, (some .int), { frames := 4, cells := 0, slots := 0, locals := 97 })
def m_Mo_plain : MR := (yX10_plain, prog_12_method_66_code, 3, (some .int), { frames := 4, cells := 0, slots := 0, locals := 97 })
def m_Mo_plainOf : MR := (yX10_plainOf, prog_12_method_65_code, 4, (some .int), { frames := 1, cells := 0, slots := 0, locals := 21 })
def m_Mo_plainSize : MR := (yX10_plainSize, prog_12_method_78_code, 2, (some .int), { frames := 1, cells := 0, slots := 0, locals := 22 })
def m_Mo_readType : MR := (yX10_readType, prog_12_method_22_code, 7, none, { frames := 4, cells := 0, slots := 0, locals := 89 })
def m_Mo_reckon : MR := (yX10_reckon, prog_12_method_41_code, 5, none, { frames := 4, cells := 0, slots := 0, locals := 99 })
def m_Mo_restore : MR := (yX10_restore, prog_12_method_72_code, 3, (some .int), { frames := 1, cells := 0, slots := 0, locals := 25 })
def m_Mo_row : MR := (yX10_row, prog_12_method_6_code, 5, (some .int), { frames := 2, cells := 0, slots := 0, locals := 45 })
def m_Mo_rowFound : MR := (yX10_rowFound, prog_12_method_68_code, 4, (some .int), { frames := 1, cells := 0, slots := 0, locals := 21 })
def m_Mo_set : MR := (yX10_set, prog_12_method_7_code, 4, (some .int), { frames := 2, cells := 0, slots := 0, locals := 45 })
def m_Mo_sizeOf : MR := (yX10_sizeOf, prog_12_method_81_code, 4, (some .int), { frames := 4, cells := 0, slots := 0, locals := 90 })
def m_Mo_sortBy : MR := (yX10_sortBy, prog_12_method_20_code, 1, (some .int), { frames := 0, cells := 0, slots := 0, locals := 0 })
def m_Mo_sortsOf : MR := (yX10_sortsOf, prog_12_method_44_code, 4, (some .int), { frames := 1, cells := 0, slots := 0, locals := 21 })
def m_Mo_status : MR := (yX10_status, prog_12_method_85_code, 1, (some .int), { frames := 0, cells := 0, slots := 0, locals := 0 })
def m_Mo_trace : MR := (yX10_trace, prog_12_method_83_code, 2, (some .int), { frames := 1, cells := 0, slots := 0, locals := 25 })
def m_Mo_type : MR := (yX10_type, prog_12_method_51_code, 3, (some .int), { frames := 2, cells := 0, slots := 0, locals := 46 })
def m_Mo_undo : MR := (yX10_undo, prog_12_method_50_code, 2, (some .int), { frames := 0, cells := 0, slots := 0, locals := 0 })
def m_Mo_who : MR := (yX10_who, prog_12_method_69_code, 11, (some .int), { frames := 5, cells := 0, slots := 0, locals := 123 })
def m_Plain_howMany : MR := (yX4_howMany, prog_6_method_5_code, 3, (some .int), { frames := 0, cells := 0, slots := 0, locals := 0 })
def m_Plain_init : MR := (yX4_init, prog_6_method_1_code, 1, none, { frames := 2, cells := 14, slots := 2096, locals := 40 })
def m_Plain_measure : MR := (yX4_measure, prog_6_method_2_code, 5, none, { frames := 3, cells := 0, slots := 0, locals := 69 })
def m_Plain_ofAny : MR := (yX4_ofAny, prog_6_method_6_code, 2, (some .int), { frames := 0, cells := 0, slots := 0, locals := 0 })
def m_Plain_pairUp : MR := (yX4_pairUp, prog_6_method_3_code, 6, none, { frames := 2, cells := 0, slots := 0, locals := 44 })
def m_Plain_sumUp : MR := (yX4_sumUp, prog_6_method_4_code, 6, none, { frames := 0, cells := 0, slots := 0, locals := 0 })
def m_Rows_bits : MR := (yX5_bits, prog_7_method_9_code, 6, (some .int), { frames := 0, cells := 0, slots := 0, locals := 0 })
def m_Rows_findingAt : MR := (yX5_findingAt, prog_7_method_10_code, 4, (some .int), { frames := 1, cells := 0, slots := 0, locals := 23 })
def m_Rows_findingOfMove : MR := (yX5_findingOfMove, prog_7_method_11_code, 6, (some .int), { frames := 1, cells := 0, slots := 0, locals := 23 })
def m_Rows_init : MR := (yX5_init, prog_7_method_1_code, 1, none, { frames := 1, cells := 3, slots := 336, locals := 23 })
def m_Rows_isLane : MR := (yX5_isLane, prog_7_method_3_code, 1, (some .boolean), { frames := 0, cells := 0, slots := 0, locals := 0 })
def m_Rows_isNumber : MR := (yX5_isNumber, prog_7_method_2_code, 1, (some .boolean), { frames := 0, cells := 0, slots := 0, locals := 0 })
def m_Rows_isPlace : MR := (yX5_isPlace, prog_7_method_12_code, 4, (some .boolean), { frames := 0, cells := 0, slots := 0, locals := 0 })
def m_Rows_lose : MR := (yX5_lose, prog_7_method_7_code, 2, (some .int), { frames := 0, cells := 0, slots := 0, locals := 0 })
def m_Rows_make : MR := (yX5_make, prog_7_method_4_code, 5, none, { frames := 0, cells := 0, slots := 0, locals := 0 })
def m_Rows_move : MR := (yX5_move, prog_7_method_6_code, 6, none, { frames := 1, cells := 0, slots := 0, locals := 40 })
def m_Rows_present : MR := (yX5_present, prog_7_method_8_code, 3, (some .int), { frames := 0, cells := 0, slots := 0, locals := 0 })
def m_Rows_put : MR := (yX5_put, prog_7_method_5_code, 6, (some .int), { frames := 0, cells := 0, slots := 0, locals := 0 })
def m_Sets_add : MR := (yX6_add, prog_8_method_3_code, 3, (some .boolean), { frames := 0, cells := 0, slots := 0, locals := 0 })
def m_Sets_clear : MR := (yX6_clear, prog_8_method_2_code, 2, none, { frames := 0, cells := 0, slots := 0, locals := 0 })
def m_Sets_init : MR := (yX6_init, prog_8_method_1_code, 1, none, { frames := 1, cells := 2, slots := 512, locals := 20 })
def m_Sets_raise : MR := (yX6_raise, prog_8_method_4_code, 3, none, { frames := 1, cells := 0, slots := 0, locals := 22 })
def m_Sides_clear : MR := (yX7_clear, prog_9_method_2_code, 1, none, { frames := 1, cells := 0, slots := 0, locals := 21 })
def m_Sides_init : MR := (yX7_init, prog_9_method_1_code, 1, none, { frames := 2, cells := 8, slots := 1542, locals := 40 })
def m_Sides_see : MR := (yX7_see, prog_9_method_3_code, 5, none, { frames := 1, cells := 0, slots := 0, locals := 24 })
def m_TS_anew : MR := (yX9_anew, prog_1_method_10_code, 6, (some .int), { frames := 3, cells := 0, slots := 0, locals := 82 })
def m_TS_answers : MR := (yX9_answers, prog_1_method_17_code, 3, (some .int), { frames := 6, cells := 0, slots := 0, locals := 146 })
def m_TS_as : MR := (yX9_as, prog_1_method_27_code, 3, (some .int), { frames := 1, cells := 0, slots := 0, locals := 21 })
def m_TS_ask : MR := (yX9_ask, prog_1_method_28_code, 3, (some .int), { frames := 8, cells := 0, slots := 0, locals := 161 })
def m_TS_askable : MR := (yX9_askable, prog_1_method_18_code, 2, (some .int), { frames := 6, cells := 0, slots := 0, locals := 146 })
def m_TS_cellAt : MR := (yX9_cellAt, prog_1_method_16_code, 2, (some .int), { frames := 6, cells := 0, slots := 0, locals := 146 })
def m_TS_cellsNow : MR := (yX9_cellsNow, prog_1_method_34_code, 1, (some (FieldType.object "TypeSets$Cells")), { frames := 5, cells := 0, slots := 0, locals := 126 })
def m_TS_copy : MR := (yX9_copy, prog_1_method_4_code, 6, (some .int), { frames := 2, cells := 0, slots := 0, locals := 65 })
def m_TS_count : MR := (yX9_count, prog_1_method_30_code, 2, (some .int), { frames := 6, cells := 0, slots := 0, locals := 146 })
def m_TS_drawEquation : MR := (yX9_drawEquation, prog_1_method_38_code, 7, none, { frames := 2, cells := 0, slots := 0, locals := 46 })
def m_TS_drawn : MR := (yX9_drawn, prog_1_method_23_code, 7, (some .int), { frames := 5, cells := 0, slots := 0, locals := 126 })
def m_TS_drop : MR := (yX9_drop, prog_1_method_5_code, 2, (some .int), { frames := 2, cells := 0, slots := 0, locals := 46 })
def m_TS_empties : MR := (yX9_empties, prog_1_method_15_code, 1, (some .int), { frames := 6, cells := 0, slots := 0, locals := 146 })
def m_TS_ends : MR := (yX9_ends, prog_1_method_19_code, 3, (some .int), { frames := 6, cells := 0, slots := 0, locals := 146 })
def m_TS_fault : MR := (yX9_fault, prog_1_method_8_code, 1, (some .int), { frames := 0, cells := 0, slots := 0, locals := 0 })
def m_TS_feed : MR := (yX9_feed, prog_1_method_6_code, 2, (some .int), { frames := 1, cells := 0, slots := 0, locals := 21 })
def m_TS_fits : MR := (yX9_fits, prog_1_method_37_code, 9, (some .boolean), { frames := 5, cells := 0, slots := 0, locals := 126 })
def m_TS_forgetWhatStood : MR := (yX9_forgetWhatStood, prog_1_method_33_code, 1, none, { frames := 0, cells := 0, slots := 0, locals := 0 })
def m_TS_greatestDivisor : MR := (yX9_greatestDivisor, prog_1_method_39_code, 6, (some .int), { frames := 0, cells := 0, slots := 0, locals := 0 })
def m_TS_house : MR := (yX9_house, prog_1_method_7_code, 2, (some .int), { frames := 6, cells := 0, slots := 0, locals := 132 })
def m_TS_image : MR := (yX9_image, prog_1_method_24_code, 2, (some .int), { frames := 2, cells := 0, slots := 0, locals := 61 })
def m_TS_imageOf : MR := (yX9_imageOf, prog_1_method_36_code, 2, (some (FieldType.object "TypeSets$House")), { frames := 0, cells := 0, slots := 0, locals := 0 })
def m_TS_init : MR := (yX9_init, prog_1_method_1_code, 1, none, { frames := 4, cells := 118, slots := 13699, locals := 80 })
def m_TS_kind : MR := (yX9_kind, prog_1_method_26_code, 2, (some .int), { frames := 1, cells := 0, slots := 0, locals := 21 })
def m_TS_lies : MR := (yX9_lies, prog_1_method_13_code, 3, (some .int), { frames := 6, cells := 0, slots := 0, locals := 146 })
def m_TS_lowest : MR := (yX9_lowest, prog_1_method_12_code, 3, (some .int), { frames := 6, cells := 0, slots := 0, locals := 146 })
def m_TS_others : MR := (yX9_others, prog_1_method_14_code, 3, (some .int), { frames := 6, cells := 0, slots := 0, locals := 146 })
def m_TS_pick : MR := (yX9_pick, prog_1_method_21_code, 7, (some .int), { frames := 5, cells := 0, slots := 0, locals := 113 })
def m_TS_plain : MR := (yX9_plain, prog_1_method_20_code, 3, (some .int), { frames := 5, cells := 0, slots := 0, locals := 113 })
def m_TS_plainNow : MR := (yX9_plainNow, prog_1_method_35_code, 1, (some (FieldType.object "TypeSets$PlainValues")), { frames := 4, cells := 0, slots := 0, locals := 93 })
def m_TS_restore : MR := (yX9_restore, prog_1_method_25_code, 2, (some .int), { frames := 3, cells := 0, slots := 0, locals := 82 })
def m_TS_row : MR := (yX9_row, prog_1_method_2_code, 4, (some .int), { frames := 1, cells := 0, slots := 0, locals := 24 })
def m_TS_set : MR := (yX9_set, prog_1_method_3_code, 4, (some .int), { frames := 2, cells := 0, slots := 0, locals := 46 })
def m_TS_standIn : MR := (yX9_standIn, prog_1_method_32_code, 2, none, { frames := 2, cells := 0, slots := 0, locals := 61 })
def m_TS_status : MR := (yX9_status, prog_1_method_31_code, 1, (some .int), { frames := 0, cells := 0, slots := 0, locals := 0 })
def m_TS_trace : MR := (yX9_trace, prog_1_method_29_code, 2, (some .int), { frames := 0, cells := 0, slots := 0, locals := 0 })
def m_TS_type : MR := (yX9_type, prog_1_method_11_code, 3, (some .int), { frames := 1, cells := 0, slots := 0, locals := 21 })
def m_TS_undo : MR := (yX9_undo, prog_1_method_9_code, 1, (some .int), { frames := 2, cells := 0, slots := 0, locals := 45 })
def m_TS_who : MR := (yX9_who, prog_1_method_22_code, 10, (some .int), { frames := 6, cells := 0, slots := 0, locals := 154 })
def m_Tape_add : MR := (yX8_add, prog_10_method_2_code, 2, (some .boolean), { frames := 0, cells := 0, slots := 0, locals := 0 })
def m_Tape_fails : MR := (yX8_fails, prog_10_method_10_code, 2, (some .boolean), { frames := 0, cells := 0, slots := 0, locals := 0 })
def m_Tape_init : MR := (yX8_init, prog_10_method_1_code, 1, none, { frames := 1, cells := 1, slots := 80, locals := 20 })
def m_Tape_isFigure : MR := (yX8_isFigure, prog_10_method_12_code, 1, (some .boolean), { frames := 0, cells := 0, slots := 0, locals := 0 })
def m_Tape_mostOf : MR := (yX8_mostOf, prog_10_method_6_code, 2, (some .int), { frames := 0, cells := 0, slots := 0, locals := 0 })
def m_Tape_read : MR := (yX8_read, prog_10_method_3_code, 2, (some .boolean), { frames := 5, cells := 0, slots := 0, locals := 111 })
def m_Tape_readEquation : MR := (yX8_readEquation, prog_10_method_5_code, 6, (some .boolean), { frames := 3, cells := 0, slots := 0, locals := 63 })
def m_Tape_readTypes : MR := (yX8_readTypes, prog_10_method_4_code, 4, (some .boolean), { frames := 4, cells := 0, slots := 0, locals := 88 })
def m_Tape_sortOf : MR := (yX8_sortOf, prog_10_method_7_code, 1, (some .int), { frames := 0, cells := 0, slots := 0, locals := 0 })
def m_Tape_step : MR := (yX8_step, prog_10_method_11_code, 2, none, { frames := 1, cells := 0, slots := 0, locals := 20 })
def m_Tape_takesNumber : MR := (yX8_takesNumber, prog_10_method_9_code, 3, (some .boolean), { frames := 2, cells := 0, slots := 0, locals := 41 })
def m_Tape_takesSign : MR := (yX8_takesSign, prog_10_method_8_code, 2, (some .boolean), { frames := 2, cells := 0, slots := 0, locals := 41 })
def m_bitCount : MR := (yJ6_bitCount_0f7a4, prog_13_method_49_code, 1, (some .int), { frames := 0, cells := 0, slots := 0, locals := 0 })
def m_fill : MR := (yJ7_fill_53178, prog_15_method_103_code, 4, none, { frames := 0, cells := 0, slots := 0, locals := 0 })
def m_law : MR := (yL_law, code, 4, (some .boolean), room_1)
/-- of a class: where the cells that its fields name lie behind it (none: the field is a number) -/
def mx_off : List (List (Option Nat)) := [[some 1, some 2, some 3, some 4, none], [some 1, none, none, none, none, none], [some 1, none, none, none, none, none, some 5, some 8, some 17, some 26, some 29, some 32, some 33, some 34, some 35, some 36], [some 1, some 2, some 3, none, none], [some 1, some 2, some 3, some 6, some 9, some 12], [some 1, some 2, some 3], [some 1, some 2, none], [some 1, some 2, some 3, some 6], [some 1, none, none, none, none, none, none], [some 1, some 5, some 7, some 11, some 15, some 19, some 23, some 28, some 65, some 102, some 117, none, none, none], [none, none, some 1, some 2, some 3, some 4, some 5, some 6, some 7, none, some 8, none, none, none, none, none, none, none, none, some 9, some 10, some 11, none, some 12, some 13, some 14, some 15, some 16, some 17, some 18, some 19, none]]
abbrev mx_K : Type := (Nat × List (Option (Option Nat))) ⊕ (Bool × Nat)
/-- the cells of both systems, once they are made -/
def LAY : List mx_K := [.inl (9, [some (some 1), some (some 5), some (some 7), some (some 11), some (some 15), some (some 19), some (some 23), some (some 28), some (some 65), some (some 102), some (some 117), none, none, none]), .inl (5, [some (some 2), some (some 3), some (some 4)]), .inr (false, 8), .inr (false, 8), .inr (false, 320), .inl (8, [some (some 6), none, none, none, none, none, none]), .inr (false, 80), .inl (3, [some (some 8), some (some 9), some (some 10), none, none]), .inr (false, 8), .inr (false, 8), .inr (false, 8), .inl (3, [some (some 12), some (some 13), some (some 14), none, none]), .inr (false, 8), .inr (false, 8), .inr (false, 8), .inl (3, [some (some 16), some (some 17), some (some 18), none, none]), .inr (false, 8), .inr (false, 8), .inr (false, 8), .inl (3, [some (some 20), some (some 21), some (some 22), none, none]), .inr (false, 8), .inr (false, 8), .inr (false, 8), .inl (0, [some (some 24), some (some 25), some (some 26), some (some 27), none]), .inr (false, 24), .inr (false, 24), .inr (false, 24), .inr (false, 24), .inl (2, [some (some 29), none, none, none, none, none, some (some 33), some (some 36), some (some 45), some (some 54), some (some 57), some (some 60), some (some 61), some (some 62), some (some 63), some (some 64)]), .inl (3, [some (some 30), some (some 31), some (some 32), none, none]), .inr (false, 8), .inr (false, 8), .inr (false, 8), .inl (6, [some (some 34), some (some 35), none]), .inr (false, 256), .inr (false, 256), .inl (7, [some (some 37), some (some 38), some (some 39), some (some 42)]), .inr (false, 256), .inr (false, 256), .inl (6, [some (some 40), some (some 41), none]), .inr (false, 256), .inr (false, 256), .inl (6, [some (some 43), some (some 44), none]), .inr (false, 256), .inr (false, 256), .inl (7, [some (some 46), some (some 47), some (some 48), some (some 51)]), .inr (false, 256), .inr (false, 256), .inl (6, [some (some 49), some (some 50), none]), .inr (false, 256), .inr (false, 256), .inl (6, [some (some 52), some (some 53), none]), .inr (false, 256), .inr (false, 256), .inl (6, [some (some 55), some (some 56), none]), .inr (false, 256), .inr (false, 256), .inl (6, [some (some 58), some (some 59), none]), .inr (false, 256), .inr (false, 256), .inr (false, 256), .inr (false, 256), .inr (false, 256), .inr (false, 8), .inr (false, 8), .inl (2, [some (some 66), none, none, none, none, none, some (some 70), some (some 73), some (some 82), some (some 91), some (some 94), some (some 97), some (some 98), some (some 99), some (some 100), some (some 101)]), .inl (3, [some (some 67), some (some 68), some (some 69), none, none]), .inr (false, 8), .inr (false, 8), .inr (false, 8), .inl (6, [some (some 71), some (some 72), none]), .inr (false, 256), .inr (false, 256), .inl (7, [some (some 74), some (some 75), some (some 76), some (some 79)]), .inr (false, 256), .inr (false, 256), .inl (6, [some (some 77), some (some 78), none]), .inr (false, 256), .inr (false, 256), .inl (6, [some (some 80), some (some 81), none]), .inr (false, 256), .inr (false, 256), .inl (7, [some (some 83), some (some 84), some (some 85), some (some 88)]), .inr (false, 256), .inr (false, 256), .inl (6, [some (some 86), some (some 87), none]), .inr (false, 256), .inr (false, 256), .inl (6, [some (some 89), some (some 90), none]), .inr (false, 256), .inr (false, 256), .inl (6, [some (some 92), some (some 93), none]), .inr (false, 256), .inr (false, 256), .inl (6, [some (some 95), some (some 96), none]), .inr (false, 256), .inr (false, 256), .inr (false, 256), .inr (false, 256), .inr (false, 256), .inr (false, 8), .inr (false, 8), .inl (4, [some (some 103), some (some 104), some (some 105), some (some 108), some (some 111), some (some 114)]), .inr (false, 32), .inr (false, 4), .inl (6, [some (some 106), some (some 107), none]), .inr (false, 256), .inr (false, 256), .inl (6, [some (some 109), some (some 110), none]), .inr (false, 256), .inr (false, 256), .inl (6, [some (some 112), some (some 113), none]), .inr (false, 256), .inr (false, 256), .inl (6, [some (some 115), some (some 116), none]), .inr (false, 256), .inr (false, 256), .inl (1, [some (some 118), none, none, none, none, none]), .inr (false, 16), .inl (10, [none, none, some (some 120), some (some 121), some (some 122), some (some 123), some (some 124), some (some 125), some (some 126), none, some (some 127), none, none, none, none, none, none, none, none, some (some 128), some (some 129), some (some 130), none, some (some 131), some (some 132), some (some 133), some (some 134), some (some 135), some (some 136), some (some 137), some (some 138), none]), .inr (false, 8), .inr (false, 8), .inr (false, 320), .inr (false, 26), .inr (false, 26), .inr (false, 26), .inr (false, 624), .inr (false, 80), .inr (false, 256), .inr (false, 256), .inr (false, 256), .inr (true, 512), .inr (true, 512), .inr (false, 26), .inr (false, 256), .inr (false, 256), .inr (true, 2), .inr (false, 52), .inr (false, 16)]
def mx_lp0 : List Nat := [204, 206, 208, 210, 212]
def mx_lp1 : List Nat := [364, 366, 368, 370, 372, 374]
def mx_lp2 : List Nat := [290, 292, 294, 296, 298, 300, 302, 304, 306, 308, 310, 312, 314, 316, 318, 320]
def mx_lp3 : List Nat := [181, 183, 185, 187, 189]
def mx_lp4 : List Nat := [337, 339, 341, 343, 345, 347]
def mx_lp5 : List Nat := [115, 117, 119]
def mx_lp6 : List Nat := [239, 241, 243]
def mx_lp7 : List Nat := [262, 264, 266, 268]
def mx_lp8 : List Nat := [139, 141, 143, 145, 147, 149, 151]
def mx_lp9 : List Nat := [391, 393, 395, 397, 399, 401, 403, 405, 407, 409, 411, 413, 415, 417]
def mx_lp10 : List Nat := [983, 985, 987, 989, 991, 993, 995, 997, 999, 1001, 1003, 1005, 1007, 1009, 1011, 1013, 1015, 1017, 1019, 1021, 1023, 1025, 1027, 1029, 1031, 1033, 1035, 1037, 1039, 1041, 1043, 1045]
end
section
/-! ===== the words that all methods share ===== -/
def TT : List Cond := lw_tbl.filter goodWord
def inTT (i : Nat) (w : Cond) : Bool := decide (lw_tbl[i]? = some w) && goodWord w
theorem inTT_mem {i : Nat} {w : Cond} (h : inTT i w = true) : w ∈ TT := by
  simp only [inTT, Bool.and_eq_true, decide_eq_true_eq] at h
  exact List.mem_filter.mpr ⟨List.mem_of_getElem? h.1, h.2⟩
def mx_ws (m : MR) : List Cond := .code m.1 m.2.1 m.2.2.1 m.2.2.2.1 :: TT
theorem mx_good {big ws : List Cond} (h : ∀ w ∈ TT, w ∈ big) (hw : ∀ w ∈ ws, w ∈ TT) : GoodIn big ws := fun w q => ⟨h w (hw w q), good_of_word (List.mem_filter.mp (hw w q)).2⟩
theorem mx_ws_sub {m : MR} (h : Cond.code m.1 m.2.1 m.2.2.1 m.2.2.2.1 ∈ TT) : ∀ w ∈ mx_ws m, w ∈ TT := fun w q => by
  rcases List.mem_cons.mp q with rfl | q
  · exact h
  · exact q
/-- the fields of a class lie where the tables say -/
def mx_lays (C : String) (T : u_T) (ps : List Nat) : Bool := (List.range ps.length).all fun k => inTT (ps.getD k 0) (u_lay C T k)
theorem mx_lays_in {C : String} {T : u_T} {ps : List Nat} (h : mx_lays C T ps = true) : ∀ w ∈ u_ws C T ps.length, w ∈ TT := by
  intro w hw
  obtain ⟨k, hk, rfl⟩ := List.mem_map.mp hw
  exact inTT_mem (List.all_eq_true.mp h k hk)
def mx_cok (ci : Nat) (C : String) (T : u_T) (N : Nat) (ty : Nat → FieldType) : Prop :=
  (∀ w ∈ u_ws C T N, w ∈ TT) ∧ (∀ k, k < N → parseFieldDescriptor (T k).2.2.1 = some (ty k)) ∧ (∀ a, a < N → ∀ b, b < N → a ≠ b → (T a).2.1 ≠ (T b).2.1)
def mx_ty : Nat → Nat → FieldType := fun ci => match ci with
  | 0 => tyX0 | 1 => tyX1 | 2 => tyX2 | 3 => tyX3 | 4 => tyX4 | 5 => tyX5 | 6 => tyX6 | 7 => tyX7 | 8 => tyX8 | 9 => tyX9 | _ => tyX10
theorem mx_l0 : mx_lays RX0 TX0 mx_lp0 = true := by decide +kernel
theorem mx_l1 : mx_lays RX1 TX1 mx_lp1 = true := by decide +kernel
theorem mx_l2 : mx_lays RX2 TX2 mx_lp2 = true := by decide +kernel
theorem mx_l3 : mx_lays RX3 TX3 mx_lp3 = true := by decide +kernel
theorem mx_l4 : mx_lays RX4 TX4 mx_lp4 = true := by decide +kernel
theorem mx_l5 : mx_lays RX5 TX5 mx_lp5 = true := by decide +kernel
theorem mx_l6 : mx_lays RX6 TX6 mx_lp6 = true := by decide +kernel
theorem mx_l7 : mx_lays RX7 TX7 mx_lp7 = true := by decide +kernel
theorem mx_l8 : mx_lays RX8 TX8 mx_lp8 = true := by decide +kernel
theorem mx_l9 : mx_lays RX9 TX9 mx_lp9 = true := by decide +kernel
theorem mx_l10 : mx_lays RX10 TX10 mx_lp10 = true := by decide +kernel
theorem mx_cls : ∀ (ci : Nat) (C : String) (T : u_T) (N : Nat), vwCl[ci]? = some (C, T, N) → mx_cok ci C T N (mx_ty ci) := by
  intro ci C T N h
  match ci, h with
  | 0, h => cases h; exact ⟨mx_lays_in mx_l0, tyX0_ok, nmX0⟩
  | 1, h => cases h; exact ⟨mx_lays_in mx_l1, tyX1_ok, nmX1⟩
  | 2, h => cases h; exact ⟨mx_lays_in mx_l2, tyX2_ok, nmX2⟩
  | 3, h => cases h; exact ⟨mx_lays_in mx_l3, tyX3_ok, nmX3⟩
  | 4, h => cases h; exact ⟨mx_lays_in mx_l4, tyX4_ok, nmX4⟩
  | 5, h => cases h; exact ⟨mx_lays_in mx_l5, tyX5_ok, nmX5⟩
  | 6, h => cases h; exact ⟨mx_lays_in mx_l6, tyX6_ok, nmX6⟩
  | 7, h => cases h; exact ⟨mx_lays_in mx_l7, tyX7_ok, nmX7⟩
  | 8, h => cases h; exact ⟨mx_lays_in mx_l8, tyX8_ok, nmX8⟩
  | 9, h => cases h; exact ⟨mx_lays_in mx_l9, tyX9_ok, nmX9⟩
  | 10, h => cases h; exact ⟨mx_lays_in mx_l10, tyX10_ok, nmX10⟩
  | k + 11, h => simp [vwCl] at h
/-! ===== the abstract machine: its references are numbers of cells, 0 on; 1000 is the script ===== -/
/-- D; the classes of int[] and boolean[]; script's address, first new address, the script's length; the script -/
abbrev mx_G : Type := va_G × (ClassId × ClassId) × (Nat × Nat × Nat) × (Nat → Int32)
abbrev mx_cI (G : mx_G) : ClassId := G.2.1.1
abbrev mx_cZ (G : mx_G) : ClassId := G.2.1.2
abbrev mx_b (G : mx_G) : Nat := G.2.2.1.1
abbrev mx_B (G : mx_G) : Nat := G.2.2.1.2.1
abbrev mx_L (G : mx_G) : Nat := G.2.2.1.2.2
abbrev mx_xs (G : mx_G) : Nat → Int32 := G.2.2.2
def mx_ad (G : mx_G) (k : Nat) : Nat := if k < 1000 then mx_B G + k else mx_b G
def mx_ph (G : mx_G) (v : Value) : Value := match v with
  | .ref k => .ref (mx_ad G k)
  | w => w
abbrev mx_M : Type := Nat → Nat → Int32
def mx_fv (G : mx_G) (M : mx_M) (k j : Nat) (f : Option (Option Nat)) : Value := match f with
  | none => .int (M k j)
  | some none => .null
  | some (some r) => .ref (mx_ad G r)
def mx_e (G : mx_G) (M : mx_M) (k : Nat) (kd : mx_K) : va_E := match kd with
  | .inl (ci, fs) => .inr (ci, fs.mapIdx (mx_fv G M k))
  | .inr (z, n) => .inl (if z then mx_cZ G else mx_cI G, n, .inl (M k))
def mx_w (G : mx_G) (Λ : List mx_K) (M : mx_M) : va_W := Λ.mapIdx (fun k kd => (mx_B G + k, mx_e G M k kd))
def mx_A (G : mx_G) : Nat → Prop := fun q => mx_B G ≤ q
/-- the heap holds the cells -/
def mx_R (G : mx_G) (Λ : List mx_K) (M : mx_M) (H : Heap) : Prop := va_P G.1 vwCl (mx_w G Λ M) H ∧ (Λ.length < 139 → H.size = mx_B G + Λ.length) ∧ Λ.length ≤ 999 ∧ (∀ k, Λ.length ≤ k → k < 1000 → ∀ j, M k j = 0) ∧ M 1000 = mx_xs G
def mx_isN (w : Cond) : Bool := match w with
  | .methodLinkNest _ _ _ _ => true
  | _ => false
def mx_nest : List Cond := lw_tbl.filter mx_isN
abbrev mx_tys (G : mx_G) : List (ClassId × FieldType) := [(mx_cI G, .int), (mx_cZ G, .boolean)]
/-- what a state's tables say -/
def mx_S (G : mx_G) (U : State) : Prop := va_K G.1 vwCl (mx_tys G) U ∧ ∀ w ∈ mx_nest, va_Nw w U
theorem mx_S.warm {G : mx_G} {s U : State} (h : mx_S G s) (hW : s.WarmedH U.vm) : mx_S G U := by
  refine ⟨va_K.moved hW.alike h.1, fun w hw => ?_⟩
  have h1 := (List.mem_filter.mp hw).2
  have h2 := h.2 w hw
  cases w with
  | methodLinkNest a i x q => exact va_Nw.warmM hW h2
  | _ => cases h1
theorem mx_S.same {G : mx_G} {s U : State} (h : mx_S G s) (hv : s.vm = U.vm) : mx_S G U := by
  refine ⟨va_K.moved (by rw [hv]; exact Vm.Alike.refl _) h.1, fun w hw => ?_⟩
  have h1 := (List.mem_filter.mp hw).2
  have h2 := h.2 w hw
  cases w with
  | methodLinkNest a i x q => exact va_Nw.same rfl hv h2
  | _ => cases h1
/-- the method's surroundings -/
def mx_C (G : mx_G) (m : MR) (p : Program) (s : State) (mid : MethodId) (args : Array Value) (meth : Method) (c : Code) : Prop :=
  p.tables.exec = Jvm.exec ∧ c.code = m.2.1 ∧ c.maxLocals = m.2.2.1 ∧ s.vm.findClass m.1.cls = some mid.cls ∧ (∀ w ∈ TT, w.before args s = true) ∧ meth.sig.returnType = m.2.2.2.1 ∧ meth.locks = false ∧ meth.name = m.1.name ∧ mx_S G s ∧ mx_B G ≤ s.heap.size ∧
  (m.1.cls = "TypeSetsLaw" → va_X (mx_b G) (mx_L G) (mx_xs G) s s.heap ∧ mx_b G < mx_B G)
def mx_has (G : mx_G) (ls : Array Slot) (l : List (Option Value)) : Prop := ls.size = l.length ∧ lv_wf ls ∧ ∀ (i : Nat) (v : Value), l[i]? = some (some v) → ls[i]? = some (.val (mx_ph G v))
def mx_ret (m : MR) (pc : Nat) (r : Option Value) : Prop :=
  (r = none ∧ m.2.2.2.1 = none ∧ decode m.2.1 pc = .ok (.return_, 1)) ∨
  (∃ v ty, r = some (.int v) ∧ m.2.2.2.1 = some ty ∧ narrow ty (.int v) = .int v ∧ decode m.2.1 pc = .ok (.ireturn, 1)) ∨
  (∃ k C, r = some (.ref k) ∧ m.2.2.2.1 = some (.object C) ∧ decode m.2.1 pc = .ok (.areturn, 1))
abbrev mx_Q : Type := Option Value → List mx_K → mx_M → Prop
def mx_Ret (G : mx_G) (m : MR) (p : Program) (l : Launch) (e : Env) (s : State) (mid : MethodId) (args : Array Value) (below : List Frame) (meth : Method) (c : Code) (Q : mx_Q) (Z : State → Prop) : Prop :=
  ∀ (r : Option Value) (Λ : List mx_K) (M : mx_M) (H : Heap) (locs : List Loc) (pc : Nat) (ls : Array Slot), Q r Λ M → mx_R G Λ M H → va_S (mx_A G) s.heap H locs → mx_ret m pc r →
    W p l e m.2.2.2.2 s mid args below meth c H locs m.2.2.2.2.cells m.2.2.2.2.slots Z (F0 mid pc ls (r.toList.map (mx_ph G)))
/-- operand stack, locals, memory -/
abbrev mx_St : Type := List Value × List (Option Value) × mx_M
/-- from here the method comes to its end, with Q -/
def mx_W (G : mx_G) (m : MR) (pc : Nat) (st : mx_St) (Λ : List mx_K) (cl sl : Nat) (Q : mx_Q) : Prop :=
  ∀ (p : Program) (l : Launch) (e : Env) (s : State) (mid : MethodId) (args : Array Value) (below : List Frame) (meth : Method) (c : Code) (Z : State → Prop),
    mx_C G m p s mid args meth c → mx_Ret G m p l e s mid args below meth c Q Z →
    ∀ (H : Heap) (locs : List Loc) (ls : Array Slot), mx_R G Λ st.2.2 H → va_S (mx_A G) s.heap H locs → mx_has G ls st.2.1 →
      W p l e m.2.2.2.2 s mid args below meth c H locs cl sl Z (F0 mid pc ls (st.1.map (mx_ph G)))
/-- the contract of a method at these arguments, in this memory -/
def mx_Ok (G : mx_G) (m : MR) (as : List Value) (Λ : List mx_K) (M : mx_M) (Q : mx_Q) : Prop :=
  ∀ l : Launch, Met l m.1 (mx_ws m) m.2.2.2.2 (fun v U => v = (as.map (mx_ph G)).toArray ∧ mx_R G Λ M U.heap ∧ mx_S G U)
    (fun _ st oc t => (∃ r Λ' M', oc = .returned (r.map (mx_ph G)) ∧ Q r Λ' M' ∧ mx_R G Λ' M' t.heap) ∧ va_F (mx_A G) st t) m.2.2.2.2.cells m.2.2.2.2.slots (mx_A G)
theorem mx_ph_cat (G : mx_G) (v : Value) : (mx_ph G v).category = v.category := by cases v <;> rfl
def mx_lay : List Value → List (Option Value)
  | [] => []
  | v :: vs => some v :: (match v with | .long _ => none :: mx_lay vs | .double _ => none :: mx_lay vs | _ => mx_lay vs)
def mx_entry (as : List Value) (n : Nat) : List (Option Value) := mx_lay as ++ List.replicate (n - (mx_lay as).length) none
theorem mx_lay_len (G : mx_G) (vs : List Value) : (lg_sl (vs.map (mx_ph G))).length = (mx_lay vs).length := by
  induction vs with
  | nil => rfl
  | cons v vs ih =>
    simp only [List.map_cons, lg_sl, List.flatMap_cons, List.length_append, mx_ph_cat] at ih ⊢
    rw [ih]
    cases v <;> simp [mx_lay, Value.category] <;> omega
theorem mx_lay_at (G : mx_G) : ∀ (vs : List Value) (o i : Nat) (v : Value), (mx_lay vs)[i]? = some (some v) → (o + i, mx_ph G v) ∈ lv_args o (vs.map (mx_ph G))
  | [], _, i, v, h => by simp [mx_lay] at h
  | w :: vs, o, i, v, h => by
    cases i with
    | zero =>
      simp only [mx_lay, List.getElem?_cons_zero, Option.some.injEq] at h
      subst h
      exact List.mem_cons_self
    | succ i =>
      simp only [mx_lay, List.getElem?_cons_succ] at h
      refine List.mem_cons_of_mem _ ?_
      rw [mx_ph_cat]
      cases w with
      | long x =>
        cases i with
        | zero => simp at h
        | succ i =>
          simp only [List.getElem?_cons_succ] at h
          have := mx_lay_at G vs (o + 2) i v h
          rw [show o + (i + 1 + 1) = o + 2 + i by omega]
          exact this
      | double x =>
        cases i with
        | zero => simp at h
        | succ i =>
          simp only [List.getElem?_cons_succ] at h
          have := mx_lay_at G vs (o + 2) i v h
          rw [show o + (i + 1 + 1) = o + 2 + i by omega]
          exact this
      | _ =>
        have := mx_lay_at G vs (o + 1) i v h
        rw [show o + (i + 1) = o + 1 + i by omega]
        exact this
theorem mx_entry_has (G : mx_G) (as : List Value) (n : Nat) (h : (mx_lay as).length ≤ n) : mx_has G ((lg_sl (as.map (mx_ph G)) ++ List.replicate (n - (lg_sl (as.map (mx_ph G))).length) Slot.unset).toArray) (mx_entry as n) := by
  have hl := lv_entry (as.map (mx_ph G)) (n := n) (by rw [mx_lay_len]; exact h)
  refine ⟨?_, hl.2.1, fun i v hi => ?_⟩
  · rw [hl.1]
    simp [mx_entry]
    omega
  · have h1 : (mx_lay as)[i]? = some (some v) := by
      unfold mx_entry at hi
      by_cases hlt : i < (mx_lay as).length
      · rw [List.getElem?_append_left hlt] at hi
        exact hi
      · rw [List.getElem?_append_right (by omega), List.getElem?_replicate] at hi
        split at hi <;> simp at hi
    have h2 := mx_lay_at G as 0 i v h1
    rw [Nat.zero_add] at h2
    exact hl.2.2 _ h2
theorem mx_R.ge {G : mx_G} {Λ : List mx_K} {M : mx_M} {H : Heap} (h : mx_R G Λ M H) : mx_B G ≤ H.size := by
  cases Λ with
  | nil => rw [h.2.1 (by decide)]; exact Nat.le_add_right _ _
  | cons kd t =>
    have h1 := (h.1 0 (mx_B G + 0, mx_e G M 0 kd) (by simp [mx_w])).lt
    exact Nat.le_of_lt h1
theorem mx_ok_of {G : mx_G} {m : MR} {as : List Value} {Λ : List mx_K} {M : mx_M} {Q : mx_Q} (hp : plainName m.1.cls = true) (hlaw : m.1.cls ≠ "TypeSetsLaw") (hn : (mx_lay as).length ≤ m.2.2.1) (h : mx_W G m 0 ([], mx_entry as m.2.2.1, M) Λ 0 0 Q) : mx_Ok G m as Λ M Q := by
  intro l
  refine Met.ofW (cc := m.2.1) (maxL := m.2.2.1) (ret := m.2.2.2.1) hp rfl ?_
  intro p e s mid args below meth c s₁ B hml hv
  obtain ⟨rfl, hR, hS⟩ := hv
  have hts := atoms_spec (ws := mx_ws m) B.pre
  have hC : mx_C G m p s mid (as.map (mx_ph G)).toArray meth c := ⟨B.exec, B.bytes, hml, findClass_of_methodNamed B.named, fun w hw => hts w (List.mem_cons_of_mem _ hw), B.returns, B.notSynchronized, (name_of_methodNamed B.named B.method).1, hS, hR.ge, fun q => absurd q hlaw⟩
  have hlocks := B.notSynchronized
  rw [lg_entry_eq]
  refine h p l e s mid _ below meth c _ hC ?_ s.heap [] _ hR va_S.rf (mx_entry_has G as m.2.2.1 hn)
  intro r Λ' M' H locs pc ls hQ hR' hS' hret
  have hq : ∀ (v : Option Value) (t : State), v = r.map (mx_ph G) → t.heap = H → (fun (_ : Array Value) (st : State) (oc : Outcome) (t : State) => (∃ r Λ' M', oc = .returned (r.map (mx_ph G)) ∧ Q r Λ' M' ∧ mx_R G Λ' M' t.heap) ∧ va_F (mx_A G) st t) (as.map (mx_ph G)).toArray s (.returned v) t := by
    intro v t hv ht
    subst hv
    exact ⟨⟨r, Λ', M', rfl, hQ, by rw [ht]; exact hR'⟩, hS'.F ht⟩
  rcases hret with ⟨rfl, hr, hd⟩ | ⟨v, ty, rfl, hr, hnar, hd⟩ | ⟨k, C, rfl, hr, hd⟩
  · exact W.vret B.exec B.bytes (B.returns.trans hr) (fun t ht _ => hq _ t rfl ht) hS'.2.2 hd
  · exact W.zret B.exec B.bytes (B.returns.trans hr) hnar (fun t ht _ => hq _ t rfl ht) hS'.2.2 hd
  · exact W.aret B.exec B.bytes (B.returns.trans hr) (Or.inl ⟨C, rfl⟩) (Or.inr ⟨_, rfl⟩) (fun t ht _ => hq _ t rfl ht) hS'.2.2 hd
end
section
/-! ===== straight instructions, as a function ===== -/
abbrev mx_Op : Type := Instr × List Nat × Int32
def mx_refs (ci h : Nat) : List (Option (Option Nat)) := (mx_off.getD ci []).map (fun o => o.map (fun q => some (h + q)))
/-- the class of an object that is made whole; the length of an array of ints (false), of booleans (true) -/
def mx_ocl (Λ : List mx_K) (h : Nat) : Nat := match Λ[h]? with
  | some (.inl (ci, fs)) => if fs = mx_refs ci h then ci else 99
  | _ => 99
def mx_len (Λ : List mx_K) (z : Bool) (a : Nat) : Nat := match Λ[a]? with
  | some (.inr (y, n)) => if y = z then n else 0
  | _ => 0
def mx_wr (M : mx_M) (k j : Nat) (v : Int32) : mx_M := fun a => if a = k then upd (M k) j v else M a
theorem mx_wr_s (M : mx_M) (k j : Nat) (v : Int32) : mx_wr M k j v k = upd (M k) j v := if_pos rfl
theorem mx_wr_n (M : mx_M) {k a : Nat} (j : Nat) (v : Int32) (h : a ≠ k) : mx_wr M k j v a = M a := if_neg h
/-- a local gets a value of one slot; of two -/
def mx_set1 : List (Option Value) → Nat → Value → Option (List (Option Value))
  | [], _, _ => none
  | _ :: l, 0, v => some (some v :: l)
  | x :: l, i + 1, v => match mx_set1 l i v with
    | none => none
    | some l' => some ((if i = 0 then (match x with | some (.long _) => none | some (.double _) => none | y => y) else x) :: l')
def mx_set2 : List (Option Value) → Nat → Value → Option (List (Option Value))
  | [], _, _ => none
  | _ :: l, 0, v => match l with
    | [] => none
    | _ :: t => some (some v :: none :: t)
  | x :: l, i + 1, v => match mx_set2 l i v with
    | none => none
    | some l' => some ((if i = 0 then (match x with | some (.long _) => none | some (.double _) => none | y => y) else x) :: l')
abbrev mx_O : Type := Option (mx_St × Option Prop)
def mx_ldI (i : Nat) (st : mx_St) : mx_O := match st.2.1[i]? with
  | some (some (.int x)) => some ((.int x :: st.1, st.2.1, st.2.2), none)
  | _ => none
def mx_ldL (i : Nat) (st : mx_St) : mx_O := match st.2.1[i]? with
  | some (some (.long x)) => some ((.long x :: st.1, st.2.1, st.2.2), none)
  | _ => none
def mx_ldA (i : Nat) (st : mx_St) : mx_O := match st.2.1[i]? with
  | some (some (.ref x)) => some ((.ref x :: st.1, st.2.1, st.2.2), none)
  | _ => none
def mx_stI (i : Nat) (st : mx_St) : mx_O := match st.1 with
  | .int x :: s => match mx_set1 st.2.1 i (.int x) with
    | some l => some ((s, l, st.2.2), none)
    | none => none
  | _ => none
def mx_stA (i : Nat) (st : mx_St) : mx_O := match st.1 with
  | .ref x :: s => match mx_set1 st.2.1 i (.ref x) with
    | some l => some ((s, l, st.2.2), none)
    | none => none
  | _ => none
def mx_stL (i : Nat) (st : mx_St) : mx_O := match st.1 with
  | .long x :: s => match mx_set2 st.2.1 i (.long x) with
    | some l => some ((s, l, st.2.2), none)
    | none => none
  | _ => none
def mx_inc (i : Nat) (n : Int32) (st : mx_St) : mx_O := match st.2.1[i]? with
  | some (some (.int x)) => match mx_set1 st.2.1 i (.int (x + n)) with
    | some l => some ((st.1, l, st.2.2), none)
    | none => none
  | _ => none
def mx_push (v : Value) (st : mx_St) : mx_O := some ((v :: st.1, st.2.1, st.2.2), none)
def mx_un (f : Int32 → Int32) (st : mx_St) : mx_O := match st.1 with
  | .int x :: s => some ((.int (f x) :: s, st.2.1, st.2.2), none)
  | _ => none
def mx_bin (f : Int32 → Int32 → Int32) (st : mx_St) : mx_O := match st.1 with
  | .int y :: .int x :: s => some ((.int (f x y) :: s, st.2.1, st.2.2), none)
  | _ => none
def mx_binD (f : Int32 → Int32 → Int32) (st : mx_St) : mx_O := match st.1 with
  | .int y :: .int x :: s => some ((.int (f x y) :: s, st.2.1, st.2.2), some (¬ y = 0))
  | _ => none
def mx_lbin (f : Int64 → Int64 → Int64) (st : mx_St) : mx_O := match st.1 with
  | .long y :: .long x :: s => some ((.long (f x y) :: s, st.2.1, st.2.2), none)
  | _ => none
def mx_lbinD (f : Int64 → Int64 → Int64) (st : mx_St) : mx_O := match st.1 with
  | .long y :: .long x :: s => some ((.long (f x y) :: s, st.2.1, st.2.2), some (¬ y = 0))
  | _ => none
def mx_lcmp (st : mx_St) : mx_O := match st.1 with
  | .long y :: .long x :: s => some ((.int (lg_cmp x y) :: s, st.2.1, st.2.2), none)
  | _ => none
def mx_i2l (st : mx_St) : mx_O := match st.1 with
  | .int x :: s => some ((.long x.toInt64 :: s, st.2.1, st.2.2), none)
  | _ => none
def mx_l2i (st : mx_St) : mx_O := match st.1 with
  | .long x :: s => some ((.int x.toInt32 :: s, st.2.1, st.2.2), none)
  | _ => none
def mx_dup (st : mx_St) : mx_O := match st.1 with
  | .int x :: s => some ((.int x :: .int x :: s, st.2.1, st.2.2), none)
  | .ref x :: s => some ((.ref x :: .ref x :: s, st.2.1, st.2.2), none)
  | _ => none
def mx_dup2 (st : mx_St) : mx_O := match st.1 with
  | .int x :: .ref y :: s => some ((.int x :: .ref y :: .int x :: .ref y :: s, st.2.1, st.2.2), none)
  | _ => none
def mx_pop (st : mx_St) : mx_O := match st.1 with
  | .int _ :: s => some ((s, st.2.1, st.2.2), none)
  | _ => none
def mx_getf (Λ : List mx_K) (as : List Nat) (st : mx_St) : mx_O := match as, st.1 with
  | ci :: k :: r :: _, .ref h :: s => some (((match r with | 0 => Value.int (st.2.2 h k) | o + 1 => Value.ref (h + o)) :: s, st.2.1, st.2.2), some (mx_ocl Λ h = ci))
  | _, _ => none
def mx_putf (Λ : List mx_K) (as : List Nat) (st : mx_St) : mx_O := match as, st.1 with
  | ci :: k :: t :: _, .int v :: .ref h :: s => some ((s, st.2.1, mx_wr st.2.2 h k v), some (match t with | 0 => mx_ocl Λ h = ci | _ => mx_ocl Λ h = ci ∧ (v = 0 ∨ v = 1)))
  | _, _ => none
def mx_ald (Λ : List mx_K) (z : Bool) (st : mx_St) : mx_O := match st.1 with
  | .int i :: .ref a :: s => some ((.int (st.2.2 a i.toNatClampNeg) :: s, st.2.1, st.2.2), some (vp_in i (mx_len Λ z a)))
  | _ => none
def mx_iast (Λ : List mx_K) (st : mx_St) : mx_O := match st.1 with
  | .int v :: .int i :: .ref a :: s => some ((s, st.2.1, mx_wr st.2.2 a i.toNatClampNeg v), some (vp_in i (mx_len Λ false a)))
  | _ => none
def mx_zast (Λ : List mx_K) (st : mx_St) : mx_O := match st.1 with
  | .int v :: .int i :: .ref a :: s => some ((s, st.2.1, mx_wr st.2.2 a i.toNatClampNeg v), some (vp_in i (mx_len Λ true a) ∧ (v = 0 ∨ v = 1)))
  | _ => none
def mx_alen (Λ : List mx_K) (st : mx_St) : mx_O := match st.1 with
  | .ref a :: s => some ((.int (nI (mx_len Λ false a)) :: s, st.2.1, st.2.2), some (mx_len Λ false a ≠ 0))
  | _ => none
def mx_sld (L : Nat) (st : mx_St) : mx_O := match st.1 with
  | .int i :: .ref a :: s => some ((.int (st.2.2 1000 i.toNatClampNeg) :: s, st.2.1, st.2.2), some (a = 1000 ∧ vp_in i L))
  | _ => none
def mx_slen (L : Nat) (st : mx_St) : mx_O := match st.1 with
  | .ref a :: s => some ((.int (nI L) :: s, st.2.1, st.2.2), some (a = 1000))
  | _ => none
def mx_run (L : Nat) (Λ : List mx_K) (o : mx_Op) (st : mx_St) : mx_O := match o.1 with
  | .iload_n k => mx_ldI k.val st
  | .iload k => mx_ldI k st
  | .aload_n k => mx_ldA k.val st
  | .aload k => mx_ldA k st
  | .lload_n k => mx_ldL k.val st
  | .lload k => mx_ldL k st
  | .istore_n k => mx_stI k.val st
  | .istore k => mx_stI k st
  | .astore_n k => mx_stA k.val st
  | .astore k => mx_stA k st
  | .lstore_n k => mx_stL k.val st
  | .lstore k => mx_stL k st
  | .iinc k _ => mx_inc k o.2.2 st
  | .iconst _ => mx_push (.int o.2.2) st
  | .bipush _ => mx_push (.int o.2.2) st
  | .sipush _ => mx_push (.int o.2.2) st
  | .ldc _ => mx_push (.int o.2.2) st
  | .ldc_w _ => mx_push (.int o.2.2) st
  | .lconst _ => mx_push (.long (lN (o.2.1.headD 0))) st
  | .ldc2_w _ => mx_push (.long (lN (o.2.1.headD 0))) st
  | .iadd => mx_bin (fun x y => x + y) st
  | .isub => mx_bin (fun x y => x - y) st
  | .imul => mx_bin (fun x y => x * y) st
  | .iand => mx_bin (fun x y => x &&& y) st
  | .ior => mx_bin (fun x y => x ||| y) st
  | .ixor => mx_bin (fun x y => x ^^^ y) st
  | .ishl => mx_bin (fun x y => x <<< (y &&& 31)) st
  | .ishr => mx_bin (fun x y => x >>> (y &&& 31)) st
  | .iushr => mx_bin (fun x y => (x.toUInt32 >>> (y.toUInt32 &&& Int32.toUInt32 31)).toInt32) st
  | .idiv => mx_binD (fun x y => x / y) st
  | .irem => mx_binD (fun x y => x - x / y * y) st
  | .ineg => mx_un (fun x => -x) st
  | .i2b => mx_un (fun x => x.toInt8.toInt32) st
  | .i2s => mx_un (fun x => x.toInt16.toInt32) st
  | .ladd => mx_lbin (fun x y => x + y) st
  | .lmul => mx_lbin (fun x y => x * y) st
  | .ldiv => mx_lbinD (fun x y => x / y) st
  | .lrem => mx_lbinD (fun x y => x - x / y * y) st
  | .lcmp => mx_lcmp st
  | .i2l => mx_i2l st
  | .l2i => mx_l2i st
  | .dup => mx_dup st
  | .dup2 => mx_dup2 st
  | .pop => mx_pop st
  | .getfield _ => mx_getf Λ o.2.1 st
  | .putfield _ => mx_putf Λ o.2.1 st
  | .iaload => match o.2.1 with | [] => mx_ald Λ false st | _ => mx_sld L st
  | .baload => mx_ald Λ true st
  | .iastore => mx_iast Λ st
  | .bastore => mx_zast Λ st
  | .arraylength => match o.2.1 with | [] => mx_alen Λ st | _ => mx_slen L st
  | _ => none
def mx_blk (L : Nat) (Λ : List mx_K) : List mx_Op → mx_St → Option (mx_St × Prop)
  | [], st => some (st, True)
  | o :: os, st => match mx_run L Λ o st with
    | none => none
    | some (st1, none) => mx_blk L Λ os st1
    | some (st1, some φ) => match mx_blk L Λ os st1 with
      | none => none
      | some (st2, ψ) => some (st2, φ ∧ ψ)
/-! ===== what the tables must say of an instruction ===== -/
def mx_okF (m : MR) (idx ci k place : Nat) : Bool := match vwCl[ci]? with
  | some (C, T, N) => decide (k < N) && decide ((T k).1 = C) && inTT place (.fieldLink m.1.cls idx C (T k).2.1 (T k).2.2.1)
  | none => false
def mx_okG (m : MR) (idx : Nat) (as : List Nat) : Bool := match as with
  | [ci, k, r, pl] => mx_okF m idx ci k pl && decide ((mx_off.getD ci [])[k]? = some (match r with | 0 => none | o + 1 => some o))
  | _ => false
def mx_okP (m : MR) (idx : Nat) (as : List Nat) : Bool := match as with
  | [ci, k, t, pl] => mx_okF m idx ci k pl && decide ((mx_off.getD ci [])[k]? = some none) && decide (mx_ty ci k = (match t with | 0 => .int | _ => .boolean)) && (match vwCl[ci]? with | some (_, T, _) => !(T k).2.2.2 | none => false)
  | _ => false
def mx_okO (m : MR) (o : mx_Op) : Bool := match o.1 with
  | .getfield idx => mx_okG m idx o.2.1
  | .putfield idx => mx_okP m idx o.2.1
  | .iconst n => decide (Int32.ofInt n = o.2.2)
  | .bipush n => decide ((Int8.ofInt n).toInt32 = o.2.2)
  | .sipush n => decide ((Int16.ofInt n).toInt32 = o.2.2)
  | .iinc _ n => decide (Int32.ofInt n = o.2.2)
  | .ldc idx => inTT (o.2.1.headD 0) (.constant m.1.cls idx o.2.2)
  | .ldc_w idx => inTT (o.2.1.headD 0) (.constant m.1.cls idx o.2.2)
  | .lconst n => decide (n.val = o.2.1.headD 0)
  | .ldc2_w idx => inTT (o.2.1.getD 1 0) (.constantLong m.1.cls idx (lN (o.2.1.headD 0)))
  | .iaload => match o.2.1 with | [] => true | _ => decide (m.1.cls = "TypeSetsLaw")
  | .arraylength => match o.2.1 with | [] => true | _ => decide (m.1.cls = "TypeSetsLaw")
  | _ => true
def mx_il (i : Instr) : Nat := match i with
  | .iload _ => 2 | .aload _ => 2 | .lload _ => 2 | .istore _ => 2 | .astore _ => 2 | .lstore _ => 2 | .bipush _ => 2 | .ldc _ => 2
  | .iinc _ _ => 3 | .sipush _ => 3 | .ldc_w _ => 3 | .ldc2_w _ => 3 | .getfield _ => 3 | .putfield _ => 3
  | _ => 1
/-- the code at pc is these instructions: where they end -/
def mx_ck (m : MR) : Nat → List mx_Op → Option Nat
  | pc, [] => some pc
  | pc, o :: os => match decode m.2.1 pc with
    | .ok (i, n) => if i = o.1 ∧ mx_okO m o = true ∧ n = mx_il o.1 then mx_ck m (pc + n) os else none
    | .error _ => none
end
section
/-! ===== the straight instructions are sound ===== -/
theorem mx_w_at {G : mx_G} {Λ : List mx_K} {M : mx_M} {k : Nat} {kd : mx_K} (h : Λ[k]? = some kd) : (mx_w G Λ M)[k]? = some (mx_B G + k, mx_e G M k kd) := by
  simp [mx_w, List.getElem?_mapIdx, h]
theorem mx_w_inv {G : mx_G} {Λ : List mx_K} {M : mx_M} {k : Nat} {q : Nat × va_E} (h : (mx_w G Λ M)[k]? = some q) : q.1 = mx_B G + k := by
  simp only [mx_w, List.getElem?_mapIdx] at h
  cases hk : Λ[k]? with
  | none => rw [hk] at h; cases h
  | some kd => rw [hk] at h; cases h; rfl
theorem mx_w_D (G : mx_G) (Λ : List mx_K) (M : mx_M) : va_D (mx_A G) (mx_w G Λ M) := by
  refine ⟨fun i j p q hi hj h => ?_, fun k q hk => ?_⟩
  · have h1 := mx_w_inv hi
    have h2 := mx_w_inv hj
    omega
  · show mx_B G ≤ q.1
    rw [mx_w_inv hk]
    omega
theorem mx_w_len (G : mx_G) (Λ : List mx_K) (M : mx_M) : (mx_w G Λ M).length = Λ.length := by simp [mx_w]
theorem mx_e_ne {G : mx_G} {M M' : mx_M} {k : Nat} (kd : mx_K) (h : M' k = M k) : mx_e G M' k kd = mx_e G M k kd := by
  cases kd with
  | inl o =>
    obtain ⟨ci, fs⟩ := o
    simp only [mx_e]
    congr 2
    apply List.ext_getElem?
    intro j
    simp only [List.getElem?_mapIdx]
    cases fs[j]? with
    | none => rfl
    | some f => cases f with
      | none => simp [mx_fv, h]
      | some r => cases r <;> rfl
  | inr a =>
    obtain ⟨z, n⟩ := a
    simp [mx_e, h]
theorem mx_w_set {G : mx_G} {Λ : List mx_K} {M M' : mx_M} {h : Nat} {kd : mx_K} (hk : Λ[h]? = some kd) (ho : ∀ a, a ≠ h → M' a = M a) : mx_w G Λ M' = (mx_w G Λ M).set h (mx_B G + h, mx_e G M' h kd) := by
  have hl : h < Λ.length := (List.getElem?_eq_some_iff.mp hk).1
  apply List.ext_getElem?
  intro j
  by_cases hj : j = h
  · subst hj
    rw [List.getElem?_set_self (by rw [mx_w_len]; exact hl), mx_w_at hk]
  · rw [List.getElem?_set_ne (Ne.symm hj)]
    simp only [mx_w, List.getElem?_mapIdx]
    cases hkj : Λ[j]? with
    | none => rfl
    | some kd' => simp only [Option.map_some, mx_e_ne kd' (ho j hj)]
theorem mx_e_field {G : mx_G} {M : mx_M} {h k ci : Nat} {fs : List (Option (Option Nat))} (hf : fs[k]? = some none) (v : Int32) : mx_e G (mx_wr M h k v) h (.inl (ci, fs)) = .inr (ci, (fs.mapIdx (mx_fv G M h)).set k (.int v)) := by
  have hl : k < fs.length := (List.getElem?_eq_some_iff.mp hf).1
  simp only [mx_e]
  congr 2
  apply List.ext_getElem?
  intro j
  by_cases hj : j = k
  · subst hj
    rw [List.getElem?_set_self (by simpa using hl), List.getElem?_mapIdx, hf]
    simp [mx_fv, mx_wr_s, upd]
  · rw [List.getElem?_set_ne (Ne.symm hj)]
    simp only [List.getElem?_mapIdx]
    cases fs[j]? with
    | none => rfl
    | some f => cases f with
      | none => simp [mx_fv, mx_wr_s, upd, hj]
      | some r => cases r <;> rfl
theorem mx_e_arr {G : mx_G} {M : mx_M} {a j n : Nat} {z : Bool} (v : Int32) : mx_e G (mx_wr M a j v) a (.inr (z, n)) = .inl (if z then mx_cZ G else mx_cI G, n, .inl (upd (M a) j v)) := by
  simp only [mx_e, mx_wr_s]
theorem mx_R_wr {G : mx_G} {Λ : List mx_K} {M : mx_M} {H H1 : Heap} {a j : Nat} {v : Int32} (hR : mx_R G Λ M H) (hl : a < Λ.length) (hP : va_P G.1 vwCl (mx_w G Λ (mx_wr M a j v)) H1) (hz : H1.size = H.size) : mx_R G Λ (mx_wr M a j v) H1 := by
  obtain ⟨-, h1, h2, h3, h4⟩ := hR
  refine ⟨hP, fun h => by rw [hz]; exact h1 h, h2, fun k hk hk2 i => ?_, ?_⟩
  · rw [mx_wr_n M j v (by omega)]
    exact h3 k hk hk2 i
  · rw [mx_wr_n M j v (by omega)]
    exact h4
theorem mx_ocl_at {Λ : List mx_K} {h ci : Nat} (hc : ci ≠ 99) (ho : mx_ocl Λ h = ci) : Λ[h]? = some (.inl (ci, mx_refs ci h)) := by
  unfold mx_ocl at ho
  split at ho
  · rename_i c2 fs hq
    split at ho
    · rename_i hf
      subst ho
      rw [hq, ← hf]
    · exact absurd ho.symm hc
  · exact absurd ho.symm hc
theorem mx_len_at0 {Λ : List mx_K} {z : Bool} {a : Nat} (h0 : mx_len Λ z a ≠ 0) : Λ[a]? = some (.inr (z, mx_len Λ z a)) := by
  unfold mx_len at h0 ⊢
  split at h0
  · rename_i y n hq
    split at h0
    · rename_i hy
      subst hy
      rw [hq]
      simp
    · exact absurd rfl h0
  · exact absurd rfl h0
theorem mx_len_at {Λ : List mx_K} {z : Bool} {a : Nat} {i : Int32} (h : vp_in i (mx_len Λ z a)) : Λ[a]? = some (.inr (z, mx_len Λ z a)) :=
  mx_len_at0 (fun h1 => by
    rw [h1] at h
    exact h (Or.inr (Nat.zero_le _)))
def mx_holds (φ : Option Prop) : Prop := match φ with
  | none => True
  | some q => q
/-- what a step of the function gives: from the state behind it, the state ahead of it -/
def mx_Go (m : MR) (G : mx_G) (Λ : List mx_K) (pc n : Nat) (st : mx_St) (r : mx_O) : Prop :=
  ∀ (st' : mx_St) (φ : Option Prop), r = some (st', φ) → mx_holds φ → ∀ (cl sl : Nat) (Q : mx_Q), mx_W G m (pc + n) st' Λ cl sl Q → mx_W G m pc st Λ cl sl Q
theorem mx_ad_at {G : mx_G} {k : Nat} (h : k < 1000) : mx_ad G k = mx_B G + k := by
  unfold mx_ad
  rw [if_pos h]
theorem mx_R.lt {G : mx_G} {Λ : List mx_K} {M : mx_M} {H : Heap} (h : mx_R G Λ M H) {k : Nat} {kd : mx_K} (hk : Λ[k]? = some kd) : k < Λ.length ∧ k < 1000 := by
  have h1 := (List.getElem?_eq_some_iff.mp hk).1
  have h2 := h.2.2.1
  exact ⟨h1, by omega⟩
theorem mx_has.set1 {G : mx_G} {ls : Array Slot} {l l' : List (Option Value)} {i : Nat} {v : Value} (h : mx_has G ls l) (hc : v.category = 1) (hs : mx_set1 l i v = some l') :
    ∃ lv : List (Nat × Value), lv_has ls l.length lv ∧ i < l.length ∧ ∀ ls' : Array Slot, lv_has ls' l.length ((i, mx_ph G v) :: lv.filter (fun q => !(q.1 == i) && !(q.1 + 1 == i && q.2.category == 2))) → mx_has G ls' l' := by
  have key : ∀ (l l' : List (Option Value)) (i : Nat), mx_set1 l i v = some l' → i < l.length ∧ l'.length = l.length ∧ ∀ (j : Nat) (w : Value), l'[j]? = some (some w) → (j = i ∧ w = v) ∨ (j ≠ i ∧ l[j]? = some (some w) ∧ (j + 1 = i → ¬ w.category = 2)) := by
    intro l
    induction l with
    | nil => intro l' i h; simp [mx_set1] at h
    | cons x l ih =>
      intro l' i h
      cases i with
      | zero =>
        simp only [mx_set1, Option.some.injEq] at h
        subst h
        refine ⟨by simp, by simp, fun j w hj => ?_⟩
        cases j with
        | zero => simp at hj; exact Or.inl ⟨rfl, hj.symm⟩
        | succ j => exact Or.inr ⟨by omega, by simpa using hj, by omega⟩
      | succ i =>
        simp only [mx_set1] at h
        cases hm : mx_set1 l i v with
        | none => rw [hm] at h; cases h
        | some l1 =>
          rw [hm] at h
          simp only [Option.some.injEq] at h
          obtain ⟨a1, a2, a3⟩ := ih l1 i hm
          subst h
          refine ⟨by simp; omega, by simp [a2], fun j w hj => ?_⟩
          cases j with
          | zero =>
            refine Or.inr ⟨by omega, ?_, fun hi => ?_⟩
            · simp only [List.getElem?_cons_zero, Option.some.injEq] at hj ⊢
              by_cases h0 : i = 0
              · rw [if_pos h0] at hj
                split at hj <;> simp_all
              · rw [if_neg h0] at hj; exact hj
            · have h0 : i = 0 := by omega
              simp only [List.getElem?_cons_zero, Option.some.injEq] at hj
              rw [if_pos h0] at hj
              split at hj
              · cases hj
              · cases hj
              · rename_i n1 n2
                subst hj
                intro hw
                cases w with
                | long z => exact n1 z rfl
                | double z => exact n2 z rfl
                | _ => simp [Value.category] at hw
          | succ j =>
            rcases a3 j w (by simpa using hj) with ⟨e1, e2⟩ | ⟨e1, e2, e3⟩
            · exact Or.inl ⟨by omega, e2⟩
            · exact Or.inr ⟨by omega, by simpa using e2, fun q => e3 (by omega)⟩
  obtain ⟨k1, k2, k3⟩ := key l l' i hs
  refine ⟨l.zipIdx.filterMap (fun q => q.1.map (fun w => (q.2, mx_ph G w))), ⟨h.1, h.2.1, fun q hq => ?_⟩, k1, fun ls' h' => ⟨by rw [h'.1, k2], h'.2.1, fun j w hj => ?_⟩⟩
  · obtain ⟨⟨o, j⟩, hm, he⟩ := List.mem_filterMap.mp hq
    cases o with
    | none => simp at he
    | some w =>
      simp only [Option.map_some, Option.some.injEq] at he
      subst he
      have := List.mem_zipIdx_iff_getElem?.mp hm
      exact h.2.2 j w this
  · rcases k3 j w hj with ⟨e1, e2⟩ | ⟨e1, e2, e3⟩
    · subst e1; subst e2
      exact h'.2.2 _ List.mem_cons_self
    · refine h'.2.2 (j, mx_ph G w) (List.mem_cons_of_mem _ (List.mem_filter.mpr ⟨List.mem_filterMap.mpr ⟨(some w, j), List.mem_zipIdx_iff_getElem?.mpr e2, rfl⟩, ?_⟩))
      simp only [Bool.and_eq_true, Bool.not_eq_true', beq_eq_false_iff_ne, ne_eq, Bool.and_eq_false_iff, mx_ph_cat]
      refine ⟨e1, ?_⟩
      by_cases hji : j + 1 = i
      · exact Or.inr (e3 hji)
      · exact Or.inl hji
theorem mx_has.set2 {G : mx_G} {ls : Array Slot} {l l' : List (Option Value)} {i : Nat} {v : Value} (h : mx_has G ls l) (hs : mx_set2 l i v = some l') :
    ∃ lv : List (Nat × Value), lv_has ls l.length lv ∧ i + 1 < l.length ∧ ∀ ls' : Array Slot, lv_has ls' l.length ((i, mx_ph G v) :: lv.filter (fun q => !(q.1 == i) && (!(q.1 == i + 1) && !(q.1 + 1 == i && q.2.category == 2)))) → mx_has G ls' l' := by
  have key : ∀ (l l' : List (Option Value)) (i : Nat), mx_set2 l i v = some l' → i + 1 < l.length ∧ l'.length = l.length ∧ ∀ (j : Nat) (w : Value), l'[j]? = some (some w) → (j = i ∧ w = v) ∨ (j ≠ i ∧ j ≠ i + 1 ∧ l[j]? = some (some w) ∧ (j + 1 = i → ¬ w.category = 2)) := by
    intro l
    induction l with
    | nil => intro l' i h; simp [mx_set2] at h
    | cons x l ih =>
      intro l' i h
      cases i with
      | zero =>
        cases l with
        | nil => simp [mx_set2] at h
        | cons y l =>
          simp only [mx_set2, Option.some.injEq] at h
          subst h
          refine ⟨by simp, by simp, fun j w hj => ?_⟩
          match j, hj with
          | 0, hj => simp at hj; exact Or.inl ⟨rfl, hj.symm⟩
          | 1, hj => simp at hj
          | j + 2, hj => exact Or.inr ⟨by omega, by omega, by simpa using hj, by omega⟩
      | succ i =>
        simp only [mx_set2] at h
        cases hm : mx_set2 l i v with
        | none => rw [hm] at h; cases h
        | some l1 =>
          rw [hm] at h
          simp only [Option.some.injEq] at h
          obtain ⟨a1, a2, a3⟩ := ih l1 i hm
          subst h
          refine ⟨by simp; omega, by simp [a2], fun j w hj => ?_⟩
          cases j with
          | zero =>
            refine Or.inr ⟨by omega, by omega, ?_, fun hi => ?_⟩
            · simp only [List.getElem?_cons_zero, Option.some.injEq] at hj ⊢
              by_cases h0 : i = 0
              · rw [if_pos h0] at hj
                split at hj <;> simp_all
              · rw [if_neg h0] at hj; exact hj
            · have h0 : i = 0 := by omega
              simp only [List.getElem?_cons_zero, Option.some.injEq] at hj
              rw [if_pos h0] at hj
              split at hj
              · cases hj
              · cases hj
              · rename_i n1 n2
                subst hj
                intro hw
                cases w with
                | long z => exact n1 z rfl
                | double z => exact n2 z rfl
                | _ => simp [Value.category] at hw
          | succ j =>
            rcases a3 j w (by simpa using hj) with ⟨e1, e2⟩ | ⟨e1, e2, e3, e4⟩
            · exact Or.inl ⟨by omega, e2⟩
            · exact Or.inr ⟨by omega, by omega, by simpa using e3, fun q => e4 (by omega)⟩
  obtain ⟨k1, k2, k3⟩ := key l l' i hs
  refine ⟨l.zipIdx.filterMap (fun q => q.1.map (fun w => (q.2, mx_ph G w))), ⟨h.1, h.2.1, fun q hq => ?_⟩, k1, fun ls' h' => ⟨by rw [h'.1, k2], h'.2.1, fun j w hj => ?_⟩⟩
  · obtain ⟨⟨o, j⟩, hm, he⟩ := List.mem_filterMap.mp hq
    cases o with
    | none => simp at he
    | some w =>
      simp only [Option.map_some, Option.some.injEq] at he
      subst he
      have := List.mem_zipIdx_iff_getElem?.mp hm
      exact h.2.2 j w this
  · rcases k3 j w hj with ⟨e1, e2⟩ | ⟨e1, e2, e3, e4⟩
    · subst e1; subst e2
      exact h'.2.2 _ List.mem_cons_self
    · refine h'.2.2 (j, mx_ph G w) (List.mem_cons_of_mem _ (List.mem_filter.mpr ⟨List.mem_filterMap.mpr ⟨(some w, j), List.mem_zipIdx_iff_getElem?.mpr e3, rfl⟩, ?_⟩))
      simp only [Bool.and_eq_true, Bool.not_eq_true', beq_eq_false_iff_ne, ne_eq, Bool.and_eq_false_iff, mx_ph_cat]
      refine ⟨e1, e2, ?_⟩
      by_cases hji : j + 1 = i
      · exact Or.inr (e4 hji)
      · exact Or.inl hji
end
section
/-! ===== a row an instruction ===== -/
theorem mx_g_iload_n {m : MR} {G : mx_G} {Λ : List mx_K} {pc : Nat} {st : mx_St} {k : Fin 4} (hd : decode m.2.1 pc = .ok (.iload_n k, 1)) : mx_Go m G Λ pc 1 st (mx_ldI k.val st) := by
  intro st' φ hr hφ cl sl Q k p l e s mid args below meth c Z hC hZ H locs ls hR hS hl
  unfold mx_ldI at hr
  split at hr
  · rename_i x hq
    cases hr
    refine lv_iload_n hC.1 hC.2.1 hd rfl (hl.2.2 _ _ hq) ?_
    exact k p l e s mid args below meth c Z hC hZ H locs ls hR hS hl
  · cases hr
theorem mx_g_iload {m : MR} {G : mx_G} {Λ : List mx_K} {pc : Nat} {st : mx_St} {k : Nat} (hd : decode m.2.1 pc = .ok (.iload k, 2)) : mx_Go m G Λ pc 2 st (mx_ldI k st) := by
  intro st' φ hr hφ cl sl Q k p l e s mid args below meth c Z hC hZ H locs ls hR hS hl
  unfold mx_ldI at hr
  split at hr
  · rename_i x hq
    cases hr
    refine lv_iload hC.1 hC.2.1 hd (hl.2.2 _ _ hq) ?_
    exact k p l e s mid args below meth c Z hC hZ H locs ls hR hS hl
  · cases hr
theorem mx_g_lload_n {m : MR} {G : mx_G} {Λ : List mx_K} {pc : Nat} {st : mx_St} {k : Fin 4} (hd : decode m.2.1 pc = .ok (.lload_n k, 1)) : mx_Go m G Λ pc 1 st (mx_ldL k.val st) := by
  intro st' φ hr hφ cl sl Q k p l e s mid args below meth c Z hC hZ H locs ls hR hS hl
  unfold mx_ldL at hr
  split at hr
  · rename_i x hq
    cases hr
    refine lv_lload_n hC.1 hC.2.1 hd rfl (hl.2.2 _ _ hq) ?_
    exact k p l e s mid args below meth c Z hC hZ H locs ls hR hS hl
  · cases hr
theorem mx_g_lload {m : MR} {G : mx_G} {Λ : List mx_K} {pc : Nat} {st : mx_St} {k : Nat} (hd : decode m.2.1 pc = .ok (.lload k, 2)) : mx_Go m G Λ pc 2 st (mx_ldL k st) := by
  intro st' φ hr hφ cl sl Q k p l e s mid args below meth c Z hC hZ H locs ls hR hS hl
  unfold mx_ldL at hr
  split at hr
  · rename_i x hq
    cases hr
    refine lv_lload hC.1 hC.2.1 hd (hl.2.2 _ _ hq) ?_
    exact k p l e s mid args below meth c Z hC hZ H locs ls hR hS hl
  · cases hr
theorem mx_g_aload_n {m : MR} {G : mx_G} {Λ : List mx_K} {pc : Nat} {st : mx_St} {k : Fin 4} (hd : decode m.2.1 pc = .ok (.aload_n k, 1)) : mx_Go m G Λ pc 1 st (mx_ldA k.val st) := by
  intro st' φ hr hφ cl sl Q k p l e s mid args below meth c Z hC hZ H locs ls hR hS hl
  unfold mx_ldA at hr
  split at hr
  · rename_i x hq
    cases hr
    refine lv_aload_n hC.1 hC.2.1 hd rfl (hl.2.2 _ _ hq) ?_
    exact k p l e s mid args below meth c Z hC hZ H locs ls hR hS hl
  · cases hr
theorem mx_g_aload {m : MR} {G : mx_G} {Λ : List mx_K} {pc : Nat} {st : mx_St} {k : Nat} (hd : decode m.2.1 pc = .ok (.aload k, 2)) : mx_Go m G Λ pc 2 st (mx_ldA k st) := by
  intro st' φ hr hφ cl sl Q k p l e s mid args below meth c Z hC hZ H locs ls hR hS hl
  unfold mx_ldA at hr
  split at hr
  · rename_i x hq
    cases hr
    refine lv_aload hC.1 hC.2.1 hd (hl.2.2 _ _ hq) ?_
    exact k p l e s mid args below meth c Z hC hZ H locs ls hR hS hl
  · cases hr
theorem mx_g_istore_n {m : MR} {G : mx_G} {Λ : List mx_K} {pc : Nat} {st : mx_St} {k : Fin 4} (hd : decode m.2.1 pc = .ok (.istore_n k, 1)) : mx_Go m G Λ pc 1 st (mx_stI k.val st) := by
  obtain ⟨s0, l0, M⟩ := st
  intro st' φ hr hφ cl sl Q kk p l e s mid args below meth c Z hC hZ H locs ls hR hS hl
  unfold mx_stI at hr
  split at hr
  · rename_i x rest hq
    dsimp only at hq
    subst hq
    split at hr
    · rename_i l1 hs1
      cases hr
      obtain ⟨lv, a1, a2, a3⟩ := mx_has.set1 hl rfl hs1
      refine lv_istore_n hC.1 hC.2.1 hd rfl a1 a2 rfl (fun ls' hl' => ?_)
      exact kk p l e s mid args below meth c Z hC hZ H locs ls' hR hS (a3 ls' hl')
    · cases hr
  · cases hr
theorem mx_g_istore {m : MR} {G : mx_G} {Λ : List mx_K} {pc : Nat} {st : mx_St} {k : Nat} (hd : decode m.2.1 pc = .ok (.istore k, 2)) : mx_Go m G Λ pc 2 st (mx_stI k st) := by
  obtain ⟨s0, l0, M⟩ := st
  intro st' φ hr hφ cl sl Q kk p l e s mid args below meth c Z hC hZ H locs ls hR hS hl
  unfold mx_stI at hr
  split at hr
  · rename_i x rest hq
    dsimp only at hq
    subst hq
    split at hr
    · rename_i l1 hs1
      cases hr
      obtain ⟨lv, a1, a2, a3⟩ := mx_has.set1 hl rfl hs1
      refine lv_istore hC.1 hC.2.1 hd a1 a2 rfl (fun ls' hl' => ?_)
      exact kk p l e s mid args below meth c Z hC hZ H locs ls' hR hS (a3 ls' hl')
    · cases hr
  · cases hr
theorem mx_g_astore_n {m : MR} {G : mx_G} {Λ : List mx_K} {pc : Nat} {st : mx_St} {k : Fin 4} (hd : decode m.2.1 pc = .ok (.astore_n k, 1)) : mx_Go m G Λ pc 1 st (mx_stA k.val st) := by
  obtain ⟨s0, l0, M⟩ := st
  intro st' φ hr hφ cl sl Q kk p l e s mid args below meth c Z hC hZ H locs ls hR hS hl
  unfold mx_stA at hr
  split at hr
  · rename_i x rest hq
    dsimp only at hq
    subst hq
    split at hr
    · rename_i l1 hs1
      cases hr
      obtain ⟨lv, a1, a2, a3⟩ := mx_has.set1 hl rfl hs1
      refine lv_astore_n hC.1 hC.2.1 hd rfl a1 a2 rfl (fun ls' hl' => ?_)
      exact kk p l e s mid args below meth c Z hC hZ H locs ls' hR hS (a3 ls' hl')
    · cases hr
  · cases hr
theorem mx_g_astore {m : MR} {G : mx_G} {Λ : List mx_K} {pc : Nat} {st : mx_St} {k : Nat} (hd : decode m.2.1 pc = .ok (.astore k, 2)) : mx_Go m G Λ pc 2 st (mx_stA k st) := by
  obtain ⟨s0, l0, M⟩ := st
  intro st' φ hr hφ cl sl Q kk p l e s mid args below meth c Z hC hZ H locs ls hR hS hl
  unfold mx_stA at hr
  split at hr
  · rename_i x rest hq
    dsimp only at hq
    subst hq
    split at hr
    · rename_i l1 hs1
      cases hr
      obtain ⟨lv, a1, a2, a3⟩ := mx_has.set1 hl rfl hs1
      refine lv_astore hC.1 hC.2.1 hd a1 a2 rfl (fun ls' hl' => ?_)
      exact kk p l e s mid args below meth c Z hC hZ H locs ls' hR hS (a3 ls' hl')
    · cases hr
  · cases hr
theorem mx_g_lstore_n {m : MR} {G : mx_G} {Λ : List mx_K} {pc : Nat} {st : mx_St} {k : Fin 4} (hd : decode m.2.1 pc = .ok (.lstore_n k, 1)) : mx_Go m G Λ pc 1 st (mx_stL k.val st) := by
  obtain ⟨s0, l0, M⟩ := st
  intro st' φ hr hφ cl sl Q kk p l e s mid args below meth c Z hC hZ H locs ls hR hS hl
  unfold mx_stL at hr
  split at hr
  · rename_i x rest hq
    dsimp only at hq
    subst hq
    split at hr
    · rename_i l1 hs1
      cases hr
      obtain ⟨lv, a1, a2, a3⟩ := mx_has.set2 hl hs1
      refine lv_lstore_n hC.1 hC.2.1 hd rfl a1 a2 rfl (fun ls' hl' => ?_)
      exact kk p l e s mid args below meth c Z hC hZ H locs ls' hR hS (a3 ls' hl')
    · cases hr
  · cases hr
theorem mx_g_lstore {m : MR} {G : mx_G} {Λ : List mx_K} {pc : Nat} {st : mx_St} {k : Nat} (hd : decode m.2.1 pc = .ok (.lstore k, 2)) : mx_Go m G Λ pc 2 st (mx_stL k st) := by
  obtain ⟨s0, l0, M⟩ := st
  intro st' φ hr hφ cl sl Q kk p l e s mid args below meth c Z hC hZ H locs ls hR hS hl
  unfold mx_stL at hr
  split at hr
  · rename_i x rest hq
    dsimp only at hq
    subst hq
    split at hr
    · rename_i l1 hs1
      cases hr
      obtain ⟨lv, a1, a2, a3⟩ := mx_has.set2 hl hs1
      refine lv_lstore hC.1 hC.2.1 hd a1 a2 rfl (fun ls' hl' => ?_)
      exact kk p l e s mid args below meth c Z hC hZ H locs ls' hR hS (a3 ls' hl')
    · cases hr
  · cases hr
theorem mx_g_iinc {m : MR} {G : mx_G} {Λ : List mx_K} {pc : Nat} {st : mx_St} {k : Nat} {n : Int} {v : Int32} (hv : Int32.ofInt n = v) (hd : decode m.2.1 pc = .ok (.iinc k n, 3)) : mx_Go m G Λ pc 3 st (mx_inc k v st) := by
  obtain ⟨s0, l0, M⟩ := st
  subst hv
  intro st' φ hr hφ cl sl Q kk p l e s mid args below meth c Z hC hZ H locs ls hR hS hl
  unfold mx_inc at hr
  split at hr
  · rename_i x hq
    split at hr
    · rename_i l1 hs1
      cases hr
      obtain ⟨lv, a1, a2, a3⟩ := mx_has.set1 hl rfl hs1
      have hx : ls[k]? = some (.val (.int x)) := hl.2.2 k _ hq
      refine lv_iinc (v := x + Int32.ofInt n) (k := 0) hC.1 hC.2.1 hd (lv := (k, .int x) :: lv) ⟨a1.1, a1.2.1, fun q hq' => ?_⟩ rfl rfl a2 rfl (fun ls' hl' => ?_)
      · rcases List.mem_cons.mp hq' with rfl | h
        · exact hx
        · exact a1.2.2 q h
      · refine kk p l e s mid args below meth c Z hC hZ H locs ls' hR hS (a3 ls' ?_)
        refine ⟨hl'.1, hl'.2.1, fun q hq' => hl'.2.2 q ?_⟩
        rcases List.mem_cons.mp hq' with rfl | h
        · exact List.mem_cons_self
        · refine List.mem_cons_of_mem _ ?_
          rw [List.filter_cons_of_neg (by simp)]
          exact h
    · cases hr
  · cases hr
theorem mx_g_iconst {m : MR} {G : mx_G} {Λ : List mx_K} {pc : Nat} {st : mx_St} {n : Int} {v : Int32} (hv : Int32.ofInt n = v) (hd : decode m.2.1 pc = .ok (.iconst n, 1)) : mx_Go m G Λ pc 1 st (mx_push (.int v) st) := by
  intro st' φ hr hφ cl sl Q k p l e s mid args below meth c Z hC hZ H locs ls hR hS hl
  cases hr
  refine lv_iconst hC.1 hC.2.1 hd hv ?_
  exact k p l e s mid args below meth c Z hC hZ H locs ls hR hS hl
theorem mx_g_bipush {m : MR} {G : mx_G} {Λ : List mx_K} {pc : Nat} {st : mx_St} {n : Int} {v : Int32} (hv : (Int8.ofInt n).toInt32 = v) (hd : decode m.2.1 pc = .ok (.bipush n, 2)) : mx_Go m G Λ pc 2 st (mx_push (.int v) st) := by
  intro st' φ hr hφ cl sl Q k p l e s mid args below meth c Z hC hZ H locs ls hR hS hl
  cases hr
  refine lv_bipush hC.1 hC.2.1 hd hv ?_
  exact k p l e s mid args below meth c Z hC hZ H locs ls hR hS hl
theorem mx_g_sipush {m : MR} {G : mx_G} {Λ : List mx_K} {pc : Nat} {st : mx_St} {n : Int} {v : Int32} (hv : (Int16.ofInt n).toInt32 = v) (hd : decode m.2.1 pc = .ok (.sipush n, 3)) : mx_Go m G Λ pc 3 st (mx_push (.int v) st) := by
  intro st' φ hr hφ cl sl Q k p l e s mid args below meth c Z hC hZ H locs ls hR hS hl
  cases hr
  refine lv_sipush hC.1 hC.2.1 hd hv ?_
  exact k p l e s mid args below meth c Z hC hZ H locs ls hR hS hl
theorem mx_g_lconst {m : MR} {G : mx_G} {Λ : List mx_K} {pc : Nat} {st : mx_St} {n : Fin 2} {q : Nat} (hv : n.val = q) (hd : decode m.2.1 pc = .ok (.lconst n, 1)) : mx_Go m G Λ pc 1 st (mx_push (.long (lN q)) st) := by
  intro st' φ hr hφ cl sl Q k p l e s mid args below meth c Z hC hZ H locs ls hR hS hl
  cases hr
  refine lv_lconst (v := lN q) hC.1 hC.2.1 hd (by rw [hv]; rfl) ?_
  exact k p l e s mid args below meth c Z hC hZ H locs ls hR hS hl
theorem mx_g_ldc {m : MR} {G : mx_G} {Λ : List mx_K} {pc : Nat} {st : mx_St} {idx : Nat} {v : Int32} (hv : Cond.constant m.1.cls idx v ∈ TT) (hd : decode m.2.1 pc = .ok (.ldc idx, 2)) : mx_Go m G Λ pc 2 st (mx_push (.int v) st) := by
  intro st' φ hr hφ cl sl Q k p l e s mid args below meth c Z hC hZ H locs ls hR hS hl
  cases hr
  refine lv_ldc hC.1 hC.2.1 hC.2.2.2.1 (hC.2.2.2.2.1 _ hv) hd ?_
  exact k p l e s mid args below meth c Z hC hZ H locs ls hR hS hl
theorem mx_g_ldc_w {m : MR} {G : mx_G} {Λ : List mx_K} {pc : Nat} {st : mx_St} {idx : Nat} {v : Int32} (hv : Cond.constant m.1.cls idx v ∈ TT) (hd : decode m.2.1 pc = .ok (.ldc_w idx, 3)) : mx_Go m G Λ pc 3 st (mx_push (.int v) st) := by
  intro st' φ hr hφ cl sl Q k p l e s mid args below meth c Z hC hZ H locs ls hR hS hl
  cases hr
  refine lv_ldcw hC.1 hC.2.1 hC.2.2.2.1 (hC.2.2.2.2.1 _ hv) hd ?_
  exact k p l e s mid args below meth c Z hC hZ H locs ls hR hS hl
theorem mx_g_ldc2_w {m : MR} {G : mx_G} {Λ : List mx_K} {pc : Nat} {st : mx_St} {idx : Nat} {v : Int64} (hv : Cond.constantLong m.1.cls idx v ∈ TT) (hd : decode m.2.1 pc = .ok (.ldc2_w idx, 3)) : mx_Go m G Λ pc 3 st (mx_push (.long v) st) := by
  intro st' φ hr hφ cl sl Q k p l e s mid args below meth c Z hC hZ H locs ls hR hS hl
  cases hr
  refine lv_ldc2 hC.1 hC.2.1 hC.2.2.2.1 (hC.2.2.2.2.1 _ hv) hd ?_
  exact k p l e s mid args below meth c Z hC hZ H locs ls hR hS hl
theorem mx_g_iadd {m : MR} {G : mx_G} {Λ : List mx_K} {pc : Nat} {st : mx_St} (hd : decode m.2.1 pc = .ok (.iadd, 1)) : mx_Go m G Λ pc 1 st (mx_bin (fun x y => x + y) st) := by
  obtain ⟨s0, l0, M⟩ := st
  intro st' φ hr hφ cl sl Q k p l e s mid args below meth c Z hC hZ H locs ls hR hS hl
  unfold mx_bin at hr
  split at hr
  · rename_i y x rest hq
    dsimp only at hq
    subst hq
    cases hr
    refine lv_iadd hC.1 hC.2.1 hd ?_
    exact k p l e s mid args below meth c Z hC hZ H locs ls hR hS hl
  · cases hr
theorem mx_g_isub {m : MR} {G : mx_G} {Λ : List mx_K} {pc : Nat} {st : mx_St} (hd : decode m.2.1 pc = .ok (.isub, 1)) : mx_Go m G Λ pc 1 st (mx_bin (fun x y => x - y) st) := by
  obtain ⟨s0, l0, M⟩ := st
  intro st' φ hr hφ cl sl Q k p l e s mid args below meth c Z hC hZ H locs ls hR hS hl
  unfold mx_bin at hr
  split at hr
  · rename_i y x rest hq
    dsimp only at hq
    subst hq
    cases hr
    refine lv_isub hC.1 hC.2.1 hd ?_
    exact k p l e s mid args below meth c Z hC hZ H locs ls hR hS hl
  · cases hr
theorem mx_g_imul {m : MR} {G : mx_G} {Λ : List mx_K} {pc : Nat} {st : mx_St} (hd : decode m.2.1 pc = .ok (.imul, 1)) : mx_Go m G Λ pc 1 st (mx_bin (fun x y => x * y) st) := by
  obtain ⟨s0, l0, M⟩ := st
  intro st' φ hr hφ cl sl Q k p l e s mid args below meth c Z hC hZ H locs ls hR hS hl
  unfold mx_bin at hr
  split at hr
  · rename_i y x rest hq
    dsimp only at hq
    subst hq
    cases hr
    refine lv_imul hC.1 hC.2.1 hd ?_
    exact k p l e s mid args below meth c Z hC hZ H locs ls hR hS hl
  · cases hr
theorem mx_g_iand {m : MR} {G : mx_G} {Λ : List mx_K} {pc : Nat} {st : mx_St} (hd : decode m.2.1 pc = .ok (.iand, 1)) : mx_Go m G Λ pc 1 st (mx_bin (fun x y => x &&& y) st) := by
  obtain ⟨s0, l0, M⟩ := st
  intro st' φ hr hφ cl sl Q k p l e s mid args below meth c Z hC hZ H locs ls hR hS hl
  unfold mx_bin at hr
  split at hr
  · rename_i y x rest hq
    dsimp only at hq
    subst hq
    cases hr
    refine lv_iand hC.1 hC.2.1 hd ?_
    exact k p l e s mid args below meth c Z hC hZ H locs ls hR hS hl
  · cases hr
theorem mx_g_ior {m : MR} {G : mx_G} {Λ : List mx_K} {pc : Nat} {st : mx_St} (hd : decode m.2.1 pc = .ok (.ior, 1)) : mx_Go m G Λ pc 1 st (mx_bin (fun x y => x ||| y) st) := by
  obtain ⟨s0, l0, M⟩ := st
  intro st' φ hr hφ cl sl Q k p l e s mid args below meth c Z hC hZ H locs ls hR hS hl
  unfold mx_bin at hr
  split at hr
  · rename_i y x rest hq
    dsimp only at hq
    subst hq
    cases hr
    refine lv_ior hC.1 hC.2.1 hd ?_
    exact k p l e s mid args below meth c Z hC hZ H locs ls hR hS hl
  · cases hr
theorem mx_g_ixor {m : MR} {G : mx_G} {Λ : List mx_K} {pc : Nat} {st : mx_St} (hd : decode m.2.1 pc = .ok (.ixor, 1)) : mx_Go m G Λ pc 1 st (mx_bin (fun x y => x ^^^ y) st) := by
  obtain ⟨s0, l0, M⟩ := st
  intro st' φ hr hφ cl sl Q k p l e s mid args below meth c Z hC hZ H locs ls hR hS hl
  unfold mx_bin at hr
  split at hr
  · rename_i y x rest hq
    dsimp only at hq
    subst hq
    cases hr
    refine lv_ixor hC.1 hC.2.1 hd ?_
    exact k p l e s mid args below meth c Z hC hZ H locs ls hR hS hl
  · cases hr
theorem mx_g_ishl {m : MR} {G : mx_G} {Λ : List mx_K} {pc : Nat} {st : mx_St} (hd : decode m.2.1 pc = .ok (.ishl, 1)) : mx_Go m G Λ pc 1 st (mx_bin (fun x y => x <<< (y &&& 31)) st) := by
  obtain ⟨s0, l0, M⟩ := st
  intro st' φ hr hφ cl sl Q k p l e s mid args below meth c Z hC hZ H locs ls hR hS hl
  unfold mx_bin at hr
  split at hr
  · rename_i y x rest hq
    dsimp only at hq
    subst hq
    cases hr
    refine lv_ishl hC.1 hC.2.1 hd ?_
    exact k p l e s mid args below meth c Z hC hZ H locs ls hR hS hl
  · cases hr
theorem mx_g_ishr {m : MR} {G : mx_G} {Λ : List mx_K} {pc : Nat} {st : mx_St} (hd : decode m.2.1 pc = .ok (.ishr, 1)) : mx_Go m G Λ pc 1 st (mx_bin (fun x y => x >>> (y &&& 31)) st) := by
  obtain ⟨s0, l0, M⟩ := st
  intro st' φ hr hφ cl sl Q k p l e s mid args below meth c Z hC hZ H locs ls hR hS hl
  unfold mx_bin at hr
  split at hr
  · rename_i y x rest hq
    dsimp only at hq
    subst hq
    cases hr
    refine lv_ishr hC.1 hC.2.1 hd ?_
    exact k p l e s mid args below meth c Z hC hZ H locs ls hR hS hl
  · cases hr
theorem mx_g_iushr {m : MR} {G : mx_G} {Λ : List mx_K} {pc : Nat} {st : mx_St} (hd : decode m.2.1 pc = .ok (.iushr, 1)) : mx_Go m G Λ pc 1 st (mx_bin (fun x y => (x.toUInt32 >>> (y.toUInt32 &&& Int32.toUInt32 31)).toInt32) st) := by
  obtain ⟨s0, l0, M⟩ := st
  intro st' φ hr hφ cl sl Q k p l e s mid args below meth c Z hC hZ H locs ls hR hS hl
  unfold mx_bin at hr
  split at hr
  · rename_i y x rest hq
    dsimp only at hq
    subst hq
    cases hr
    refine lv_iushr hC.1 hC.2.1 hd rfl ?_
    exact k p l e s mid args below meth c Z hC hZ H locs ls hR hS hl
  · cases hr
theorem mx_g_idiv {m : MR} {G : mx_G} {Λ : List mx_K} {pc : Nat} {st : mx_St} (hd : decode m.2.1 pc = .ok (.idiv, 1)) : mx_Go m G Λ pc 1 st (mx_binD (fun x y => x / y) st) := by
  obtain ⟨s0, l0, M⟩ := st
  intro st' φ hr hφ cl sl Q k p l e s mid args below meth c Z hC hZ H locs ls hR hS hl
  unfold mx_binD at hr
  split at hr
  · rename_i y x rest hq
    dsimp only at hq
    subst hq
    cases hr
    refine lv_idiv hC.1 hC.2.1 hd hφ ?_
    exact k p l e s mid args below meth c Z hC hZ H locs ls hR hS hl
  · cases hr
theorem mx_g_irem {m : MR} {G : mx_G} {Λ : List mx_K} {pc : Nat} {st : mx_St} (hd : decode m.2.1 pc = .ok (.irem, 1)) : mx_Go m G Λ pc 1 st (mx_binD (fun x y => x - x / y * y) st) := by
  obtain ⟨s0, l0, M⟩ := st
  intro st' φ hr hφ cl sl Q k p l e s mid args below meth c Z hC hZ H locs ls hR hS hl
  unfold mx_binD at hr
  split at hr
  · rename_i y x rest hq
    dsimp only at hq
    subst hq
    cases hr
    refine lv_irem hC.1 hC.2.1 hd hφ ?_
    exact k p l e s mid args below meth c Z hC hZ H locs ls hR hS hl
  · cases hr
theorem mx_g_ineg {m : MR} {G : mx_G} {Λ : List mx_K} {pc : Nat} {st : mx_St} (hd : decode m.2.1 pc = .ok (.ineg, 1)) : mx_Go m G Λ pc 1 st (mx_un (fun x => -x) st) := by
  obtain ⟨s0, l0, M⟩ := st
  intro st' φ hr hφ cl sl Q k p l e s mid args below meth c Z hC hZ H locs ls hR hS hl
  unfold mx_un at hr
  split at hr
  · rename_i x rest hq
    dsimp only at hq
    subst hq
    cases hr
    refine lv_ineg hC.1 hC.2.1 hd ?_
    exact k p l e s mid args below meth c Z hC hZ H locs ls hR hS hl
  · cases hr
theorem mx_g_i2b {m : MR} {G : mx_G} {Λ : List mx_K} {pc : Nat} {st : mx_St} (hd : decode m.2.1 pc = .ok (.i2b, 1)) : mx_Go m G Λ pc 1 st (mx_un (fun x => x.toInt8.toInt32) st) := by
  obtain ⟨s0, l0, M⟩ := st
  intro st' φ hr hφ cl sl Q k p l e s mid args below meth c Z hC hZ H locs ls hR hS hl
  unfold mx_un at hr
  split at hr
  · rename_i x rest hq
    dsimp only at hq
    subst hq
    cases hr
    refine lv_i2b hC.1 hC.2.1 hd rfl ?_
    exact k p l e s mid args below meth c Z hC hZ H locs ls hR hS hl
  · cases hr
theorem mx_g_i2s {m : MR} {G : mx_G} {Λ : List mx_K} {pc : Nat} {st : mx_St} (hd : decode m.2.1 pc = .ok (.i2s, 1)) : mx_Go m G Λ pc 1 st (mx_un (fun x => x.toInt16.toInt32) st) := by
  obtain ⟨s0, l0, M⟩ := st
  intro st' φ hr hφ cl sl Q k p l e s mid args below meth c Z hC hZ H locs ls hR hS hl
  unfold mx_un at hr
  split at hr
  · rename_i x rest hq
    dsimp only at hq
    subst hq
    cases hr
    refine lv_i2s hC.1 hC.2.1 hd rfl ?_
    exact k p l e s mid args below meth c Z hC hZ H locs ls hR hS hl
  · cases hr
theorem mx_g_ladd {m : MR} {G : mx_G} {Λ : List mx_K} {pc : Nat} {st : mx_St} (hd : decode m.2.1 pc = .ok (.ladd, 1)) : mx_Go m G Λ pc 1 st (mx_lbin (fun x y => x + y) st) := by
  obtain ⟨s0, l0, M⟩ := st
  intro st' φ hr hφ cl sl Q k p l e s mid args below meth c Z hC hZ H locs ls hR hS hl
  unfold mx_lbin at hr
  split at hr
  · rename_i y x rest hq
    dsimp only at hq
    subst hq
    cases hr
    refine lv_ladd hC.1 hC.2.1 hd ?_
    exact k p l e s mid args below meth c Z hC hZ H locs ls hR hS hl
  · cases hr
theorem mx_g_lmul {m : MR} {G : mx_G} {Λ : List mx_K} {pc : Nat} {st : mx_St} (hd : decode m.2.1 pc = .ok (.lmul, 1)) : mx_Go m G Λ pc 1 st (mx_lbin (fun x y => x * y) st) := by
  obtain ⟨s0, l0, M⟩ := st
  intro st' φ hr hφ cl sl Q k p l e s mid args below meth c Z hC hZ H locs ls hR hS hl
  unfold mx_lbin at hr
  split at hr
  · rename_i y x rest hq
    dsimp only at hq
    subst hq
    cases hr
    refine lv_lmul hC.1 hC.2.1 hd ?_
    exact k p l e s mid args below meth c Z hC hZ H locs ls hR hS hl
  · cases hr
theorem mx_g_ldiv {m : MR} {G : mx_G} {Λ : List mx_K} {pc : Nat} {st : mx_St} (hd : decode m.2.1 pc = .ok (.ldiv, 1)) : mx_Go m G Λ pc 1 st (mx_lbinD (fun x y => x / y) st) := by
  obtain ⟨s0, l0, M⟩ := st
  intro st' φ hr hφ cl sl Q k p l e s mid args below meth c Z hC hZ H locs ls hR hS hl
  unfold mx_lbinD at hr
  split at hr
  · rename_i y x rest hq
    dsimp only at hq
    subst hq
    cases hr
    refine lv_ldiv hC.1 hC.2.1 hd hφ ?_
    exact k p l e s mid args below meth c Z hC hZ H locs ls hR hS hl
  · cases hr
theorem mx_g_lrem {m : MR} {G : mx_G} {Λ : List mx_K} {pc : Nat} {st : mx_St} (hd : decode m.2.1 pc = .ok (.lrem, 1)) : mx_Go m G Λ pc 1 st (mx_lbinD (fun x y => x - x / y * y) st) := by
  obtain ⟨s0, l0, M⟩ := st
  intro st' φ hr hφ cl sl Q k p l e s mid args below meth c Z hC hZ H locs ls hR hS hl
  unfold mx_lbinD at hr
  split at hr
  · rename_i y x rest hq
    dsimp only at hq
    subst hq
    cases hr
    refine lv_lrem hC.1 hC.2.1 hd hφ ?_
    exact k p l e s mid args below meth c Z hC hZ H locs ls hR hS hl
  · cases hr
theorem mx_g_lcmp {m : MR} {G : mx_G} {Λ : List mx_K} {pc : Nat} {st : mx_St} (hd : decode m.2.1 pc = .ok (.lcmp, 1)) : mx_Go m G Λ pc 1 st (mx_lcmp st) := by
  obtain ⟨s0, l0, M⟩ := st
  intro st' φ hr hφ cl sl Q k p l e s mid args below meth c Z hC hZ H locs ls hR hS hl
  unfold mx_lcmp at hr
  split at hr
  · rename_i y x rest hq
    dsimp only at hq
    subst hq
    cases hr
    refine W.lcmp hC.1 hC.2.1 hd ?_
    exact k p l e s mid args below meth c Z hC hZ H locs ls hR hS hl
  · cases hr
theorem mx_g_i2l {m : MR} {G : mx_G} {Λ : List mx_K} {pc : Nat} {st : mx_St} (hd : decode m.2.1 pc = .ok (.i2l, 1)) : mx_Go m G Λ pc 1 st (mx_i2l st) := by
  obtain ⟨s0, l0, M⟩ := st
  intro st' φ hr hφ cl sl Q k p l e s mid args below meth c Z hC hZ H locs ls hR hS hl
  unfold mx_i2l at hr
  split at hr
  · rename_i x rest hq
    dsimp only at hq
    subst hq
    cases hr
    refine lv_i2l hC.1 hC.2.1 hd rfl ?_
    exact k p l e s mid args below meth c Z hC hZ H locs ls hR hS hl
  · cases hr
theorem mx_g_l2i {m : MR} {G : mx_G} {Λ : List mx_K} {pc : Nat} {st : mx_St} (hd : decode m.2.1 pc = .ok (.l2i, 1)) : mx_Go m G Λ pc 1 st (mx_l2i st) := by
  obtain ⟨s0, l0, M⟩ := st
  intro st' φ hr hφ cl sl Q k p l e s mid args below meth c Z hC hZ H locs ls hR hS hl
  unfold mx_l2i at hr
  split at hr
  · rename_i x rest hq
    dsimp only at hq
    subst hq
    cases hr
    refine lv_l2i hC.1 hC.2.1 hd rfl ?_
    exact k p l e s mid args below meth c Z hC hZ H locs ls hR hS hl
  · cases hr
theorem mx_g_pop {m : MR} {G : mx_G} {Λ : List mx_K} {pc : Nat} {st : mx_St} (hd : decode m.2.1 pc = .ok (.pop, 1)) : mx_Go m G Λ pc 1 st (mx_pop st) := by
  obtain ⟨s0, l0, M⟩ := st
  intro st' φ hr hφ cl sl Q k p l e s mid args below meth c Z hC hZ H locs ls hR hS hl
  unfold mx_pop at hr
  split at hr
  · rename_i x rest hq
    dsimp only at hq
    subst hq
    cases hr
    refine lv_pop hC.1 hC.2.1 hd rfl ?_
    exact k p l e s mid args below meth c Z hC hZ H locs ls hR hS hl
  · cases hr
theorem mx_g_dup {m : MR} {G : mx_G} {Λ : List mx_K} {pc : Nat} {st : mx_St} (hd : decode m.2.1 pc = .ok (.dup, 1)) : mx_Go m G Λ pc 1 st (mx_dup st) := by
  obtain ⟨s0, l0, M⟩ := st
  intro st' φ hr hφ cl sl Q k p l e s mid args below meth c Z hC hZ H locs ls hR hS hl
  unfold mx_dup at hr
  split at hr
  · rename_i x rest hq
    dsimp only at hq
    subst hq
    cases hr
    refine lv_dup hC.1 hC.2.1 hd rfl ?_
    exact k p l e s mid args below meth c Z hC hZ H locs ls hR hS hl
  · rename_i x rest hq
    dsimp only at hq
    subst hq
    cases hr
    refine lv_dup hC.1 hC.2.1 hd rfl ?_
    exact k p l e s mid args below meth c Z hC hZ H locs ls hR hS hl
  · cases hr
theorem mx_g_dup2 {m : MR} {G : mx_G} {Λ : List mx_K} {pc : Nat} {st : mx_St} (hd : decode m.2.1 pc = .ok (.dup2, 1)) : mx_Go m G Λ pc 1 st (mx_dup2 st) := by
  obtain ⟨s0, l0, M⟩ := st
  intro st' φ hr hφ cl sl Q k p l e s mid args below meth c Z hC hZ H locs ls hR hS hl
  unfold mx_dup2 at hr
  split at hr
  · rename_i x y rest hq
    dsimp only at hq
    subst hq
    cases hr
    refine lv_dup2_11 hC.1 hC.2.1 hd rfl rfl ?_
    exact k p l e s mid args below meth c Z hC hZ H locs ls hR hS hl
  · cases hr
end
section
/-! ===== fields and arrays ===== -/
theorem mx_okF_spec {m : MR} {idx ci k pl : Nat} (h : mx_okF m idx ci k pl = true) : ∃ C T N, vwCl[ci]? = some (C, T, N) ∧ k < N ∧ (T k).1 = C ∧ Cond.fieldLink m.1.cls idx C (T k).2.1 (T k).2.2.1 ∈ TT := by
  unfold mx_okF at h
  split at h
  · rename_i C T N hc
    simp only [Bool.and_eq_true, decide_eq_true_eq] at h
    exact ⟨C, T, N, hc, h.1.1, h.1.2, inTT_mem h.2⟩
  · cases h
theorem mx_cl_11 {ci : Nat} {q : vw_C} (h : vwCl[ci]? = some q) : ci ≠ 99 := by
  have := (List.getElem?_eq_some_iff.mp h).1
  simp [vwCl] at this
  omega
theorem mx_refs_at {ci h k : Nat} {o : Option Nat} (ho : (mx_off.getD ci [])[k]? = some o) : (mx_refs ci h)[k]? = some (o.map (fun q => some (h + q))) := by
  unfold mx_refs
  rw [List.getElem?_map, ho]
  rfl
theorem mx_g_getfield {m : MR} {G : mx_G} {Λ : List mx_K} {pc : Nat} {st : mx_St} {idx : Nat} {as : List Nat} (hok : mx_okG m idx as = true) (hd : decode m.2.1 pc = .ok (.getfield idx, 3)) : mx_Go m G Λ pc 3 st (mx_getf Λ as st) := by
  obtain ⟨s0, l0, M⟩ := st
  intro st' φ hr hφ cl sl Q kk p l e s mid args below meth c Z hC hZ H locs ls hR hS hl
  unfold mx_okG at hok
  split at hok
  · rename_i ci k r pl
    simp only [Bool.and_eq_true, decide_eq_true_eq] at hok
    obtain ⟨hF, ho⟩ := hok
    obtain ⟨C, T, N, hc, hk, hT, hlink⟩ := mx_okF_spec hF
    cases s0 with
    | nil => simp [mx_getf] at hr
    | cons v0 rest =>
      cases v0 with
      | ref h =>
        simp only [mx_getf, Option.some.injEq, Prod.mk.injEq] at hr
        obtain ⟨hst, hph⟩ := hr
        subst hph
        have hoc : mx_ocl Λ h = ci := hφ
        have hL := mx_ocl_at (mx_cl_11 hc) hoc
        have hwa := mx_w_at (G := G) (M := M) hL
        have hat := mx_refs_at (h := h) ho
        obtain ⟨hin, hty, hnm⟩ := mx_cls ci C T N hc
        have he : mx_ph G (.ref h) = .ref (mx_B G + h) := by simp [mx_ph, mx_ad_at (hR.lt hL).2]
        show W p l e m.2.2.2.2 s mid args below meth c H locs cl sl Z (F0 mid pc ls (mx_ph G (.ref h) :: rest.map (mx_ph G)))
        rw [he]
        have hg : ∀ v : Value, ((mx_refs ci h).mapIdx (mx_fv G M h))[k]? = some (mx_ph G v) → st' = (v :: rest, l0, M) → W p l e m.2.2.2.2 s mid args below meth c H locs cl sl Z (F0 mid pc ls (.ref (mx_B G + h) :: rest.map (mx_ph G))) := by
          intro v hv hst
          subst hst
          exact va_get (D := G.1) (ci := ci) (C := C) (T := T) (N := N) hC.1 hC.2.1 hC.2.2.2.2.1 hin hC.2.2.2.1 hC.2.2.2.2.2.2.2.2.1.1 hR.1 h hwa hc k hk (hC.2.2.2.2.1 _ hlink) (fun x hx => by rw [← hT]; exact hx) hv hd (kk p l e s mid args below meth c Z hC hZ H locs ls hR hS hl)
        cases r with
        | zero => exact hg _ (by rw [List.getElem?_mapIdx, hat]; rfl) hst.symm
        | succ o => exact hg _ (by rw [List.getElem?_mapIdx, hat]; rfl) hst.symm
      | _ => simp [mx_getf] at hr
  · cases hok
section MXP
variable {G : mx_G} {Λ : List mx_K} {M : mx_M} {p : Program} {l : Launch} {e : Env} {R : Room} {s : State} {mid : MethodId} {args : Array Value} {below : List Frame} {meth : Method} {c : Code} {H : Heap} {locs : List Loc} {cells slots : Nat} {Z : State → Prop}
variable {m : MR} {idx ci k h pc : Nat} {ls : Array Slot} {rest : List Value} {v : Int32} {C : String} {T : u_T} {N : Nat}
theorem mx_putv (hC : mx_C G m p s mid args meth c) (hc : vwCl[ci]? = some (C, T, N)) (hk : k < N) (hT : (T k).1 = C) (hlink : Cond.fieldLink m.1.cls idx C (T k).2.1 (T k).2.2.1 ∈ TT)
    (hfin : (T k).2.2.2 = false) (ho : (mx_off.getD ci [])[k]? = some none) {ty : FieldType} (hty0 : mx_ty ci k = ty) (hn : narrow ty (.int v) = .int v) (hfit : fits ty (.int v) = true) (hoc : mx_ocl Λ h = ci) (hR : mx_R G Λ M H) (hS : va_S (mx_A G) s.heap H locs) (hd : decode m.2.1 pc = .ok (.putfield idx, 3))
    (kk : ∀ (H1 : Heap) (locs1 : List Loc), mx_R G Λ (mx_wr M h k v) H1 → va_S (mx_A G) s.heap H1 locs1 → W p l e R s mid args below meth c H1 locs1 cells slots Z (F0 mid (pc + 3) ls rest)) :
    W p l e R s mid args below meth c H locs cells slots Z (F0 mid pc ls (.int v :: .ref (mx_B G + h) :: rest)) := by
  have hL := mx_ocl_at (mx_cl_11 hc) hoc
  have he := mx_w_at (G := G) (M := M) hL
  have hat := mx_refs_at (h := h) ho
  obtain ⟨hin, hty, hnm⟩ := mx_cls ci C T N hc
  have hlk : k < ((mx_refs ci h).mapIdx (mx_fv G M h)).length := by
    have := (List.getElem?_eq_some_iff.mp hat).1
    simpa using this
  have hts := hC.2.2.2.2.1
  have hK := hC.2.2.2.2.2.2.2.2.1.1
  have hap := va_apart (own := m.1.cls) hts hin (mx_ty ci) hty hnm hK hc
  obtain ⟨r, h1, cell, q1, q2, q3, q4⟩ := hR.1 h _ he
  have hr : r = (C, T, N) := Option.some.inj (h1.symm.trans hc)
  subst hr
  obtain ⟨hSl, hfc, kC, hkC, hkind⟩ := hK.1 ci _ hc
  obtain ⟨cf, kf, fi, f, hi, hsl⟩ := hSl k hk
  have hlay := hts _ (hin _ (u_in_lay hk))
  unfold u_lay at hlay
  rw [if_neg (by rw [hfin]; decide)] at hlay
  have hst := (u_facts hfc hkC (u_lays hts hin hk) hi).1
  have h6 := u_store hfc hkC hkind hlay hi (by rw [hty k hk, hty0]) hn hfit
  refine W.putK hC.1 hC.2.1 (f := f) ⟨hC.2.2.2.1, hts _ hlink, ⟨_, _, _, by rw [← hT]; exact hi⟩, hst⟩ (by rw [q2]; exact h6) q1 q3 (by rw [hsl]; exact k2_hasslot (q4 k hk)) rfl rfl hd fun H' e1 e2 e3 => ?_
  rw [hsl] at e1 ⊢
  have hP1 := hR.1.set (mx_w_D G Λ M) he (e := .inr (ci, ((mx_refs ci h).mapIdx (mx_fv G M h)).set k (.int v))) ⟨_, hc, t_OB.to (V := updV (vp_V _) k (.int v)) ⟨_, e1, q2, q3, t_set q4 hap hk (.int v)⟩ (fun j _ => vp_updV_set hlk (.int v) j)⟩ e3
  have e4 : mx_w G Λ (mx_wr M h k v) = (mx_w G Λ M).set h (mx_B G + h, .inr (ci, ((mx_refs ci h).mapIdx (mx_fv G M h)).set k (.int v))) := by
    rw [mx_w_set hL (fun a ha => mx_wr_n M k v ha), mx_e_field hat]
  exact kk H' _ (mx_R_wr hR (hR.lt hL).1 (by rw [e4]; exact hP1) e2) (hS.put e2 e3 (show mx_B G ≤ mx_B G + h by omega))
theorem mx_iastv {a : Nat} {i : Int32} (hC : mx_C G m p s mid args meth c) (hin : vp_in i (mx_len Λ false a)) (hR : mx_R G Λ M H) (hS : va_S (mx_A G) s.heap H locs) (hd : decode m.2.1 pc = .ok (.iastore, 1))
    (kk : ∀ (H1 : Heap) (locs1 : List Loc), mx_R G Λ (mx_wr M a i.toNatClampNeg v) H1 → va_S (mx_A G) s.heap H1 locs1 → W p l e R s mid args below meth c H1 locs1 cells slots Z (F0 mid (pc + 1) ls rest)) :
    W p l e R s mid args below meth c H locs cells slots Z (F0 mid pc ls (.int v :: .int i :: .ref (mx_B G + a) :: rest)) := by
  have hL := mx_len_at hin
  have he := mx_w_at (G := G) (M := M) hL
  have hK := hC.2.2.2.2.2.2.2.2.1.1
  have hat : H[mx_B G + a]? = some (vp_cell (mx_cI G) (mx_len Λ false a, .inl (M a))) := hR.1 a _ he
  refine W.iast hC.1 hC.2.1 hat ((hK.2 0 _ rfl).1 _ (fun j => .int (M a j))) (fun q => by cases q) (by show ¬ (i < 0 ∨ (arrV _ _ _).slots.size ≤ _); rw [arrV_size]; exact hin) rfl rfl hd fun H1 e1 z oq => ?_
  have e4 : mx_w G Λ (mx_wr M a i.toNatClampNeg v) = (mx_w G Λ M).set a (mx_B G + a, .inl (mx_cI G, mx_len Λ false a, .inl (upd (M a) i.toNatClampNeg v))) := by
    rw [mx_w_set hL (fun b hb => mx_wr_n M _ v hb), mx_e_arr]
    rfl
  have hP1 := hR.1.set (mx_w_D G Λ M) he (e := .inl (mx_cI G, mx_len Λ false a, .inl (upd (M a) i.toNatClampNeg v))) (H1 := H1) (by
    show H1[mx_B G + a]? = some (vp_cell _ _)
    rw [e1, vp_cell_i, vp_cell_i, arrV_store]
    congr 2
    funext q
    by_cases hq : q = i.toNatClampNeg
    · subst hq
      simp [updV, upd]
    · simp [updV, upd, hq]) oq
  exact kk H1 _ (mx_R_wr hR (hR.lt hL).1 (by rw [e4]; exact hP1) z) (hS.put z oq (show mx_B G ≤ mx_B G + a by omega))
theorem mx_zastv {a : Nat} {i : Int32} (hC : mx_C G m p s mid args meth c) (hin : vp_in i (mx_len Λ true a)) (hv : v = 0 ∨ v = 1) (hR : mx_R G Λ M H) (hS : va_S (mx_A G) s.heap H locs) (hd : decode m.2.1 pc = .ok (.bastore, 1))
    (kk : ∀ (H1 : Heap) (locs1 : List Loc), mx_R G Λ (mx_wr M a i.toNatClampNeg v) H1 → va_S (mx_A G) s.heap H1 locs1 → W p l e R s mid args below meth c H1 locs1 cells slots Z (F0 mid (pc + 1) ls rest)) :
    W p l e R s mid args below meth c H locs cells slots Z (F0 mid pc ls (.int v :: .int i :: .ref (mx_B G + a) :: rest)) := by
  have hL := mx_len_at hin
  have he := mx_w_at (G := G) (M := M) hL
  have hK := hC.2.2.2.2.2.2.2.2.1.1
  have hn : narrow .boolean (.int v) = .int v := by rcases hv with rfl | rfl <;> decide +kernel
  have hat : H[mx_B G + a]? = some (vp_cell (mx_cZ G) (mx_len Λ true a, .inl (M a))) := hR.1 a _ he
  refine W.zast hC.1 hC.2.1 hat ((hK.2 1 _ rfl).1 _ (fun j => .int (M a j))) (fun q => by cases q) (by show ¬ (i < 0 ∨ (arrV _ _ _).slots.size ≤ _); rw [arrV_size]; exact hin) rfl rfl hd fun H1 e1 z oq => ?_
  have e4 : mx_w G Λ (mx_wr M a i.toNatClampNeg v) = (mx_w G Λ M).set a (mx_B G + a, .inl (mx_cZ G, mx_len Λ true a, .inl (upd (M a) i.toNatClampNeg v))) := by
    rw [mx_w_set hL (fun b hb => mx_wr_n M _ v hb), mx_e_arr]
    rfl
  have hP1 := hR.1.set (mx_w_D G Λ M) he (e := .inl (mx_cZ G, mx_len Λ true a, .inl (upd (M a) i.toNatClampNeg v))) (H1 := H1) (by
    show H1[mx_B G + a]? = some (vp_cell _ _)
    rw [e1, hn, vp_cell_i, vp_cell_i, arrV_store]
    congr 2
    funext q
    by_cases hq : q = i.toNatClampNeg
    · subst hq
      simp [updV, upd]
    · simp [updV, upd, hq]) oq
  exact kk H1 _ (mx_R_wr hR (hR.lt hL).1 (by rw [e4]; exact hP1) z) (hS.put z oq (show mx_B G ≤ mx_B G + a by omega))
end MXP
end
section
section MXG
variable {m : MR} {G : mx_G} {Λ : List mx_K} {pc : Nat} {st : mx_St}
theorem mx_ph_ref {M : mx_M} {H : Heap} (hR : mx_R G Λ M H) {k : Nat} {kd : mx_K} (hk : Λ[k]? = some kd) : mx_ph G (.ref k) = .ref (mx_B G + k) := by
  simp [mx_ph, mx_ad_at (hR.lt hk).2]
theorem mx_g_putfield {idx : Nat} {as : List Nat} (hok : mx_okP m idx as = true) (hd : decode m.2.1 pc = .ok (.putfield idx, 3)) : mx_Go m G Λ pc 3 st (mx_putf Λ as st) := by
  obtain ⟨s0, l0, M⟩ := st
  intro st' φ hr hφ cl sl Q kk p l e s mid args below meth c Z hC hZ H locs ls hR hS hl
  unfold mx_okP at hok
  split at hok
  · rename_i ci k t pl
    simp only [Bool.and_eq_true, decide_eq_true_eq] at hok
    obtain ⟨⟨⟨hF, ho⟩, hty⟩, hfin⟩ := hok
    obtain ⟨C, T, N, hc, hk, hT, hlink⟩ := mx_okF_spec hF
    rw [hc] at hfin
    have hfin : (T k).2.2.2 = false := by simpa using hfin
    match s0, hr with
    | .int v :: .ref h :: rest, hr =>
      simp only [mx_putf, Option.some.injEq, Prod.mk.injEq] at hr
      obtain ⟨hst, hph⟩ := hr
      subst hph
      subst hst
      have hoc : mx_ocl Λ h = ci := by
        cases t with
        | zero => exact hφ
        | succ t => exact hφ.1
      have hnf : narrow (mx_ty ci k) (.int v) = .int v ∧ fits (mx_ty ci k) (.int v) = true := by
        rw [hty]
        cases t with
        | zero => exact ⟨vp_nar_int v, rfl⟩
        | succ t =>
          show narrow .boolean (.int v) = .int v ∧ fits .boolean (.int v) = true
          rcases hφ.2 with rfl | rfl
          · exact ⟨by decide +kernel, by decide +kernel⟩
          · exact ⟨by decide +kernel, by decide +kernel⟩
      have hL := mx_ocl_at (mx_cl_11 hc) hoc
      show W p l e m.2.2.2.2 s mid args below meth c H locs cl sl Z (F0 mid pc ls (.int v :: mx_ph G (.ref h) :: rest.map (mx_ph G)))
      rw [mx_ph_ref hR hL]
      exact mx_putv hC hc hk hT hlink hfin ho rfl hnf.1 hnf.2 hoc hR hS hd (fun H1 locs1 hR1 hS1 => kk p l e s mid args below meth c Z hC hZ H1 locs1 ls hR1 hS1 hl)
    | [], hr => simp [mx_putf] at hr
    | [v0], hr => cases v0 <;> simp [mx_putf] at hr
    | .long _ :: _ :: _, hr => simp [mx_putf] at hr
    | .float _ :: _ :: _, hr => simp [mx_putf] at hr
    | .double _ :: _ :: _, hr => simp [mx_putf] at hr
    | .null :: _ :: _, hr => simp [mx_putf] at hr
    | .ref _ :: _ :: _, hr => simp [mx_putf] at hr
    | .retAddr _ :: _ :: _, hr => simp [mx_putf] at hr
    | .int _ :: .int _ :: _, hr => simp [mx_putf] at hr
    | .int _ :: .long _ :: _, hr => simp [mx_putf] at hr
    | .int _ :: .float _ :: _, hr => simp [mx_putf] at hr
    | .int _ :: .double _ :: _, hr => simp [mx_putf] at hr
    | .int _ :: .null :: _, hr => simp [mx_putf] at hr
    | .int _ :: .retAddr _ :: _, hr => simp [mx_putf] at hr
  · cases hok
theorem mx_g_iaload (hd : decode m.2.1 pc = .ok (.iaload, 1)) : mx_Go m G Λ pc 1 st (mx_ald Λ false st) := by
  obtain ⟨s0, l0, M⟩ := st
  intro st' φ hr hφ cl sl Q kk p l e s mid args below meth c Z hC hZ H locs ls hR hS hl
  unfold mx_ald at hr
  split at hr
  · rename_i i a rest hq
    dsimp only at hq
    subst hq
    cases hr
    have hin : vp_in i (mx_len Λ false a) := hφ
    have hL := mx_len_at hin
    show W p l e m.2.2.2.2 s mid args below meth c H locs cl sl Z (F0 mid pc ls (.int i :: mx_ph G (.ref a) :: rest.map (mx_ph G)))
    rw [mx_ph_ref hR hL]
    exact va_iald hC.1 hC.2.1 hC.2.2.2.2.2.2.2.2.1.1 hR.1 a 0 (mx_w_at hL) rfl hin hd (kk p l e s mid args below meth c Z hC hZ H locs ls hR hS hl)
  · cases hr
theorem mx_g_baload (hd : decode m.2.1 pc = .ok (.baload, 1)) : mx_Go m G Λ pc 1 st (mx_ald Λ true st) := by
  obtain ⟨s0, l0, M⟩ := st
  intro st' φ hr hφ cl sl Q kk p l e s mid args below meth c Z hC hZ H locs ls hR hS hl
  unfold mx_ald at hr
  split at hr
  · rename_i i a rest hq
    dsimp only at hq
    subst hq
    cases hr
    have hin : vp_in i (mx_len Λ true a) := hφ
    have hL := mx_len_at hin
    show W p l e m.2.2.2.2 s mid args below meth c H locs cl sl Z (F0 mid pc ls (.int i :: mx_ph G (.ref a) :: rest.map (mx_ph G)))
    rw [mx_ph_ref hR hL]
    exact va_zald hC.1 hC.2.1 hC.2.2.2.2.2.2.2.2.1.1 hR.1 a 1 (mx_w_at hL) rfl hin hd (kk p l e s mid args below meth c Z hC hZ H locs ls hR hS hl)
  · cases hr
theorem mx_g_iastore (hd : decode m.2.1 pc = .ok (.iastore, 1)) : mx_Go m G Λ pc 1 st (mx_iast Λ st) := by
  obtain ⟨s0, l0, M⟩ := st
  intro st' φ hr hφ cl sl Q kk p l e s mid args below meth c Z hC hZ H locs ls hR hS hl
  unfold mx_iast at hr
  split at hr
  · rename_i v i a rest hq
    dsimp only at hq
    subst hq
    cases hr
    have hin : vp_in i (mx_len Λ false a) := hφ
    show W p l e m.2.2.2.2 s mid args below meth c H locs cl sl Z (F0 mid pc ls (.int v :: .int i :: mx_ph G (.ref a) :: rest.map (mx_ph G)))
    rw [mx_ph_ref hR (mx_len_at hin)]
    exact mx_iastv hC hin hR hS hd (fun H1 locs1 hR1 hS1 => kk p l e s mid args below meth c Z hC hZ H1 locs1 ls hR1 hS1 hl)
  · cases hr
theorem mx_g_bastore (hd : decode m.2.1 pc = .ok (.bastore, 1)) : mx_Go m G Λ pc 1 st (mx_zast Λ st) := by
  obtain ⟨s0, l0, M⟩ := st
  intro st' φ hr hφ cl sl Q kk p l e s mid args below meth c Z hC hZ H locs ls hR hS hl
  unfold mx_zast at hr
  split at hr
  · rename_i v i a rest hq
    dsimp only at hq
    subst hq
    cases hr
    have hin : vp_in i (mx_len Λ true a) := hφ.1
    show W p l e m.2.2.2.2 s mid args below meth c H locs cl sl Z (F0 mid pc ls (.int v :: .int i :: mx_ph G (.ref a) :: rest.map (mx_ph G)))
    rw [mx_ph_ref hR (mx_len_at hin)]
    exact mx_zastv hC hin hφ.2 hR hS hd (fun H1 locs1 hR1 hS1 => kk p l e s mid args below meth c Z hC hZ H1 locs1 ls hR1 hS1 hl)
  · cases hr
theorem mx_g_alen (hd : decode m.2.1 pc = .ok (.arraylength, 1)) : mx_Go m G Λ pc 1 st (mx_alen Λ st) := by
  obtain ⟨s0, l0, M⟩ := st
  intro st' φ hr hφ cl sl Q kk p l e s mid args below meth c Z hC hZ H locs ls hR hS hl
  unfold mx_alen at hr
  split at hr
  · rename_i a rest hq
    dsimp only at hq
    subst hq
    cases hr
    have hL := mx_len_at0 (show mx_len Λ false a ≠ 0 from hφ)
    show W p l e m.2.2.2.2 s mid args below meth c H locs cl sl Z (F0 mid pc ls (mx_ph G (.ref a) :: rest.map (mx_ph G)))
    rw [mx_ph_ref hR hL]
    exact va_alen hC.1 hC.2.1 hC.2.2.2.2.2.2.2.2.1.1 hR.1 a 0 (mx_w_at hL) rfl rfl hd (kk p l e s mid args below meth c Z hC hZ H locs ls hR hS hl)
  · cases hr
theorem mx_g_sld (hm : m.1.cls = "TypeSetsLaw") (hd : decode m.2.1 pc = .ok (.iaload, 1)) : mx_Go m G Λ pc 1 st (mx_sld (mx_L G) st) := by
  obtain ⟨s0, l0, M⟩ := st
  intro st' φ hr hφ cl sl Q kk p l e s mid args below meth c Z hC hZ H locs ls hR hS hl
  unfold mx_sld at hr
  split at hr
  · rename_i i a rest hq
    dsimp only at hq
    subst hq
    cases hr
    obtain ⟨ha, hin⟩ : a = 1000 ∧ vp_in i (mx_L G) := hφ
    subst ha
    obtain ⟨hX, hb⟩ := hC.2.2.2.2.2.2.2.2.2.2 hm
    have h := kk p l e s mid args below meth c Z hC hZ H locs ls hR hS hl
    dsimp only at h
    have h5 : M 1000 = mx_xs G := hR.2.2.2.2
    rw [h5] at h
    exact va_sld hC.1 hC.2.1 hX (Nat.lt_of_lt_of_le hb hC.2.2.2.2.2.2.2.2.2.1) (Nat.not_le.mpr hb) hS hin hd h
  · cases hr
theorem mx_g_slen (hm : m.1.cls = "TypeSetsLaw") (hd : decode m.2.1 pc = .ok (.arraylength, 1)) : mx_Go m G Λ pc 1 st (mx_slen (mx_L G) st) := by
  obtain ⟨s0, l0, M⟩ := st
  intro st' φ hr hφ cl sl Q kk p l e s mid args below meth c Z hC hZ H locs ls hR hS hl
  unfold mx_slen at hr
  split at hr
  · rename_i a rest hq
    dsimp only at hq
    subst hq
    cases hr
    have ha : a = 1000 := hφ
    subst ha
    obtain ⟨hX, hb⟩ := hC.2.2.2.2.2.2.2.2.2.2 hm
    exact va_slen hC.1 hC.2.1 hX (Nat.lt_of_lt_of_le hb hC.2.2.2.2.2.2.2.2.2.1) (Nat.not_le.mpr hb) hS hd (kk p l e s mid args below meth c Z hC hZ H locs ls hR hS hl)
  · cases hr
theorem mx_no {n : Nat} {r : mx_O} (h : r = none) : mx_Go m G Λ pc n st r := by
  intro st' φ hr
  rw [h] at hr
  cases hr
/-- every straight instruction -/
theorem mx_run_go {o : mx_Op} (hok : mx_okO m o = true) (hd : decode m.2.1 pc = .ok (o.1, mx_il o.1)) : mx_Go m G Λ pc (mx_il o.1) st (mx_run (mx_L G) Λ o st) := by
  obtain ⟨i, as, v⟩ := o
  dsimp only at hd
  cases i with
  | iload_n k => exact mx_g_iload_n hd
  | iload k => exact mx_g_iload hd
  | aload_n k => exact mx_g_aload_n hd
  | aload k => exact mx_g_aload hd
  | lload_n k => exact mx_g_lload_n hd
  | lload k => exact mx_g_lload hd
  | istore_n k => exact mx_g_istore_n hd
  | istore k => exact mx_g_istore hd
  | astore_n k => exact mx_g_astore_n hd
  | astore k => exact mx_g_astore hd
  | lstore_n k => exact mx_g_lstore_n hd
  | lstore k => exact mx_g_lstore hd
  | iinc k n => exact mx_g_iinc (of_decide_eq_true hok) hd
  | iconst n => exact mx_g_iconst (of_decide_eq_true hok) hd
  | bipush n => exact mx_g_bipush (of_decide_eq_true hok) hd
  | sipush n => exact mx_g_sipush (of_decide_eq_true hok) hd
  | ldc n => exact mx_g_ldc (inTT_mem hok) hd
  | ldc_w n => exact mx_g_ldc_w (inTT_mem hok) hd
  | lconst n => exact mx_g_lconst (of_decide_eq_true hok) hd
  | ldc2_w n => exact mx_g_ldc2_w (inTT_mem hok) hd
  | iadd => exact mx_g_iadd hd
  | isub => exact mx_g_isub hd
  | imul => exact mx_g_imul hd
  | iand => exact mx_g_iand hd
  | ior => exact mx_g_ior hd
  | ixor => exact mx_g_ixor hd
  | ishl => exact mx_g_ishl hd
  | ishr => exact mx_g_ishr hd
  | iushr => exact mx_g_iushr hd
  | idiv => exact mx_g_idiv hd
  | irem => exact mx_g_irem hd
  | ineg => exact mx_g_ineg hd
  | i2b => exact mx_g_i2b hd
  | i2s => exact mx_g_i2s hd
  | ladd => exact mx_g_ladd hd
  | lmul => exact mx_g_lmul hd
  | ldiv => exact mx_g_ldiv hd
  | lrem => exact mx_g_lrem hd
  | lcmp => exact mx_g_lcmp hd
  | i2l => exact mx_g_i2l hd
  | l2i => exact mx_g_l2i hd
  | dup => exact mx_g_dup hd
  | dup2 => exact mx_g_dup2 hd
  | pop => exact mx_g_pop hd
  | getfield idx => exact mx_g_getfield hok hd
  | putfield idx => exact mx_g_putfield hok hd
  | iaload => cases as with
    | nil => exact mx_g_iaload hd
    | cons a t => exact mx_g_sld (of_decide_eq_true hok) hd
  | baload => exact mx_g_baload hd
  | iastore => exact mx_g_iastore hd
  | bastore => exact mx_g_bastore hd
  | arraylength => cases as with
    | nil => exact mx_g_alen hd
    | cons a t => exact mx_g_slen (of_decide_eq_true hok) hd
  | _ => exact mx_no rfl
/-- a stretch of straight instructions -/
theorem mx_go {ops : List mx_Op} {pc' : Nat} (hck : mx_ck m pc ops = some pc') {st' : mx_St} {φ : Prop} (hb : mx_blk (mx_L G) Λ ops st = some (st', φ)) (hφ : φ) {cl sl : Nat} {Q : mx_Q} (k : mx_W G m pc' st' Λ cl sl Q) : mx_W G m pc st Λ cl sl Q := by
  induction ops generalizing pc st φ with
  | nil =>
    cases hck
    cases hb
    exact k
  | cons o os ih =>
    simp only [mx_ck] at hck
    split at hck
    · rename_i i n hd
      split at hck
      · rename_i h3
        obtain ⟨h1, h2, h3⟩ := h3
        subst h1
        subst h3
        have hg := mx_run_go (G := G) (Λ := Λ) (st := st) h2 hd
        simp only [mx_blk] at hb
        split at hb
        · cases hb
        · rename_i st1 hr
          exact hg st1 none hr trivial cl sl Q (ih hck hb hφ)
        · rename_i st1 ψ hr
          split at hb
          · cases hb
          · rename_i st2 χ hb2
            cases hb
            exact hg st1 (some ψ) hr hφ.1 cl sl Q (ih hck hb2 hφ.2)
      · cases hck
    · cases hck
end MXG
end
section
section MXB
variable {m : MR} {G : mx_G} {Λ : List mx_K} {pc : Nat} {s : List Value} {l : List (Option Value)} {M : mx_M} {cl sl : Nat} {Q : mx_Q}
theorem mx_if_eq {x : Int32} {off : Int} {tgt : Nat} (hd : decode m.2.1 pc = .ok (.ifCond .eq off, 3)) (ht : (pc : Int) + off = (tgt : Int)) (kt : x = 0 → mx_W G m tgt (s, l, M) Λ cl sl Q) (kf : ¬ x = 0 → mx_W G m (pc + 3) (s, l, M) Λ cl sl Q) : mx_W G m pc (.int x :: s, l, M) Λ cl sl Q := by
  intro p l0 e s0 mid args below meth c Z hC hZ H locs ls hR hS hl
  exact lv_if_eq hC.1 hC.2.1 hd ht (fun h => kt h p l0 e s0 mid args below meth c Z hC hZ H locs ls hR hS hl) (fun h => kf h p l0 e s0 mid args below meth c Z hC hZ H locs ls hR hS hl)
theorem mx_ic_eq {x y : Int32} {off : Int} {tgt : Nat} (hd : decode m.2.1 pc = .ok (.if_icmp .eq off, 3)) (ht : (pc : Int) + off = (tgt : Int)) (kt : x = y → mx_W G m tgt (s, l, M) Λ cl sl Q) (kf : ¬ x = y → mx_W G m (pc + 3) (s, l, M) Λ cl sl Q) : mx_W G m pc (.int y :: .int x :: s, l, M) Λ cl sl Q := by
  intro p l0 e s0 mid args below meth c Z hC hZ H locs ls hR hS hl
  exact lv_icmp_eq hC.1 hC.2.1 hd ht (fun h => kt h p l0 e s0 mid args below meth c Z hC hZ H locs ls hR hS hl) (fun h => kf h p l0 e s0 mid args below meth c Z hC hZ H locs ls hR hS hl)
theorem mx_if_ne {x : Int32} {off : Int} {tgt : Nat} (hd : decode m.2.1 pc = .ok (.ifCond .ne off, 3)) (ht : (pc : Int) + off = (tgt : Int)) (kt : ¬ x = 0 → mx_W G m tgt (s, l, M) Λ cl sl Q) (kf : x = 0 → mx_W G m (pc + 3) (s, l, M) Λ cl sl Q) : mx_W G m pc (.int x :: s, l, M) Λ cl sl Q := by
  intro p l0 e s0 mid args below meth c Z hC hZ H locs ls hR hS hl
  exact lv_if_ne hC.1 hC.2.1 hd ht (fun h => kt h p l0 e s0 mid args below meth c Z hC hZ H locs ls hR hS hl) (fun h => kf h p l0 e s0 mid args below meth c Z hC hZ H locs ls hR hS hl)
theorem mx_ic_ne {x y : Int32} {off : Int} {tgt : Nat} (hd : decode m.2.1 pc = .ok (.if_icmp .ne off, 3)) (ht : (pc : Int) + off = (tgt : Int)) (kt : ¬ x = y → mx_W G m tgt (s, l, M) Λ cl sl Q) (kf : x = y → mx_W G m (pc + 3) (s, l, M) Λ cl sl Q) : mx_W G m pc (.int y :: .int x :: s, l, M) Λ cl sl Q := by
  intro p l0 e s0 mid args below meth c Z hC hZ H locs ls hR hS hl
  exact lv_icmp_ne hC.1 hC.2.1 hd ht (fun h => kt h p l0 e s0 mid args below meth c Z hC hZ H locs ls hR hS hl) (fun h => kf h p l0 e s0 mid args below meth c Z hC hZ H locs ls hR hS hl)
theorem mx_if_lt {x : Int32} {off : Int} {tgt : Nat} (hd : decode m.2.1 pc = .ok (.ifCond .lt off, 3)) (ht : (pc : Int) + off = (tgt : Int)) (kt : x < 0 → mx_W G m tgt (s, l, M) Λ cl sl Q) (kf : ¬ x < 0 → mx_W G m (pc + 3) (s, l, M) Λ cl sl Q) : mx_W G m pc (.int x :: s, l, M) Λ cl sl Q := by
  intro p l0 e s0 mid args below meth c Z hC hZ H locs ls hR hS hl
  exact lv_if_lt hC.1 hC.2.1 hd ht (fun h => kt h p l0 e s0 mid args below meth c Z hC hZ H locs ls hR hS hl) (fun h => kf h p l0 e s0 mid args below meth c Z hC hZ H locs ls hR hS hl)
theorem mx_ic_lt {x y : Int32} {off : Int} {tgt : Nat} (hd : decode m.2.1 pc = .ok (.if_icmp .lt off, 3)) (ht : (pc : Int) + off = (tgt : Int)) (kt : x < y → mx_W G m tgt (s, l, M) Λ cl sl Q) (kf : ¬ x < y → mx_W G m (pc + 3) (s, l, M) Λ cl sl Q) : mx_W G m pc (.int y :: .int x :: s, l, M) Λ cl sl Q := by
  intro p l0 e s0 mid args below meth c Z hC hZ H locs ls hR hS hl
  exact lv_icmp_lt hC.1 hC.2.1 hd ht (fun h => kt h p l0 e s0 mid args below meth c Z hC hZ H locs ls hR hS hl) (fun h => kf h p l0 e s0 mid args below meth c Z hC hZ H locs ls hR hS hl)
theorem mx_if_ge {x : Int32} {off : Int} {tgt : Nat} (hd : decode m.2.1 pc = .ok (.ifCond .ge off, 3)) (ht : (pc : Int) + off = (tgt : Int)) (kt : 0 ≤ x → mx_W G m tgt (s, l, M) Λ cl sl Q) (kf : ¬ 0 ≤ x → mx_W G m (pc + 3) (s, l, M) Λ cl sl Q) : mx_W G m pc (.int x :: s, l, M) Λ cl sl Q := by
  intro p l0 e s0 mid args below meth c Z hC hZ H locs ls hR hS hl
  exact lv_if_ge hC.1 hC.2.1 hd ht (fun h => kt h p l0 e s0 mid args below meth c Z hC hZ H locs ls hR hS hl) (fun h => kf h p l0 e s0 mid args below meth c Z hC hZ H locs ls hR hS hl)
theorem mx_ic_ge {x y : Int32} {off : Int} {tgt : Nat} (hd : decode m.2.1 pc = .ok (.if_icmp .ge off, 3)) (ht : (pc : Int) + off = (tgt : Int)) (kt : y ≤ x → mx_W G m tgt (s, l, M) Λ cl sl Q) (kf : ¬ y ≤ x → mx_W G m (pc + 3) (s, l, M) Λ cl sl Q) : mx_W G m pc (.int y :: .int x :: s, l, M) Λ cl sl Q := by
  intro p l0 e s0 mid args below meth c Z hC hZ H locs ls hR hS hl
  exact lv_icmp_ge hC.1 hC.2.1 hd ht (fun h => kt h p l0 e s0 mid args below meth c Z hC hZ H locs ls hR hS hl) (fun h => kf h p l0 e s0 mid args below meth c Z hC hZ H locs ls hR hS hl)
theorem mx_if_gt {x : Int32} {off : Int} {tgt : Nat} (hd : decode m.2.1 pc = .ok (.ifCond .gt off, 3)) (ht : (pc : Int) + off = (tgt : Int)) (kt : 0 < x → mx_W G m tgt (s, l, M) Λ cl sl Q) (kf : ¬ 0 < x → mx_W G m (pc + 3) (s, l, M) Λ cl sl Q) : mx_W G m pc (.int x :: s, l, M) Λ cl sl Q := by
  intro p l0 e s0 mid args below meth c Z hC hZ H locs ls hR hS hl
  exact lv_if_gt hC.1 hC.2.1 hd ht (fun h => kt h p l0 e s0 mid args below meth c Z hC hZ H locs ls hR hS hl) (fun h => kf h p l0 e s0 mid args below meth c Z hC hZ H locs ls hR hS hl)
theorem mx_ic_gt {x y : Int32} {off : Int} {tgt : Nat} (hd : decode m.2.1 pc = .ok (.if_icmp .gt off, 3)) (ht : (pc : Int) + off = (tgt : Int)) (kt : y < x → mx_W G m tgt (s, l, M) Λ cl sl Q) (kf : ¬ y < x → mx_W G m (pc + 3) (s, l, M) Λ cl sl Q) : mx_W G m pc (.int y :: .int x :: s, l, M) Λ cl sl Q := by
  intro p l0 e s0 mid args below meth c Z hC hZ H locs ls hR hS hl
  exact lv_icmp_gt hC.1 hC.2.1 hd ht (fun h => kt h p l0 e s0 mid args below meth c Z hC hZ H locs ls hR hS hl) (fun h => kf h p l0 e s0 mid args below meth c Z hC hZ H locs ls hR hS hl)
theorem mx_if_le {x : Int32} {off : Int} {tgt : Nat} (hd : decode m.2.1 pc = .ok (.ifCond .le off, 3)) (ht : (pc : Int) + off = (tgt : Int)) (kt : x ≤ 0 → mx_W G m tgt (s, l, M) Λ cl sl Q) (kf : ¬ x ≤ 0 → mx_W G m (pc + 3) (s, l, M) Λ cl sl Q) : mx_W G m pc (.int x :: s, l, M) Λ cl sl Q := by
  intro p l0 e s0 mid args below meth c Z hC hZ H locs ls hR hS hl
  exact lv_if_le hC.1 hC.2.1 hd ht (fun h => kt h p l0 e s0 mid args below meth c Z hC hZ H locs ls hR hS hl) (fun h => kf h p l0 e s0 mid args below meth c Z hC hZ H locs ls hR hS hl)
theorem mx_ic_le {x y : Int32} {off : Int} {tgt : Nat} (hd : decode m.2.1 pc = .ok (.if_icmp .le off, 3)) (ht : (pc : Int) + off = (tgt : Int)) (kt : x ≤ y → mx_W G m tgt (s, l, M) Λ cl sl Q) (kf : ¬ x ≤ y → mx_W G m (pc + 3) (s, l, M) Λ cl sl Q) : mx_W G m pc (.int y :: .int x :: s, l, M) Λ cl sl Q := by
  intro p l0 e s0 mid args below meth c Z hC hZ H locs ls hR hS hl
  exact lv_icmp_le hC.1 hC.2.1 hd ht (fun h => kt h p l0 e s0 mid args below meth c Z hC hZ H locs ls hR hS hl) (fun h => kf h p l0 e s0 mid args below meth c Z hC hZ H locs ls hR hS hl)
theorem mx_goto {off : Int} {tgt : Nat} {st : mx_St} (hd : decode m.2.1 pc = .ok (.goto off, 3)) (ht : (pc : Int) + off = (tgt : Int)) (k : mx_W G m tgt st Λ cl sl Q) : mx_W G m pc st Λ cl sl Q := by
  intro p l0 e s0 mid args below meth c Z hC hZ H locs ls hR hS hl
  exact lv_goto hC.1 hC.2.1 hd ht (k p l0 e s0 mid args below meth c Z hC hZ H locs ls hR hS hl)
theorem mx_nI_of {x : Int32} {n : Nat} (hn : n < 2 ^ 31) (h : x.toInt = (n : Int)) : x = nI n := Int32.toInt_inj.mp (by rw [h, nI_toInt hn])
/-- the cases of a table switch, from lo on -/
def mx_tc (G : mx_G) (m : MR) (st : mx_St) (Λ : List mx_K) (cl sl : Nat) (Q : mx_Q) (x : Int32) : List Nat → Nat → Prop
  | [], _ => True
  | t :: ts, lo => (x = nI lo → mx_W G m t st Λ cl sl Q) ∧ mx_tc G m st Λ cl sl Q x ts (lo + 1)
theorem mx_tc_at {st : mx_St} {x : Int32} : ∀ (tg : List Nat) (lo j t : Nat), mx_tc G m st Λ cl sl Q x tg lo → tg[j]? = some t → x = nI (lo + j) → mx_W G m t st Λ cl sl Q
  | [], _, j, t, _, ht, _ => by simp at ht
  | t0 :: ts, lo, j, t, h, ht, hx => by
    cases j with
    | zero =>
      simp only [List.getElem?_cons_zero, Option.some.injEq] at ht
      subst ht
      exact h.1 hx
    | succ j => exact mx_tc_at ts (lo + 1) j t h.2 (by simpa using ht) (by rw [hx]; congr 1; omega)
theorem mx_tsw {x : Int32} {d lo hi : Int} {offs : Array Int} {n lo' dt : Nat} {tg : List Nat} (hd : decode m.2.1 pc = .ok (.tableswitch d lo hi offs, n)) (hdt : (pc : Int) + d = (dt : Int))
    (htg : offs.toList.map (fun o => (pc : Int) + o) = tg.map (fun t : Nat => (t : Int)) ∧ lo = (lo' : Int) ∧ hi < 2 ^ 31 ∧ (hi - lo).toNat < offs.size) (kd : x.toInt < lo ∨ hi < x.toInt → mx_W G m dt (s, l, M) Λ cl sl Q) (kc : mx_tc G m (s, l, M) Λ cl sl Q x tg lo') : mx_W G m pc (.int x :: s, l, M) Λ cl sl Q := by
  obtain ⟨h1, h2, h3, h4⟩ := htg
  intro p l0 e s0 mid args below meth c Z hC hZ H locs ls hR hS hl
  by_cases hout : x.toInt < lo ∨ hi < x.toInt
  · exact lv_tableOut hC.1 hC.2.1 hd hout hdt (kd hout p l0 e s0 mid args below meth c Z hC hZ H locs ls hR hS hl)
  · have a1 : ¬ x.toInt < lo := fun h => hout (Or.inl h)
    have a2 : ¬ hi < x.toInt := fun h => hout (Or.inr h)
    have hlt : (x.toInt - lo).toNat < offs.size := by omega
    have ho : offs[(x.toInt - lo).toNat]? = some offs[(x.toInt - lo).toNat] := Array.getElem?_eq_getElem hlt
    have hm : (offs.toList.map (fun o => (pc : Int) + o))[(x.toInt - lo).toNat]? = some ((pc : Int) + offs[(x.toInt - lo).toNat]) := by
      rw [List.getElem?_map, Array.getElem?_toList, ho]
      rfl
    rw [h1, List.getElem?_map] at hm
    cases ht : tg[(x.toInt - lo).toNat]? with
    | none => rw [ht] at hm; cases hm
    | some t =>
      rw [ht] at hm
      simp only [Option.map_some, Option.some.injEq] at hm
      refine lv_tableIn hC.1 hC.2.1 hd a1 a2 ho hm.symm (mx_tc_at tg lo' _ t kc ht (mx_nI_of (by omega) ?_) p l0 e s0 mid args below meth c Z hC hZ H locs ls hR hS hl)
      omega
theorem mx_lsw {x : Int32} {d : Int} {ps : Array (Int × Int)} {n t : Nat} (hd : decode m.2.1 pc = .ok (.lookupswitch d ps, n)) (hp : (ps.toList.zip (ps.toList.drop 1)).all (fun (a, next) => a.1 < next.1) = true) (ht : (pc : Int) + Op.lookupswitch.offset ps.toList d x.toInt = (t : Int)) (k : mx_W G m t (s, l, M) Λ cl sl Q) : mx_W G m pc (.int x :: s, l, M) Λ cl sl Q := by
  intro p l0 e s0 mid args below meth c Z hC hZ H locs ls hR hS hl
  exact lv_lookup hC.1 hC.2.1 hd hp rfl ht (k p l0 e s0 mid args below meth c Z hC hZ H locs ls hR hS hl)
theorem mx_retI {v : Int32} {ty : FieldType} (hd : decode m.2.1 pc = .ok (.ireturn, 1)) (hr : m.2.2.2.1 = some ty) (hn : narrow ty (.int v) = .int v) (hcl : cl ≤ m.2.2.2.2.cells ∧ sl ≤ m.2.2.2.2.slots) (hQ : Q (some (.int v)) Λ M) : mx_W G m pc ([.int v], l, M) Λ cl sl Q := by
  intro p l0 e s0 mid args below meth c Z hC hZ H locs ls hR hS hl
  exact W.widen hcl.1 hcl.2 (hZ (some (.int v)) Λ M H locs pc ls hQ hR hS (Or.inr (Or.inl ⟨v, ty, rfl, hr, hn, hd⟩)))
theorem mx_retA {k : Nat} {C : String} (hd : decode m.2.1 pc = .ok (.areturn, 1)) (hr : m.2.2.2.1 = some (.object C)) (hcl : cl ≤ m.2.2.2.2.cells ∧ sl ≤ m.2.2.2.2.slots) (hQ : Q (some (.ref k)) Λ M) : mx_W G m pc ([.ref k], l, M) Λ cl sl Q := by
  intro p l0 e s0 mid args below meth c Z hC hZ H locs ls hR hS hl
  exact W.widen hcl.1 hcl.2 (hZ (some (.ref k)) Λ M H locs pc ls hQ hR hS (Or.inr (Or.inr ⟨k, C, rfl, hr, hd⟩)))
theorem mx_retV (hd : decode m.2.1 pc = .ok (.return_, 1)) (hr : m.2.2.2.1 = none) (hcl : cl ≤ m.2.2.2.2.cells ∧ sl ≤ m.2.2.2.2.slots) (hQ : Q none Λ M) : mx_W G m pc ([], l, M) Λ cl sl Q := by
  intro p l0 e s0 mid args below meth c Z hC hZ H locs ls hR hS hl
  exact W.widen hcl.1 hcl.2 (hZ none Λ M H locs pc ls hQ hR hS (Or.inl ⟨rfl, hr, hd⟩))
/-! calls -/
def mx_Pc (G : mx_G) (as : List Value) (Λ : List mx_K) (M : mx_M) : Array Value → State → Prop := fun v U => v = (as.map (mx_ph G)).toArray ∧ mx_R G Λ M U.heap ∧ mx_S G U
def mx_Qc (G : mx_G) (Q : mx_Q) : Array Value → State → Outcome → State → Prop := fun _ st oc t => (∃ r Λ' M', oc = .returned (r.map (mx_ph G)) ∧ Q r Λ' M' ∧ mx_R G Λ' M' t.heap) ∧ va_F (mx_A G) st t
theorem mx_blind (as : List Value) : FrameBlind (mx_Pc G as Λ M) := fun _ U g mk h => ⟨h.1, h.2.1, mx_S.same h.2.2 rfl⟩
theorem mx_after {p : Program} {l0 : Launch} {e : Env} {R : Room} {s0 : State} {mid : MethodId} {args : Array Value} {below : List Frame} {meth : Method} {c : Code} {H : Heap} {locs : List Loc} {mc ms : Nat} {Z : State → Prop} {ls : Array Slot} {st0 rest : List Value} {Q' : mx_Q} {a : Array Value}
    (hr : va_Run p l0 e R s0 mid args below meth c H locs cl sl mc ms (F0 mid pc ls st0) rest (mx_Qc G Q' a) (mx_A G)) (hS : va_S (mx_A G) s0.heap H locs)
    (kk : ∀ (r : Option Value) (Λ' : List mx_K) (M' : mx_M) (H1 : Heap) (locs1 : List Loc), Q' r Λ' M' → mx_R G Λ' M' H1 → va_S (mx_A G) s0.heap H1 locs1 → W p l0 e R s0 mid args below meth c H1 locs1 (cl + mc) (sl + ms) Z (F0 mid (pc + 3) ls (r.toList.map (mx_ph G) ++ rest))) : W p l0 e R s0 mid args below meth c H locs cl sl Z (F0 mid pc ls st0) := by
  intro T hT X
  obtain ⟨v, st₀, t, T', L, h0, X', hL, e1, e2, hq, st⟩ := hr T hT X
  obtain ⟨⟨r, Λ', M', hv, hQ, hR⟩, hF⟩ := hq
  cases hv
  have hS1 : va_S (mx_A G) s0.heap t.heap (locs ++ L) := by
    refine ⟨Nat.le_trans hS.1 (by rw [← h0]; exact hF.1), fun q h1 h2 => ?_, fun q hq => ?_⟩
    · rw [hF.2 q (by rw [h0]; exact Nat.lt_of_lt_of_le h1 hS.1) h2, h0]
      exact hS.2.1 q h1 h2
    · rcases List.mem_append.mp hq with h | h
      · exact hS.2.2 q h
      · exact hL q h
  obtain ⟨t2, a1, b1⟩ := kk r Λ' M' t.heap (locs ++ L) hQ hR hS1 T' e1 X'
  refine ⟨t2, st t2 ?_, b1⟩
  have ev : (r.map (mx_ph G)).toList ++ rest = r.toList.map (mx_ph G) ++ rest := by cases r <;> rfl
  rw [ev]
  exact a1
/-- what the tables must say of a call -/
def mx_cb (m mc : MR) (n : Nat) : Bool := decide (mc.1.cls ≠ "java/lang/invoke/MethodHandle") && decide (mc.1.cls ≠ "java/lang/invoke/VarHandle") && decide ((parseMethodDescriptor mc.1.desc).map (fun d => d.parameters.length) = some n) && decide (mc.2.2.2.2.frames + 1 ≤ m.2.2.2.2.frames) && decide (8 + (mc.2.2.1 + 11) + mc.2.2.2.2.locals ≤ m.2.2.2.2.locals)
def mx_cv (m mc : MR) (idx n : Nat) (ps : List Nat) : Bool := mx_cb m mc n && inTT (ps.getD 0 0) (.methodLink m.1.cls idx mc.1) && inTT (ps.getD 1 0) (.instanceMethod mc.1) && inTT (ps.getD 2 0) (.selects mc.1.cls mc.1 mc.1) && inTT (ps.getD 3 0) (.initialized mc.1.cls) && inTT (ps.getD 4 0) (.code mc.1 mc.2.1 mc.2.2.1 mc.2.2.2.1)
def mx_cs (m mc : MR) (idx n : Nat) (ps : List Nat) : Bool := mx_cb m mc n && inTT (ps.getD 0 0) (.methodLink m.1.cls idx mc.1) && inTT (ps.getD 1 0) (.static mc.1) && inTT (ps.getD 2 0) (.initialized mc.1.cls) && inTT (ps.getD 3 0) (.code mc.1 mc.2.1 mc.2.2.1 mc.2.2.2.1)
theorem mx_cats (s : List Value) : ((s.map (mx_ph G)).map fun v => v.category) = s.map fun v => v.category := by
  simp [Function.comp_def, mx_ph_cat]
theorem mx_callV {mc : MR} {idx n h ci : Nat} {ps : List Nat} {as : List Value} {Q' : mx_Q} (hd : decode m.2.1 pc = .ok (.invokevirtual idx, 3)) (hck : mx_cv m mc idx n ps = true) (hci : (vwCl[ci]?.map (fun q => q.1) = some mc.1.cls)) (hoc : mx_ocl Λ h = ci) (hn : as.length = n) (hll : l.length = m.2.2.1) (hw : (s.map fun v => v.category).sum ≤ 8)
    (hcl : cl + mc.2.2.2.2.cells ≤ m.2.2.2.2.cells ∧ sl + mc.2.2.2.2.slots ≤ m.2.2.2.2.slots) (hOk : mx_Ok G mc (.ref h :: as) Λ M Q') (k : ∀ r Λ' M', Q' r Λ' M' → mx_W G m (pc + 3) (r.toList ++ s, l, M') Λ' (cl + mc.2.2.2.2.cells) (sl + mc.2.2.2.2.slots) Q) : mx_W G m pc (as.reverse ++ .ref h :: s, l, M) Λ cl sl Q := by
  intro p l0 e s0 mid args below meth c Z hC hZ H locs ls hR hS hl
  simp only [mx_cv, mx_cb, Bool.and_eq_true, decide_eq_true_eq] at hck
  obtain ⟨⟨⟨⟨⟨⟨⟨⟨⟨c1, c2⟩, c3⟩, c4⟩, c5⟩, w1⟩, w2⟩, w3⟩, w4⟩, w5⟩ := hck
  cases hq : vwCl[ci]? with
  | none => rw [hq] at hci; cases hci
  | some q =>
    obtain ⟨C, T, N⟩ := q
    rw [hq] at hci
    simp only [Option.map_some, Option.some.injEq] at hci
    have hL := mx_ocl_at (mx_cl_11 hq) hoc
    have hK := hC.2.2.2.2.2.2.2.2.1.1
    have hts := hC.2.2.2.2.1
    have hg : GoodIn TT (wsV m.1.cls idx mc.1.cls mc.1 (mx_ws mc)) := by
      refine mx_good (fun w h => h) (fun w hw => ?_)
      rcases List.mem_append.mp hw with h | h
      · simp only [List.mem_cons, List.not_mem_nil, or_false] at h
        rcases h with rfl | rfl | rfl | rfl
        · exact inTT_mem w1
        · exact inTT_mem w2
        · exact inTT_mem w3
        · exact inTT_mem w4
      · exact mx_ws_sub (inTT_mem w5) w h
    have hrcv := va_recv hK hR.1 hq (mx_w_at (G := G) (M := M) hL)
    dsimp only at hrcv
    rw [hci] at hrcv
    have hsz : ls.size = m.2.2.1 := hl.1.trans hll
    have hr := va_runV (As := as.map (mx_ph G)) (rest := s.map (mx_ph G)) (b := mx_B G + h) (g := F0 mid pc ls ((as.reverse ++ .ref h :: s).map (mx_ph G))) (nL := m.2.2.1) (cells := cl) (slots := sl) (locs := locs) (H := H) (below := below) (meth := meth) (e := e) ⟨hC.1, hC.2.1, hC.2.2.1, hC.2.2.2.1, hts⟩ (hOk l0) (cwV (R := m.2.2.2.2) n hts hg rfl rfl rfl ⟨rfl, c1, c2, c3⟩ ⟨c4, c5⟩) ⟨mx_blind _, hrcv, fun U hU hW => ⟨by simp [mx_ph_ref hR hL], by rw [hU]; exact hR, hC.2.2.2.2.2.2.2.2.1.warm hW⟩⟩ rfl (by simp [hn]) hsz (by simp [mx_ph_ref hR hL]) (lv_room (by rw [mx_cats]; exact hw)) hd hcl
    refine mx_after (Q' := Q') (a := #[]) hr hS (fun r Λ' M' H1 locs1 hQ hR1 hS1 => ?_)
    have h2 := k r Λ' M' hQ p l0 e s0 mid args below meth c Z hC hZ H1 locs1 ls hR1 hS1 hl
    simpa using h2
theorem mx_callS {mc : MR} {idx n : Nat} {ps : List Nat} {as : List Value} {Q' : mx_Q} (hd : decode m.2.1 pc = .ok (.invokestatic idx, 3)) (hck : mx_cs m mc idx n ps = true) (hn : as.length = n) (hll : l.length = m.2.2.1) (hw : (s.map fun v => v.category).sum ≤ 8)
    (hcl : cl + mc.2.2.2.2.cells ≤ m.2.2.2.2.cells ∧ sl + mc.2.2.2.2.slots ≤ m.2.2.2.2.slots) (hOk : mx_Ok G mc as Λ M Q') (k : ∀ r Λ' M', Q' r Λ' M' → mx_W G m (pc + 3) (r.toList ++ s, l, M') Λ' (cl + mc.2.2.2.2.cells) (sl + mc.2.2.2.2.slots) Q) : mx_W G m pc (as.reverse ++ s, l, M) Λ cl sl Q := by
  intro p l0 e s0 mid args below meth c Z hC hZ H locs ls hR hS hl
  simp only [mx_cs, mx_cb, Bool.and_eq_true, decide_eq_true_eq] at hck
  obtain ⟨⟨⟨⟨⟨⟨⟨⟨c1, c2⟩, c3⟩, c4⟩, c5⟩, w1⟩, w2⟩, w3⟩, w4⟩ := hck
  have hts := hC.2.2.2.2.1
  have hg : GoodIn TT (va_wsS m.1.cls idx mc.1 (mx_ws mc)) := by
    refine mx_good (fun w h => h) (fun w hw => ?_)
    rcases List.mem_append.mp hw with h | h
    · simp only [List.mem_cons, List.not_mem_nil, or_false] at h
      rcases h with rfl | rfl | rfl
      · exact inTT_mem w1
      · exact inTT_mem w2
      · exact inTT_mem w3
    · exact mx_ws_sub (inTT_mem w4) w h
  have hsz : ls.size = m.2.2.1 := hl.1.trans hll
  have hr := va_runS (As := as.map (mx_ph G)) (rest := s.map (mx_ph G)) (g := F0 mid pc ls ((as.reverse ++ s).map (mx_ph G))) (nL := m.2.2.1) (cells := cl) (slots := sl) (locs := locs) (H := H) (below := below) (meth := meth) (e := e) ⟨hC.1, hC.2.1, hC.2.2.1, hC.2.2.2.1, hts⟩ (hOk l0) (va_cwS (R := m.2.2.2.2) n hts hg rfl rfl rfl ⟨c1, c2, c3⟩ ⟨c4, c5⟩) ⟨mx_blind _, fun U hU hW => ⟨rfl, by rw [hU]; exact hR, hC.2.2.2.2.2.2.2.2.1.warm hW⟩⟩ rfl (by simp [hn]) hsz (by simp) (lv_room (by rw [mx_cats]; exact hw)) hd hcl
  refine mx_after (Q' := Q') (a := #[]) hr hS (fun r Λ' M' H1 locs1 hQ hR1 hS1 => ?_)
  have h2 := k r Λ' M' hQ p l0 e s0 mid args below meth c Z hC hZ H1 locs1 ls hR1 hS1 hl
  simpa using h2
/-- System.arraycopy between arrays of ints -/
def mx_cp (M : mx_M) (a0 a1 sp dp n : Nat) : mx_M := fun a => if a = a1 then va_cpy (M a0) (M a1) sp dp n else M a
theorem mx_cp_s (M : mx_M) (a0 a1 sp dp n : Nat) : mx_cp M a0 a1 sp dp n a1 = va_cpy (M a0) (M a1) sp dp n := if_pos rfl
theorem mx_cp_n (M : mx_M) {a a1 : Nat} (a0 sp dp n : Nat) (h : a ≠ a1) : mx_cp M a0 a1 sp dp n a = M a := if_neg h
def mx_ca (m : MR) (idx : Nat) (ps : List Nat) : Bool := inTT (ps.getD 0 0) (.methodLink m.1.cls idx arraycopyName) && inTT (ps.getD 1 0) (.native arraycopyName) && inTT (ps.getD 2 0) (.static arraycopyName) && inTT (ps.getD 3 0) (.initialized "java/lang/System") && decide (1 ≤ m.2.2.2.2.frames) && decide (26 ≤ m.2.2.2.2.locals)
theorem mx_copy {idx a0 a1 : Nat} {ps : List Nat} {sp dp n : Int32} (h139 : Λ.length = 139) (hd : decode m.2.1 pc = .ok (.invokestatic idx, 3)) (hck : mx_ca m idx ps = true) (hll : l.length = m.2.2.1) (hw : (s.map fun v => v.category).sum ≤ 8)
    (z0 : mx_len Λ false a0 ≠ 0) (z1 : mx_len Λ false a1 ≠ 0) (h1 : ¬ sp < 0) (h2 : ¬ dp < 0) (h3 : ¬ n < 0) (h4 : sp.toNatClampNeg + n.toNatClampNeg ≤ mx_len Λ false a0) (h5 : dp.toNatClampNeg + n.toNatClampNeg ≤ mx_len Λ false a1)
    (k : mx_W G m (pc + 3) (s, l, mx_cp M a0 a1 sp.toNatClampNeg dp.toNatClampNeg n.toNatClampNeg) Λ cl sl Q) : mx_W G m pc (.int n :: .int dp :: .ref a1 :: .int sp :: .ref a0 :: s, l, M) Λ cl sl Q := by
  intro p l0 e s0 mid args below meth c Z hC hZ H locs ls hR hS hl
  simp only [mx_ca, Bool.and_eq_true, decide_eq_true_eq] at hck
  obtain ⟨⟨⟨⟨⟨w1, w2⟩, w3⟩, w4⟩, c1⟩, c2⟩ := hck
  have hts := hC.2.2.2.2.1
  have hK := hC.2.2.2.2.2.2.2.2.1.1
  have hL0 := mx_len_at0 z0
  have hL1 := mx_len_at0 z1
  show W p l0 e m.2.2.2.2 s0 mid args below meth c H locs cl sl Z (F0 mid pc ls (.int n :: .int dp :: mx_ph G (.ref a1) :: .int sp :: mx_ph G (.ref a0) :: s.map (mx_ph G)))
  rw [mx_ph_ref hR hL0, mx_ph_ref hR hL1]
  refine va_copyi hC.1 hC.2.1 (by rw [hC.2.2.1, hl.1, hll]) hC.2.2.2.1 (hts _ (inTT_mem w1)) (hts _ (inTT_mem w2)) (hts _ (inTT_mem w3)) (hts _ (inTT_mem w4)) hK hR.1 (mx_w_D G Λ M) hS a0 a1 0 0 (mx_w_at hL0) (mx_w_at hL1) rfl rfl rfl h1 h2 h3 h4 h5 (fun _ _ => rfl) c1 ?_ hd (fun H1 locs1 hP1 hD1 hS1 => ?_)
  · rw [mx_cats]
    have : nativeFrameWords "java/lang/System" "arraycopy" 5 = 7 := by decide +kernel
    omega
  · have e4 : mx_w G Λ (mx_cp M a0 a1 sp.toNatClampNeg dp.toNatClampNeg n.toNatClampNeg) = (mx_w G Λ M).set a1 (mx_B G + a1, .inl (mx_cI G, mx_len Λ false a1, .inl (va_cpy (M a0) (M a1) sp.toNatClampNeg dp.toNatClampNeg n.toNatClampNeg))) := by
      rw [mx_w_set hL1 (fun b hb => mx_cp_n M _ _ _ _ hb)]
      simp [mx_e, mx_cp_s]
    have hlt := (hR.lt hL1).1
    refine k p l0 e s0 mid args below meth c Z hC hZ H1 locs1 ls ⟨by rw [e4]; exact hP1, fun h => by omega, hR.2.2.1, fun q hq hq2 i => ?_, ?_⟩ hS1 hl
    · show mx_cp M _ _ _ _ _ q i = 0
      rw [mx_cp_n M _ _ _ _ (by omega)]
      exact hR.2.2.2.1 q hq hq2 i
    · have := hR.2.2.1
      show mx_cp M _ _ _ _ _ 1000 = mx_xs G
      rw [mx_cp_n M _ _ _ _ (by omega)]
      exact hR.2.2.2.2
end MXB
end
