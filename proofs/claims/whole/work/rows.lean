section
/-- (for the rounds alone: the whole library is read) -/
theorem mx_wide (a b : Int) (h : a < b) : compare a b = .lt := (Jvm.FP.Core.compare_lt_iff a b).mpr h
end
section
-- ===== PART A: goes FIRST, ahead of the names: the tables' words, and 'selects' of the private methods out of them =====
/-- a private method of a class that the tables say can be made, by its rows of tables_1 -/
def lw_okq (q : MethodName × Nat) : Prop := (q.1.cls ≠ "java/lang/invoke/MethodHandle" ∧ q.1.cls ≠ "java/lang/invoke/VarHandle") ∧ Cond.instantiable q.1.cls q.2 ∈ tables_1 ∧ Cond.privateMethod q.1 ∈ tables_1 ∧ Cond.instanceMethod q.1 ∈ tables_1
theorem lw_p0 : lw_okq (⟨"TypeSets$Rows", "isPlace", "(III)Z"⟩, 3) := ⟨⟨by decide +kernel, by decide +kernel⟩, List.mem_of_getElem? (i := 24) (by decide +kernel), List.mem_of_getElem? (i := 365) (by decide +kernel), List.mem_of_getElem? (i := 366) (by decide +kernel)⟩
theorem lw_p1 : lw_okq (⟨"TypeSets$Tape", "takesSign", "(I)Z"⟩, 7) := ⟨⟨by decide +kernel, by decide +kernel⟩, List.mem_of_getElem? (i := 44) (by decide +kernel), List.mem_of_getElem? (i := 413) (by decide +kernel), List.mem_of_getElem? (i := 414) (by decide +kernel)⟩
theorem lw_p2 : lw_okq (⟨"TypeSets$Tape", "step", "()V"⟩, 7) := ⟨⟨by decide +kernel, by decide +kernel⟩, List.mem_of_getElem? (i := 44) (by decide +kernel), List.mem_of_getElem? (i := 417) (by decide +kernel), List.mem_of_getElem? (i := 418) (by decide +kernel)⟩
theorem lw_p3 : lw_okq (⟨"TypeSets$Tape", "fails", "(I)Z"⟩, 7) := ⟨⟨by decide +kernel, by decide +kernel⟩, List.mem_of_getElem? (i := 44) (by decide +kernel), List.mem_of_getElem? (i := 424) (by decide +kernel), List.mem_of_getElem? (i := 425) (by decide +kernel)⟩
theorem lw_p4 : lw_okq (⟨"TypeSets$Tape", "takesNumber", "(II)Z"⟩, 7) := ⟨⟨by decide +kernel, by decide +kernel⟩, List.mem_of_getElem? (i := 44) (by decide +kernel), List.mem_of_getElem? (i := 428) (by decide +kernel), List.mem_of_getElem? (i := 429) (by decide +kernel)⟩
theorem lw_p5 : lw_okq (⟨"TypeSets$Tape", "readTypes", "(LTypeSets$House;)Z"⟩, 7) := ⟨⟨by decide +kernel, by decide +kernel⟩, List.mem_of_getElem? (i := 44) (by decide +kernel), List.mem_of_getElem? (i := 432) (by decide +kernel), List.mem_of_getElem? (i := 433) (by decide +kernel)⟩
theorem lw_p6 : lw_okq (⟨"TypeSets$Tape", "readEquation", "(LTypeSets$House;II)Z"⟩, 7) := ⟨⟨by decide +kernel, by decide +kernel⟩, List.mem_of_getElem? (i := 44) (by decide +kernel), List.mem_of_getElem? (i := 451) (by decide +kernel), List.mem_of_getElem? (i := 452) (by decide +kernel)⟩
theorem lw_p7 : lw_okq (⟨"TypeSets", "standIn", "(LTypeSets$House;)V"⟩, 14) := ⟨⟨by decide +kernel, by decide +kernel⟩, List.mem_of_getElem? (i := 16) (by decide +kernel), List.mem_of_getElem? (i := 463) (by decide +kernel), List.mem_of_getElem? (i := 464) (by decide +kernel)⟩
theorem lw_p8 : lw_okq (⟨"TypeSets", "forgetWhatStood", "()V"⟩, 14) := ⟨⟨by decide +kernel, by decide +kernel⟩, List.mem_of_getElem? (i := 16) (by decide +kernel), List.mem_of_getElem? (i := 472) (by decide +kernel), List.mem_of_getElem? (i := 473) (by decide +kernel)⟩
theorem lw_p9 : lw_okq (⟨"TypeSets$Acts", "forgetOldest", "()V"⟩, 5) := ⟨⟨by decide +kernel, by decide +kernel⟩, List.mem_of_getElem? (i := 113) (by decide +kernel), List.mem_of_getElem? (i := 499) (by decide +kernel), List.mem_of_getElem? (i := 500) (by decide +kernel)⟩
theorem lw_p10 : lw_okq (⟨"TypeSets", "cellsNow", "()LTypeSets$Cells;"⟩, 14) := ⟨⟨by decide +kernel, by decide +kernel⟩, List.mem_of_getElem? (i := 16) (by decide +kernel), List.mem_of_getElem? (i := 526) (by decide +kernel), List.mem_of_getElem? (i := 527) (by decide +kernel)⟩
theorem lw_p11 : lw_okq (⟨"TypeSets$Cells", "begin", "(LTypeSets$House;)V"⟩, 16) := ⟨⟨by decide +kernel, by decide +kernel⟩, List.mem_of_getElem? (i := 136) (by decide +kernel), List.mem_of_getElem? (i := 534) (by decide +kernel), List.mem_of_getElem? (i := 535) (by decide +kernel)⟩
theorem lw_p12 : lw_okq (⟨"TypeSets$Cells", "addFunction", "(II)V"⟩, 16) := ⟨⟨by decide +kernel, by decide +kernel⟩, List.mem_of_getElem? (i := 136) (by decide +kernel), List.mem_of_getElem? (i := 565) (by decide +kernel), List.mem_of_getElem? (i := 566) (by decide +kernel)⟩
theorem lw_p13 : lw_okq (⟨"TypeSets$Cells", "addPairs", "(III)V"⟩, 16) := ⟨⟨by decide +kernel, by decide +kernel⟩, List.mem_of_getElem? (i := 136) (by decide +kernel), List.mem_of_getElem? (i := 583) (by decide +kernel), List.mem_of_getElem? (i := 584) (by decide +kernel)⟩
theorem lw_p14 : lw_okq (⟨"TypeSets$Cells", "addPair", "(II)V"⟩, 16) := ⟨⟨by decide +kernel, by decide +kernel⟩, List.mem_of_getElem? (i := 136) (by decide +kernel), List.mem_of_getElem? (i := 587) (by decide +kernel), List.mem_of_getElem? (i := 588) (by decide +kernel)⟩
theorem lw_p15 : lw_okq (⟨"TypeSets$Cells", "addCases", "(III)V"⟩, 16) := ⟨⟨by decide +kernel, by decide +kernel⟩, List.mem_of_getElem? (i := 136) (by decide +kernel), List.mem_of_getElem? (i := 591) (by decide +kernel), List.mem_of_getElem? (i := 592) (by decide +kernel)⟩
def lw_privs_1 : List (MethodName × Nat) := [(⟨"TypeSets$Rows", "isPlace", "(III)Z"⟩, 3), (⟨"TypeSets$Tape", "takesSign", "(I)Z"⟩, 7), (⟨"TypeSets$Tape", "step", "()V"⟩, 7), (⟨"TypeSets$Tape", "fails", "(I)Z"⟩, 7), (⟨"TypeSets$Tape", "takesNumber", "(II)Z"⟩, 7), (⟨"TypeSets$Tape", "readTypes", "(LTypeSets$House;)Z"⟩, 7), (⟨"TypeSets$Tape", "readEquation", "(LTypeSets$House;II)Z"⟩, 7), (⟨"TypeSets", "standIn", "(LTypeSets$House;)V"⟩, 14), (⟨"TypeSets", "forgetWhatStood", "()V"⟩, 14), (⟨"TypeSets$Acts", "forgetOldest", "()V"⟩, 5), (⟨"TypeSets", "cellsNow", "()LTypeSets$Cells;"⟩, 14), (⟨"TypeSets$Cells", "begin", "(LTypeSets$House;)V"⟩, 16), (⟨"TypeSets$Cells", "addFunction", "(II)V"⟩, 16), (⟨"TypeSets$Cells", "addPairs", "(III)V"⟩, 16), (⟨"TypeSets$Cells", "addPair", "(II)V"⟩, 16), (⟨"TypeSets$Cells", "addCases", "(III)V"⟩, 16)]
theorem lw_r1 : ∀ q ∈ lw_privs_1, lw_okq q := List.forall_mem_cons.mpr ⟨lw_p0, List.forall_mem_cons.mpr ⟨lw_p1, List.forall_mem_cons.mpr ⟨lw_p2, List.forall_mem_cons.mpr ⟨lw_p3, List.forall_mem_cons.mpr ⟨lw_p4, List.forall_mem_cons.mpr ⟨lw_p5, List.forall_mem_cons.mpr ⟨lw_p6, List.forall_mem_cons.mpr ⟨lw_p7, List.forall_mem_cons.mpr ⟨lw_p8, List.forall_mem_cons.mpr ⟨lw_p9, List.forall_mem_cons.mpr ⟨lw_p10, List.forall_mem_cons.mpr ⟨lw_p11, List.forall_mem_cons.mpr ⟨lw_p12, List.forall_mem_cons.mpr ⟨lw_p13, List.forall_mem_cons.mpr ⟨lw_p14, List.forall_mem_cons.mpr ⟨lw_p15, fun _ h => absurd h List.not_mem_nil⟩⟩⟩⟩⟩⟩⟩⟩⟩⟩⟩⟩⟩⟩⟩⟩
theorem lw_p16 : lw_okq (⟨"TypeSets$Cells", "addCase", "(II)V"⟩, 16) := ⟨⟨by decide +kernel, by decide +kernel⟩, List.mem_of_getElem? (i := 136) (by decide +kernel), List.mem_of_getElem? (i := 595) (by decide +kernel), List.mem_of_getElem? (i := 596) (by decide +kernel)⟩
theorem lw_p17 : lw_okq (⟨"TypeSets$Cells", "relate", "()V"⟩, 16) := ⟨⟨by decide +kernel, by decide +kernel⟩, List.mem_of_getElem? (i := 136) (by decide +kernel), List.mem_of_getElem? (i := 599) (by decide +kernel), List.mem_of_getElem? (i := 600) (by decide +kernel)⟩
theorem lw_p18 : lw_okq (⟨"TypeSets$Cells", "openFor", "(I)V"⟩, 16) := ⟨⟨by decide +kernel, by decide +kernel⟩, List.mem_of_getElem? (i := 136) (by decide +kernel), List.mem_of_getElem? (i := 646) (by decide +kernel), List.mem_of_getElem? (i := 647) (by decide +kernel)⟩
theorem lw_p19 : lw_okq (⟨"TypeSets$Cells", "holdingAnswersFrom", "(I)I"⟩, 16) := ⟨⟨by decide +kernel, by decide +kernel⟩, List.mem_of_getElem? (i := 136) (by decide +kernel), List.mem_of_getElem? (i := 650) (by decide +kernel), List.mem_of_getElem? (i := 651) (by decide +kernel)⟩
theorem lw_p20 : lw_okq (⟨"TypeSets$Cells", "pairsInto", "(IILTypeSets$Sets;)Z"⟩, 16) := ⟨⟨by decide +kernel, by decide +kernel⟩, List.mem_of_getElem? (i := 136) (by decide +kernel), List.mem_of_getElem? (i := 670) (by decide +kernel), List.mem_of_getElem? (i := 671) (by decide +kernel)⟩
theorem lw_p21 : lw_okq (⟨"TypeSets", "plainNow", "()LTypeSets$PlainValues;"⟩, 14) := ⟨⟨by decide +kernel, by decide +kernel⟩, List.mem_of_getElem? (i := 16) (by decide +kernel), List.mem_of_getElem? (i := 678) (by decide +kernel), List.mem_of_getElem? (i := 679) (by decide +kernel)⟩
theorem lw_p22 : lw_okq (⟨"TypeSets$PlainValues", "pairUp", "(LTypeSets$House;)V"⟩, 6) := ⟨⟨by decide +kernel, by decide +kernel⟩, List.mem_of_getElem? (i := 244) (by decide +kernel), List.mem_of_getElem? (i := 688) (by decide +kernel), List.mem_of_getElem? (i := 689) (by decide +kernel)⟩
theorem lw_p23 : lw_okq (⟨"TypeSets$PlainValues", "sumUp", "(I)V"⟩, 6) := ⟨⟨by decide +kernel, by decide +kernel⟩, List.mem_of_getElem? (i := 244) (by decide +kernel), List.mem_of_getElem? (i := 701) (by decide +kernel), List.mem_of_getElem? (i := 702) (by decide +kernel)⟩
theorem lw_p24 : lw_okq (⟨"TypeSets", "fits", "(IIIII)Z"⟩, 14) := ⟨⟨by decide +kernel, by decide +kernel⟩, List.mem_of_getElem? (i := 16) (by decide +kernel), List.mem_of_getElem? (i := 728) (by decide +kernel), List.mem_of_getElem? (i := 729) (by decide +kernel)⟩
theorem lw_p25 : lw_okq (⟨"TypeSets", "drawEquation", "(J)V"⟩, 14) := ⟨⟨by decide +kernel, by decide +kernel⟩, List.mem_of_getElem? (i := 16) (by decide +kernel), List.mem_of_getElem? (i := 739) (by decide +kernel), List.mem_of_getElem? (i := 740) (by decide +kernel)⟩
theorem lw_p26 : lw_okq (⟨"TypeSets", "imageOf", "(I)LTypeSets$House;"⟩, 14) := ⟨⟨by decide +kernel, by decide +kernel⟩, List.mem_of_getElem? (i := 16) (by decide +kernel), List.mem_of_getElem? (i := 757) (by decide +kernel), List.mem_of_getElem? (i := 758) (by decide +kernel)⟩
theorem lw_p27 : lw_okq (⟨"TypeSets$Asks", "body12", "()I"⟩, 6) := ⟨⟨by decide +kernel, by decide +kernel⟩, List.mem_of_getElem? (i := 271) (by decide +kernel), List.mem_of_getElem? (i := 793) (by decide +kernel), List.mem_of_getElem? (i := 794) (by decide +kernel)⟩
theorem lw_p28 : lw_okq (⟨"TypeSets$Asks", "leave", "(I)V"⟩, 6) := ⟨⟨by decide +kernel, by decide +kernel⟩, List.mem_of_getElem? (i := 271) (by decide +kernel), List.mem_of_getElem? (i := 797) (by decide +kernel), List.mem_of_getElem? (i := 798) (by decide +kernel)⟩
theorem lw_p29 : lw_okq (⟨"TypeSets$Asks", "body11", "()I"⟩, 6) := ⟨⟨by decide +kernel, by decide +kernel⟩, List.mem_of_getElem? (i := 271) (by decide +kernel), List.mem_of_getElem? (i := 801) (by decide +kernel), List.mem_of_getElem? (i := 802) (by decide +kernel)⟩
theorem lw_p30 : lw_okq (⟨"TypeSets$Asks", "body10", "()I"⟩, 6) := ⟨⟨by decide +kernel, by decide +kernel⟩, List.mem_of_getElem? (i := 271) (by decide +kernel), List.mem_of_getElem? (i := 805) (by decide +kernel), List.mem_of_getElem? (i := 806) (by decide +kernel)⟩
theorem lw_p31 : lw_okq (⟨"TypeSets$Asks", "markOfJoint", "()I"⟩, 6) := ⟨⟨by decide +kernel, by decide +kernel⟩, List.mem_of_getElem? (i := 271) (by decide +kernel), List.mem_of_getElem? (i := 809) (by decide +kernel), List.mem_of_getElem? (i := 810) (by decide +kernel)⟩
def lw_privs_2 : List (MethodName × Nat) := [(⟨"TypeSets$Cells", "addCase", "(II)V"⟩, 16), (⟨"TypeSets$Cells", "relate", "()V"⟩, 16), (⟨"TypeSets$Cells", "openFor", "(I)V"⟩, 16), (⟨"TypeSets$Cells", "holdingAnswersFrom", "(I)I"⟩, 16), (⟨"TypeSets$Cells", "pairsInto", "(IILTypeSets$Sets;)Z"⟩, 16), (⟨"TypeSets", "plainNow", "()LTypeSets$PlainValues;"⟩, 14), (⟨"TypeSets$PlainValues", "pairUp", "(LTypeSets$House;)V"⟩, 6), (⟨"TypeSets$PlainValues", "sumUp", "(I)V"⟩, 6), (⟨"TypeSets", "fits", "(IIIII)Z"⟩, 14), (⟨"TypeSets", "drawEquation", "(J)V"⟩, 14), (⟨"TypeSets", "imageOf", "(I)LTypeSets$House;"⟩, 14), (⟨"TypeSets$Asks", "body12", "()I"⟩, 6), (⟨"TypeSets$Asks", "leave", "(I)V"⟩, 6), (⟨"TypeSets$Asks", "body11", "()I"⟩, 6), (⟨"TypeSets$Asks", "body10", "()I"⟩, 6), (⟨"TypeSets$Asks", "markOfJoint", "()I"⟩, 6)]
theorem lw_r2 : ∀ q ∈ lw_privs_2, lw_okq q := List.forall_mem_cons.mpr ⟨lw_p16, List.forall_mem_cons.mpr ⟨lw_p17, List.forall_mem_cons.mpr ⟨lw_p18, List.forall_mem_cons.mpr ⟨lw_p19, List.forall_mem_cons.mpr ⟨lw_p20, List.forall_mem_cons.mpr ⟨lw_p21, List.forall_mem_cons.mpr ⟨lw_p22, List.forall_mem_cons.mpr ⟨lw_p23, List.forall_mem_cons.mpr ⟨lw_p24, List.forall_mem_cons.mpr ⟨lw_p25, List.forall_mem_cons.mpr ⟨lw_p26, List.forall_mem_cons.mpr ⟨lw_p27, List.forall_mem_cons.mpr ⟨lw_p28, List.forall_mem_cons.mpr ⟨lw_p29, List.forall_mem_cons.mpr ⟨lw_p30, List.forall_mem_cons.mpr ⟨lw_p31, fun _ h => absurd h List.not_mem_nil⟩⟩⟩⟩⟩⟩⟩⟩⟩⟩⟩⟩⟩⟩⟩⟩
theorem lw_p32 : lw_okq (⟨"TypeSets$Asks", "body24", "()I"⟩, 6) := ⟨⟨by decide +kernel, by decide +kernel⟩, List.mem_of_getElem? (i := 271) (by decide +kernel), List.mem_of_getElem? (i := 813) (by decide +kernel), List.mem_of_getElem? (i := 814) (by decide +kernel)⟩
theorem lw_p33 : lw_okq (⟨"TypeSets$Asks", "body21", "()I"⟩, 6) := ⟨⟨by decide +kernel, by decide +kernel⟩, List.mem_of_getElem? (i := 271) (by decide +kernel), List.mem_of_getElem? (i := 817) (by decide +kernel), List.mem_of_getElem? (i := 818) (by decide +kernel)⟩
theorem lw_p34 : lw_okq (⟨"TypeSets$Asks", "body20", "()I"⟩, 6) := ⟨⟨by decide +kernel, by decide +kernel⟩, List.mem_of_getElem? (i := 271) (by decide +kernel), List.mem_of_getElem? (i := 821) (by decide +kernel), List.mem_of_getElem? (i := 822) (by decide +kernel)⟩
theorem lw_p35 : lw_okq (⟨"TypeSets$Asks", "body22", "()I"⟩, 6) := ⟨⟨by decide +kernel, by decide +kernel⟩, List.mem_of_getElem? (i := 271) (by decide +kernel), List.mem_of_getElem? (i := 825) (by decide +kernel), List.mem_of_getElem? (i := 826) (by decide +kernel)⟩
theorem lw_p36 : lw_okq (⟨"TypeSets$Asks", "sizeOfPairs", "()I"⟩, 6) := ⟨⟨by decide +kernel, by decide +kernel⟩, List.mem_of_getElem? (i := 271) (by decide +kernel), List.mem_of_getElem? (i := 829) (by decide +kernel), List.mem_of_getElem? (i := 830) (by decide +kernel)⟩
theorem lw_p37 : lw_okq (⟨"TypeSets$Asks", "body14", "()I"⟩, 6) := ⟨⟨by decide +kernel, by decide +kernel⟩, List.mem_of_getElem? (i := 271) (by decide +kernel), List.mem_of_getElem? (i := 833) (by decide +kernel), List.mem_of_getElem? (i := 834) (by decide +kernel)⟩
theorem lw_p38 : lw_okq (⟨"TypeSets$Asks", "body13", "()I"⟩, 6) := ⟨⟨by decide +kernel, by decide +kernel⟩, List.mem_of_getElem? (i := 271) (by decide +kernel), List.mem_of_getElem? (i := 837) (by decide +kernel), List.mem_of_getElem? (i := 838) (by decide +kernel)⟩
theorem lw_p39 : lw_okq (⟨"TypeSets$Asks", "body23", "()I"⟩, 6) := ⟨⟨by decide +kernel, by decide +kernel⟩, List.mem_of_getElem? (i := 271) (by decide +kernel), List.mem_of_getElem? (i := 845) (by decide +kernel), List.mem_of_getElem? (i := 846) (by decide +kernel)⟩
theorem lw_p40 : lw_okq (⟨"TypeSetsModel", "finding", "(I)I"⟩, 32) := ⟨⟨by decide +kernel, by decide +kernel⟩, List.mem_of_getElem? (i := 866) (by decide +kernel), List.mem_of_getElem? (i := 983) (by decide +kernel), List.mem_of_getElem? (i := 984) (by decide +kernel)⟩
theorem lw_p41 : lw_okq (⟨"TypeSetsModel", "begin", "()V"⟩, 32) := ⟨⟨by decide +kernel, by decide +kernel⟩, List.mem_of_getElem? (i := 866) (by decide +kernel), List.mem_of_getElem? (i := 1014) (by decide +kernel), List.mem_of_getElem? (i := 1015) (by decide +kernel)⟩
theorem lw_p42 : lw_okq (⟨"TypeSetsModel", "nextToken", "()V"⟩, 32) := ⟨⟨by decide +kernel, by decide +kernel⟩, List.mem_of_getElem? (i := 866) (by decide +kernel), List.mem_of_getElem? (i := 1018) (by decide +kernel), List.mem_of_getElem? (i := 1019) (by decide +kernel)⟩
theorem lw_p43 : lw_okq (⟨"TypeSetsModel", "isLetter", "(I)Z"⟩, 32) := ⟨⟨by decide +kernel, by decide +kernel⟩, List.mem_of_getElem? (i := 866) (by decide +kernel), List.mem_of_getElem? (i := 1027) (by decide +kernel), List.mem_of_getElem? (i := 1028) (by decide +kernel)⟩
theorem lw_p44 : lw_okq (⟨"TypeSetsModel", "must", "(Z)V"⟩, 32) := ⟨⟨by decide +kernel, by decide +kernel⟩, List.mem_of_getElem? (i := 866) (by decide +kernel), List.mem_of_getElem? (i := 1031) (by decide +kernel), List.mem_of_getElem? (i := 1032) (by decide +kernel)⟩
theorem lw_p45 : lw_okq (⟨"TypeSetsModel", "bad", "(I)V"⟩, 32) := ⟨⟨by decide +kernel, by decide +kernel⟩, List.mem_of_getElem? (i := 866) (by decide +kernel), List.mem_of_getElem? (i := 1035) (by decide +kernel), List.mem_of_getElem? (i := 1036) (by decide +kernel)⟩
theorem lw_p46 : lw_okq (⟨"TypeSetsModel", "number", "(II)I"⟩, 32) := ⟨⟨by decide +kernel, by decide +kernel⟩, List.mem_of_getElem? (i := 866) (by decide +kernel), List.mem_of_getElem? (i := 1039) (by decide +kernel), List.mem_of_getElem? (i := 1040) (by decide +kernel)⟩
theorem lw_p47 : lw_okq (⟨"TypeSetsModel", "mustSign", "(I)V"⟩, 32) := ⟨⟨by decide +kernel, by decide +kernel⟩, List.mem_of_getElem? (i := 866) (by decide +kernel), List.mem_of_getElem? (i := 1043) (by decide +kernel), List.mem_of_getElem? (i := 1044) (by decide +kernel)⟩
def lw_privs_3 : List (MethodName × Nat) := [(⟨"TypeSets$Asks", "body24", "()I"⟩, 6), (⟨"TypeSets$Asks", "body21", "()I"⟩, 6), (⟨"TypeSets$Asks", "body20", "()I"⟩, 6), (⟨"TypeSets$Asks", "body22", "()I"⟩, 6), (⟨"TypeSets$Asks", "sizeOfPairs", "()I"⟩, 6), (⟨"TypeSets$Asks", "body14", "()I"⟩, 6), (⟨"TypeSets$Asks", "body13", "()I"⟩, 6), (⟨"TypeSets$Asks", "body23", "()I"⟩, 6), (⟨"TypeSetsModel", "finding", "(I)I"⟩, 32), (⟨"TypeSetsModel", "begin", "()V"⟩, 32), (⟨"TypeSetsModel", "nextToken", "()V"⟩, 32), (⟨"TypeSetsModel", "isLetter", "(I)Z"⟩, 32), (⟨"TypeSetsModel", "must", "(Z)V"⟩, 32), (⟨"TypeSetsModel", "bad", "(I)V"⟩, 32), (⟨"TypeSetsModel", "number", "(II)I"⟩, 32), (⟨"TypeSetsModel", "mustSign", "(I)V"⟩, 32)]
theorem lw_r3 : ∀ q ∈ lw_privs_3, lw_okq q := List.forall_mem_cons.mpr ⟨lw_p32, List.forall_mem_cons.mpr ⟨lw_p33, List.forall_mem_cons.mpr ⟨lw_p34, List.forall_mem_cons.mpr ⟨lw_p35, List.forall_mem_cons.mpr ⟨lw_p36, List.forall_mem_cons.mpr ⟨lw_p37, List.forall_mem_cons.mpr ⟨lw_p38, List.forall_mem_cons.mpr ⟨lw_p39, List.forall_mem_cons.mpr ⟨lw_p40, List.forall_mem_cons.mpr ⟨lw_p41, List.forall_mem_cons.mpr ⟨lw_p42, List.forall_mem_cons.mpr ⟨lw_p43, List.forall_mem_cons.mpr ⟨lw_p44, List.forall_mem_cons.mpr ⟨lw_p45, List.forall_mem_cons.mpr ⟨lw_p46, List.forall_mem_cons.mpr ⟨lw_p47, fun _ h => absurd h List.not_mem_nil⟩⟩⟩⟩⟩⟩⟩⟩⟩⟩⟩⟩⟩⟩⟩⟩
theorem lw_p48 : lw_okq (⟨"TypeSetsModel", "isSort", "()Z"⟩, 32) := ⟨⟨by decide +kernel, by decide +kernel⟩, List.mem_of_getElem? (i := 866) (by decide +kernel), List.mem_of_getElem? (i := 1047) (by decide +kernel), List.mem_of_getElem? (i := 1048) (by decide +kernel)⟩
theorem lw_p49 : lw_okq (⟨"TypeSetsModel", "readType", "()V"⟩, 32) := ⟨⟨by decide +kernel, by decide +kernel⟩, List.mem_of_getElem? (i := 866) (by decide +kernel), List.mem_of_getElem? (i := 1054) (by decide +kernel), List.mem_of_getElem? (i := 1055) (by decide +kernel)⟩
theorem lw_p50 : lw_okq (⟨"TypeSetsModel", "areNamed", "()Z"⟩, 32) := ⟨⟨by decide +kernel, by decide +kernel⟩, List.mem_of_getElem? (i := 866) (by decide +kernel), List.mem_of_getElem? (i := 1058) (by decide +kernel), List.mem_of_getElem? (i := 1059) (by decide +kernel)⟩
theorem lw_p51 : lw_okq (⟨"TypeSetsModel", "failed", "()Z"⟩, 32) := ⟨⟨by decide +kernel, by decide +kernel⟩, List.mem_of_getElem? (i := 866) (by decide +kernel), List.mem_of_getElem? (i := 1062) (by decide +kernel), List.mem_of_getElem? (i := 1063) (by decide +kernel)⟩
theorem lw_p52 : lw_okq (⟨"TypeSetsModel", "isType", "(I)Z"⟩, 32) := ⟨⟨by decide +kernel, by decide +kernel⟩, List.mem_of_getElem? (i := 866) (by decide +kernel), List.mem_of_getElem? (i := 1071) (by decide +kernel), List.mem_of_getElem? (i := 1072) (by decide +kernel)⟩
theorem lw_p53 : lw_okq (⟨"TypeSetsModel", "keep", "()V"⟩, 32) := ⟨⟨by decide +kernel, by decide +kernel⟩, List.mem_of_getElem? (i := 866) (by decide +kernel), List.mem_of_getElem? (i := 1079) (by decide +kernel), List.mem_of_getElem? (i := 1080) (by decide +kernel)⟩
theorem lw_p54 : lw_okq (⟨"TypeSetsModel", "isThere", "()Z"⟩, 32) := ⟨⟨by decide +kernel, by decide +kernel⟩, List.mem_of_getElem? (i := 866) (by decide +kernel), List.mem_of_getElem? (i := 1099) (by decide +kernel), List.mem_of_getElem? (i := 1100) (by decide +kernel)⟩
theorem lw_p55 : lw_okq (⟨"TypeSetsModel", "isSet", "(I)Z"⟩, 32) := ⟨⟨by decide +kernel, by decide +kernel⟩, List.mem_of_getElem? (i := 866) (by decide +kernel), List.mem_of_getElem? (i := 1103) (by decide +kernel), List.mem_of_getElem? (i := 1104) (by decide +kernel)⟩
theorem lw_p56 : lw_okq (⟨"TypeSetsModel", "reckon", "([I)V"⟩, 32) := ⟨⟨by decide +kernel, by decide +kernel⟩, List.mem_of_getElem? (i := 866) (by decide +kernel), List.mem_of_getElem? (i := 1107) (by decide +kernel), List.mem_of_getElem? (i := 1108) (by decide +kernel)⟩
theorem lw_p57 : lw_okq (⟨"TypeSetsModel", "isKnown", "([I)Z"⟩, 32) := ⟨⟨by decide +kernel, by decide +kernel⟩, List.mem_of_getElem? (i := 866) (by decide +kernel), List.mem_of_getElem? (i := 1111) (by decide +kernel), List.mem_of_getElem? (i := 1112) (by decide +kernel)⟩
theorem lw_p58 : lw_okq (⟨"TypeSetsModel", "comes", "(III)V"⟩, 32) := ⟨⟨by decide +kernel, by decide +kernel⟩, List.mem_of_getElem? (i := 866) (by decide +kernel), List.mem_of_getElem? (i := 1124) (by decide +kernel), List.mem_of_getElem? (i := 1125) (by decide +kernel)⟩
theorem lw_p59 : lw_okq (⟨"TypeSetsModel", "gather", "()V"⟩, 32) := ⟨⟨by decide +kernel, by decide +kernel⟩, List.mem_of_getElem? (i := 866) (by decide +kernel), List.mem_of_getElem? (i := 1131) (by decide +kernel), List.mem_of_getElem? (i := 1132) (by decide +kernel)⟩
theorem lw_p60 : lw_okq (⟨"TypeSetsModel", "goOn", "([III)V"⟩, 32) := ⟨⟨by decide +kernel, by decide +kernel⟩, List.mem_of_getElem? (i := 866) (by decide +kernel), List.mem_of_getElem? (i := 1135) (by decide +kernel), List.mem_of_getElem? (i := 1136) (by decide +kernel)⟩
theorem lw_p61 : lw_okq (⟨"TypeSetsModel", "join", "()V"⟩, 32) := ⟨⟨by decide +kernel, by decide +kernel⟩, List.mem_of_getElem? (i := 866) (by decide +kernel), List.mem_of_getElem? (i := 1145) (by decide +kernel), List.mem_of_getElem? (i := 1146) (by decide +kernel)⟩
theorem lw_p62 : lw_okq (⟨"TypeSetsModel", "liesIn", "(II)Z"⟩, 32) := ⟨⟨by decide +kernel, by decide +kernel⟩, List.mem_of_getElem? (i := 866) (by decide +kernel), List.mem_of_getElem? (i := 1153) (by decide +kernel), List.mem_of_getElem? (i := 1154) (by decide +kernel)⟩
theorem lw_p63 : lw_okq (⟨"TypeSetsModel", "areApart", "(II)Z"⟩, 32) := ⟨⟨by decide +kernel, by decide +kernel⟩, List.mem_of_getElem? (i := 866) (by decide +kernel), List.mem_of_getElem? (i := 1161) (by decide +kernel), List.mem_of_getElem? (i := 1162) (by decide +kernel)⟩
def lw_privs_4 : List (MethodName × Nat) := [(⟨"TypeSetsModel", "isSort", "()Z"⟩, 32), (⟨"TypeSetsModel", "readType", "()V"⟩, 32), (⟨"TypeSetsModel", "areNamed", "()Z"⟩, 32), (⟨"TypeSetsModel", "failed", "()Z"⟩, 32), (⟨"TypeSetsModel", "isType", "(I)Z"⟩, 32), (⟨"TypeSetsModel", "keep", "()V"⟩, 32), (⟨"TypeSetsModel", "isThere", "()Z"⟩, 32), (⟨"TypeSetsModel", "isSet", "(I)Z"⟩, 32), (⟨"TypeSetsModel", "reckon", "([I)V"⟩, 32), (⟨"TypeSetsModel", "isKnown", "([I)Z"⟩, 32), (⟨"TypeSetsModel", "comes", "(III)V"⟩, 32), (⟨"TypeSetsModel", "gather", "()V"⟩, 32), (⟨"TypeSetsModel", "goOn", "([III)V"⟩, 32), (⟨"TypeSetsModel", "join", "()V"⟩, 32), (⟨"TypeSetsModel", "liesIn", "(II)Z"⟩, 32), (⟨"TypeSetsModel", "areApart", "(II)Z"⟩, 32)]
theorem lw_r4 : ∀ q ∈ lw_privs_4, lw_okq q := List.forall_mem_cons.mpr ⟨lw_p48, List.forall_mem_cons.mpr ⟨lw_p49, List.forall_mem_cons.mpr ⟨lw_p50, List.forall_mem_cons.mpr ⟨lw_p51, List.forall_mem_cons.mpr ⟨lw_p52, List.forall_mem_cons.mpr ⟨lw_p53, List.forall_mem_cons.mpr ⟨lw_p54, List.forall_mem_cons.mpr ⟨lw_p55, List.forall_mem_cons.mpr ⟨lw_p56, List.forall_mem_cons.mpr ⟨lw_p57, List.forall_mem_cons.mpr ⟨lw_p58, List.forall_mem_cons.mpr ⟨lw_p59, List.forall_mem_cons.mpr ⟨lw_p60, List.forall_mem_cons.mpr ⟨lw_p61, List.forall_mem_cons.mpr ⟨lw_p62, List.forall_mem_cons.mpr ⟨lw_p63, fun _ h => absurd h List.not_mem_nil⟩⟩⟩⟩⟩⟩⟩⟩⟩⟩⟩⟩⟩⟩⟩⟩
theorem lw_p64 : lw_okq (⟨"TypeSetsModel", "emptySet", "([I)I"⟩, 32) := ⟨⟨by decide +kernel, by decide +kernel⟩, List.mem_of_getElem? (i := 866) (by decide +kernel), List.mem_of_getElem? (i := 1169) (by decide +kernel), List.mem_of_getElem? (i := 1170) (by decide +kernel)⟩
theorem lw_p65 : lw_okq (⟨"TypeSetsModel", "isEmpty", "(I)Z"⟩, 32) := ⟨⟨by decide +kernel, by decide +kernel⟩, List.mem_of_getElem? (i := 866) (by decide +kernel), List.mem_of_getElem? (i := 1173) (by decide +kernel), List.mem_of_getElem? (i := 1174) (by decide +kernel)⟩
theorem lw_p66 : lw_okq (⟨"TypeSetsModel", "sortsOf", "(I)I"⟩, 32) := ⟨⟨by decide +kernel, by decide +kernel⟩, List.mem_of_getElem? (i := 866) (by decide +kernel), List.mem_of_getElem? (i := 1177) (by decide +kernel), List.mem_of_getElem? (i := 1178) (by decide +kernel)⟩
theorem lw_p67 : lw_okq (⟨"TypeSetsModel", "everyType", "()I"⟩, 32) := ⟨⟨by decide +kernel, by decide +kernel⟩, List.mem_of_getElem? (i := 866) (by decide +kernel), List.mem_of_getElem? (i := 1189) (by decide +kernel), List.mem_of_getElem? (i := 1190) (by decide +kernel)⟩
theorem lw_p68 : lw_okq (⟨"TypeSetsModel", "layCases", "([III)V"⟩, 32) := ⟨⟨by decide +kernel, by decide +kernel⟩, List.mem_of_getElem? (i := 866) (by decide +kernel), List.mem_of_getElem? (i := 1193) (by decide +kernel), List.mem_of_getElem? (i := 1194) (by decide +kernel)⟩
theorem lw_p69 : lw_okq (⟨"TypeSetsModel", "isMarked", "(I)Z"⟩, 32) := ⟨⟨by decide +kernel, by decide +kernel⟩, List.mem_of_getElem? (i := 866) (by decide +kernel), List.mem_of_getElem? (i := 1197) (by decide +kernel), List.mem_of_getElem? (i := 1198) (by decide +kernel)⟩
theorem lw_p70 : lw_okq (⟨"TypeSetsModel", "layPlain", "(I)V"⟩, 32) := ⟨⟨by decide +kernel, by decide +kernel⟩, List.mem_of_getElem? (i := 866) (by decide +kernel), List.mem_of_getElem? (i := 1214) (by decide +kernel), List.mem_of_getElem? (i := 1215) (by decide +kernel)⟩
theorem lw_p71 : lw_okq (⟨"TypeSetsModel", "plainOf", "(I)I"⟩, 32) := ⟨⟨by decide +kernel, by decide +kernel⟩, List.mem_of_getElem? (i := 866) (by decide +kernel), List.mem_of_getElem? (i := 1218) (by decide +kernel), List.mem_of_getElem? (i := 1219) (by decide +kernel)⟩
theorem lw_p72 : lw_okq (⟨"TypeSetsModel", "rowFound", "(III)I"⟩, 32) := ⟨⟨by decide +kernel, by decide +kernel⟩, List.mem_of_getElem? (i := 866) (by decide +kernel), List.mem_of_getElem? (i := 1230) (by decide +kernel), List.mem_of_getElem? (i := 1231) (by decide +kernel)⟩
theorem lw_p73 : lw_okq (⟨"TypeSetsModel", "layThen", "()V"⟩, 32) := ⟨⟨by decide +kernel, by decide +kernel⟩, List.mem_of_getElem? (i := 866) (by decide +kernel), List.mem_of_getElem? (i := 1234) (by decide +kernel), List.mem_of_getElem? (i := 1235) (by decide +kernel)⟩
theorem lw_p74 : lw_okq (⟨"TypeSetsModel", "kindOf", "(I)I"⟩, 32) := ⟨⟨by decide +kernel, by decide +kernel⟩, List.mem_of_getElem? (i := 866) (by decide +kernel), List.mem_of_getElem? (i := 1265) (by decide +kernel), List.mem_of_getElem? (i := 1266) (by decide +kernel)⟩
theorem lw_p75 : lw_okq (⟨"TypeSetsModel", "sizeOf", "(I)I"⟩, 32) := ⟨⟨by decide +kernel, by decide +kernel⟩, List.mem_of_getElem? (i := 866) (by decide +kernel), List.mem_of_getElem? (i := 1280) (by decide +kernel), List.mem_of_getElem? (i := 1281) (by decide +kernel)⟩
theorem lw_p76 : lw_okq (⟨"TypeSetsModel", "plainSize", "(I)I"⟩, 32) := ⟨⟨by decide +kernel, by decide +kernel⟩, List.mem_of_getElem? (i := 866) (by decide +kernel), List.mem_of_getElem? (i := 1284) (by decide +kernel), List.mem_of_getElem? (i := 1285) (by decide +kernel)⟩
theorem lw_p77 : lw_okq (⟨"TypeSetsModel", "began", "(I)V"⟩, 32) := ⟨⟨by decide +kernel, by decide +kernel⟩, List.mem_of_getElem? (i := 866) (by decide +kernel), List.mem_of_getElem? (i := 1288) (by decide +kernel), List.mem_of_getElem? (i := 1289) (by decide +kernel)⟩
theorem lw_p78 : lw_okq (⟨"TypeSetsModel", "pairSize", "(I)I"⟩, 32) := ⟨⟨by decide +kernel, by decide +kernel⟩, List.mem_of_getElem? (i := 866) (by decide +kernel), List.mem_of_getElem? (i := 1292) (by decide +kernel), List.mem_of_getElem? (i := 1293) (by decide +kernel)⟩
theorem lw_p79 : lw_okq (⟨"TypeSetsModel", "markOf", "(I)I"⟩, 32) := ⟨⟨by decide +kernel, by decide +kernel⟩, List.mem_of_getElem? (i := 866) (by decide +kernel), List.mem_of_getElem? (i := 1296) (by decide +kernel), List.mem_of_getElem? (i := 1297) (by decide +kernel)⟩
def lw_privs_5 : List (MethodName × Nat) := [(⟨"TypeSetsModel", "emptySet", "([I)I"⟩, 32), (⟨"TypeSetsModel", "isEmpty", "(I)Z"⟩, 32), (⟨"TypeSetsModel", "sortsOf", "(I)I"⟩, 32), (⟨"TypeSetsModel", "everyType", "()I"⟩, 32), (⟨"TypeSetsModel", "layCases", "([III)V"⟩, 32), (⟨"TypeSetsModel", "isMarked", "(I)Z"⟩, 32), (⟨"TypeSetsModel", "layPlain", "(I)V"⟩, 32), (⟨"TypeSetsModel", "plainOf", "(I)I"⟩, 32), (⟨"TypeSetsModel", "rowFound", "(III)I"⟩, 32), (⟨"TypeSetsModel", "layThen", "()V"⟩, 32), (⟨"TypeSetsModel", "kindOf", "(I)I"⟩, 32), (⟨"TypeSetsModel", "sizeOf", "(I)I"⟩, 32), (⟨"TypeSetsModel", "plainSize", "(I)I"⟩, 32), (⟨"TypeSetsModel", "began", "(I)V"⟩, 32), (⟨"TypeSetsModel", "pairSize", "(I)I"⟩, 32), (⟨"TypeSetsModel", "markOf", "(I)I"⟩, 32)]
theorem lw_r5 : ∀ q ∈ lw_privs_5, lw_okq q := List.forall_mem_cons.mpr ⟨lw_p64, List.forall_mem_cons.mpr ⟨lw_p65, List.forall_mem_cons.mpr ⟨lw_p66, List.forall_mem_cons.mpr ⟨lw_p67, List.forall_mem_cons.mpr ⟨lw_p68, List.forall_mem_cons.mpr ⟨lw_p69, List.forall_mem_cons.mpr ⟨lw_p70, List.forall_mem_cons.mpr ⟨lw_p71, List.forall_mem_cons.mpr ⟨lw_p72, List.forall_mem_cons.mpr ⟨lw_p73, List.forall_mem_cons.mpr ⟨lw_p74, List.forall_mem_cons.mpr ⟨lw_p75, List.forall_mem_cons.mpr ⟨lw_p76, List.forall_mem_cons.mpr ⟨lw_p77, List.forall_mem_cons.mpr ⟨lw_p78, List.forall_mem_cons.mpr ⟨lw_p79, fun _ h => absurd h List.not_mem_nil⟩⟩⟩⟩⟩⟩⟩⟩⟩⟩⟩⟩⟩⟩⟩⟩
def lw_privs : List (MethodName × Nat) := lw_privs_1 ++ (lw_privs_2 ++ (lw_privs_3 ++ (lw_privs_4 ++ (lw_privs_5))))
def lw_tbl : List Cond := k2_sels lw_privs ++ tables_1
theorem lw_privs_ok : ∀ q ∈ lw_privs, lw_okq q := by
  show ∀ q ∈ lw_privs_1 ++ (lw_privs_2 ++ (lw_privs_3 ++ (lw_privs_4 ++ (lw_privs_5)))), lw_okq q
  exact List.forall_mem_append.mpr ⟨lw_r1, List.forall_mem_append.mpr ⟨lw_r2, List.forall_mem_append.mpr ⟨lw_r3, List.forall_mem_append.mpr ⟨lw_r4, lw_r5⟩⟩⟩⟩
end
section
def RX0 : String := "TypeSets$Acts"
def TX0 : u_T := fun k => match k with
  | 0 => ("TypeSets$Acts", "types", "[I", true)
  | 1 => ("TypeSets$Acts", "sorts", "[I", true)
  | 2 => ("TypeSets$Acts", "firsts", "[I", true)
  | 3 => ("TypeSets$Acts", "seconds", "[I", true)
  | _ => ("TypeSets$Acts", "kept", "I", false)
def tyX0 : Nat → FieldType := fun k => match k with
  | 0 => .array .int
  | 1 => .array .int
  | 2 => .array .int
  | 3 => .array .int
  | _ => .int
theorem nmX0 : ∀ a, a < 5 → ∀ b, b < 5 → a ≠ b → (TX0 a).2.1 ≠ (TX0 b).2.1 := by decide +kernel
theorem tyX0_ok : ∀ k, k < 5 → parseFieldDescriptor (TX0 k).2.2.1 = some (tyX0 k) := by decide +kernel
abbrev cX0_init : ByteArray := prog_2_method_1_code
def yX0_init : MethodName := ⟨RX0, "<init>", "()V"⟩
abbrev cX0_keep : ByteArray := prog_2_method_2_code
def yX0_keep : MethodName := ⟨RX0, "keep", "(LTypeSets$House;I)V"⟩
abbrev cX0_takeBack : ByteArray := prog_2_method_3_code
def yX0_takeBack : MethodName := ⟨RX0, "takeBack", "(LTypeSets$House;)V"⟩
abbrev cX0_forgetOldest : ByteArray := prog_2_method_4_code
def yX0_forgetOldest : MethodName := ⟨RX0, "forgetOldest", "()V"⟩
def RX1 : String := "TypeSets$Asks"
def TX1 : u_T := fun k => match k with
  | 0 => ("TypeSets$Asks", "numbers", "[I", true)
  | 1 => ("TypeSets$Asks", "left", "I", false)
  | 2 => ("TypeSets$Asks", "one", "I", false)
  | 3 => ("TypeSets$Asks", "kindOfOne", "I", false)
  | 4 => ("TypeSets$Asks", "a", "I", false)
  | _ => ("TypeSets$Asks", "b", "I", false)
def tyX1 : Nat → FieldType := fun k => match k with
  | 0 => .array .int
  | 1 => .int
  | 2 => .int
  | 3 => .int
  | 4 => .int
  | _ => .int
theorem nmX1 : ∀ a, a < 6 → ∀ b, b < 6 → a ≠ b → (TX1 a).2.1 ≠ (TX1 b).2.1 := by decide +kernel
theorem tyX1_ok : ∀ k, k < 6 → parseFieldDescriptor (TX1 k).2.2.1 = some (tyX1 k) := by decide +kernel
abbrev cX1_init : ByteArray := prog_3_method_1_code
def yX1_init : MethodName := ⟨RX1, "<init>", "()V"⟩
abbrev cX1_kindOf : ByteArray := prog_3_method_2_code
def yX1_kindOf : MethodName := ⟨RX1, "kindOf", "(I)I"⟩
abbrev cX1_isOne : ByteArray := prog_3_method_3_code
def yX1_isOne : MethodName := ⟨RX1, "isOne", "(II)Z"⟩
abbrev cX1_begin : ByteArray := prog_3_method_4_code
def yX1_begin : MethodName := ⟨RX1, "begin", "(LTypeSets$House;I)V"⟩
abbrev cX1_sizeOfOne : ByteArray := prog_3_method_5_code
def yX1_sizeOfOne : MethodName := ⟨RX1, "sizeOfOne", "()I"⟩
abbrev cX1_markOfOne : ByteArray := prog_3_method_6_code
def yX1_markOfOne : MethodName := ⟨RX1, "markOfOne", "()I"⟩
abbrev cX1_sizeOfPairs : ByteArray := prog_3_method_7_code
def yX1_sizeOfPairs : MethodName := ⟨RX1, "sizeOfPairs", "()I"⟩
abbrev cX1_markOfJoint : ByteArray := prog_3_method_8_code
def yX1_markOfJoint : MethodName := ⟨RX1, "markOfJoint", "()I"⟩
abbrev cX1_body10 : ByteArray := prog_3_method_9_code
def yX1_body10 : MethodName := ⟨RX1, "body10", "()I"⟩
abbrev cX1_body11 : ByteArray := prog_3_method_10_code
def yX1_body11 : MethodName := ⟨RX1, "body11", "()I"⟩
abbrev cX1_body12 : ByteArray := prog_3_method_11_code
def yX1_body12 : MethodName := ⟨RX1, "body12", "()I"⟩
abbrev cX1_body13 : ByteArray := prog_3_method_12_code
def yX1_body13 : MethodName := ⟨RX1, "body13", "()I"⟩
abbrev cX1_body14 : ByteArray := prog_3_method_13_code
def yX1_body14 : MethodName := ⟨RX1, "body14", "()I"⟩
abbrev cX1_body20 : ByteArray := prog_3_method_14_code
def yX1_body20 : MethodName := ⟨RX1, "body20", "()I"⟩
abbrev cX1_body21 : ByteArray := prog_3_method_15_code
def yX1_body21 : MethodName := ⟨RX1, "body21", "()I"⟩
abbrev cX1_body22 : ByteArray := prog_3_method_16_code
def yX1_body22 : MethodName := ⟨RX1, "body22", "()I"⟩
abbrev cX1_body23 : ByteArray := prog_3_method_17_code
def yX1_body23 : MethodName := ⟨RX1, "body23", "()I"⟩
abbrev cX1_body24 : ByteArray := prog_3_method_18_code
def yX1_body24 : MethodName := ⟨RX1, "body24", "()I"⟩
abbrev cX1_leave : ByteArray := prog_3_method_19_code
def yX1_leave : MethodName := ⟨RX1, "leave", "(I)V"⟩
def RX2 : String := "TypeSets$Cells"
def TX2 : u_T := fun k => match k with
  | 0 => ("TypeSets$Cells", "house", "LTypeSets$House;", true)
  | 1 => ("TypeSets$Cells", "all", "I", false)
  | 2 => ("TypeSets$Cells", "arrows", "I", false)
  | 3 => ("TypeSets$Cells", "withConstant", "I", false)
  | 4 => ("TypeSets$Cells", "withPair", "I", false)
  | 5 => ("TypeSets$Cells", "withFunction", "I", false)
  | 6 => ("TypeSets$Cells", "found", "LTypeSets$Sets;", true)
  | 7 => ("TypeSets$Cells", "ofPairs", "LTypeSets$Sides;", true)
  | 8 => ("TypeSets$Cells", "ofCases", "LTypeSets$Sides;", true)
  | 9 => ("TypeSets$Cells", "pairSets", "LTypeSets$Sets;", true)
  | 10 => ("TypeSets$Cells", "missed", "LTypeSets$Sets;", true)
  | 11 => ("TypeSets$Cells", "cellOfPair", "[I", true)
  | 12 => ("TypeSets$Cells", "cellMissing", "[I", true)
  | 13 => ("TypeSets$Cells", "open", "[I", true)
  | 14 => ("TypeSets$Cells", "supers", "[I", true)
  | _ => ("TypeSets$Cells", "meets", "[I", true)
def tyX2 : Nat → FieldType := fun k => match k with
  | 0 => .object "TypeSets$House"
  | 1 => .int
  | 2 => .int
  | 3 => .int
  | 4 => .int
  | 5 => .int
  | 6 => .object "TypeSets$Sets"
  | 7 => .object "TypeSets$Sides"
  | 8 => .object "TypeSets$Sides"
  | 9 => .object "TypeSets$Sets"
  | 10 => .object "TypeSets$Sets"
  | 11 => .array .int
  | 12 => .array .int
  | 13 => .array .int
  | 14 => .array .int
  | _ => .array .int
theorem nmX2 : ∀ a, a < 16 → ∀ b, b < 16 → a ≠ b → (TX2 a).2.1 ≠ (TX2 b).2.1 := by decide +kernel
theorem tyX2_ok : ∀ k, k < 16 → parseFieldDescriptor (TX2 k).2.2.1 = some (tyX2 k) := by decide +kernel
abbrev cX2_init : ByteArray := prog_4_method_1_code
def yX2_init : MethodName := ⟨RX2, "<init>", "()V"⟩
abbrev cX2_measure : ByteArray := prog_4_method_2_code
def yX2_measure : MethodName := ⟨RX2, "measure", "(LTypeSets$House;)V"⟩
abbrev cX2_begin : ByteArray := prog_4_method_3_code
def yX2_begin : MethodName := ⟨RX2, "begin", "(LTypeSets$House;)V"⟩
abbrev cX2_addPairs : ByteArray := prog_4_method_4_code
def yX2_addPairs : MethodName := ⟨RX2, "addPairs", "(III)V"⟩
abbrev cX2_addPair : ByteArray := prog_4_method_5_code
def yX2_addPair : MethodName := ⟨RX2, "addPair", "(II)V"⟩
abbrev cX2_addCases : ByteArray := prog_4_method_6_code
def yX2_addCases : MethodName := ⟨RX2, "addCases", "(III)V"⟩
abbrev cX2_addCase : ByteArray := prog_4_method_7_code
def yX2_addCase : MethodName := ⟨RX2, "addCase", "(II)V"⟩
abbrev cX2_addFunction : ByteArray := prog_4_method_8_code
def yX2_addFunction : MethodName := ⟨RX2, "addFunction", "(II)V"⟩
abbrev cX2_relate : ByteArray := prog_4_method_9_code
def yX2_relate : MethodName := ⟨RX2, "relate", "()V"⟩
abbrev cX2_leastHeight : ByteArray := prog_4_method_10_code
def yX2_leastHeight : MethodName := ⟨RX2, "leastHeight", "(II)I"⟩
abbrev cX2_lyingIn : ByteArray := prog_4_method_11_code
def yX2_lyingIn : MethodName := ⟨RX2, "lyingIn", "(I)I"⟩
abbrev cX2_withoutValue : ByteArray := prog_4_method_12_code
def yX2_withoutValue : MethodName := ⟨RX2, "withoutValue", "()I"⟩
abbrev cX2_inOrder : ByteArray := prog_4_method_13_code
def yX2_inOrder : MethodName := ⟨RX2, "inOrder", "(I)I"⟩
abbrev cX2_holdingAnswers : ByteArray := prog_4_method_14_code
def yX2_holdingAnswers : MethodName := ⟨RX2, "holdingAnswers", "(II)I"⟩
abbrev cX2_holdingAnswersFrom : ByteArray := prog_4_method_15_code
def yX2_holdingAnswersFrom : MethodName := ⟨RX2, "holdingAnswersFrom", "(I)I"⟩
abbrev cX2_alwaysAnswered : ByteArray := prog_4_method_16_code
def yX2_alwaysAnswered : MethodName := ⟨RX2, "alwaysAnswered", "(I)I"⟩
abbrev cX2_openFor : ByteArray := prog_4_method_17_code
def yX2_openFor : MethodName := ⟨RX2, "openFor", "(I)V"⟩
abbrev cX2_holdingSide : ByteArray := prog_4_method_18_code
def yX2_holdingSide : MethodName := ⟨RX2, "holdingSide", "(II)I"⟩
abbrev cX2_pairsInto : ByteArray := prog_4_method_19_code
def yX2_pairsInto : MethodName := ⟨RX2, "pairsInto", "(IILTypeSets$Sets;)Z"⟩
def RX3 : String := "TypeSets$House"
def TX3 : u_T := fun k => match k with
  | 0 => ("TypeSets$House", "sorts", "[I", true)
  | 1 => ("TypeSets$House", "firsts", "[I", true)
  | 2 => ("TypeSets$House", "seconds", "[I", true)
  | 3 => ("TypeSets$House", "types", "I", false)
  | _ => ("TypeSets$House", "constants", "I", false)
def tyX3 : Nat → FieldType := fun k => match k with
  | 0 => .array .int
  | 1 => .array .int
  | 2 => .array .int
  | 3 => .int
  | _ => .int
theorem nmX3 : ∀ a, a < 5 → ∀ b, b < 5 → a ≠ b → (TX3 a).2.1 ≠ (TX3 b).2.1 := by decide +kernel
theorem tyX3_ok : ∀ k, k < 5 → parseFieldDescriptor (TX3 k).2.2.1 = some (tyX3 k) := by decide +kernel
abbrev cX3_init : ByteArray := prog_5_method_1_code
def yX3_init : MethodName := ⟨RX3, "<init>", "()V"⟩
abbrev cX3_isNone : ByteArray := prog_5_method_2_code
def yX3_isNone : MethodName := ⟨RX3, "isNone", "()Z"⟩
abbrev cX3_has : ByteArray := prog_5_method_3_code
def yX3_has : MethodName := ⟨RX3, "has", "(I)Z"⟩
abbrev cX3_all : ByteArray := prog_5_method_4_code
def yX3_all : MethodName := ⟨RX3, "all", "()I"⟩
abbrev cX3_isSet : ByteArray := prog_5_method_5_code
def yX3_isSet : MethodName := ⟨RX3, "isSet", "(I)Z"⟩
abbrev cX3_takeFrom : ByteArray := prog_5_method_6_code
def yX3_takeFrom : MethodName := ⟨RX3, "takeFrom", "(LTypeSets$House;)V"⟩
abbrev cX3_mayStand : ByteArray := prog_5_method_7_code
def yX3_mayStand : MethodName := ⟨RX3, "mayStand", "(IIII)Z"⟩
abbrev cX3_tell : ByteArray := prog_5_method_8_code
def yX3_tell : MethodName := ⟨RX3, "tell", "(IIII)V"⟩
abbrev cX3_namesOnlyItsOwn : ByteArray := prog_5_method_9_code
def yX3_namesOnlyItsOwn : MethodName := ⟨RX3, "namesOnlyItsOwn", "()Z"⟩
abbrev cX3_cellOfConstant : ByteArray := prog_5_method_10_code
def yX3_cellOfConstant : MethodName := ⟨RX3, "cellOfConstant", "(I)I"⟩
abbrev cX3_cellOf : ByteArray := prog_5_method_11_code
def yX3_cellOf : MethodName := ⟨RX3, "cellOf", "(I)I"⟩
abbrev cX3_ofSort : ByteArray := prog_5_method_12_code
def yX3_ofSort : MethodName := ⟨RX3, "ofSort", "(I)I"⟩
abbrev cX3_withFirstIn : ByteArray := prog_5_method_13_code
def yX3_withFirstIn : MethodName := ⟨RX3, "withFirstIn", "(II)I"⟩
abbrev cX3_withSecondIn : ByteArray := prog_5_method_14_code
def yX3_withSecondIn : MethodName := ⟨RX3, "withSecondIn", "(II)I"⟩
def RX4 : String := "TypeSets$PlainValues"
def TX4 : u_T := fun k => match k with
  | 0 => ("TypeSets$PlainValues", "ofType", "[I", true)
  | 1 => ("TypeSets$PlainValues", "total", "[I", true)
  | 2 => ("TypeSets$PlainValues", "byCell", "LTypeSets$Sets;", true)
  | 3 => ("TypeSets$PlainValues", "byLeft", "LTypeSets$Sets;", true)
  | 4 => ("TypeSets$PlainValues", "byRight", "LTypeSets$Sets;", true)
  | _ => ("TypeSets$PlainValues", "byPair", "LTypeSets$Sets;", true)
def tyX4 : Nat → FieldType := fun k => match k with
  | 0 => .array .int
  | 1 => .array .int
  | 2 => .object "TypeSets$Sets"
  | 3 => .object "TypeSets$Sets"
  | 4 => .object "TypeSets$Sets"
  | _ => .object "TypeSets$Sets"
theorem nmX4 : ∀ a, a < 6 → ∀ b, b < 6 → a ≠ b → (TX4 a).2.1 ≠ (TX4 b).2.1 := by decide +kernel
theorem tyX4_ok : ∀ k, k < 6 → parseFieldDescriptor (TX4 k).2.2.1 = some (tyX4 k) := by decide +kernel
abbrev cX4_init : ByteArray := prog_6_method_1_code
def yX4_init : MethodName := ⟨RX4, "<init>", "()V"⟩
abbrev cX4_measure : ByteArray := prog_6_method_2_code
def yX4_measure : MethodName := ⟨RX4, "measure", "(LTypeSets$House;)V"⟩
abbrev cX4_pairUp : ByteArray := prog_6_method_3_code
def yX4_pairUp : MethodName := ⟨RX4, "pairUp", "(LTypeSets$House;)V"⟩
abbrev cX4_sumUp : ByteArray := prog_6_method_4_code
def yX4_sumUp : MethodName := ⟨RX4, "sumUp", "(I)V"⟩
abbrev cX4_howMany : ByteArray := prog_6_method_5_code
def yX4_howMany : MethodName := ⟨RX4, "howMany", "(II)I"⟩
abbrev cX4_ofAny : ByteArray := prog_6_method_6_code
def yX4_ofAny : MethodName := ⟨RX4, "ofAny", "(I)I"⟩
def RX5 : String := "TypeSets$Rows"
def TX5 : u_T := fun k => match k with
  | 0 => ("TypeSets$Rows", "lanes", "[I", true)
  | 1 => ("TypeSets$Rows", "lengths", "[I", true)
  | _ => ("TypeSets$Rows", "items", "[I", true)
def tyX5 : Nat → FieldType := fun k => match k with
  | 0 => .array .int
  | 1 => .array .int
  | _ => .array .int
theorem nmX5 : ∀ a, a < 3 → ∀ b, b < 3 → a ≠ b → (TX5 a).2.1 ≠ (TX5 b).2.1 := by decide +kernel
theorem tyX5_ok : ∀ k, k < 3 → parseFieldDescriptor (TX5 k).2.2.1 = some (tyX5 k) := by decide +kernel
abbrev cX5_init : ByteArray := prog_7_method_1_code
def yX5_init : MethodName := ⟨RX5, "<init>", "()V"⟩
abbrev cX5_isNumber : ByteArray := prog_7_method_2_code
def yX5_isNumber : MethodName := ⟨RX5, "isNumber", "(I)Z"⟩
abbrev cX5_isLane : ByteArray := prog_7_method_3_code
def yX5_isLane : MethodName := ⟨RX5, "isLane", "(I)Z"⟩
abbrev cX5_make : ByteArray := prog_7_method_4_code
def yX5_make : MethodName := ⟨RX5, "make", "(III)V"⟩
abbrev cX5_put : ByteArray := prog_7_method_5_code
def yX5_put : MethodName := ⟨RX5, "put", "(III)I"⟩
abbrev cX5_move : ByteArray := prog_7_method_6_code
def yX5_move : MethodName := ⟨RX5, "move", "(IIIII)V"⟩
abbrev cX5_lose : ByteArray := prog_7_method_7_code
def yX5_lose : MethodName := ⟨RX5, "lose", "(I)I"⟩
abbrev cX5_present : ByteArray := prog_7_method_8_code
def yX5_present : MethodName := ⟨RX5, "present", "()I"⟩
abbrev cX5_bits : ByteArray := prog_7_method_9_code
def yX5_bits : MethodName := ⟨RX5, "bits", "(III)I"⟩
abbrev cX5_findingAt : ByteArray := prog_7_method_10_code
def yX5_findingAt : MethodName := ⟨RX5, "findingAt", "(III)I"⟩
abbrev cX5_findingOfMove : ByteArray := prog_7_method_11_code
def yX5_findingOfMove : MethodName := ⟨RX5, "findingOfMove", "(IIIII)I"⟩
abbrev cX5_isPlace : ByteArray := prog_7_method_12_code
def yX5_isPlace : MethodName := ⟨RX5, "isPlace", "(III)Z"⟩
def RX6 : String := "TypeSets$Sets"
def TX6 : u_T := fun k => match k with
  | 0 => ("TypeSets$Sets", "at", "[I", true)
  | 1 => ("TypeSets$Sets", "number", "[I", true)
  | _ => ("TypeSets$Sets", "size", "I", false)
def tyX6 : Nat → FieldType := fun k => match k with
  | 0 => .array .int
  | 1 => .array .int
  | _ => .int
theorem nmX6 : ∀ a, a < 3 → ∀ b, b < 3 → a ≠ b → (TX6 a).2.1 ≠ (TX6 b).2.1 := by decide +kernel
theorem tyX6_ok : ∀ k, k < 3 → parseFieldDescriptor (TX6 k).2.2.1 = some (tyX6 k) := by decide +kernel
abbrev cX6_init : ByteArray := prog_8_method_1_code
def yX6_init : MethodName := ⟨RX6, "<init>", "()V"⟩
abbrev cX6_clear : ByteArray := prog_8_method_2_code
def yX6_clear : MethodName := ⟨RX6, "clear", "()V"⟩
abbrev cX6_add : ByteArray := prog_8_method_3_code
def yX6_add : MethodName := ⟨RX6, "add", "(II)Z"⟩
abbrev cX6_raise : ByteArray := prog_8_method_4_code
def yX6_raise : MethodName := ⟨RX6, "raise", "(II)V"⟩
def RX7 : String := "TypeSets$Sides"
def TX7 : u_T := fun k => match k with
  | 0 => ("TypeSets$Sides", "leftOf", "[I", true)
  | 1 => ("TypeSets$Sides", "rightOf", "[I", true)
  | 2 => ("TypeSets$Sides", "lefts", "LTypeSets$Sets;", true)
  | _ => ("TypeSets$Sides", "rights", "LTypeSets$Sets;", true)
def tyX7 : Nat → FieldType := fun k => match k with
  | 0 => .array .int
  | 1 => .array .int
  | 2 => .object "TypeSets$Sets"
  | _ => .object "TypeSets$Sets"
theorem nmX7 : ∀ a, a < 4 → ∀ b, b < 4 → a ≠ b → (TX7 a).2.1 ≠ (TX7 b).2.1 := by decide +kernel
theorem tyX7_ok : ∀ k, k < 4 → parseFieldDescriptor (TX7 k).2.2.1 = some (tyX7 k) := by decide +kernel
abbrev cX7_init : ByteArray := prog_9_method_1_code
def yX7_init : MethodName := ⟨RX7, "<init>", "()V"⟩
abbrev cX7_clear : ByteArray := prog_9_method_2_code
def yX7_clear : MethodName := ⟨RX7, "clear", "()V"⟩
abbrev cX7_see : ByteArray := prog_9_method_3_code
def yX7_see : MethodName := ⟨RX7, "see", "(LTypeSets$House;III)V"⟩
def RX8 : String := "TypeSets$Tape"
def TX8 : u_T := fun k => match k with
  | 0 => ("TypeSets$Tape", "bytes", "[I", true)
  | 1 => ("TypeSets$Tape", "length", "I", false)
  | 2 => ("TypeSets$Tape", "next", "I", false)
  | 3 => ("TypeSets$Tape", "token", "I", false)
  | 4 => ("TypeSets$Tape", "number", "I", false)
  | 5 => ("TypeSets$Tape", "place", "I", false)
  | _ => ("TypeSets$Tape", "latestFault", "I", false)
def tyX8 : Nat → FieldType := fun k => match k with
  | 0 => .array .int
  | 1 => .int
  | 2 => .int
  | 3 => .int
  | 4 => .int
  | 5 => .int
  | _ => .int
theorem nmX8 : ∀ a, a < 7 → ∀ b, b < 7 → a ≠ b → (TX8 a).2.1 ≠ (TX8 b).2.1 := by decide +kernel
theorem tyX8_ok : ∀ k, k < 7 → parseFieldDescriptor (TX8 k).2.2.1 = some (tyX8 k) := by decide +kernel
abbrev cX8_init : ByteArray := prog_10_method_1_code
def yX8_init : MethodName := ⟨RX8, "<init>", "()V"⟩
abbrev cX8_add : ByteArray := prog_10_method_2_code
def yX8_add : MethodName := ⟨RX8, "add", "(I)Z"⟩
abbrev cX8_read : ByteArray := prog_10_method_3_code
def yX8_read : MethodName := ⟨RX8, "read", "(LTypeSets$House;)Z"⟩
abbrev cX8_readTypes : ByteArray := prog_10_method_4_code
def yX8_readTypes : MethodName := ⟨RX8, "readTypes", "(LTypeSets$House;)Z"⟩
abbrev cX8_readEquation : ByteArray := prog_10_method_5_code
def yX8_readEquation : MethodName := ⟨RX8, "readEquation", "(LTypeSets$House;II)Z"⟩
abbrev cX8_mostOf : ByteArray := prog_10_method_6_code
def yX8_mostOf : MethodName := ⟨RX8, "mostOf", "(II)I"⟩
abbrev cX8_sortOf : ByteArray := prog_10_method_7_code
def yX8_sortOf : MethodName := ⟨RX8, "sortOf", "(I)I"⟩
abbrev cX8_takesSign : ByteArray := prog_10_method_8_code
def yX8_takesSign : MethodName := ⟨RX8, "takesSign", "(I)Z"⟩
abbrev cX8_takesNumber : ByteArray := prog_10_method_9_code
def yX8_takesNumber : MethodName := ⟨RX8, "takesNumber", "(II)Z"⟩
abbrev cX8_fails : ByteArray := prog_10_method_10_code
def yX8_fails : MethodName := ⟨RX8, "fails", "(I)Z"⟩
abbrev cX8_step : ByteArray := prog_10_method_11_code
def yX8_step : MethodName := ⟨RX8, "step", "()V"⟩
abbrev cX8_isFigure : ByteArray := prog_10_method_12_code
def yX8_isFigure : MethodName := ⟨RX8, "isFigure", "(I)Z"⟩
def RX9 : String := "TypeSets"
def TX9 : u_T := fun k => match k with
  | 0 => ("TypeSets", "rows", "LTypeSets$Rows;", true)
  | 1 => ("TypeSets", "tape", "LTypeSets$Tape;", true)
  | 2 => ("TypeSets", "live", "LTypeSets$House;", true)
  | 3 => ("TypeSets", "trial", "LTypeSets$House;", true)
  | 4 => ("TypeSets", "firstImage", "LTypeSets$House;", true)
  | 5 => ("TypeSets", "secondImage", "LTypeSets$House;", true)
  | 6 => ("TypeSets", "acts", "LTypeSets$Acts;", true)
  | 7 => ("TypeSets", "liveCells", "LTypeSets$Cells;", true)
  | 8 => ("TypeSets", "trialCells", "LTypeSets$Cells;", true)
  | 9 => ("TypeSets", "plainValues", "LTypeSets$PlainValues;", true)
  | 10 => ("TypeSets", "asks", "LTypeSets$Asks;", true)
  | 11 => ("TypeSets", "cellsStand", "Z", false)
  | 12 => ("TypeSets", "plainStands", "Z", false)
  | _ => ("TypeSets", "latestFinding", "I", false)
def tyX9 : Nat → FieldType := fun k => match k with
  | 0 => .object "TypeSets$Rows"
  | 1 => .object "TypeSets$Tape"
  | 2 => .object "TypeSets$House"
  | 3 => .object "TypeSets$House"
  | 4 => .object "TypeSets$House"
  | 5 => .object "TypeSets$House"
  | 6 => .object "TypeSets$Acts"
  | 7 => .object "TypeSets$Cells"
  | 8 => .object "TypeSets$Cells"
  | 9 => .object "TypeSets$PlainValues"
  | 10 => .object "TypeSets$Asks"
  | 11 => .boolean
  | 12 => .boolean
  | _ => .int
theorem nmX9 : ∀ a, a < 14 → ∀ b, b < 14 → a ≠ b → (TX9 a).2.1 ≠ (TX9 b).2.1 := by decide +kernel
theorem tyX9_ok : ∀ k, k < 14 → parseFieldDescriptor (TX9 k).2.2.1 = some (tyX9 k) := by decide +kernel
abbrev cX9_init : ByteArray := prog_1_method_1_code
def yX9_init : MethodName := ⟨RX9, "<init>", "()V"⟩
abbrev cX9_row : ByteArray := prog_1_method_2_code
def yX9_row : MethodName := ⟨RX9, "row", "(III)I"⟩
abbrev cX9_set : ByteArray := prog_1_method_3_code
def yX9_set : MethodName := ⟨RX9, "set", "(III)I"⟩
abbrev cX9_copy : ByteArray := prog_1_method_4_code
def yX9_copy : MethodName := ⟨RX9, "copy", "(IIIII)I"⟩
abbrev cX9_drop : ByteArray := prog_1_method_5_code
def yX9_drop : MethodName := ⟨RX9, "drop", "(I)I"⟩
abbrev cX9_feed : ByteArray := prog_1_method_6_code
def yX9_feed : MethodName := ⟨RX9, "feed", "(I)I"⟩
abbrev cX9_house : ByteArray := prog_1_method_7_code
def yX9_house : MethodName := ⟨RX9, "house", "()I"⟩
abbrev cX9_fault : ByteArray := prog_1_method_8_code
def yX9_fault : MethodName := ⟨RX9, "fault", "()I"⟩
abbrev cX9_undo : ByteArray := prog_1_method_9_code
def yX9_undo : MethodName := ⟨RX9, "undo", "()I"⟩
abbrev cX9_anew : ByteArray := prog_1_method_10_code
def yX9_anew : MethodName := ⟨RX9, "anew", "(IIII)I"⟩
abbrev cX9_type : ByteArray := prog_1_method_11_code
def yX9_type : MethodName := ⟨RX9, "type", "(II)I"⟩
abbrev cX9_lowest : ByteArray := prog_1_method_12_code
def yX9_lowest : MethodName := ⟨RX9, "lowest", "(II)I"⟩
abbrev cX9_lies : ByteArray := prog_1_method_13_code
def yX9_lies : MethodName := ⟨RX9, "lies", "(II)I"⟩
abbrev cX9_others : ByteArray := prog_1_method_14_code
def yX9_others : MethodName := ⟨RX9, "others", "(II)I"⟩
abbrev cX9_empties : ByteArray := prog_1_method_15_code
def yX9_empties : MethodName := ⟨RX9, "empties", "()I"⟩
abbrev cX9_cellAt : ByteArray := prog_1_method_16_code
def yX9_cellAt : MethodName := ⟨RX9, "cellAt", "(I)I"⟩
abbrev cX9_answers : ByteArray := prog_1_method_17_code
def yX9_answers : MethodName := ⟨RX9, "answers", "(II)I"⟩
abbrev cX9_askable : ByteArray := prog_1_method_18_code
def yX9_askable : MethodName := ⟨RX9, "askable", "(I)I"⟩
abbrev cX9_ends : ByteArray := prog_1_method_19_code
def yX9_ends : MethodName := ⟨RX9, "ends", "(II)I"⟩
abbrev cX9_plain : ByteArray := prog_1_method_20_code
def yX9_plain : MethodName := ⟨RX9, "plain", "(II)I"⟩
abbrev cX9_pick : ByteArray := prog_1_method_21_code
def yX9_pick : MethodName := ⟨RX9, "pick", "(III)I"⟩
abbrev cX9_who : ByteArray := prog_1_method_22_code
def yX9_who : MethodName := ⟨RX9, "who", "(IIIII)I"⟩
abbrev cX9_drawn : ByteArray := prog_1_method_23_code
def yX9_drawn : MethodName := ⟨RX9, "drawn", "(III)I"⟩
abbrev cX9_image : ByteArray := prog_1_method_24_code
def yX9_image : MethodName := ⟨RX9, "image", "(I)I"⟩
abbrev cX9_restore : ByteArray := prog_1_method_25_code
def yX9_restore : MethodName := ⟨RX9, "restore", "(I)I"⟩
abbrev cX9_kind : ByteArray := prog_1_method_26_code
def yX9_kind : MethodName := ⟨RX9, "kind", "(I)I"⟩
abbrev cX9_as : ByteArray := prog_1_method_27_code
def yX9_as : MethodName := ⟨RX9, "as", "(II)I"⟩
abbrev cX9_ask : ByteArray := prog_1_method_28_code
def yX9_ask : MethodName := ⟨RX9, "ask", "(II)I"⟩
abbrev cX9_trace : ByteArray := prog_1_method_29_code
def yX9_trace : MethodName := ⟨RX9, "trace", "(I)I"⟩
abbrev cX9_count : ByteArray := prog_1_method_30_code
def yX9_count : MethodName := ⟨RX9, "count", "(I)I"⟩
abbrev cX9_status : ByteArray := prog_1_method_31_code
def yX9_status : MethodName := ⟨RX9, "status", "()I"⟩
abbrev cX9_standIn : ByteArray := prog_1_method_32_code
def yX9_standIn : MethodName := ⟨RX9, "standIn", "(LTypeSets$House;)V"⟩
abbrev cX9_forgetWhatStood : ByteArray := prog_1_method_33_code
def yX9_forgetWhatStood : MethodName := ⟨RX9, "forgetWhatStood", "()V"⟩
abbrev cX9_cellsNow : ByteArray := prog_1_method_34_code
def yX9_cellsNow : MethodName := ⟨RX9, "cellsNow", "()LTypeSets$Cells;"⟩
abbrev cX9_plainNow : ByteArray := prog_1_method_35_code
def yX9_plainNow : MethodName := ⟨RX9, "plainNow", "()LTypeSets$PlainValues;"⟩
abbrev cX9_imageOf : ByteArray := prog_1_method_36_code
def yX9_imageOf : MethodName := ⟨RX9, "imageOf", "(I)LTypeSets$House;"⟩
abbrev cX9_fits : ByteArray := prog_1_method_37_code
def yX9_fits : MethodName := ⟨RX9, "fits", "(IIIII)Z"⟩
abbrev cX9_drawEquation : ByteArray := prog_1_method_38_code
def yX9_drawEquation : MethodName := ⟨RX9, "drawEquation", "(J)V"⟩
abbrev cX9_greatestDivisor : ByteArray := prog_1_method_39_code
def yX9_greatestDivisor : MethodName := ⟨RX9, "greatestDivisor", "(II)I"⟩
def RX10 : String := "TypeSetsModel"
def TX10 : u_T := fun k => match k with
  | 0 => ("TypeSetsModel", "thrown", "I", false)
  | 1 => ("TypeSetsModel", "status", "I", false)
  | 2 => ("TypeSetsModel", "lane", "[I", true)
  | 3 => ("TypeSetsModel", "many", "[I", true)
  | 4 => ("TypeSetsModel", "item", "[I", true)
  | 5 => ("TypeSetsModel", "house", "[I", true)
  | 6 => ("TypeSetsModel", "fresh", "[I", true)
  | 7 => ("TypeSetsModel", "then", "[I", true)
  | 8 => ("TypeSetsModel", "was", "[I", true)
  | 9 => ("TypeSetsModel", "acts", "I", false)
  | 10 => ("TypeSetsModel", "tape", "[I", true)
  | 11 => ("TypeSetsModel", "taped", "I", false)
  | 12 => ("TypeSetsModel", "cursor", "I", false)
  | 13 => ("TypeSetsModel", "start", "I", false)
  | 14 => ("TypeSetsModel", "token", "I", false)
  | 15 => ("TypeSetsModel", "value", "I", false)
  | 16 => ("TypeSetsModel", "fault", "I", false)
  | 17 => ("TypeSetsModel", "faultAt", "I", false)
  | 18 => ("TypeSetsModel", "latest", "I", false)
  | 19 => ("TypeSetsModel", "height", "[I", true)
  | 20 => ("TypeSetsModel", "sorts", "[I", true)
  | 21 => ("TypeSetsModel", "cells", "[I", true)
  | 22 => ("TypeSetsModel", "found", "I", false)
  | 23 => ("TypeSetsModel", "broken", "[Z", true)
  | 24 => ("TypeSetsModel", "joined", "[Z", true)
  | 25 => ("TypeSetsModel", "known", "[I", true)
  | 26 => ("TypeSetsModel", "plainly", "[I", true)
  | 27 => ("TypeSetsModel", "higher", "[I", true)
  | 28 => ("TypeSetsModel", "isKept", "[Z", true)
  | 29 => ("TypeSetsModel", "kept", "[I", true)
  | 30 => ("TypeSetsModel", "trace", "[I", true)
  | _ => ("TypeSetsModel", "traced", "I", false)
def tyX10 : Nat → FieldType := fun k => match k with
  | 0 => .int
  | 1 => .int
  | 2 => .array .int
  | 3 => .array .int
  | 4 => .array .int
  | 5 => .array .int
  | 6 => .array .int
  | 7 => .array .int
  | 8 => .array .int
  | 9 => .int
  | 10 => .array .int
  | 11 => .int
  | 12 => .int
  | 13 => .int
  | 14 => .int
  | 15 => .int
  | 16 => .int
  | 17 => .int
  | 18 => .int
  | 19 => .array .int
  | 20 => .array .int
  | 21 => .array .int
  | 22 => .int
  | 23 => .array .boolean
  | 24 => .array .boolean
  | 25 => .array .int
  | 26 => .array .int
  | 27 => .array .int
  | 28 => .array .boolean
  | 29 => .array .int
  | 30 => .array .int
  | _ => .int
theorem nmX10 : ∀ a, a < 32 → ∀ b, b < 32 → a ≠ b → (TX10 a).2.1 ≠ (TX10 b).2.1 := by decide +kernel
theorem tyX10_ok : ∀ k, k < 32 → parseFieldDescriptor (TX10 k).2.2.1 = some (tyX10 k) := by decide +kernel
abbrev cX10_init : ByteArray := prog_12_method_1_code
def yX10_init : MethodName := ⟨RX10, "<init>", "()V"⟩
abbrev cX10_in : ByteArray := prog_12_method_3_code
def yX10_in : MethodName := ⟨RX10, "in", "(JJJ)Z"⟩
abbrev cX10_finding : ByteArray := prog_12_method_4_code
def yX10_finding : MethodName := ⟨RX10, "finding", "(I)I"⟩
abbrev cX10_isRow : ByteArray := prog_12_method_5_code
def yX10_isRow : MethodName := ⟨RX10, "isRow", "(I)Z"⟩
abbrev cX10_row : ByteArray := prog_12_method_6_code
def yX10_row : MethodName := ⟨RX10, "row", "(III)I"⟩
abbrev cX10_set : ByteArray := prog_12_method_7_code
def yX10_set : MethodName := ⟨RX10, "set", "(III)I"⟩
abbrev cX10_copy : ByteArray := prog_12_method_8_code
def yX10_copy : MethodName := ⟨RX10, "copy", "(IIIII)I"⟩
abbrev cX10_drop : ByteArray := prog_12_method_9_code
def yX10_drop : MethodName := ⟨RX10, "drop", "(I)I"⟩
abbrev cX10_feed : ByteArray := prog_12_method_10_code
def yX10_feed : MethodName := ⟨RX10, "feed", "(I)I"⟩
abbrev cX10_bad : ByteArray := prog_12_method_11_code
def yX10_bad : MethodName := ⟨RX10, "bad", "(I)V"⟩
abbrev cX10_nextToken : ByteArray := prog_12_method_12_code
def yX10_nextToken : MethodName := ⟨RX10, "nextToken", "()V"⟩
abbrev cX10_must : ByteArray := prog_12_method_13_code
def yX10_must : MethodName := ⟨RX10, "must", "(Z)V"⟩
abbrev cX10_isLetter : ByteArray := prog_12_method_14_code
def yX10_isLetter : MethodName := ⟨RX10, "isLetter", "(I)Z"⟩
abbrev cX10_number : ByteArray := prog_12_method_15_code
def yX10_number : MethodName := ⟨RX10, "number", "(II)I"⟩
abbrev cX10_mustSign : ByteArray := prog_12_method_16_code
def yX10_mustSign : MethodName := ⟨RX10, "mustSign", "(I)V"⟩
abbrev cX10_begin : ByteArray := prog_12_method_17_code
def yX10_begin : MethodName := ⟨RX10, "begin", "()V"⟩
abbrev cX10_failed : ByteArray := prog_12_method_18_code
def yX10_failed : MethodName := ⟨RX10, "failed", "()Z"⟩
abbrev cX10_fault : ByteArray := prog_12_method_19_code
def yX10_fault : MethodName := ⟨RX10, "fault", "()I"⟩
abbrev cX10_sortBy : ByteArray := prog_12_method_20_code
def yX10_sortBy : MethodName := ⟨RX10, "sortBy", "(I)I"⟩
abbrev cX10_isSort : ByteArray := prog_12_method_21_code
def yX10_isSort : MethodName := ⟨RX10, "isSort", "()Z"⟩
abbrev cX10_readType : ByteArray := prog_12_method_22_code
def yX10_readType : MethodName := ⟨RX10, "readType", "()V"⟩
abbrev cX10_areNamed : ByteArray := prog_12_method_23_code
def yX10_areNamed : MethodName := ⟨RX10, "areNamed", "()Z"⟩
abbrev cX10_house : ByteArray := prog_12_method_24_code
def yX10_house : MethodName := ⟨RX10, "house", "()I"⟩
abbrev cX10_isThere : ByteArray := prog_12_method_25_code
def yX10_isThere : MethodName := ⟨RX10, "isThere", "()Z"⟩
abbrev cX10_isType : ByteArray := prog_12_method_26_code
def yX10_isType : MethodName := ⟨RX10, "isType", "(I)Z"⟩
abbrev cX10_bits : ByteArray := prog_12_method_27_code
def yX10_bits : MethodName := ⟨RX10, "bits", "(I)I"⟩
abbrev cX10_has : ByteArray := prog_12_method_28_code
def yX10_has : MethodName := ⟨RX10, "has", "(II)Z"⟩
abbrev cX10_of : ByteArray := prog_12_method_29_code
def yX10_of : MethodName := ⟨RX10, "of", "([III)I"⟩
abbrev cX10_may : ByteArray := prog_12_method_30_code
def yX10_may : MethodName := ⟨RX10, "may", "(IIIII)Z"⟩
abbrev cX10_cellOf : ByteArray := prog_12_method_31_code
def yX10_cellOf : MethodName := ⟨RX10, "cellOf", "([II)I"⟩
abbrev cX10_constantCell : ByteArray := prog_12_method_32_code
def yX10_constantCell : MethodName := ⟨RX10, "constantCell", "([II)I"⟩
abbrev cX10_pairCell : ByteArray := prog_12_method_33_code
def yX10_pairCell : MethodName := ⟨RX10, "pairCell", "([III)I"⟩
abbrev cX10_functionCell : ByteArray := prog_12_method_34_code
def yX10_functionCell : MethodName := ⟨RX10, "functionCell", "([II)I"⟩
abbrev cX10_breaks : ByteArray := prog_12_method_35_code
def yX10_breaks : MethodName := ⟨RX10, "breaks", "([III)I"⟩
abbrev cX10_comes : ByteArray := prog_12_method_36_code
def yX10_comes : MethodName := ⟨RX10, "comes", "(III)V"⟩
abbrev cX10_gather : ByteArray := prog_12_method_37_code
def yX10_gather : MethodName := ⟨RX10, "gather", "()V"⟩
abbrev cX10_join : ByteArray := prog_12_method_38_code
def yX10_join : MethodName := ⟨RX10, "join", "()V"⟩
abbrev cX10_layCases : ByteArray := prog_12_method_39_code
def yX10_layCases : MethodName := ⟨RX10, "layCases", "([III)V"⟩
abbrev cX10_isKnown : ByteArray := prog_12_method_40_code
def yX10_isKnown : MethodName := ⟨RX10, "isKnown", "([I)Z"⟩
abbrev cX10_reckon : ByteArray := prog_12_method_41_code
def yX10_reckon : MethodName := ⟨RX10, "reckon", "([I)V"⟩
abbrev cX10_goOn : ByteArray := prog_12_method_42_code
def yX10_goOn : MethodName := ⟨RX10, "goOn", "([III)V"⟩
abbrev cX10_layThen : ByteArray := prog_12_method_43_code
def yX10_layThen : MethodName := ⟨RX10, "layThen", "()V"⟩
abbrev cX10_sortsOf : ByteArray := prog_12_method_44_code
def yX10_sortsOf : MethodName := ⟨RX10, "sortsOf", "(I)I"⟩
abbrev cX10_isEmpty : ByteArray := prog_12_method_45_code
def yX10_isEmpty : MethodName := ⟨RX10, "isEmpty", "(I)Z"⟩
abbrev cX10_liesIn : ByteArray := prog_12_method_46_code
def yX10_liesIn : MethodName := ⟨RX10, "liesIn", "(II)Z"⟩
abbrev cX10_areApart : ByteArray := prog_12_method_47_code
def yX10_areApart : MethodName := ⟨RX10, "areApart", "(II)Z"⟩
abbrev cX10_keep : ByteArray := prog_12_method_48_code
def yX10_keep : MethodName := ⟨RX10, "keep", "()V"⟩
abbrev cX10_anew : ByteArray := prog_12_method_49_code
def yX10_anew : MethodName := ⟨RX10, "anew", "(IIII)I"⟩
abbrev cX10_undo : ByteArray := prog_12_method_50_code
def yX10_undo : MethodName := ⟨RX10, "undo", "()I"⟩
abbrev cX10_type : ByteArray := prog_12_method_51_code
def yX10_type : MethodName := ⟨RX10, "type", "(II)I"⟩
abbrev cX10_isSet : ByteArray := prog_12_method_52_code
def yX10_isSet : MethodName := ⟨RX10, "isSet", "(I)Z"⟩
abbrev cX10_lowest : ByteArray := prog_12_method_53_code
def yX10_lowest : MethodName := ⟨RX10, "lowest", "(II)I"⟩
abbrev cX10_lies : ByteArray := prog_12_method_54_code
def yX10_lies : MethodName := ⟨RX10, "lies", "(II)I"⟩
abbrev cX10_others : ByteArray := prog_12_method_55_code
def yX10_others : MethodName := ⟨RX10, "others", "(II)I"⟩
abbrev cX10_emptySet : ByteArray := prog_12_method_56_code
def yX10_emptySet : MethodName := ⟨RX10, "emptySet", "([I)I"⟩
abbrev cX10_empties : ByteArray := prog_12_method_57_code
def yX10_empties : MethodName := ⟨RX10, "empties", "()I"⟩
abbrev cX10_cellAt : ByteArray := prog_12_method_58_code
def yX10_cellAt : MethodName := ⟨RX10, "cellAt", "(I)I"⟩
abbrev cX10_isMarked : ByteArray := prog_12_method_59_code
def yX10_isMarked : MethodName := ⟨RX10, "isMarked", "(I)Z"⟩
abbrev cX10_everyType : ByteArray := prog_12_method_60_code
def yX10_everyType : MethodName := ⟨RX10, "everyType", "()I"⟩
abbrev cX10_answers : ByteArray := prog_12_method_61_code
def yX10_answers : MethodName := ⟨RX10, "answers", "(II)I"⟩
abbrev cX10_askable : ByteArray := prog_12_method_62_code
def yX10_askable : MethodName := ⟨RX10, "askable", "(I)I"⟩
abbrev cX10_ends : ByteArray := prog_12_method_63_code
def yX10_ends : MethodName := ⟨RX10, "ends", "(II)I"⟩
abbrev cX10_layPlain : ByteArray := prog_12_method_64_code
def yX10_layPlain : MethodName := ⟨RX10, "layPlain", "(I)V"⟩
abbrev cX10_plainOf : ByteArray := prog_12_method_65_code
def yX10_plainOf : MethodName := ⟨RX10, "plainOf", "(I)I"⟩
abbrev cX10_plain : ByteArray := prog_12_method_66_code
def yX10_plain : MethodName := ⟨RX10, "plain", "(II)I"⟩
abbrev cX10_pick : ByteArray := prog_12_method_67_code
def yX10_pick : MethodName := ⟨RX10, "pick", "(III)I"⟩
abbrev cX10_rowFound : ByteArray := prog_12_method_68_code
def yX10_rowFound : MethodName := ⟨RX10, "rowFound", "(III)I"⟩
abbrev cX10_who : ByteArray := prog_12_method_69_code
def yX10_who : MethodName := ⟨RX10, "who", "(IIIII)I"⟩
abbrev cX10_drawn : ByteArray := prog_12_method_70_code
def yX10_drawn : MethodName := ⟨RX10, "drawn", "(III)I"⟩
abbrev cX10_image : ByteArray := prog_12_method_71_code
def yX10_image : MethodName := ⟨RX10, "image", "(I)I"⟩
abbrev cX10_restore : ByteArray := prog_12_method_72_code
def yX10_restore : MethodName := ⟨RX10, "restore", "(I)I"⟩
abbrev cX10_kindOf : ByteArray := prog_12_method_73_code
def yX10_kindOf : MethodName := ⟨RX10, "kindOf", "(I)I"⟩
abbrev cX10_isOf : ByteArray := prog_12_method_74_code
def yX10_isOf : MethodName := ⟨RX10, "isOf", "(II)Z"⟩
abbrev cX10_kind : ByteArray := prog_12_method_75_code
def yX10_kind : MethodName := ⟨RX10, "kind", "(I)I"⟩
abbrev cX10_as : ByteArray := prog_12_method_76_code
def yX10_as : MethodName := ⟨RX10, "as", "(II)I"⟩
abbrev cX10_began : ByteArray := prog_12_method_77_code
def yX10_began : MethodName := ⟨RX10, "began", "(I)V"⟩
abbrev cX10_plainSize : ByteArray := prog_12_method_78_code
def yX10_plainSize : MethodName := ⟨RX10, "plainSize", "(I)I"⟩
abbrev cX10_pairSize : ByteArray := prog_12_method_79_code
def yX10_pairSize : MethodName := ⟨RX10, "pairSize", "(I)I"⟩
abbrev cX10_markOf : ByteArray := prog_12_method_80_code
def yX10_markOf : MethodName := ⟨RX10, "markOf", "(I)I"⟩
abbrev cX10_sizeOf : ByteArray := prog_12_method_81_code
def yX10_sizeOf : MethodName := ⟨RX10, "sizeOf", "(I)I"⟩
abbrev cX10_ask : ByteArray := prog_12_method_82_code
def yX10_ask : MethodName := ⟨RX10, "ask", "(II)I"⟩
abbrev cX10_trace : ByteArray := prog_12_method_83_code
def yX10_trace : MethodName := ⟨RX10, "trace", "(I)I"⟩
abbrev cX10_count : ByteArray := prog_12_method_84_code
def yX10_count : MethodName := ⟨RX10, "count", "(I)I"⟩
abbrev cX10_status : ByteArray := prog_12_method_85_code
def yX10_status : MethodName := ⟨RX10, "status", "()I"⟩
def RJ6 : String := "java/lang/Integer"
abbrev cJ6_bitCount_0f7a4 : ByteArray := prog_13_method_49_code
def yJ6_bitCount_0f7a4 : MethodName := ⟨RJ6, "bitCount", "(I)I"⟩
def RJ7 : String := "java/util/Arrays"
abbrev cJ7_fill_53178 : ByteArray := prog_15_method_103_code
def yJ7_fill_53178 : MethodName := ⟨RJ7, "fill", "([II)V"⟩
def RL : String := "TypeSetsLaw"
abbrev cL_law : ByteArray := code
def yL_law : MethodName := ⟨RL, "law", "([I)Z"⟩
abbrev vwCl : List vw_C := [(RX0, TX0, 5), (RX1, TX1, 6), (RX2, TX2, 16), (RX3, TX3, 5), (RX4, TX4, 6), (RX5, TX5, 3), (RX6, TX6, 3), (RX7, TX7, 4), (RX8, TX8, 7), (RX9, TX9, 14), (RX10, TX10, 32)]
/-- a method: its name, its code, its locals, what it returns, its room -/
abbrev MR : Type := MethodName × ByteArray × Nat × Option FieldType × Room
def m_Acts_forgetOldest : MR := (yX0_forgetOldest, prog_2_method_4_code, 1, none, { frames := 1, cells := 0, slots := 0, locals := 40 })
def m_Acts_init : MR := (yX0_init, prog_2_method_1_code, 1, none, { frames := 1, cells := 4, slots := 96, locals := 20 })
def m_Acts_keep : MR := (yX0_keep, prog_2_method_2_code, 3, none, { frames := 2, cells := 0, slots := 0, locals := 60 })
def m_Acts_takeBack : MR := (yX0_takeBack, prog_2_method_3_code, 2, none, { frames := 1, cells := 0, slots := 0, locals := 24 })
def m_Asks_begin : MR := (yX1_begin, prog_3_method_4_code, 3, none, { frames := 1, cells := 0, slots := 0, locals := 20 })
def m_Asks_body10 : MR := (yX1_body10, prog_3_method_9_code, 1, (some .int), { frames := 1, cells := 0, slots := 0, locals := 21 })
def m_Asks_body11 : MR := (yX1_body11, prog_3_method_10_code, 1, (some .int), { frames := 5, cells := 0, slots := 0, locals := 101 })
def m_Asks_body12 : MR := (yX1_body12, prog_3_method_11_code, 1, (some .int), { frames := 6, cells := 0, slots := 0, locals := 121 })
def m_Asks_body13 : MR := (yX1_body13, prog_3_method_12_code, 1, (some .int), { frames := 2, cells := 0, slots := 0, locals := 41 })
def m_Asks_body14 : MR := (yX1_body14, prog_3_method_13_code, 1, (some .int), { frames := 3, cells := 0, slots := 0, locals := 61 })
def m_Asks_body20 : MR := (yX1_body20, prog_3_method_14_code, 1, (some .int), { frames := 1, cells := 0, slots := 0, locals := 21 })
def m_Asks_body21 : MR := (yX1_body21, prog_3_method_15_code, 1, (some .int), { frames := 2, cells := 0, slots := 0, locals := 41 })
def m_Asks_body22 : MR := (yX1_body22, prog_3_method_16_code, 1, (some .int), { frames := 3, cells := 0, slots := 0, locals := 61 })
def m_Asks_body23 : MR := (yX1_body23, prog_3_method_17_code, 1, (some .int), { frames := 5, cells := 0, slots := 0, locals := 101 })
def m_Asks_body24 : MR := (yX1_body24, prog_3_method_18_code, 1, (some .int), { frames := 3, cells := 0, slots := 0, locals := 61 })
def m_Asks_init : MR := (yX1_init, prog_3_method_1_code, 1, none, { frames := 1, cells := 1, slots := 16, locals := 20 })
def m_Asks_isOne : MR := (yX1_isOne, prog_3_method_3_code, 2, (some .boolean), { frames := 0, cells := 0, slots := 0, locals := 0 })
def m_Asks_kindOf : MR := (yX1_kindOf, prog_3_method_2_code, 1, (some .int), { frames := 0, cells := 0, slots := 0, locals := 0 })
def m_Asks_leave : MR := (yX1_leave, prog_3_method_19_code, 2, none, { frames := 0, cells := 0, slots := 0, locals := 0 })
def m_Asks_markOfJoint : MR := (yX1_markOfJoint, prog_3_method_8_code, 1, (some .int), { frames := 4, cells := 0, slots := 0, locals := 81 })
def m_Asks_markOfOne : MR := (yX1_markOfOne, prog_3_method_6_code, 1, (some .int), { frames := 6, cells := 0, slots := 0, locals := 121 })
def m_Asks_sizeOfOne : MR := (yX1_sizeOfOne, prog_3_method_5_code, 1, (some .int), { frames := 7, cells := 0, slots := 0, locals := 141 })
def m_Asks_sizeOfPairs : MR := (yX1_sizeOfPairs, prog_3_method_7_code, 1, (some .int), { frames := 4, cells := 0, slots := 0, locals := 81 })
def m_Cells_addCase : MR := (yX2_addCase, prog_4_method_7_code, 5, none, { frames := 2, cells := 0, slots := 0, locals := 48 })
def m_Cells_addCases : MR := (yX2_addCases, prog_4_method_6_code, 6, none, { frames := 3, cells := 0, slots := 0, locals := 72 })
def m_Cells_addFunction : MR := (yX2_addFunction, prog_4_method_8_code, 4, none, { frames := 1, cells := 0, slots := 0, locals := 25 })
def m_Cells_addPair : MR := (yX2_addPair, prog_4_method_5_code, 4, none, { frames := 1, cells := 0, slots := 0, locals := 25 })
def m_Cells_addPairs : MR := (yX2_addPairs, prog_4_method_4_code, 6, none, { frames := 2, cells := 0, slots := 0, locals := 48 })
def m_Cells_alwaysAnswered : MR := (yX2_alwaysAnswered, prog_4_method_16_code, 4, (some .int), { frames := 2, cells := 0, slots := 0, locals := 46 })
def m_Cells_begin : MR := (yX2_begin, prog_4_method_3_code, 4, none, { frames := 2, cells := 0, slots := 0, locals := 61 })
def m_Cells_holdingAnswers : MR := (yX2_holdingAnswers, prog_4_method_14_code, 5, (some .int), { frames := 2, cells := 0, slots := 0, locals := 46 })
def m_Cells_holdingAnswersFrom : MR := (yX2_holdingAnswersFrom, prog_4_method_15_code, 4, (some .int), { frames := 0, cells := 0, slots := 0, locals := 0 })
def m_Cells_holdingSide : MR := (yX2_holdingSide, prog_4_method_18_code, 7, (some .int), { frames := 1, cells := 0, slots := 0, locals := 24 })
def m_Cells_inOrder : MR := (yX2_inOrder, prog_4_method_13_code, 4, (some .int), { frames := 0, cells := 0, slots := 0, locals := 0 })
def m_Cells_init : MR := (yX2_init, prog_4_method_1_code, 1, none, { frames := 3, cells := 36, slots := 5450, locals := 60 })
def m_Cells_leastHeight : MR := (yX2_leastHeight, prog_4_method_10_code, 5, (some .int), { frames := 0, cells := 0, slots := 0, locals := 0 })
def m_Cells_lyingIn : MR := (yX2_lyingIn, prog_4_method_11_code, 4, (some .int), { frames := 0, cells := 0, slots := 0, locals := 0 })
def m_Cells_measure : MR := (yX2_measure, prog_4_method_2_code, 10, none, { frames := 4, cells := 0, slots := 0, locals := 97 })
def m_Cells_openFor : MR := (yX2_openFor, prog_4_method_17_code, 4, none, { frames := 1, cells := 0, slots := 0, locals := 23 })
def m_Cells_pairsInto : MR := (yX2_pairsInto, prog_4_method_19_code, 5, (some .boolean), { frames := 0, cells := 0, slots := 0, locals := 0 })
def m_Cells_relate : MR := (yX2_relate, prog_4_method_9_code, 4, none, { frames := 1, cells := 0, slots := 0, locals := 23 })
def m_Cells_withoutValue : MR := (yX2_withoutValue, prog_4_method_12_code, 1, (some .int), { frames := 0, cells := 0, slots := 0, locals := 0 })
def m_House_all : MR := (yX3_all, prog_5_method_4_code, 1, (some .int), { frames := 0, cells := 0, slots := 0, locals := 0 })
def m_House_cellOf : MR := (yX3_cellOf, prog_5_method_11_code, 6, (some .int), { frames := 0, cells := 0, slots := 0, locals := 0 })
def m_House_cellOfConstant : MR := (yX3_cellOfConstant, prog_5_method_10_code, 4, (some .int), { frames := 1, cells := 0, slots := 0, locals := 25 })
def m_House_has : MR := (yX3_has, prog_5_method_3_code, 2, (some .boolean), { frames := 0, cells := 0, slots := 0, locals := 0 })
def m_House_init : MR := (yX3_init, prog_5_method_1_code, 1, none, { frames := 1, cells := 3, slots := 24, locals := 20 })
def m_House_isNone : MR := (yX3_isNone, prog_5_method_2_code, 1, (some .boolean), { frames := 0, cells := 0, slots := 0, locals := 0 })
def m_House_isSet : MR := (yX3_isSet, prog_5_method_5_code, 2, (some .boolean), { frames := 1, cells := 0, slots := 0, locals := 20 })
def m_House_mayStand : MR := (yX3_mayStand, prog_5_method_7_code, 6, (some .boolean), { frames := 1, cells := 0, slots := 0, locals := 21 })
def m_House_namesOnlyItsOwn : MR := (yX3_namesOnlyItsOwn, prog_5_method_9_code, 2, (some .boolean), { frames := 2, cells := 0, slots := 0, locals := 46 })
def m_House_ofSort : MR := (yX3_ofSort, prog_5_method_12_code, 4, (some .int), { frames := 0, cells := 0, slots := 0, locals := 0 })
def m_House_takeFrom : MR := (yX3_takeFrom, prog_5_method_6_code, 2, none, { frames := 1, cells := 0, slots := 0, locals := 40 })
def m_House_tell : MR := (yX3_tell, prog_5_method_8_code, 5, none, { frames := 0, cells := 0, slots := 0, locals := 0 })
def m_House_withFirstIn : MR := (yX3_withFirstIn, prog_5_method_13_code, 5, (some .int), { frames := 0, cells := 0, slots := 0, locals := 0 })
def m_House_withSecondIn : MR := (yX3_withSecondIn, prog_5_method_14_code, 5, (some .int), { frames := 0, cells := 0, slots := 0, locals := 0 })
def m_Mo_anew : MR := (yX10_anew, prog_12_method_49_code, 7, (some .int), { frames := 2, cells := 0, slots := 0, locals := 50 })
def m_Mo_answers : MR := (yX10_answers, prog_12_method_61_code, 5, (some .int), { frames := 5, cells := 0, slots := 0, locals := 123 })
def m_Mo_areApart : MR := (yX10_areApart, prog_12_method_47_code, 4, (some .boolean), { frames := 1, cells := 0, slots := 0, locals := 21 })
def m_Mo_areNamed : MR := (yX10_areNamed, prog_12_method_23_code, 4, (some .boolean), { frames := 0, cells := 0, slots := 0, locals := 0 })
def m_Mo_as : MR := (yX10_as, prog_12_method_76_code, 3, (some .int), { frames := 2, cells := 0, slots := 0, locals := 46 })
def m_Mo_ask : MR := (yX10_ask, prog_12_method_82_code, 3, (some .int), { frames := 5, cells := 0, slots := 0, locals := 113 })
def m_Mo_askable : MR := (yX10_askable, prog_12_method_62_code, 4, (some .int), { frames := 5, cells := 0, slots := 0, locals := 123 })
def m_Mo_bad : MR := (yX10_bad, prog_12_method_11_code, 2, none, { frames := 0, cells := 0, slots := 0, locals := 0 })
def m_Mo_began : MR := (yX10_began, prog_12_method_77_code, 2, none, { frames := 0, cells := 0, slots := 0, locals := 0 })
def m_Mo_begin : MR := (yX10_begin, prog_12_method_17_code, 1, none, { frames := 2, cells := 0, slots := 0, locals := 45 })
def m_Mo_bits : MR := (yX10_bits, prog_12_method_27_code, 3, (some .int), { frames := 0, cells := 0, slots := 0, locals := 0 })
def m_Mo_breaks : MR := (yX10_breaks, prog_12_method_35_code, 6, (some .int), { frames := 1, cells := 0, slots := 0, locals := 22 })
def m_Mo_cellAt : MR := (yX10_cellAt, prog_12_method_58_code, 2, (some .int), { frames := 5, cells := 0, slots := 0, locals := 123 })
def m_Mo_cellOf : MR := (yX10_cellOf, prog_12_method_31_code, 8, (some .int), { frames := 1, cells := 0, slots := 0, locals := 22 })
def m_Mo_comes : MR := (yX10_comes, prog_12_method_36_code, 4, none, { frames := 0, cells := 0, slots := 0, locals := 0 })
def m_Mo_constantCell : MR := (yX10_constantCell, prog_12_method_32_code, 4, (some .int), { frames := 2, cells := 0, slots := 0, locals := 49 })
def m_Mo_copy : MR := (yX10_copy, prog_12_method_8_code, 9, (some .int), { frames := 2, cells := 0, slots := 0, locals := 45 })
def m_Mo_count : MR := (yX10_count, prog_12_method_84_code, 4, (some .int), { frames := 5, cells := 0, slots := 0, locals := 123 })
def m_Mo_drawn : MR := (yX10_drawn, prog_12_method_70_code, 11, (some .int), { frames := 5, cells := 0, slots := 0, locals := 123 })
def m_Mo_drop : MR := (yX10_drop, prog_12_method_9_code, 2, (some .int), { frames := 2, cells := 0, slots := 0, locals := 45 })
def m_Mo_empties : MR := (yX10_empties, prog_12_method_57_code, 1, (some .int), { frames := 5, cells := 0, slots := 0, locals := 123 })
def m_Mo_emptySet : MR := (yX10_emptySet, prog_12_method_56_code, 4, (some .int), { frames := 3, cells := 0, slots := 0, locals := 65 })
def m_Mo_ends : MR := (yX10_ends, prog_12_method_63_code, 6, (some .int), { frames := 5, cells := 0, slots := 0, locals := 123 })
def m_Mo_everyType : MR := (yX10_everyType, prog_12_method_60_code, 1, (some .int), { frames := 0, cells := 0, slots := 0, locals := 0 })
def m_Mo_failed : MR := (yX10_failed, prog_12_method_18_code, 1, (some .boolean), { frames := 1, cells := 0, slots := 0, locals := 21 })
def m_Mo_fault : MR := (yX10_fault, prog_12_method_19_code, 1, (some .int), { frames := 0, cells := 0, slots := 0, locals := 0 })
def m_Mo_feed : MR := (yX10_feed, prog_12_method_10_code, 2, (some .int), { frames := 1, cells := 0, slots := 0, locals := 25 })
def m_Mo_finding : MR := (yX10_finding, prog_12_method_4_code, 2, (some .int), { frames := 0, cells := 0, slots := 0, locals := 0 })
def m_Mo_functionCell : MR := (yX10_functionCell, prog_12_method_34_code, 4, (some .int), { frames := 2, cells := 0, slots := 0, locals := 49 })
def m_Mo_gather : MR := (yX10_gather, prog_12_method_37_code, 2, none, { frames := 0, cells := 0, slots := 0, locals := 0 })
def m_Mo_goOn : MR := (yX10_goOn, prog_12_method_42_code, 7, none, { frames := 3, cells := 0, slots := 0, locals := 73 })
def m_Mo_has : MR := (yX10_has, prog_12_method_28_code, 2, (some .boolean), { frames := 0, cells := 0, slots := 0, locals := 0 })
def m_Mo_house : MR := (yX10_house, prog_12_method_24_code, 2, (some .int), { frames := 5, cells := 0, slots := 0, locals := 115 })
def m_Mo_image : MR := (yX10_image, prog_12_method_71_code, 3, (some .int), { frames := 1, cells := 0, slots := 0, locals := 25 })
def m_Mo_in : MR := (yX10_in, prog_12_method_3_code, 6, (some .boolean), { frames := 0, cells := 0, slots := 0, locals := 0 })
def m_Mo_init : MR := (yX10_init, prog_12_method_1_code, 1, none, { frames := 1, cells := 19, slots := 3518, locals := 20 })
def m_Mo_isEmpty : MR := (yX10_isEmpty, prog_12_method_45_code, 2, (some .boolean), { frames := 2, cells := 0, slots := 0, locals := 44 })
def m_Mo_isKnown : MR := (yX10_isKnown, prog_12_method_40_code, 4, (some .boolean), { frames := 0, cells := 0, slots := 0, locals := 0 })
def m_Mo_isLetter : MR := (yX10_isLetter, prog_12_method_14_code, 2, (some .boolean), { frames := 0, cells := 0, slots := 0, locals := 0 })
def m_Mo_isMarked : MR := (yX10_isMarked, prog_12_method_59_code, 3, (some .boolean), { frames := 3, cells := 0, slots := 0, locals := 72 })
def m_Mo_isOf : MR := (yX10_isOf, prog_12_method_74_code, 2, (some .boolean), { frames := 0, cells := 0, slots := 0, locals := 0 })
def m_Mo_isRow : MR := (yX10_isRow, prog_12_method_5_code, 1, (some .boolean), { frames := 1, cells := 0, slots := 0, locals := 25 })
def m_Mo_isSet : MR := (yX10_isSet, prog_12_method_52_code, 2, (some .boolean), { frames := 1, cells := 0, slots := 0, locals := 25 })
def m_Mo_isSort : MR := (yX10_isSort, prog_12_method_21_code, 1, (some .boolean), { frames := 1, cells := 0, slots := 0, locals := 20 })
def m_Mo_isThere : MR := (yX10_isThere, prog_12_method_25_code, 1, (some .boolean), { frames := 0, cells := 0, slots := 0, locals := 0 })
def m_Mo_isType : MR := (yX10_isType, prog_12_method_26_code, 2, (some .boolean), { frames := 1, cells := 0, slots := 0, locals := 25 })
def m_Mo_join : MR := (yX10_join, prog_12_method_38_code, 3, none, { frames := 0, cells := 0, slots := 0, locals := 0 })
def m_Mo_keep : MR := (yX10_keep, prog_12_method_48_code, 2, none, { frames := 0, cells := 0, slots := 0, locals := 0 })
def m_Mo_kind : MR := (yX10_kind, prog_12_method_75_code, 2, (some .int), { frames := 2, cells := 0, slots := 0, locals := 46 })
def m_Mo_kindOf : MR := (yX10_kindOf, prog_12_method_73_code, 3, (some .int), { frames := 1, cells := 0, slots := 0, locals := 22 })
def m_Mo_layCases : MR := (yX10_layCases, prog_12_method_39_code, 9, none, { frames := 2, cells := 0, slots := 0, locals := 47 })
def m_Mo_layPlain : MR := (yX10_layPlain, prog_12_method_64_code, 5, none, { frames := 3, cells := 0, slots := 0, locals := 73 })
def m_Mo_layThen : MR := (yX10_layThen, prog_12_method_43_code, 2, none, { frames := 0, cells := 0, slots := 0, locals := 0 })
def m_Mo_lies : MR := (yX10_lies, prog_12_method_54_code, 3, (some .int), { frames := 5, cells := 0, slots := 0, locals := 123 })
def m_Mo_liesIn : MR := (yX10_liesIn, prog_12_method_46_code, 4, (some .boolean), { frames := 1, cells := 0, slots := 0, locals := 21 })
def m_Mo_lowest : MR := (yX10_lowest, prog_12_method_53_code, 7, (some .int), { frames := 5, cells := 0, slots := 0, locals := 123 })
def m_Mo_markOf : MR := (yX10_markOf, prog_12_method_80_code, 4, (some .int), { frames := 3, cells := 0, slots := 0, locals := 67 })
def m_Mo_may : MR := (yX10_may, prog_12_method_30_code, 6, (some .boolean), { frames := 1, cells := 0, slots := 0, locals := 25 })
def m_Mo_must : MR := (yX10_must, prog_12_method_13_code, 2, none, { frames := 2, cells := 0, slots := 0, locals := 45 })
def m_Mo_mustSign : MR := (yX10_mustSign, prog_12_method_16_code, 2, none, { frames := 3, cells := 0, slots := 0, locals := 66 })
def m_Mo_nextToken : MR := (yX10_nextToken, prog_12_method_12_code, 1, none, { frames := 1, cells := 0, slots := 0, locals := 25 })
def m_Mo_number : MR := (yX10_number, prog_12_method_15_code, 4, (some .int), { frames := 3, cells := 0, slots := 0, locals := 66 })
def m_Mo_of : MR := (yX10_of, prog_12_method_29_code, 3, (some .int), { frames := 0, cells := 0, slots := 0, locals := 0 })
def m_Mo_others : MR := (yX10_others, prog_12_method_55_code, 6, (some .int), { frames := 5, cells := 0, slots := 0, locals := 123 })
def m_Mo_pairCell : MR := (yX10_pairCell, prog_12_method_33_code, 5, (some .int), { frames := 2, cells := 0, slots := 0, locals := 49 })
def m_Mo_pairSize : MR := (yX10_pairSize, prog_12_method_79_code, 4, (some .int), { frames := 2, cells := 0, slots := 0, locals := 44 })
def m_Mo_pick : MR := (yX10_pick, prog_12_method_67_code, 9, (some .int), { frames := 4, cells := 0, slots := 0, locals := 97 })
def m_Mo_plain : MR := (yX10_plain, prog_12_method_66_code, 3, (some .int), { frames := 4, cells := 0, slots := 0, locals := 97 })
def m_Mo_plainOf : MR := (yX10_plainOf, prog_12_method_65_code, 4, (some .int), { frames := 1, cells := 0, slots := 0, locals := 21 })
def m_Mo_plainSize : MR := (yX10_plainSize, prog_12_method_78_code, 2, (some .int), { frames := 1, cells := 0, slots := 0, locals := 22 })
def m_Mo_readType : MR := (yX10_readType, prog_12_method_22_code, 7, none, { frames := 4, cells := 0, slots := 0, locals := 89 })
def m_Mo_reckon : MR := (yX10_reckon, prog_12_method_41_code, 5, none, { frames := 4, cells := 0, slots := 0, locals := 99 })
def m_Mo_restore : MR := (yX10_restore, prog_12_method_72_code, 3, (some .int), { frames := 1, cells := 0, slots := 0, locals := 25 })
def m_Mo_row : MR := (yX10_row, prog_12_method_6_code, 5, (some .int), { frames := 2, cells := 0, slots := 0, locals := 45 })
def m_Mo_rowFound : MR := (yX10_rowFound, prog_12_method_68_code, 4, (some .int), { frames := 1, cells := 0, slots := 0, locals := 21 })
def m_Mo_set : MR := (yX10_set, prog_12_method_7_code, 4, (some .int), { frames := 2, cells := 0, slots := 0, locals := 45 })
def m_Mo_sizeOf : MR := (yX10_sizeOf, prog_12_method_81_code, 4, (some .int), { frames := 4, cells := 0, slots := 0, locals := 90 })
def m_Mo_sortBy : MR := (yX10_sortBy, prog_12_method_20_code, 1, (some .int), { frames := 0, cells := 0, slots := 0, locals := 0 })
def m_Mo_sortsOf : MR := (yX10_sortsOf, prog_12_method_44_code, 4, (some .int), { frames := 1, cells := 0, slots := 0, locals := 21 })
def m_Mo_status : MR := (yX10_status, prog_12_method_85_code, 1, (some .int), { frames := 0, cells := 0, slots := 0, locals := 0 })
def m_Mo_trace : MR := (yX10_trace, prog_12_method_83_code, 2, (some .int), { frames := 1, cells := 0, slots := 0, locals := 25 })
def m_Mo_type : MR := (yX10_type, prog_12_method_51_code, 3, (some .int), { frames := 2, cells := 0, slots := 0, locals := 46 })
def m_Mo_undo : MR := (yX10_undo, prog_12_method_50_code, 2, (some .int), { frames := 0, cells := 0, slots := 0, locals := 0 })
def m_Mo_who : MR := (yX10_who, prog_12_method_69_code, 11, (some .int), { frames := 5, cells := 0, slots := 0, locals := 123 })
def m_Plain_howMany : MR := (yX4_howMany, prog_6_method_5_code, 3, (some .int), { frames := 0, cells := 0, slots := 0, locals := 0 })
def m_Plain_init : MR := (yX4_init, prog_6_method_1_code, 1, none, { frames := 2, cells := 14, slots := 2096, locals := 40 })
def m_Plain_measure : MR := (yX4_measure, prog_6_method_2_code, 5, none, { frames := 3, cells := 0, slots := 0, locals := 69 })
def m_Plain_ofAny : MR := (yX4_ofAny, prog_6_method_6_code, 2, (some .int), { frames := 0, cells := 0, slots := 0, locals := 0 })
def m_Plain_pairUp : MR := (yX4_pairUp, prog_6_method_3_code, 6, none, { frames := 2, cells := 0, slots := 0, locals := 44 })
def m_Plain_sumUp : MR := (yX4_sumUp, prog_6_method_4_code, 6, none, { frames := 0, cells := 0, slots := 0, locals := 0 })
def m_Rows_bits : MR := (yX5_bits, prog_7_method_9_code, 6, (some .int), { frames := 0, cells := 0, slots := 0, locals := 0 })
def m_Rows_findingAt : MR := (yX5_findingAt, prog_7_method_10_code, 4, (some .int), { frames := 1, cells := 0, slots := 0, locals := 23 })
def m_Rows_findingOfMove : MR := (yX5_findingOfMove, prog_7_method_11_code, 6, (some .int), { frames := 1, cells := 0, slots := 0, locals := 23 })
def m_Rows_init : MR := (yX5_init, prog_7_method_1_code, 1, none, { frames := 1, cells := 3, slots := 336, locals := 23 })
def m_Rows_isLane : MR := (yX5_isLane, prog_7_method_3_code, 1, (some .boolean), { frames := 0, cells := 0, slots := 0, locals := 0 })
def m_Rows_isNumber : MR := (yX5_isNumber, prog_7_method_2_code, 1, (some .boolean), { frames := 0, cells := 0, slots := 0, locals := 0 })
def m_Rows_isPlace : MR := (yX5_isPlace, prog_7_method_12_code, 4, (some .boolean), { frames := 0, cells := 0, slots := 0, locals := 0 })
def m_Rows_lose : MR := (yX5_lose, prog_7_method_7_code, 2, (some .int), { frames := 0, cells := 0, slots := 0, locals := 0 })
def m_Rows_make : MR := (yX5_make, prog_7_method_4_code, 5, none, { frames := 0, cells := 0, slots := 0, locals := 0 })
def m_Rows_move : MR := (yX5_move, prog_7_method_6_code, 6, none, { frames := 1, cells := 0, slots := 0, locals := 40 })
def m_Rows_present : MR := (yX5_present, prog_7_method_8_code, 3, (some .int), { frames := 0, cells := 0, slots := 0, locals := 0 })
def m_Rows_put : MR := (yX5_put, prog_7_method_5_code, 6, (some .int), { frames := 0, cells := 0, slots := 0, locals := 0 })
def m_Sets_add : MR := (yX6_add, prog_8_method_3_code, 3, (some .boolean), { frames := 0, cells := 0, slots := 0, locals := 0 })
def m_Sets_clear : MR := (yX6_clear, prog_8_method_2_code, 2, none, { frames := 0, cells := 0, slots := 0, locals := 0 })
def m_Sets_init : MR := (yX6_init, prog_8_method_1_code, 1, none, { frames := 1, cells := 2, slots := 512, locals := 20 })
def m_Sets_raise : MR := (yX6_raise, prog_8_method_4_code, 3, none, { frames := 1, cells := 0, slots := 0, locals := 22 })
def m_Sides_clear : MR := (yX7_clear, prog_9_method_2_code, 1, none, { frames := 1, cells := 0, slots := 0, locals := 21 })
def m_Sides_init : MR := (yX7_init, prog_9_method_1_code, 1, none, { frames := 2, cells := 8, slots := 1542, locals := 40 })
def m_Sides_see : MR := (yX7_see, prog_9_method_3_code, 5, none, { frames := 1, cells := 0, slots := 0, locals := 24 })
def m_TS_anew : MR := (yX9_anew, prog_1_method_10_code, 6, (some .int), { frames := 3, cells := 0, slots := 0, locals := 82 })
def m_TS_answers : MR := (yX9_answers, prog_1_method_17_code, 3, (some .int), { frames := 6, cells := 0, slots := 0, locals := 146 })
def m_TS_as : MR := (yX9_as, prog_1_method_27_code, 3, (some .int), { frames := 1, cells := 0, slots := 0, locals := 21 })
def m_TS_ask : MR := (yX9_ask, prog_1_method_28_code, 3, (some .int), { frames := 8, cells := 0, slots := 0, locals := 161 })
def m_TS_askable : MR := (yX9_askable, prog_1_method_18_code, 2, (some .int), { frames := 6, cells := 0, slots := 0, locals := 146 })
def m_TS_cellAt : MR := (yX9_cellAt, prog_1_method_16_code, 2, (some .int), { frames := 6, cells := 0, slots := 0, locals := 146 })
def m_TS_cellsNow : MR := (yX9_cellsNow, prog_1_method_34_code, 1, (some (FieldType.object "TypeSets$Cells")), { frames := 5, cells := 0, slots := 0, locals := 126 })
def m_TS_copy : MR := (yX9_copy, prog_1_method_4_code, 6, (some .int), { frames := 2, cells := 0, slots := 0, locals := 65 })
def m_TS_count : MR := (yX9_count, prog_1_method_30_code, 2, (some .int), { frames := 6, cells := 0, slots := 0, locals := 146 })
def m_TS_drawEquation : MR := (yX9_drawEquation, prog_1_method_38_code, 7, none, { frames := 2, cells := 0, slots := 0, locals := 46 })
def m_TS_drawn : MR := (yX9_drawn, prog_1_method_23_code, 7, (some .int), { frames := 5, cells := 0, slots := 0, locals := 126 })
def m_TS_drop : MR := (yX9_drop, prog_1_method_5_code, 2, (some .int), { frames := 2, cells := 0, slots := 0, locals := 46 })
def m_TS_empties : MR := (yX9_empties, prog_1_method_15_code, 1, (some .int), { frames := 6, cells := 0, slots := 0, locals := 146 })
def m_TS_ends : MR := (yX9_ends, prog_1_method_19_code, 3, (some .int), { frames := 6, cells := 0, slots := 0, locals := 146 })
def m_TS_fault : MR := (yX9_fault, prog_1_method_8_code, 1, (some .int), { frames := 0, cells := 0, slots := 0, locals := 0 })
def m_TS_feed : MR := (yX9_feed, prog_1_method_6_code, 2, (some .int), { frames := 1, cells := 0, slots := 0, locals := 21 })
def m_TS_fits : MR := (yX9_fits, prog_1_method_37_code, 9, (some .boolean), { frames := 5, cells := 0, slots := 0, locals := 126 })
def m_TS_forgetWhatStood : MR := (yX9_forgetWhatStood, prog_1_method_33_code, 1, none, { frames := 0, cells := 0, slots := 0, locals := 0 })
def m_TS_greatestDivisor : MR := (yX9_greatestDivisor, prog_1_method_39_code, 6, (some .int), { frames := 0, cells := 0, slots := 0, locals := 0 })
def m_TS_house : MR := (yX9_house, prog_1_method_7_code, 2, (some .int), { frames := 6, cells := 0, slots := 0, locals := 132 })
def m_TS_image : MR := (yX9_image, prog_1_method_24_code, 2, (some .int), { frames := 2, cells := 0, slots := 0, locals := 61 })
def m_TS_imageOf : MR := (yX9_imageOf, prog_1_method_36_code, 2, (some (FieldType.object "TypeSets$House")), { frames := 0, cells := 0, slots := 0, locals := 0 })
def m_TS_init : MR := (yX9_init, prog_1_method_1_code, 1, none, { frames := 4, cells := 118, slots := 13699, locals := 80 })
def m_TS_kind : MR := (yX9_kind, prog_1_method_26_code, 2, (some .int), { frames := 1, cells := 0, slots := 0, locals := 21 })
def m_TS_lies : MR := (yX9_lies, prog_1_method_13_code, 3, (some .int), { frames := 6, cells := 0, slots := 0, locals := 146 })
def m_TS_lowest : MR := (yX9_lowest, prog_1_method_12_code, 3, (some .int), { frames := 6, cells := 0, slots := 0, locals := 146 })
def m_TS_others : MR := (yX9_others, prog_1_method_14_code, 3, (some .int), { frames := 6, cells := 0, slots := 0, locals := 146 })
def m_TS_pick : MR := (yX9_pick, prog_1_method_21_code, 7, (some .int), { frames := 5, cells := 0, slots := 0, locals := 113 })
def m_TS_plain : MR := (yX9_plain, prog_1_method_20_code, 3, (some .int), { frames := 5, cells := 0, slots := 0, locals := 113 })
def m_TS_plainNow : MR := (yX9_plainNow, prog_1_method_35_code, 1, (some (FieldType.object "TypeSets$PlainValues")), { frames := 4, cells := 0, slots := 0, locals := 93 })
def m_TS_restore : MR := (yX9_restore, prog_1_method_25_code, 2, (some .int), { frames := 3, cells := 0, slots := 0, locals := 82 })
def m_TS_row : MR := (yX9_row, prog_1_method_2_code, 4, (some .int), { frames := 1, cells := 0, slots := 0, locals := 24 })
def m_TS_set : MR := (yX9_set, prog_1_method_3_code, 4, (some .int), { frames := 2, cells := 0, slots := 0, locals := 46 })
def m_TS_standIn : MR := (yX9_standIn, prog_1_method_32_code, 2, none, { frames := 2, cells := 0, slots := 0, locals := 61 })
def m_TS_status : MR := (yX9_status, prog_1_method_31_code, 1, (some .int), { frames := 0, cells := 0, slots := 0, locals := 0 })
def m_TS_trace : MR := (yX9_trace, prog_1_method_29_code, 2, (some .int), { frames := 0, cells := 0, slots := 0, locals := 0 })
def m_TS_type : MR := (yX9_type, prog_1_method_11_code, 3, (some .int), { frames := 1, cells := 0, slots := 0, locals := 21 })
def m_TS_undo : MR := (yX9_undo, prog_1_method_9_code, 1, (some .int), { frames := 2, cells := 0, slots := 0, locals := 45 })
def m_TS_who : MR := (yX9_who, prog_1_method_22_code, 10, (some .int), { frames := 6, cells := 0, slots := 0, locals := 154 })
def m_Tape_add : MR := (yX8_add, prog_10_method_2_code, 2, (some .boolean), { frames := 0, cells := 0, slots := 0, locals := 0 })
def m_Tape_fails : MR := (yX8_fails, prog_10_method_10_code, 2, (some .boolean), { frames := 0, cells := 0, slots := 0, locals := 0 })
def m_Tape_init : MR := (yX8_init, prog_10_method_1_code, 1, none, { frames := 1, cells := 1, slots := 80, locals := 20 })
def m_Tape_isFigure : MR := (yX8_isFigure, prog_10_method_12_code, 1, (some .boolean), { frames := 0, cells := 0, slots := 0, locals := 0 })
def m_Tape_mostOf : MR := (yX8_mostOf, prog_10_method_6_code, 2, (some .int), { frames := 0, cells := 0, slots := 0, locals := 0 })
def m_Tape_read : MR := (yX8_read, prog_10_method_3_code, 2, (some .boolean), { frames := 5, cells := 0, slots := 0, locals := 111 })
def m_Tape_readEquation : MR := (yX8_readEquation, prog_10_method_5_code, 6, (some .boolean), { frames := 3, cells := 0, slots := 0, locals := 63 })
def m_Tape_readTypes : MR := (yX8_readTypes, prog_10_method_4_code, 4, (some .boolean), { frames := 4, cells := 0, slots := 0, locals := 88 })
def m_Tape_sortOf : MR := (yX8_sortOf, prog_10_method_7_code, 1, (some .int), { frames := 0, cells := 0, slots := 0, locals := 0 })
def m_Tape_step : MR := (yX8_step, prog_10_method_11_code, 2, none, { frames := 1, cells := 0, slots := 0, locals := 20 })
def m_Tape_takesNumber : MR := (yX8_takesNumber, prog_10_method_9_code, 3, (some .boolean), { frames := 2, cells := 0, slots := 0, locals := 41 })
def m_Tape_takesSign : MR := (yX8_takesSign, prog_10_method_8_code, 2, (some .boolean), { frames := 2, cells := 0, slots := 0, locals := 41 })
def m_bitCount : MR := (yJ6_bitCount_0f7a4, prog_13_method_49_code, 1, (some .int), { frames := 0, cells := 0, slots := 0, locals := 0 })
def m_fill : MR := (yJ7_fill_53178, prog_15_method_103_code, 4, none, { frames := 0, cells := 0, slots := 0, locals := 0 })
def m_law : MR := (yL_law, code, 4, (some .boolean), room_1)
/-- of a class: where the cells that its fields name lie behind it (none: the field is a number) -/
def mx_off : List (List (Option Nat)) := [[some 1, some 2, some 3, some 4, none], [some 1, none, none, none, none, none], [some 1, none, none, none, none, none, some 5, some 8, some 17, some 26, some 29, some 32, some 33, some 34, some 35, some 36], [some 1, some 2, some 3, none, none], [some 1, some 2, some 3, some 6, some 9, some 12], [some 1, some 2, some 3], [some 1, some 2, none], [some 1, some 2, some 3, some 6], [some 1, none, none, none, none, none, none], [some 1, some 5, some 7, some 11, some 15, some 19, some 23, some 28, some 65, some 102, some 117, none, none, none], [none, none, some 1, some 2, some 3, some 4, some 5, some 6, some 7, none, some 8, none, none, none, none, none, none, none, none, some 9, some 10, some 11, none, some 12, some 13, some 14, some 15, some 16, some 17, some 18, some 19, none]]
abbrev mx_K : Type := (Nat × List (Option (Option Nat))) ⊕ (Bool × Nat)
/-- the cells of both systems, once they are made -/
def LAY : List mx_K := [.inl (9, [some (some 1), some (some 5), some (some 7), some (some 11), some (some 15), some (some 19), some (some 23), some (some 28), some (some 65), some (some 102), some (some 117), none, none, none]), .inl (5, [some (some 2), some (some 3), some (some 4)]), .inr (false, 8), .inr (false, 8), .inr (false, 320), .inl (8, [some (some 6), none, none, none, none, none, none]), .inr (false, 80), .inl (3, [some (some 8), some (some 9), some (some 10), none, none]), .inr (false, 8), .inr (false, 8), .inr (false, 8), .inl (3, [some (some 12), some (some 13), some (some 14), none, none]), .inr (false, 8), .inr (false, 8), .inr (false, 8), .inl (3, [some (some 16), some (some 17), some (some 18), none, none]), .inr (false, 8), .inr (false, 8), .inr (false, 8), .inl (3, [some (some 20), some (some 21), some (some 22), none, none]), .inr (false, 8), .inr (false, 8), .inr (false, 8), .inl (0, [some (some 24), some (some 25), some (some 26), some (some 27), none]), .inr (false, 24), .inr (false, 24), .inr (false, 24), .inr (false, 24), .inl (2, [some (some 29), none, none, none, none, none, some (some 33), some (some 36), some (some 45), some (some 54), some (some 57), some (some 60), some (some 61), some (some 62), some (some 63), some (some 64)]), .inl (3, [some (some 30), some (some 31), some (some 32), none, none]), .inr (false, 8), .inr (false, 8), .inr (false, 8), .inl (6, [some (some 34), some (some 35), none]), .inr (false, 256), .inr (false, 256), .inl (7, [some (some 37), some (some 38), some (some 39), some (some 42)]), .inr (false, 256), .inr (false, 256), .inl (6, [some (some 40), some (some 41), none]), .inr (false, 256), .inr (false, 256), .inl (6, [some (some 43), some (some 44), none]), .inr (false, 256), .inr (false, 256), .inl (7, [some (some 46), some (some 47), some (some 48), some (some 51)]), .inr (false, 256), .inr (false, 256), .inl (6, [some (some 49), some (some 50), none]), .inr (false, 256), .inr (false, 256), .inl (6, [some (some 52), some (some 53), none]), .inr (false, 256), .inr (false, 256), .inl (6, [some (some 55), some (some 56), none]), .inr (false, 256), .inr (false, 256), .inl (6, [some (some 58), some (some 59), none]), .inr (false, 256), .inr (false, 256), .inr (false, 256), .inr (false, 256), .inr (false, 256), .inr (false, 8), .inr (false, 8), .inl (2, [some (some 66), none, none, none, none, none, some (some 70), some (some 73), some (some 82), some (some 91), some (some 94), some (some 97), some (some 98), some (some 99), some (some 100), some (some 101)]), .inl (3, [some (some 67), some (some 68), some (some 69), none, none]), .inr (false, 8), .inr (false, 8), .inr (false, 8), .inl (6, [some (some 71), some (some 72), none]), .inr (false, 256), .inr (false, 256), .inl (7, [some (some 74), some (some 75), some (some 76), some (some 79)]), .inr (false, 256), .inr (false, 256), .inl (6, [some (some 77), some (some 78), none]), .inr (false, 256), .inr (false, 256), .inl (6, [some (some 80), some (some 81), none]), .inr (false, 256), .inr (false, 256), .inl (7, [some (some 83), some (some 84), some (some 85), some (some 88)]), .inr (false, 256), .inr (false, 256), .inl (6, [some (some 86), some (some 87), none]), .inr (false, 256), .inr (false, 256), .inl (6, [some (some 89), some (some 90), none]), .inr (false, 256), .inr (false, 256), .inl (6, [some (some 92), some (some 93), none]), .inr (false, 256), .inr (false, 256), .inl (6, [some (some 95), some (some 96), none]), .inr (false, 256), .inr (false, 256), .inr (false, 256), .inr (false, 256), .inr (false, 256), .inr (false, 8), .inr (false, 8), .inl (4, [some (some 103), some (some 104), some (some 105), some (some 108), some (some 111), some (some 114)]), .inr (false, 32), .inr (false, 4), .inl (6, [some (some 106), some (some 107), none]), .inr (false, 256), .inr (false, 256), .inl (6, [some (some 109), some (some 110), none]), .inr (false, 256), .inr (false, 256), .inl (6, [some (some 112), some (some 113), none]), .inr (false, 256), .inr (false, 256), .inl (6, [some (some 115), some (some 116), none]), .inr (false, 256), .inr (false, 256), .inl (1, [some (some 118), none, none, none, none, none]), .inr (false, 16), .inl (10, [none, none, some (some 120), some (some 121), some (some 122), some (some 123), some (some 124), some (some 125), some (some 126), none, some (some 127), none, none, none, none, none, none, none, none, some (some 128), some (some 129), some (some 130), none, some (some 131), some (some 132), some (some 133), some (some 134), some (some 135), some (some 136), some (some 137), some (some 138), none]), .inr (false, 8), .inr (false, 8), .inr (false, 320), .inr (false, 26), .inr (false, 26), .inr (false, 26), .inr (false, 624), .inr (false, 80), .inr (false, 256), .inr (false, 256), .inr (false, 256), .inr (true, 512), .inr (true, 512), .inr (false, 26), .inr (false, 256), .inr (false, 256), .inr (true, 2), .inr (false, 52), .inr (false, 16)]
def mx_lp0 : List Nat := [204, 206, 208, 210, 212]
def mx_lp1 : List Nat := [364, 366, 368, 370, 372, 374]
def mx_lp2 : List Nat := [290, 292, 294, 296, 298, 300, 302, 304, 306, 308, 310, 312, 314, 316, 318, 320]
def mx_lp3 : List Nat := [181, 183, 185, 187, 189]
def mx_lp4 : List Nat := [337, 339, 341, 343, 345, 347]
def mx_lp5 : List Nat := [115, 117, 119]
def mx_lp6 : List Nat := [239, 241, 243]
def mx_lp7 : List Nat := [262, 264, 266, 268]
def mx_lp8 : List Nat := [139, 141, 143, 145, 147, 149, 151]
def mx_lp9 : List Nat := [391, 393, 395, 397, 399, 401, 403, 405, 407, 409, 411, 413, 415, 417]
def mx_lp10 : List Nat := [983, 985, 987, 989, 991, 993, 995, 997, 999, 1001, 1003, 1005, 1007, 1009, 1011, 1013, 1015, 1017, 1019, 1021, 1023, 1025, 1027, 1029, 1031, 1033, 1035, 1037, 1039, 1041, 1043, 1045]
end
section
/-! ===== the words that all methods share ===== -/
def TT : List Cond := lw_tbl.filter goodWord
def inTT (i : Nat) (w : Cond) : Bool := decide (lw_tbl[i]? = some w) && goodWord w
theorem inTT_mem {i : Nat} {w : Cond} (h : inTT i w = true) : w ∈ TT := by
  simp only [inTT, Bool.and_eq_true, decide_eq_true_eq] at h
  exact List.mem_filter.mpr ⟨List.mem_of_getElem? h.1, h.2⟩
def mx_ws (m : MR) : List Cond := .code m.1 m.2.1 m.2.2.1 m.2.2.2.1 :: TT
theorem mx_good {big ws : List Cond} (h : ∀ w ∈ TT, w ∈ big) (hw : ∀ w ∈ ws, w ∈ TT) : GoodIn big ws := fun w q => ⟨h w (hw w q), good_of_word (List.mem_filter.mp (hw w q)).2⟩
theorem mx_ws_sub {m : MR} (h : Cond.code m.1 m.2.1 m.2.2.1 m.2.2.2.1 ∈ TT) : ∀ w ∈ mx_ws m, w ∈ TT := fun w q => by
  rcases List.mem_cons.mp q with rfl | q
  · exact h
  · exact q
/-- the fields of a class lie where the tables say -/
def mx_lays (C : String) (T : u_T) (ps : List Nat) : Bool := (List.range ps.length).all fun k => inTT (ps.getD k 0) (u_lay C T k)
theorem mx_lays_in {C : String} {T : u_T} {ps : List Nat} (h : mx_lays C T ps = true) : ∀ w ∈ u_ws C T ps.length, w ∈ TT := by
  intro w hw
  obtain ⟨k, hk, rfl⟩ := List.mem_map.mp hw
  exact inTT_mem (List.all_eq_true.mp h k hk)
def mx_cok (ci : Nat) (C : String) (T : u_T) (N : Nat) (ty : Nat → FieldType) : Prop :=
  (∀ w ∈ u_ws C T N, w ∈ TT) ∧ (∀ k, k < N → parseFieldDescriptor (T k).2.2.1 = some (ty k)) ∧ (∀ a, a < N → ∀ b, b < N → a ≠ b → (T a).2.1 ≠ (T b).2.1)
def mx_ty : Nat → Nat → FieldType := fun ci => match ci with
  | 0 => tyX0 | 1 => tyX1 | 2 => tyX2 | 3 => tyX3 | 4 => tyX4 | 5 => tyX5 | 6 => tyX6 | 7 => tyX7 | 8 => tyX8 | 9 => tyX9 | _ => tyX10
theorem mx_l0 : mx_lays RX0 TX0 mx_lp0 = true := by decide +kernel
theorem mx_l1 : mx_lays RX1 TX1 mx_lp1 = true := by decide +kernel
theorem mx_l2 : mx_lays RX2 TX2 mx_lp2 = true := by decide +kernel
theorem mx_l3 : mx_lays RX3 TX3 mx_lp3 = true := by decide +kernel
theorem mx_l4 : mx_lays RX4 TX4 mx_lp4 = true := by decide +kernel
theorem mx_l5 : mx_lays RX5 TX5 mx_lp5 = true := by decide +kernel
theorem mx_l6 : mx_lays RX6 TX6 mx_lp6 = true := by decide +kernel
theorem mx_l7 : mx_lays RX7 TX7 mx_lp7 = true := by decide +kernel
theorem mx_l8 : mx_lays RX8 TX8 mx_lp8 = true := by decide +kernel
theorem mx_l9 : mx_lays RX9 TX9 mx_lp9 = true := by decide +kernel
theorem mx_l10 : mx_lays RX10 TX10 mx_lp10 = true := by decide +kernel
theorem mx_cls : ∀ (ci : Nat) (C : String) (T : u_T) (N : Nat), vwCl[ci]? = some (C, T, N) → mx_cok ci C T N (mx_ty ci) := by
  intro ci C T N h
  match ci, h with
  | 0, h => cases h; exact ⟨mx_lays_in mx_l0, tyX0_ok, nmX0⟩
  | 1, h => cases h; exact ⟨mx_lays_in mx_l1, tyX1_ok, nmX1⟩
  | 2, h => cases h; exact ⟨mx_lays_in mx_l2, tyX2_ok, nmX2⟩
  | 3, h => cases h; exact ⟨mx_lays_in mx_l3, tyX3_ok, nmX3⟩
  | 4, h => cases h; exact ⟨mx_lays_in mx_l4, tyX4_ok, nmX4⟩
  | 5, h => cases h; exact ⟨mx_lays_in mx_l5, tyX5_ok, nmX5⟩
  | 6, h => cases h; exact ⟨mx_lays_in mx_l6, tyX6_ok, nmX6⟩
  | 7, h => cases h; exact ⟨mx_lays_in mx_l7, tyX7_ok, nmX7⟩
  | 8, h => cases h; exact ⟨mx_lays_in mx_l8, tyX8_ok, nmX8⟩
  | 9, h => cases h; exact ⟨mx_lays_in mx_l9, tyX9_ok, nmX9⟩
  | 10, h => cases h; exact ⟨mx_lays_in mx_l10, tyX10_ok, nmX10⟩
  | k + 11, h => simp [vwCl] at h
/-! ===== the abstract machine: its references are numbers of cells, 0 on; 1000 is the script ===== -/
/-- D; the classes of int[] and boolean[]; script's address, first new address, the script's length; the script -/
abbrev mx_G : Type := va_G × (ClassId × ClassId) × (Nat × Nat × Nat) × (Nat → Int32)
abbrev mx_cI (G : mx_G) : ClassId := G.2.1.1
abbrev mx_cZ (G : mx_G) : ClassId := G.2.1.2
abbrev mx_b (G : mx_G) : Nat := G.2.2.1.1
abbrev mx_B (G : mx_G) : Nat := G.2.2.1.2.1
abbrev mx_L (G : mx_G) : Nat := G.2.2.1.2.2
abbrev mx_xs (G : mx_G) : Nat → Int32 := G.2.2.2
def mx_ad (G : mx_G) (k : Nat) : Nat := if k < 1000 then mx_B G + k else mx_b G
def mx_ph (G : mx_G) (v : Value) : Value := match v with
  | .ref k => .ref (mx_ad G k)
  | w => w
abbrev mx_M : Type := Nat → Nat → Int32
def mx_fv (G : mx_G) (M : mx_M) (k j : Nat) (f : Option (Option Nat)) : Value := match f with
  | none => .int (M k j)
  | some none => .null
  | some (some r) => .ref (mx_ad G r)
def mx_e (G : mx_G) (M : mx_M) (k : Nat) (kd : mx_K) : va_E := match kd with
  | .inl (ci, fs) => .inr (ci, fs.mapIdx (mx_fv G M k))
  | .inr (z, n) => .inl (if z then mx_cZ G else mx_cI G, n, .inl (M k))
def mx_w (G : mx_G) (Λ : List mx_K) (M : mx_M) : va_W := Λ.mapIdx (fun k kd => (mx_B G + k, mx_e G M k kd))
def mx_A (G : mx_G) : Nat → Prop := fun q => mx_B G ≤ q
/-- the heap holds the cells -/
def mx_R (G : mx_G) (Λ : List mx_K) (M : mx_M) (H : Heap) : Prop := va_P G.1 vwCl (mx_w G Λ M) H ∧ (Λ.length < 139 → H.size = mx_B G + Λ.length) ∧ Λ.length ≤ 999 ∧ (∀ k, Λ.length ≤ k → k < 1000 → ∀ j, M k j = 0) ∧ M 1000 = mx_xs G
def mx_isN (w : Cond) : Bool := match w with
  | .methodLinkNest _ _ _ _ => true
  | _ => false
def mx_nest : List Cond := lw_tbl.filter mx_isN
abbrev mx_tys (G : mx_G) : List (ClassId × FieldType) := [(mx_cI G, .int), (mx_cZ G, .boolean)]
/-- what a state's tables say -/
def mx_S (G : mx_G) (U : State) : Prop := va_K G.1 vwCl (mx_tys G) U ∧ ∀ w ∈ mx_nest, va_Nw w U
theorem mx_S.warm {G : mx_G} {s U : State} (h : mx_S G s) (hW : s.WarmedH U.vm) : mx_S G U := by
  refine ⟨va_K.moved hW.alike h.1, fun w hw => ?_⟩
  have h1 := (List.mem_filter.mp hw).2
  have h2 := h.2 w hw
  cases w with
  | methodLinkNest a i x q => exact va_Nw.warmM hW h2
  | _ => cases h1
theorem mx_S.same {G : mx_G} {s U : State} (h : mx_S G s) (hv : s.vm = U.vm) : mx_S G U := by
  refine ⟨va_K.moved (by rw [hv]; exact Vm.Alike.refl _) h.1, fun w hw => ?_⟩
  have h1 := (List.mem_filter.mp hw).2
  have h2 := h.2 w hw
  cases w with
  | methodLinkNest a i x q => exact va_Nw.same rfl hv h2
  | _ => cases h1
/-- the method's surroundings -/
def mx_C (G : mx_G) (m : MR) (p : Program) (s : State) (mid : MethodId) (args : Array Value) (meth : Method) (c : Code) : Prop :=
  p.tables.exec = Jvm.exec ∧ c.code = m.2.1 ∧ c.maxLocals = m.2.2.1 ∧ s.vm.findClass m.1.cls = some mid.cls ∧ (∀ w ∈ TT, w.before args s = true) ∧ meth.sig.returnType = m.2.2.2.1 ∧ meth.locks = false ∧ meth.name = m.1.name ∧ mx_S G s ∧ mx_B G ≤ s.heap.size ∧
  (m.1.cls = "TypeSetsLaw" → va_X (mx_b G) (mx_L G) (mx_xs G) s s.heap ∧ mx_b G < mx_B G)
def mx_has (G : mx_G) (ls : Array Slot) (l : List (Option Value)) : Prop := ls.size = l.length ∧ lv_wf ls ∧ ∀ (i : Nat) (v : Value), l[i]? = some (some v) → ls[i]? = some (.val (mx_ph G v))
def mx_ret (m : MR) (pc : Nat) (r : Option Value) : Prop :=
  (r = none ∧ m.2.2.2.1 = none ∧ decode m.2.1 pc = .ok (.return_, 1)) ∨
  (∃ v ty, r = some (.int v) ∧ m.2.2.2.1 = some ty ∧ narrow ty (.int v) = .int v ∧ decode m.2.1 pc = .ok (.ireturn, 1)) ∨
  (∃ k C, r = some (.ref k) ∧ m.2.2.2.1 = some (.object C) ∧ decode m.2.1 pc = .ok (.areturn, 1))
abbrev mx_Q : Type := Option Value → List mx_K → mx_M → Prop
def mx_Ret (G : mx_G) (m : MR) (p : Program) (l : Launch) (e : Env) (s : State) (mid : MethodId) (args : Array Value) (below : List Frame) (meth : Method) (c : Code) (Q : mx_Q) (Z : State → Prop) : Prop :=
  ∀ (r : Option Value) (Λ : List mx_K) (M : mx_M) (H : Heap) (locs : List Loc) (pc : Nat) (ls : Array Slot), Q r Λ M → mx_R G Λ M H → va_S (mx_A G) s.heap H locs → mx_ret m pc r →
    W p l e m.2.2.2.2 s mid args below meth c H locs m.2.2.2.2.cells m.2.2.2.2.slots Z (F0 mid pc ls (r.toList.map (mx_ph G)))
/-- operand stack, locals, memory -/
abbrev mx_St : Type := List Value × List (Option Value) × mx_M
/-- from here the method comes to its end, with Q -/
def mx_W (G : mx_G) (m : MR) (pc : Nat) (st : mx_St) (Λ : List mx_K) (cl sl : Nat) (Q : mx_Q) : Prop :=
  ∀ (p : Program) (l : Launch) (e : Env) (s : State) (mid : MethodId) (args : Array Value) (below : List Frame) (meth : Method) (c : Code) (Z : State → Prop),
    mx_C G m p s mid args meth c → mx_Ret G m p l e s mid args below meth c Q Z →
    ∀ (H : Heap) (locs : List Loc) (ls : Array Slot), mx_R G Λ st.2.2 H → va_S (mx_A G) s.heap H locs → mx_has G ls st.2.1 →
      W p l e m.2.2.2.2 s mid args below meth c H locs cl sl Z (F0 mid pc ls (st.1.map (mx_ph G)))
/-- the contract of a method at these arguments, in this memory -/
def mx_Ok (G : mx_G) (m : MR) (as : List Value) (Λ : List mx_K) (M : mx_M) (Q : mx_Q) : Prop :=
  ∀ l : Launch, Met l m.1 (mx_ws m) m.2.2.2.2 (fun v U => v = (as.map (mx_ph G)).toArray ∧ mx_R G Λ M U.heap ∧ mx_S G U)
    (fun _ st oc t => (∃ r Λ' M', oc = .returned (r.map (mx_ph G)) ∧ Q r Λ' M' ∧ mx_R G Λ' M' t.heap) ∧ va_F (mx_A G) st t) m.2.2.2.2.cells m.2.2.2.2.slots (mx_A G)
theorem mx_ph_cat (G : mx_G) (v : Value) : (mx_ph G v).category = v.category := by cases v <;> rfl
def mx_lay : List Value → List (Option Value)
  | [] => []
  | v :: vs => some v :: (match v with | .long _ => none :: mx_lay vs | .double _ => none :: mx_lay vs | _ => mx_lay vs)
def mx_entry (as : List Value) (n : Nat) : List (Option Value) := mx_lay as ++ List.replicate (n - (mx_lay as).length) none
theorem mx_lay_len (G : mx_G) (vs : List Value) : (lg_sl (vs.map (mx_ph G))).length = (mx_lay vs).length := by
  induction vs with
  | nil => rfl
  | cons v vs ih =>
    simp only [List.map_cons, lg_sl, List.flatMap_cons, List.length_append, mx_ph_cat] at ih ⊢
    rw [ih]
    cases v <;> simp [mx_lay, Value.category] <;> omega
theorem mx_lay_at (G : mx_G) : ∀ (vs : List Value) (o i : Nat) (v : Value), (mx_lay vs)[i]? = some (some v) → (o + i, mx_ph G v) ∈ lv_args o (vs.map (mx_ph G))
  | [], _, i, v, h => by simp [mx_lay] at h
  | w :: vs, o, i, v, h => by
    cases i with
    | zero =>
      simp only [mx_lay, List.getElem?_cons_zero, Option.some.injEq] at h
      subst h
      exact List.mem_cons_self
    | succ i =>
      simp only [mx_lay, List.getElem?_cons_succ] at h
      refine List.mem_cons_of_mem _ ?_
      rw [mx_ph_cat]
      cases w with
      | long x =>
        cases i with
        | zero => simp at h
        | succ i =>
          simp only [List.getElem?_cons_succ] at h
          have := mx_lay_at G vs (o + 2) i v h
          rw [show o + (i + 1 + 1) = o + 2 + i by omega]
          exact this
      | double x =>
        cases i with
        | zero => simp at h
        | succ i =>
          simp only [List.getElem?_cons_succ] at h
          have := mx_lay_at G vs (o + 2) i v h
          rw [show o + (i + 1 + 1) = o + 2 + i by omega]
          exact this
      | _ =>
        have := mx_lay_at G vs (o + 1) i v h
        rw [show o + (i + 1) = o + 1 + i by omega]
        exact this
theorem mx_entry_has (G : mx_G) (as : List Value) (n : Nat) (h : (mx_lay as).length ≤ n) : mx_has G ((lg_sl (as.map (mx_ph G)) ++ List.replicate (n - (lg_sl (as.map (mx_ph G))).length) Slot.unset).toArray) (mx_entry as n) := by
  have hl := lv_entry (as.map (mx_ph G)) (n := n) (by rw [mx_lay_len]; exact h)
  refine ⟨?_, hl.2.1, fun i v hi => ?_⟩
  · rw [hl.1]
    simp [mx_entry]
    omega
  · have h1 : (mx_lay as)[i]? = some (some v) := by
      unfold mx_entry at hi
      by_cases hlt : i < (mx_lay as).length
      · rw [List.getElem?_append_left hlt] at hi
        exact hi
      · rw [List.getElem?_append_right (by omega), List.getElem?_replicate] at hi
        split at hi <;> simp at hi
    have h2 := mx_lay_at G as 0 i v h1
    rw [Nat.zero_add] at h2
    exact hl.2.2 _ h2
theorem mx_R.ge {G : mx_G} {Λ : List mx_K} {M : mx_M} {H : Heap} (h : mx_R G Λ M H) : mx_B G ≤ H.size := by
  cases Λ with
  | nil => rw [h.2.1 (by decide)]; exact Nat.le_add_right _ _
  | cons kd t =>
    have h1 := (h.1 0 (mx_B G + 0, mx_e G M 0 kd) (by simp [mx_w])).lt
    exact Nat.le_of_lt h1
theorem mx_ok_of {G : mx_G} {m : MR} {as : List Value} {Λ : List mx_K} {M : mx_M} {Q : mx_Q} (hp : plainName m.1.cls = true) (hlaw : m.1.cls ≠ "TypeSetsLaw") (hn : (mx_lay as).length ≤ m.2.2.1) (h : mx_W G m 0 ([], mx_entry as m.2.2.1, M) Λ 0 0 Q) : mx_Ok G m as Λ M Q := by
  intro l
  refine Met.ofW (cc := m.2.1) (maxL := m.2.2.1) (ret := m.2.2.2.1) hp rfl ?_
  intro p e s mid args below meth c s₁ B hml hv
  obtain ⟨rfl, hR, hS⟩ := hv
  have hts := atoms_spec (ws := mx_ws m) B.pre
  have hC : mx_C G m p s mid (as.map (mx_ph G)).toArray meth c := ⟨B.exec, B.bytes, hml, findClass_of_methodNamed B.named, fun w hw => hts w (List.mem_cons_of_mem _ hw), B.returns, B.notSynchronized, (name_of_methodNamed B.named B.method).1, hS, hR.ge, fun q => absurd q hlaw⟩
  have hlocks := B.notSynchronized
  rw [lg_entry_eq]
  refine h p l e s mid _ below meth c _ hC ?_ s.heap [] _ hR va_S.rf (mx_entry_has G as m.2.2.1 hn)
  intro r Λ' M' H locs pc ls hQ hR' hS' hret
  have hq : ∀ (v : Option Value) (t : State), v = r.map (mx_ph G) → t.heap = H → (fun (_ : Array Value) (st : State) (oc : Outcome) (t : State) => (∃ r Λ' M', oc = .returned (r.map (mx_ph G)) ∧ Q r Λ' M' ∧ mx_R G Λ' M' t.heap) ∧ va_F (mx_A G) st t) (as.map (mx_ph G)).toArray s (.returned v) t := by
    intro v t hv ht
    subst hv
    exact ⟨⟨r, Λ', M', rfl, hQ, by rw [ht]; exact hR'⟩, hS'.F ht⟩
  rcases hret with ⟨rfl, hr, hd⟩ | ⟨v, ty, rfl, hr, hnar, hd⟩ | ⟨k, C, rfl, hr, hd⟩
  · exact W.vret B.exec B.bytes (B.returns.trans hr) (fun t ht _ => hq _ t rfl ht) hS'.2.2 hd
  · exact W.zret B.exec B.bytes (B.returns.trans hr) hnar (fun t ht _ => hq _ t rfl ht) hS'.2.2 hd
  · exact W.aret B.exec B.bytes (B.returns.trans hr) (Or.inl ⟨C, rfl⟩) (Or.inr ⟨_, rfl⟩) (fun t ht _ => hq _ t rfl ht) hS'.2.2 hd
end
section
/-! ===== straight instructions, as a function ===== -/
abbrev mx_Op : Type := Instr × List Nat × Int32
def mx_refs (ci h : Nat) : List (Option (Option Nat)) := (mx_off.getD ci []).map (fun o => o.map (fun q => some (h + q)))
/-- the class of an object that is made whole; the length of an array of ints (false), of booleans (true) -/
def mx_ocl (Λ : List mx_K) (h : Nat) : Nat := match Λ[h]? with
  | some (.inl (ci, fs)) => if fs = mx_refs ci h then ci else 99
  | _ => 99
def mx_len (Λ : List mx_K) (z : Bool) (a : Nat) : Nat := match Λ[a]? with
  | some (.inr (y, n)) => if y = z then n else 0
  | _ => 0
def mx_wr (M : mx_M) (k j : Nat) (v : Int32) : mx_M := fun a => if a = k then upd (M k) j v else M a
theorem mx_wr_s (M : mx_M) (k j : Nat) (v : Int32) : mx_wr M k j v k = upd (M k) j v := if_pos rfl
theorem mx_wr_n (M : mx_M) {k a : Nat} (j : Nat) (v : Int32) (h : a ≠ k) : mx_wr M k j v a = M a := if_neg h
/-- a local gets a value of one slot; of two -/
def mx_set1 : List (Option Value) → Nat → Value → Option (List (Option Value))
  | [], _, _ => none
  | _ :: l, 0, v => some (some v :: l)
  | x :: l, i + 1, v => match mx_set1 l i v with
    | none => none
    | some l' => some ((if i = 0 then (match x with | some (.long _) => none | some (.double _) => none | y => y) else x) :: l')
def mx_set2 : List (Option Value) → Nat → Value → Option (List (Option Value))
  | [], _, _ => none
  | _ :: l, 0, v => match l with
    | [] => none
    | _ :: t => some (some v :: none :: t)
  | x :: l, i + 1, v => match mx_set2 l i v with
    | none => none
    | some l' => some ((if i = 0 then (match x with | some (.long _) => none | some (.double _) => none | y => y) else x) :: l')
abbrev mx_O : Type := Option (mx_St × Option Prop)
def mx_ldI (i : Nat) (st : mx_St) : mx_O := match st.2.1[i]? with
  | some (some (.int x)) => some ((.int x :: st.1, st.2.1, st.2.2), none)
  | _ => none
def mx_ldL (i : Nat) (st : mx_St) : mx_O := match st.2.1[i]? with
  | some (some (.long x)) => some ((.long x :: st.1, st.2.1, st.2.2), none)
  | _ => none
def mx_ldA (i : Nat) (st : mx_St) : mx_O := match st.2.1[i]? with
  | some (some (.ref x)) => some ((.ref x :: st.1, st.2.1, st.2.2), none)
  | _ => none
def mx_stI (i : Nat) (st : mx_St) : mx_O := match st.1 with
  | .int x :: s => match mx_set1 st.2.1 i (.int x) with
    | some l => some ((s, l, st.2.2), none)
    | none => none
  | _ => none
def mx_stA (i : Nat) (st : mx_St) : mx_O := match st.1 with
  | .ref x :: s => match mx_set1 st.2.1 i (.ref x) with
    | some l => some ((s, l, st.2.2), none)
    | none => none
  | _ => none
def mx_stL (i : Nat) (st : mx_St) : mx_O := match st.1 with
  | .long x :: s => match mx_set2 st.2.1 i (.long x) with
    | some l => some ((s, l, st.2.2), none)
    | none => none
  | _ => none
def mx_inc (i : Nat) (n : Int32) (st : mx_St) : mx_O := match st.2.1[i]? with
  | some (some (.int x)) => match mx_set1 st.2.1 i (.int (x + n)) with
    | some l => some ((st.1, l, st.2.2), none)
    | none => none
  | _ => none
def mx_push (v : Value) (st : mx_St) : mx_O := some ((v :: st.1, st.2.1, st.2.2), none)
def mx_un (f : Int32 → Int32) (st : mx_St) : mx_O := match st.1 with
  | .int x :: s => some ((.int (f x) :: s, st.2.1, st.2.2), none)
  | _ => none
def mx_bin (f : Int32 → Int32 → Int32) (st : mx_St) : mx_O := match st.1 with
  | .int y :: .int x :: s => some ((.int (f x y) :: s, st.2.1, st.2.2), none)
  | _ => none
def mx_binD (f : Int32 → Int32 → Int32) (st : mx_St) : mx_O := match st.1 with
  | .int y :: .int x :: s => some ((.int (f x y) :: s, st.2.1, st.2.2), some (¬ y = 0))
  | _ => none
def mx_lbin (f : Int64 → Int64 → Int64) (st : mx_St) : mx_O := match st.1 with
  | .long y :: .long x :: s => some ((.long (f x y) :: s, st.2.1, st.2.2), none)
  | _ => none
def mx_lbinD (f : Int64 → Int64 → Int64) (st : mx_St) : mx_O := match st.1 with
  | .long y :: .long x :: s => some ((.long (f x y) :: s, st.2.1, st.2.2), some (¬ y = 0))
  | _ => none
def mx_lcmp (st : mx_St) : mx_O := match st.1 with
  | .long y :: .long x :: s => some ((.int (lg_cmp x y) :: s, st.2.1, st.2.2), none)
  | _ => none
def mx_i2l (st : mx_St) : mx_O := match st.1 with
  | .int x :: s => some ((.long x.toInt64 :: s, st.2.1, st.2.2), none)
  | _ => none
def mx_l2i (st : mx_St) : mx_O := match st.1 with
  | .long x :: s => some ((.int x.toInt32 :: s, st.2.1, st.2.2), none)
  | _ => none
def mx_dup (st : mx_St) : mx_O := match st.1 with
  | .int x :: s => some ((.int x :: .int x :: s, st.2.1, st.2.2), none)
  | .ref x :: s => some ((.ref x :: .ref x :: s, st.2.1, st.2.2), none)
  | _ => none
def mx_dup2 (st : mx_St) : mx_O := match st.1 with
  | .int x :: .ref y :: s => some ((.int x :: .ref y :: .int x :: .ref y :: s, st.2.1, st.2.2), none)
  | _ => none
def mx_pop (st : mx_St) : mx_O := match st.1 with
  | .int _ :: s => some ((s, st.2.1, st.2.2), none)
  | _ => none
def mx_getf (Λ : List mx_K) (as : List Nat) (st : mx_St) : mx_O := match as, st.1 with
  | ci :: k :: r :: _, .ref h :: s => some (((match r with | 0 => Value.int (st.2.2 h k) | o + 1 => Value.ref (h + o)) :: s, st.2.1, st.2.2), some (mx_ocl Λ h = ci))
  | _, _ => none
def mx_putf (Λ : List mx_K) (as : List Nat) (st : mx_St) : mx_O := match as, st.1 with
  | ci :: k :: t :: _, .int v :: .ref h :: s => some ((s, st.2.1, mx_wr st.2.2 h k v), some (match t with | 0 => mx_ocl Λ h = ci | _ => mx_ocl Λ h = ci ∧ (v = 0 ∨ v = 1)))
  | _, _ => none
def mx_ald (Λ : List mx_K) (z : Bool) (st : mx_St) : mx_O := match st.1 with
  | .int i :: .ref a :: s => some ((.int (st.2.2 a i.toNatClampNeg) :: s, st.2.1, st.2.2), some (vp_in i (mx_len Λ z a)))
  | _ => none
def mx_iast (Λ : List mx_K) (st : mx_St) : mx_O := match st.1 with
  | .int v :: .int i :: .ref a :: s => some ((s, st.2.1, mx_wr st.2.2 a i.toNatClampNeg v), some (vp_in i (mx_len Λ false a)))
  | _ => none
def mx_zast (Λ : List mx_K) (st : mx_St) : mx_O := match st.1 with
  | .int v :: .int i :: .ref a :: s => some ((s, st.2.1, mx_wr st.2.2 a i.toNatClampNeg v), some (vp_in i (mx_len Λ true a) ∧ (v = 0 ∨ v = 1)))
  | _ => none
def mx_alen (Λ : List mx_K) (st : mx_St) : mx_O := match st.1 with
  | .ref a :: s => some ((.int (nI (mx_len Λ false a)) :: s, st.2.1, st.2.2), some (mx_len Λ false a ≠ 0))
  | _ => none
def mx_sld (L : Nat) (st : mx_St) : mx_O := match st.1 with
  | .int i :: .ref a :: s => some ((.int (st.2.2 1000 i.toNatClampNeg) :: s, st.2.1, st.2.2), some (a = 1000 ∧ vp_in i L))
  | _ => none
def mx_slen (L : Nat) (st : mx_St) : mx_O := match st.1 with
  | .ref a :: s => some ((.int (nI L) :: s, st.2.1, st.2.2), some (a = 1000))
  | _ => none
def mx_run (L : Nat) (Λ : List mx_K) (o : mx_Op) (st : mx_St) : mx_O := match o.1 with
  | .iload_n k => mx_ldI k.val st
  | .iload k => mx_ldI k st
  | .aload_n k => mx_ldA k.val st
  | .aload k => mx_ldA k st
  | .lload_n k => mx_ldL k.val st
  | .lload k => mx_ldL k st
  | .istore_n k => mx_stI k.val st
  | .istore k => mx_stI k st
  | .astore_n k => mx_stA k.val st
  | .astore k => mx_stA k st
  | .lstore_n k => mx_stL k.val st
  | .lstore k => mx_stL k st
  | .iinc k _ => mx_inc k o.2.2 st
  | .iconst _ => mx_push (.int o.2.2) st
  | .bipush _ => mx_push (.int o.2.2) st
  | .sipush _ => mx_push (.int o.2.2) st
  | .ldc _ => mx_push (.int o.2.2) st
  | .ldc_w _ => mx_push (.int o.2.2) st
  | .lconst _ => mx_push (.long (lN (o.2.1.headD 0))) st
  | .ldc2_w _ => mx_push (.long (lN (o.2.1.headD 0))) st
  | .iadd => mx_bin (fun x y => x + y) st
  | .isub => mx_bin (fun x y => x - y) st
  | .imul => mx_bin (fun x y => x * y) st
  | .iand => mx_bin (fun x y => x &&& y) st
  | .ior => mx_bin (fun x y => x ||| y) st
  | .ixor => mx_bin (fun x y => x ^^^ y) st
  | .ishl => mx_bin (fun x y => x <<< (y &&& 31)) st
  | .ishr => mx_bin (fun x y => x >>> (y &&& 31)) st
  | .iushr => mx_bin (fun x y => (x.toUInt32 >>> (y.toUInt32 &&& Int32.toUInt32 31)).toInt32) st
  | .idiv => mx_binD (fun x y => x / y) st
  | .irem => mx_binD (fun x y => x - x / y * y) st
  | .ineg => mx_un (fun x => -x) st
  | .i2b => mx_un (fun x => x.toInt8.toInt32) st
  | .i2s => mx_un (fun x => x.toInt16.toInt32) st
  | .ladd => mx_lbin (fun x y => x + y) st
  | .lmul => mx_lbin (fun x y => x * y) st
  | .ldiv => mx_lbinD (fun x y => x / y) st
  | .lrem => mx_lbinD (fun x y => x - x / y * y) st
  | .lcmp => mx_lcmp st
  | .i2l => mx_i2l st
  | .l2i => mx_l2i st
  | .dup => mx_dup st
  | .dup2 => mx_dup2 st
  | .pop => mx_pop st
  | .getfield _ => mx_getf Λ o.2.1 st
  | .putfield _ => mx_putf Λ o.2.1 st
  | .iaload => match o.2.1 with | [] => mx_ald Λ false st | _ => mx_sld L st
  | .baload => mx_ald Λ true st
  | .iastore => mx_iast Λ st
  | .bastore => mx_zast Λ st
  | .arraylength => match o.2.1 with | [] => mx_alen Λ st | _ => mx_slen L st
  | _ => none
def mx_blk (L : Nat) (Λ : List mx_K) : List mx_Op → mx_St → Option (mx_St × Prop)
  | [], st => some (st, True)
  | o :: os, st => match mx_run L Λ o st with
    | none => none
    | some (st1, none) => mx_blk L Λ os st1
    | some (st1, some φ) => match mx_blk L Λ os st1 with
      | none => none
      | some (st2, ψ) => some (st2, φ ∧ ψ)
/-! ===== what the tables must say of an instruction ===== -/
def mx_okF (m : MR) (idx ci k place : Nat) : Bool := match vwCl[ci]? with
  | some (C, T, N) => decide (k < N) && decide ((T k).1 = C) && inTT place (.fieldLink m.1.cls idx C (T k).2.1 (T k).2.2.1)
  | none => false
def mx_okG (m : MR) (idx : Nat) (as : List Nat) : Bool := match as with
  | [ci, k, r, pl] => mx_okF m idx ci k pl && decide ((mx_off.getD ci [])[k]? = some (match r with | 0 => none | o + 1 => some o))
  | _ => false
def mx_okP (m : MR) (idx : Nat) (as : List Nat) : Bool := match as with
  | [ci, k, t, pl] => mx_okF m idx ci k pl && decide ((mx_off.getD ci [])[k]? = some none) && decide (mx_ty ci k = (match t with | 0 => .int | _ => .boolean)) && (match vwCl[ci]? with | some (_, T, _) => !(T k).2.2.2 | none => false)
  | _ => false
def mx_okO (m : MR) (o : mx_Op) : Bool := match o.1 with
  | .getfield idx => mx_okG m idx o.2.1
  | .putfield idx => mx_okP m idx o.2.1
  | .iconst n => decide (Int32.ofInt n = o.2.2)
  | .bipush n => decide ((Int8.ofInt n).toInt32 = o.2.2)
  | .sipush n => decide ((Int16.ofInt n).toInt32 = o.2.2)
  | .iinc _ n => decide (Int32.ofInt n = o.2.2)
  | .ldc idx => inTT (o.2.1.headD 0) (.constant m.1.cls idx o.2.2)
  | .ldc_w idx => inTT (o.2.1.headD 0) (.constant m.1.cls idx o.2.2)
  | .lconst n => decide (n.val = o.2.1.headD 0)
  | .ldc2_w idx => inTT (o.2.1.getD 1 0) (.constantLong m.1.cls idx (lN (o.2.1.headD 0)))
  | .iaload => match o.2.1 with | [] => true | _ => decide (m.1.cls = "TypeSetsLaw")
  | .arraylength => match o.2.1 with | [] => true | _ => decide (m.1.cls = "TypeSetsLaw")
  | _ => true
def mx_il (i : Instr) : Nat := match i with
  | .iload _ => 2 | .aload _ => 2 | .lload _ => 2 | .istore _ => 2 | .astore _ => 2 | .lstore _ => 2 | .bipush _ => 2 | .ldc _ => 2
  | .iinc _ _ => 3 | .sipush _ => 3 | .ldc_w _ => 3 | .ldc2_w _ => 3 | .getfield _ => 3 | .putfield _ => 3
  | _ => 1
/-- the code at pc is these instructions: where they end -/
def mx_ck (m : MR) : Nat → List mx_Op → Option Nat
  | pc, [] => some pc
  | pc, o :: os => match decode m.2.1 pc with
    | .ok (i, n) => if i = o.1 ∧ mx_okO m o = true ∧ n = mx_il o.1 then mx_ck m (pc + n) os else none
    | .error _ => none
end
section
/-! ===== the straight instructions are sound ===== -/
theorem mx_w_at {G : mx_G} {Λ : List mx_K} {M : mx_M} {k : Nat} {kd : mx_K} (h : Λ[k]? = some kd) : (mx_w G Λ M)[k]? = some (mx_B G + k, mx_e G M k kd) := by
  simp [mx_w, List.getElem?_mapIdx, h]
theorem mx_w_inv {G : mx_G} {Λ : List mx_K} {M : mx_M} {k : Nat} {q : Nat × va_E} (h : (mx_w G Λ M)[k]? = some q) : q.1 = mx_B G + k := by
  simp only [mx_w, List.getElem?_mapIdx] at h
  cases hk : Λ[k]? with
  | none => rw [hk] at h; cases h
  | some kd => rw [hk] at h; cases h; rfl
theorem mx_w_D (G : mx_G) (Λ : List mx_K) (M : mx_M) : va_D (mx_A G) (mx_w G Λ M) := by
  refine ⟨fun i j p q hi hj h => ?_, fun k q hk => ?_⟩
  · have h1 := mx_w_inv hi
    have h2 := mx_w_inv hj
    omega
  · show mx_B G ≤ q.1
    rw [mx_w_inv hk]
    omega
theorem mx_w_len (G : mx_G) (Λ : List mx_K) (M : mx_M) : (mx_w G Λ M).length = Λ.length := by simp [mx_w]
theorem mx_e_ne {G : mx_G} {M M' : mx_M} {k : Nat} (kd : mx_K) (h : M' k = M k) : mx_e G M' k kd = mx_e G M k kd := by
  cases kd with
  | inl o =>
    obtain ⟨ci, fs⟩ := o
    simp only [mx_e]
    congr 2
    apply List.ext_getElem?
    intro j
    simp only [List.getElem?_mapIdx]
    cases fs[j]? with
    | none => rfl
    | some f => cases f with
      | none => simp [mx_fv, h]
      | some r => cases r <;> rfl
  | inr a =>
    obtain ⟨z, n⟩ := a
    simp [mx_e, h]
theorem mx_w_set {G : mx_G} {Λ : List mx_K} {M M' : mx_M} {h : Nat} {kd : mx_K} (hk : Λ[h]? = some kd) (ho : ∀ a, a ≠ h → M' a = M a) : mx_w G Λ M' = (mx_w G Λ M).set h (mx_B G + h, mx_e G M' h kd) := by
  have hl : h < Λ.length := (List.getElem?_eq_some_iff.mp hk).1
  apply List.ext_getElem?
  intro j
  by_cases hj : j = h
  · subst hj
    rw [List.getElem?_set_self (by rw [mx_w_len]; exact hl), mx_w_at hk]
  · rw [List.getElem?_set_ne (Ne.symm hj)]
    simp only [mx_w, List.getElem?_mapIdx]
    cases hkj : Λ[j]? with
    | none => rfl
    | some kd' => simp only [Option.map_some, mx_e_ne kd' (ho j hj)]
theorem mx_e_field {G : mx_G} {M : mx_M} {h k ci : Nat} {fs : List (Option (Option Nat))} (hf : fs[k]? = some none) (v : Int32) : mx_e G (mx_wr M h k v) h (.inl (ci, fs)) = .inr (ci, (fs.mapIdx (mx_fv G M h)).set k (.int v)) := by
  have hl : k < fs.length := (List.getElem?_eq_some_iff.mp hf).1
  simp only [mx_e]
  congr 2
  apply List.ext_getElem?
  intro j
  by_cases hj : j = k
  · subst hj
    rw [List.getElem?_set_self (by simpa using hl), List.getElem?_mapIdx, hf]
    simp [mx_fv, mx_wr_s, upd]
  · rw [List.getElem?_set_ne (Ne.symm hj)]
    simp only [List.getElem?_mapIdx]
    cases fs[j]? with
    | none => rfl
    | some f => cases f with
      | none => simp [mx_fv, mx_wr_s, upd, hj]
      | some r => cases r <;> rfl
theorem mx_e_arr {G : mx_G} {M : mx_M} {a j n : Nat} {z : Bool} (v : Int32) : mx_e G (mx_wr M a j v) a (.inr (z, n)) = .inl (if z then mx_cZ G else mx_cI G, n, .inl (upd (M a) j v)) := by
  simp only [mx_e, mx_wr_s]
theorem mx_R_wr {G : mx_G} {Λ : List mx_K} {M : mx_M} {H H1 : Heap} {a j : Nat} {v : Int32} (hR : mx_R G Λ M H) (hl : a < Λ.length) (hP : va_P G.1 vwCl (mx_w G Λ (mx_wr M a j v)) H1) (hz : H1.size = H.size) : mx_R G Λ (mx_wr M a j v) H1 := by
  obtain ⟨-, h1, h2, h3, h4⟩ := hR
  refine ⟨hP, fun h => by rw [hz]; exact h1 h, h2, fun k hk hk2 i => ?_, ?_⟩
  · rw [mx_wr_n M j v (by omega)]
    exact h3 k hk hk2 i
  · rw [mx_wr_n M j v (by omega)]
    exact h4
theorem mx_ocl_at {Λ : List mx_K} {h ci : Nat} (hc : ci ≠ 99) (ho : mx_ocl Λ h = ci) : Λ[h]? = some (.inl (ci, mx_refs ci h)) := by
  unfold mx_ocl at ho
  split at ho
  · rename_i c2 fs hq
    split at ho
    · rename_i hf
      subst ho
      rw [hq, ← hf]
    · exact absurd ho.symm hc
  · exact absurd ho.symm hc
theorem mx_len_at0 {Λ : List mx_K} {z : Bool} {a : Nat} (h0 : mx_len Λ z a ≠ 0) : Λ[a]? = some (.inr (z, mx_len Λ z a)) := by
  unfold mx_len at h0 ⊢
  split at h0
  · rename_i y n hq
    split at h0
    · rename_i hy
      subst hy
      rw [hq]
      simp
    · exact absurd rfl h0
  · exact absurd rfl h0
theorem mx_len_at {Λ : List mx_K} {z : Bool} {a : Nat} {i : Int32} (h : vp_in i (mx_len Λ z a)) : Λ[a]? = some (.inr (z, mx_len Λ z a)) :=
  mx_len_at0 (fun h1 => by
    rw [h1] at h
    exact h (Or.inr (Nat.zero_le _)))
def mx_holds (φ : Option Prop) : Prop := match φ with
  | none => True
  | some q => q
/-- what a step of the function gives: from the state behind it, the state ahead of it -/
def mx_Go (m : MR) (G : mx_G) (Λ : List mx_K) (pc n : Nat) (st : mx_St) (r : mx_O) : Prop :=
  ∀ (st' : mx_St) (φ : Option Prop), r = some (st', φ) → mx_holds φ → ∀ (cl sl : Nat) (Q : mx_Q), mx_W G m (pc + n) st' Λ cl sl Q → mx_W G m pc st Λ cl sl Q
theorem mx_ad_at {G : mx_G} {k : Nat} (h : k < 1000) : mx_ad G k = mx_B G + k := by
  unfold mx_ad
  rw [if_pos h]
theorem mx_R.lt {G : mx_G} {Λ : List mx_K} {M : mx_M} {H : Heap} (h : mx_R G Λ M H) {k : Nat} {kd : mx_K} (hk : Λ[k]? = some kd) : k < Λ.length ∧ k < 1000 := by
  have h1 := (List.getElem?_eq_some_iff.mp hk).1
  have h2 := h.2.2.1
  exact ⟨h1, by omega⟩
theorem mx_has.set1 {G : mx_G} {ls : Array Slot} {l l' : List (Option Value)} {i : Nat} {v : Value} (h : mx_has G ls l) (hc : v.category = 1) (hs : mx_set1 l i v = some l') :
    ∃ lv : List (Nat × Value), lv_has ls l.length lv ∧ i < l.length ∧ ∀ ls' : Array Slot, lv_has ls' l.length ((i, mx_ph G v) :: lv.filter (fun q => !(q.1 == i) && !(q.1 + 1 == i && q.2.category == 2))) → mx_has G ls' l' := by
  have key : ∀ (l l' : List (Option Value)) (i : Nat), mx_set1 l i v = some l' → i < l.length ∧ l'.length = l.length ∧ ∀ (j : Nat) (w : Value), l'[j]? = some (some w) → (j = i ∧ w = v) ∨ (j ≠ i ∧ l[j]? = some (some w) ∧ (j + 1 = i → ¬ w.category = 2)) := by
    intro l
    induction l with
    | nil => intro l' i h; simp [mx_set1] at h
    | cons x l ih =>
      intro l' i h
      cases i with
      | zero =>
        simp only [mx_set1, Option.some.injEq] at h
        subst h
        refine ⟨by simp, by simp, fun j w hj => ?_⟩
        cases j with
        | zero => simp at hj; exact Or.inl ⟨rfl, hj.symm⟩
        | succ j => exact Or.inr ⟨by omega, by simpa using hj, by omega⟩
      | succ i =>
        simp only [mx_set1] at h
        cases hm : mx_set1 l i v with
        | none => rw [hm] at h; cases h
        | some l1 =>
          rw [hm] at h
          simp only [Option.some.injEq] at h
          obtain ⟨a1, a2, a3⟩ := ih l1 i hm
          subst h
          refine ⟨by simp; omega, by simp [a2], fun j w hj => ?_⟩
          cases j with
          | zero =>
            refine Or.inr ⟨by omega, ?_, fun hi => ?_⟩
            · simp only [List.getElem?_cons_zero, Option.some.injEq] at hj ⊢
              by_cases h0 : i = 0
              · rw [if_pos h0] at hj
                split at hj <;> simp_all
              · rw [if_neg h0] at hj; exact hj
            · have h0 : i = 0 := by omega
              simp only [List.getElem?_cons_zero, Option.some.injEq] at hj
              rw [if_pos h0] at hj
              split at hj
              · cases hj
              · cases hj
              · rename_i n1 n2
                subst hj
                intro hw
                cases w with
                | long z => exact n1 z rfl
                | double z => exact n2 z rfl
                | _ => simp [Value.category] at hw
          | succ j =>
            rcases a3 j w (by simpa using hj) with ⟨e1, e2⟩ | ⟨e1, e2, e3⟩
            · exact Or.inl ⟨by omega, e2⟩
            · exact Or.inr ⟨by omega, by simpa using e2, fun q => e3 (by omega)⟩
  obtain ⟨k1, k2, k3⟩ := key l l' i hs
  refine ⟨l.zipIdx.filterMap (fun q => q.1.map (fun w => (q.2, mx_ph G w))), ⟨h.1, h.2.1, fun q hq => ?_⟩, k1, fun ls' h' => ⟨by rw [h'.1, k2], h'.2.1, fun j w hj => ?_⟩⟩
  · obtain ⟨⟨o, j⟩, hm, he⟩ := List.mem_filterMap.mp hq
    cases o with
    | none => simp at he
    | some w =>
      simp only [Option.map_some, Option.some.injEq] at he
      subst he
      have := List.mem_zipIdx_iff_getElem?.mp hm
      exact h.2.2 j w this
  · rcases k3 j w hj with ⟨e1, e2⟩ | ⟨e1, e2, e3⟩
    · subst e1; subst e2
      exact h'.2.2 _ List.mem_cons_self
    · refine h'.2.2 (j, mx_ph G w) (List.mem_cons_of_mem _ (List.mem_filter.mpr ⟨List.mem_filterMap.mpr ⟨(some w, j), List.mem_zipIdx_iff_getElem?.mpr e2, rfl⟩, ?_⟩))
      simp only [Bool.and_eq_true, Bool.not_eq_true', beq_eq_false_iff_ne, ne_eq, Bool.and_eq_false_iff, mx_ph_cat]
      refine ⟨e1, ?_⟩
      by_cases hji : j + 1 = i
      · exact Or.inr (e3 hji)
      · exact Or.inl hji
theorem mx_has.set2 {G : mx_G} {ls : Array Slot} {l l' : List (Option Value)} {i : Nat} {v : Value} (h : mx_has G ls l) (hs : mx_set2 l i v = some l') :
    ∃ lv : List (Nat × Value), lv_has ls l.length lv ∧ i + 1 < l.length ∧ ∀ ls' : Array Slot, lv_has ls' l.length ((i, mx_ph G v) :: lv.filter (fun q => !(q.1 == i) && (!(q.1 == i + 1) && !(q.1 + 1 == i && q.2.category == 2)))) → mx_has G ls' l' := by
  have key : ∀ (l l' : List (Option Value)) (i : Nat), mx_set2 l i v = some l' → i + 1 < l.length ∧ l'.length = l.length ∧ ∀ (j : Nat) (w : Value), l'[j]? = some (some w) → (j = i ∧ w = v) ∨ (j ≠ i ∧ j ≠ i + 1 ∧ l[j]? = some (some w) ∧ (j + 1 = i → ¬ w.category = 2)) := by
    intro l
    induction l with
    | nil => intro l' i h; simp [mx_set2] at h
    | cons x l ih =>
      intro l' i h
      cases i with
      | zero =>
        cases l with
        | nil => simp [mx_set2] at h
        | cons y l =>
          simp only [mx_set2, Option.some.injEq] at h
          subst h
          refine ⟨by simp, by simp, fun j w hj => ?_⟩
          match j, hj with
          | 0, hj => simp at hj; exact Or.inl ⟨rfl, hj.symm⟩
          | 1, hj => simp at hj
          | j + 2, hj => exact Or.inr ⟨by omega, by omega, by simpa using hj, by omega⟩
      | succ i =>
        simp only [mx_set2] at h
        cases hm : mx_set2 l i v with
        | none => rw [hm] at h; cases h
        | some l1 =>
          rw [hm] at h
          simp only [Option.some.injEq] at h
          obtain ⟨a1, a2, a3⟩ := ih l1 i hm
          subst h
          refine ⟨by simp; omega, by simp [a2], fun j w hj => ?_⟩
          cases j with
          | zero =>
            refine Or.inr ⟨by omega, by omega, ?_, fun hi => ?_⟩
            · simp only [List.getElem?_cons_zero, Option.some.injEq] at hj ⊢
              by_cases h0 : i = 0
              · rw [if_pos h0] at hj
                split at hj <;> simp_all
              · rw [if_neg h0] at hj; exact hj
            · have h0 : i = 0 := by omega
              simp only [List.getElem?_cons_zero, Option.some.injEq] at hj
              rw [if_pos h0] at hj
              split at hj
              · cases hj
              · cases hj
              · rename_i n1 n2
                subst hj
                intro hw
                cases w with
                | long z => exact n1 z rfl
                | double z => exact n2 z rfl
                | _ => simp [Value.category] at hw
          | succ j =>
            rcases a3 j w (by simpa using hj) with ⟨e1, e2⟩ | ⟨e1, e2, e3, e4⟩
            · exact Or.inl ⟨by omega, e2⟩
            · exact Or.inr ⟨by omega, by omega, by simpa using e3, fun q => e4 (by omega)⟩
  obtain ⟨k1, k2, k3⟩ := key l l' i hs
  refine ⟨l.zipIdx.filterMap (fun q => q.1.map (fun w => (q.2, mx_ph G w))), ⟨h.1, h.2.1, fun q hq => ?_⟩, k1, fun ls' h' => ⟨by rw [h'.1, k2], h'.2.1, fun j w hj => ?_⟩⟩
  · obtain ⟨⟨o, j⟩, hm, he⟩ := List.mem_filterMap.mp hq
    cases o with
    | none => simp at he
    | some w =>
      simp only [Option.map_some, Option.some.injEq] at he
      subst he
      have := List.mem_zipIdx_iff_getElem?.mp hm
      exact h.2.2 j w this
  · rcases k3 j w hj with ⟨e1, e2⟩ | ⟨e1, e2, e3, e4⟩
    · subst e1; subst e2
      exact h'.2.2 _ List.mem_cons_self
    · refine h'.2.2 (j, mx_ph G w) (List.mem_cons_of_mem _ (List.mem_filter.mpr ⟨List.mem_filterMap.mpr ⟨(some w, j), List.mem_zipIdx_iff_getElem?.mpr e3, rfl⟩, ?_⟩))
      simp only [Bool.and_eq_true, Bool.not_eq_true', beq_eq_false_iff_ne, ne_eq, Bool.and_eq_false_iff, mx_ph_cat]
      refine ⟨e1, e2, ?_⟩
      by_cases hji : j + 1 = i
      · exact Or.inr (e4 hji)
      · exact Or.inl hji
end
section
/-! ===== a row an instruction ===== -/
theorem mx_g_iload_n {m : MR} {G : mx_G} {Λ : List mx_K} {pc : Nat} {st : mx_St} {k : Fin 4} (hd : decode m.2.1 pc = .ok (.iload_n k, 1)) : mx_Go m G Λ pc 1 st (mx_ldI k.val st) := by
  intro st' φ hr hφ cl sl Q k p l e s mid args below meth c Z hC hZ H locs ls hR hS hl
  unfold mx_ldI at hr
  split at hr
  · rename_i x hq
    cases hr
    refine lv_iload_n hC.1 hC.2.1 hd rfl (hl.2.2 _ _ hq) ?_
    exact k p l e s mid args below meth c Z hC hZ H locs ls hR hS hl
  · cases hr
theorem mx_g_iload {m : MR} {G : mx_G} {Λ : List mx_K} {pc : Nat} {st : mx_St} {k : Nat} (hd : decode m.2.1 pc = .ok (.iload k, 2)) : mx_Go m G Λ pc 2 st (mx_ldI k st) := by
  intro st' φ hr hφ cl sl Q k p l e s mid args below meth c Z hC hZ H locs ls hR hS hl
  unfold mx_ldI at hr
  split at hr
  · rename_i x hq
    cases hr
    refine lv_iload hC.1 hC.2.1 hd (hl.2.2 _ _ hq) ?_
    exact k p l e s mid args below meth c Z hC hZ H locs ls hR hS hl
  · cases hr
theorem mx_g_lload_n {m : MR} {G : mx_G} {Λ : List mx_K} {pc : Nat} {st : mx_St} {k : Fin 4} (hd : decode m.2.1 pc = .ok (.lload_n k, 1)) : mx_Go m G Λ pc 1 st (mx_ldL k.val st) := by
  intro st' φ hr hφ cl sl Q k p l e s mid args below meth c Z hC hZ H locs ls hR hS hl
  unfold mx_ldL at hr
  split at hr
  · rename_i x hq
    cases hr
    refine lv_lload_n hC.1 hC.2.1 hd rfl (hl.2.2 _ _ hq) ?_
    exact k p l e s mid args below meth c Z hC hZ H locs ls hR hS hl
  · cases hr
theorem mx_g_lload {m : MR} {G : mx_G} {Λ : List mx_K} {pc : Nat} {st : mx_St} {k : Nat} (hd : decode m.2.1 pc = .ok (.lload k, 2)) : mx_Go m G Λ pc 2 st (mx_ldL k st) := by
  intro st' φ hr hφ cl sl Q k p l e s mid args below meth c Z hC hZ H locs ls hR hS hl
  unfold mx_ldL at hr
  split at hr
  · rename_i x hq
    cases hr
    refine lv_lload hC.1 hC.2.1 hd (hl.2.2 _ _ hq) ?_
    exact k p l e s mid args below meth c Z hC hZ H locs ls hR hS hl
  · cases hr
theorem mx_g_aload_n {m : MR} {G : mx_G} {Λ : List mx_K} {pc : Nat} {st : mx_St} {k : Fin 4} (hd : decode m.2.1 pc = .ok (.aload_n k, 1)) : mx_Go m G Λ pc 1 st (mx_ldA k.val st) := by
  intro st' φ hr hφ cl sl Q k p l e s mid args below meth c Z hC hZ H locs ls hR hS hl
  unfold mx_ldA at hr
  split at hr
  · rename_i x hq
    cases hr
    refine lv_aload_n hC.1 hC.2.1 hd rfl (hl.2.2 _ _ hq) ?_
    exact k p l e s mid args below meth c Z hC hZ H locs ls hR hS hl
  · cases hr
theorem mx_g_aload {m : MR} {G : mx_G} {Λ : List mx_K} {pc : Nat} {st : mx_St} {k : Nat} (hd : decode m.2.1 pc = .ok (.aload k, 2)) : mx_Go m G Λ pc 2 st (mx_ldA k st) := by
  intro st' φ hr hφ cl sl Q k p l e s mid args below meth c Z hC hZ H locs ls hR hS hl
  unfold mx_ldA at hr
  split at hr
  · rename_i x hq
    cases hr
    refine lv_aload hC.1 hC.2.1 hd (hl.2.2 _ _ hq) ?_
    exact k p l e s mid args below meth c Z hC hZ H locs ls hR hS hl
  · cases hr
theorem mx_g_istore_n {m : MR} {G : mx_G} {Λ : List mx_K} {pc : Nat} {st : mx_St} {k : Fin 4} (hd : decode m.2.1 pc = .ok (.istore_n k, 1)) : mx_Go m G Λ pc 1 st (mx_stI k.val st) := by
  obtain ⟨s0, l0, M⟩ := st
  intro st' φ hr hφ cl sl Q kk p l e s mid args below meth c Z hC hZ H locs ls hR hS hl
  unfold mx_stI at hr
  split at hr
  · rename_i x rest hq
    dsimp only at hq
    subst hq
    split at hr
    · rename_i l1 hs1
      cases hr
      obtain ⟨lv, a1, a2, a3⟩ := mx_has.set1 hl rfl hs1
      refine lv_istore_n hC.1 hC.2.1 hd rfl a1 a2 rfl (fun ls' hl' => ?_)
      exact kk p l e s mid args below meth c Z hC hZ H locs ls' hR hS (a3 ls' hl')
    · cases hr
  · cases hr
theorem mx_g_istore {m : MR} {G : mx_G} {Λ : List mx_K} {pc : Nat} {st : mx_St} {k : Nat} (hd : decode m.2.1 pc = .ok (.istore k, 2)) : mx_Go m G Λ pc 2 st (mx_stI k st) := by
  obtain ⟨s0, l0, M⟩ := st
  intro st' φ hr hφ cl sl Q kk p l e s mid args below meth c Z hC hZ H locs ls hR hS hl
  unfold mx_stI at hr
  split at hr
  · rename_i x rest hq
    dsimp only at hq
    subst hq
    split at hr
    · rename_i l1 hs1
      cases hr
      obtain ⟨lv, a1, a2, a3⟩ := mx_has.set1 hl rfl hs1
      refine lv_istore hC.1 hC.2.1 hd a1 a2 rfl (fun ls' hl' => ?_)
      exact kk p l e s mid args below meth c Z hC hZ H locs ls' hR hS (a3 ls' hl')
    · cases hr
  · cases hr
theorem mx_g_astore_n {m : MR} {G : mx_G} {Λ : List mx_K} {pc : Nat} {st : mx_St} {k : Fin 4} (hd : decode m.2.1 pc = .ok (.astore_n k, 1)) : mx_Go m G Λ pc 1 st (mx_stA k.val st) := by
  obtain ⟨s0, l0, M⟩ := st
  intro st' φ hr hφ cl sl Q kk p l e s mid args below meth c Z hC hZ H locs ls hR hS hl
  unfold mx_stA at hr
  split at hr
  · rename_i x rest hq
    dsimp only at hq
    subst hq
    split at hr
    · rename_i l1 hs1
      cases hr
      obtain ⟨lv, a1, a2, a3⟩ := mx_has.set1 hl rfl hs1
      refine lv_astore_n hC.1 hC.2.1 hd rfl a1 a2 rfl (fun ls' hl' => ?_)
      exact kk p l e s mid args below meth c Z hC hZ H locs ls' hR hS (a3 ls' hl')
    · cases hr
  · cases hr
theorem mx_g_astore {m : MR} {G : mx_G} {Λ : List mx_K} {pc : Nat} {st : mx_St} {k : Nat} (hd : decode m.2.1 pc = .ok (.astore k, 2)) : mx_Go m G Λ pc 2 st (mx_stA k st) := by
  obtain ⟨s0, l0, M⟩ := st
  intro st' φ hr hφ cl sl Q kk p l e s mid args below meth c Z hC hZ H locs ls hR hS hl
  unfold mx_stA at hr
  split at hr
  · rename_i x rest hq
    dsimp only at hq
    subst hq
    split at hr
    · rename_i l1 hs1
      cases hr
      obtain ⟨lv, a1, a2, a3⟩ := mx_has.set1 hl rfl hs1
      refine lv_astore hC.1 hC.2.1 hd a1 a2 rfl (fun ls' hl' => ?_)
      exact kk p l e s mid args below meth c Z hC hZ H locs ls' hR hS (a3 ls' hl')
    · cases hr
  · cases hr
theorem mx_g_lstore_n {m : MR} {G : mx_G} {Λ : List mx_K} {pc : Nat} {st : mx_St} {k : Fin 4} (hd : decode m.2.1 pc = .ok (.lstore_n k, 1)) : mx_Go m G Λ pc 1 st (mx_stL k.val st) := by
  obtain ⟨s0, l0, M⟩ := st
  intro st' φ hr hφ cl sl Q kk p l e s mid args below meth c Z hC hZ H locs ls hR hS hl
  unfold mx_stL at hr
  split at hr
  · rename_i x rest hq
    dsimp only at hq
    subst hq
    split at hr
    · rename_i l1 hs1
      cases hr
      obtain ⟨lv, a1, a2, a3⟩ := mx_has.set2 hl hs1
      refine lv_lstore_n hC.1 hC.2.1 hd rfl a1 a2 rfl (fun ls' hl' => ?_)
      exact kk p l e s mid args below meth c Z hC hZ H locs ls' hR hS (a3 ls' hl')
    · cases hr
  · cases hr
theorem mx_g_lstore {m : MR} {G : mx_G} {Λ : List mx_K} {pc : Nat} {st : mx_St} {k : Nat} (hd : decode m.2.1 pc = .ok (.lstore k, 2)) : mx_Go m G Λ pc 2 st (mx_stL k st) := by
  obtain ⟨s0, l0, M⟩ := st
  intro st' φ hr hφ cl sl Q kk p l e s mid args below meth c Z hC hZ H locs ls hR hS hl
  unfold mx_stL at hr
  split at hr
  · rename_i x rest hq
    dsimp only at hq
    subst hq
    split at hr
    · rename_i l1 hs1
      cases hr
      obtain ⟨lv, a1, a2, a3⟩ := mx_has.set2 hl hs1
      refine lv_lstore hC.1 hC.2.1 hd a1 a2 rfl (fun ls' hl' => ?_)
      exact kk p l e s mid args below meth c Z hC hZ H locs ls' hR hS (a3 ls' hl')
    · cases hr
  · cases hr
theorem mx_g_iinc {m : MR} {G : mx_G} {Λ : List mx_K} {pc : Nat} {st : mx_St} {k : Nat} {n : Int} {v : Int32} (hv : Int32.ofInt n = v) (hd : decode m.2.1 pc = .ok (.iinc k n, 3)) : mx_Go m G Λ pc 3 st (mx_inc k v st) := by
  obtain ⟨s0, l0, M⟩ := st
  subst hv
  intro st' φ hr hφ cl sl Q kk p l e s mid args below meth c Z hC hZ H locs ls hR hS hl
  unfold mx_inc at hr
  split at hr
  · rename_i x hq
    split at hr
    · rename_i l1 hs1
      cases hr
      obtain ⟨lv, a1, a2, a3⟩ := mx_has.set1 hl rfl hs1
      have hx : ls[k]? = some (.val (.int x)) := hl.2.2 k _ hq
      refine lv_iinc (v := x + Int32.ofInt n) (k := 0) hC.1 hC.2.1 hd (lv := (k, .int x) :: lv) ⟨a1.1, a1.2.1, fun q hq' => ?_⟩ rfl rfl a2 rfl (fun ls' hl' => ?_)
      · rcases List.mem_cons.mp hq' with rfl | h
        · exact hx
        · exact a1.2.2 q h
      · refine kk p l e s mid args below meth c Z hC hZ H locs ls' hR hS (a3 ls' ?_)
        refine ⟨hl'.1, hl'.2.1, fun q hq' => hl'.2.2 q ?_⟩
        rcases List.mem_cons.mp hq' with rfl | h
        · exact List.mem_cons_self
        · refine List.mem_cons_of_mem _ ?_
          rw [List.filter_cons_of_neg (by simp)]
          exact h
    · cases hr
  · cases hr
theorem mx_g_iconst {m : MR} {G : mx_G} {Λ : List mx_K} {pc : Nat} {st : mx_St} {n : Int} {v : Int32} (hv : Int32.ofInt n = v) (hd : decode m.2.1 pc = .ok (.iconst n, 1)) : mx_Go m G Λ pc 1 st (mx_push (.int v) st) := by
  intro st' φ hr hφ cl sl Q k p l e s mid args below meth c Z hC hZ H locs ls hR hS hl
  cases hr
  refine lv_iconst hC.1 hC.2.1 hd hv ?_
  exact k p l e s mid args below meth c Z hC hZ H locs ls hR hS hl
theorem mx_g_bipush {m : MR} {G : mx_G} {Λ : List mx_K} {pc : Nat} {st : mx_St} {n : Int} {v : Int32} (hv : (Int8.ofInt n).toInt32 = v) (hd : decode m.2.1 pc = .ok (.bipush n, 2)) : mx_Go m G Λ pc 2 st (mx_push (.int v) st) := by
  intro st' φ hr hφ cl sl Q k p l e s mid args below meth c Z hC hZ H locs ls hR hS hl
  cases hr
  refine lv_bipush hC.1 hC.2.1 hd hv ?_
  exact k p l e s mid args below meth c Z hC hZ H locs ls hR hS hl
theorem mx_g_sipush {m : MR} {G : mx_G} {Λ : List mx_K} {pc : Nat} {st : mx_St} {n : Int} {v : Int32} (hv : (Int16.ofInt n).toInt32 = v) (hd : decode m.2.1 pc = .ok (.sipush n, 3)) : mx_Go m G Λ pc 3 st (mx_push (.int v) st) := by
  intro st' φ hr hφ cl sl Q k p l e s mid args below meth c Z hC hZ H locs ls hR hS hl
  cases hr
  refine lv_sipush hC.1 hC.2.1 hd hv ?_
  exact k p l e s mid args below meth c Z hC hZ H locs ls hR hS hl
theorem mx_g_lconst {m : MR} {G : mx_G} {Λ : List mx_K} {pc : Nat} {st : mx_St} {n : Fin 2} {q : Nat} (hv : n.val = q) (hd : decode m.2.1 pc = .ok (.lconst n, 1)) : mx_Go m G Λ pc 1 st (mx_push (.long (lN q)) st) := by
  intro st' φ hr hφ cl sl Q k p l e s mid args below meth c Z hC hZ H locs ls hR hS hl
  cases hr
  refine lv_lconst (v := lN q) hC.1 hC.2.1 hd (by rw [hv]; rfl) ?_
  exact k p l e s mid args below meth c Z hC hZ H locs ls hR hS hl
theorem mx_g_ldc {m : MR} {G : mx_G} {Λ : List mx_K} {pc : Nat} {st : mx_St} {idx : Nat} {v : Int32} (hv : Cond.constant m.1.cls idx v ∈ TT) (hd : decode m.2.1 pc = .ok (.ldc idx, 2)) : mx_Go m G Λ pc 2 st (mx_push (.int v) st) := by
  intro st' φ hr hφ cl sl Q k p l e s mid args below meth c Z hC hZ H locs ls hR hS hl
  cases hr
  refine lv_ldc hC.1 hC.2.1 hC.2.2.2.1 (hC.2.2.2.2.1 _ hv) hd ?_
  exact k p l e s mid args below meth c Z hC hZ H locs ls hR hS hl
theorem mx_g_ldc_w {m : MR} {G : mx_G} {Λ : List mx_K} {pc : Nat} {st : mx_St} {idx : Nat} {v : Int32} (hv : Cond.constant m.1.cls idx v ∈ TT) (hd : decode m.2.1 pc = .ok (.ldc_w idx, 3)) : mx_Go m G Λ pc 3 st (mx_push (.int v) st) := by
  intro st' φ hr hφ cl sl Q k p l e s mid args below meth c Z hC hZ H locs ls hR hS hl
  cases hr
  refine lv_ldcw hC.1 hC.2.1 hC.2.2.2.1 (hC.2.2.2.2.1 _ hv) hd ?_
  exact k p l e s mid args below meth c Z hC hZ H locs ls hR hS hl
theorem mx_g_ldc2_w {m : MR} {G : mx_G} {Λ : List mx_K} {pc : Nat} {st : mx_St} {idx : Nat} {v : Int64} (hv : Cond.constantLong m.1.cls idx v ∈ TT) (hd : decode m.2.1 pc = .ok (.ldc2_w idx, 3)) : mx_Go m G Λ pc 3 st (mx_push (.long v) st) := by
  intro st' φ hr hφ cl sl Q k p l e s mid args below meth c Z hC hZ H locs ls hR hS hl
  cases hr
  refine lv_ldc2 hC.1 hC.2.1 hC.2.2.2.1 (hC.2.2.2.2.1 _ hv) hd ?_
  exact k p l e s mid args below meth c Z hC hZ H locs ls hR hS hl
theorem mx_g_iadd {m : MR} {G : mx_G} {Λ : List mx_K} {pc : Nat} {st : mx_St} (hd : decode m.2.1 pc = .ok (.iadd, 1)) : mx_Go m G Λ pc 1 st (mx_bin (fun x y => x + y) st) := by
  obtain ⟨s0, l0, M⟩ := st
  intro st' φ hr hφ cl sl Q k p l e s mid args below meth c Z hC hZ H locs ls hR hS hl
  unfold mx_bin at hr
  split at hr
  · rename_i y x rest hq
    dsimp only at hq
    subst hq
    cases hr
    refine lv_iadd hC.1 hC.2.1 hd ?_
    exact k p l e s mid args below meth c Z hC hZ H locs ls hR hS hl
  · cases hr
theorem mx_g_isub {m : MR} {G : mx_G} {Λ : List mx_K} {pc : Nat} {st : mx_St} (hd : decode m.2.1 pc = .ok (.isub, 1)) : mx_Go m G Λ pc 1 st (mx_bin (fun x y => x - y) st) := by
  obtain ⟨s0, l0, M⟩ := st
  intro st' φ hr hφ cl sl Q k p l e s mid args below meth c Z hC hZ H locs ls hR hS hl
  unfold mx_bin at hr
  split at hr
  · rename_i y x rest hq
    dsimp only at hq
    subst hq
    cases hr
    refine lv_isub hC.1 hC.2.1 hd ?_
    exact k p l e s mid args below meth c Z hC hZ H locs ls hR hS hl
  · cases hr
theorem mx_g_imul {m : MR} {G : mx_G} {Λ : List mx_K} {pc : Nat} {st : mx_St} (hd : decode m.2.1 pc = .ok (.imul, 1)) : mx_Go m G Λ pc 1 st (mx_bin (fun x y => x * y) st) := by
  obtain ⟨s0, l0, M⟩ := st
  intro st' φ hr hφ cl sl Q k p l e s mid args below meth c Z hC hZ H locs ls hR hS hl
  unfold mx_bin at hr
  split at hr
  · rename_i y x rest hq
    dsimp only at hq
    subst hq
    cases hr
    refine lv_imul hC.1 hC.2.1 hd ?_
    exact k p l e s mid args below meth c Z hC hZ H locs ls hR hS hl
  · cases hr
theorem mx_g_iand {m : MR} {G : mx_G} {Λ : List mx_K} {pc : Nat} {st : mx_St} (hd : decode m.2.1 pc = .ok (.iand, 1)) : mx_Go m G Λ pc 1 st (mx_bin (fun x y => x &&& y) st) := by
  obtain ⟨s0, l0, M⟩ := st
  intro st' φ hr hφ cl sl Q k p l e s mid args below meth c Z hC hZ H locs ls hR hS hl
  unfold mx_bin at hr
  split at hr
  · rename_i y x rest hq
    dsimp only at hq
    subst hq
    cases hr
    refine lv_iand hC.1 hC.2.1 hd ?_
    exact k p l e s mid args below meth c Z hC hZ H locs ls hR hS hl
  · cases hr
theorem mx_g_ior {m : MR} {G : mx_G} {Λ : List mx_K} {pc : Nat} {st : mx_St} (hd : decode m.2.1 pc = .ok (.ior, 1)) : mx_Go m G Λ pc 1 st (mx_bin (fun x y => x ||| y) st) := by
  obtain ⟨s0, l0, M⟩ := st
  intro st' φ hr hφ cl sl Q k p l e s mid args below meth c Z hC hZ H locs ls hR hS hl
  unfold mx_bin at hr
  split at hr
  · rename_i y x rest hq
    dsimp only at hq
    subst hq
    cases hr
    refine lv_ior hC.1 hC.2.1 hd ?_
    exact k p l e s mid args below meth c Z hC hZ H locs ls hR hS hl
  · cases hr
theorem mx_g_ixor {m : MR} {G : mx_G} {Λ : List mx_K} {pc : Nat} {st : mx_St} (hd : decode m.2.1 pc = .ok (.ixor, 1)) : mx_Go m G Λ pc 1 st (mx_bin (fun x y => x ^^^ y) st) := by
  obtain ⟨s0, l0, M⟩ := st
  intro st' φ hr hφ cl sl Q k p l e s mid args below meth c Z hC hZ H locs ls hR hS hl
  unfold mx_bin at hr
  split at hr
  · rename_i y x rest hq
    dsimp only at hq
    subst hq
    cases hr
    refine lv_ixor hC.1 hC.2.1 hd ?_
    exact k p l e s mid args below meth c Z hC hZ H locs ls hR hS hl
  · cases hr
theorem mx_g_ishl {m : MR} {G : mx_G} {Λ : List mx_K} {pc : Nat} {st : mx_St} (hd : decode m.2.1 pc = .ok (.ishl, 1)) : mx_Go m G Λ pc 1 st (mx_bin (fun x y => x <<< (y &&& 31)) st) := by
  obtain ⟨s0, l0, M⟩ := st
  intro st' φ hr hφ cl sl Q k p l e s mid args below meth c Z hC hZ H locs ls hR hS hl
  unfold mx_bin at hr
  split at hr
  · rename_i y x rest hq
    dsimp only at hq
    subst hq
    cases hr
    refine lv_ishl hC.1 hC.2.1 hd ?_
    exact k p l e s mid args below meth c Z hC hZ H locs ls hR hS hl
  · cases hr
theorem mx_g_ishr {m : MR} {G : mx_G} {Λ : List mx_K} {pc : Nat} {st : mx_St} (hd : decode m.2.1 pc = .ok (.ishr, 1)) : mx_Go m G Λ pc 1 st (mx_bin (fun x y => x >>> (y &&& 31)) st) := by
  obtain ⟨s0, l0, M⟩ := st
  intro st' φ hr hφ cl sl Q k p l e s mid args below meth c Z hC hZ H locs ls hR hS hl
  unfold mx_bin at hr
  split at hr
  · rename_i y x rest hq
    dsimp only at hq
    subst hq
    cases hr
    refine lv_ishr hC.1 hC.2.1 hd ?_
    exact k p l e s mid args below meth c Z hC hZ H locs ls hR hS hl
  · cases hr
theorem mx_g_iushr {m : MR} {G : mx_G} {Λ : List mx_K} {pc : Nat} {st : mx_St} (hd : decode m.2.1 pc = .ok (.iushr, 1)) : mx_Go m G Λ pc 1 st (mx_bin (fun x y => (x.toUInt32 >>> (y.toUInt32 &&& Int32.toUInt32 31)).toInt32) st) := by
  obtain ⟨s0, l0, M⟩ := st
  intro st' φ hr hφ cl sl Q k p l e s mid args below meth c Z hC hZ H locs ls hR hS hl
  unfold mx_bin at hr
  split at hr
  · rename_i y x rest hq
    dsimp only at hq
    subst hq
    cases hr
    refine lv_iushr hC.1 hC.2.1 hd rfl ?_
    exact k p l e s mid args below meth c Z hC hZ H locs ls hR hS hl
  · cases hr
theorem mx_g_idiv {m : MR} {G : mx_G} {Λ : List mx_K} {pc : Nat} {st : mx_St} (hd : decode m.2.1 pc = .ok (.idiv, 1)) : mx_Go m G Λ pc 1 st (mx_binD (fun x y => x / y) st) := by
  obtain ⟨s0, l0, M⟩ := st
  intro st' φ hr hφ cl sl Q k p l e s mid args below meth c Z hC hZ H locs ls hR hS hl
  unfold mx_binD at hr
  split at hr
  · rename_i y x rest hq
    dsimp only at hq
    subst hq
    cases hr
    refine lv_idiv hC.1 hC.2.1 hd hφ ?_
    exact k p l e s mid args below meth c Z hC hZ H locs ls hR hS hl
  · cases hr
theorem mx_g_irem {m : MR} {G : mx_G} {Λ : List mx_K} {pc : Nat} {st : mx_St} (hd : decode m.2.1 pc = .ok (.irem, 1)) : mx_Go m G Λ pc 1 st (mx_binD (fun x y => x - x / y * y) st) := by
  obtain ⟨s0, l0, M⟩ := st
  intro st' φ hr hφ cl sl Q k p l e s mid args below meth c Z hC hZ H locs ls hR hS hl
  unfold mx_binD at hr
  split at hr
  · rename_i y x rest hq
    dsimp only at hq
    subst hq
    cases hr
    refine lv_irem hC.1 hC.2.1 hd hφ ?_
    exact k p l e s mid args below meth c Z hC hZ H locs ls hR hS hl
  · cases hr
theorem mx_g_ineg {m : MR} {G : mx_G} {Λ : List mx_K} {pc : Nat} {st : mx_St} (hd : decode m.2.1 pc = .ok (.ineg, 1)) : mx_Go m G Λ pc 1 st (mx_un (fun x => -x) st) := by
  obtain ⟨s0, l0, M⟩ := st
  intro st' φ hr hφ cl sl Q k p l e s mid args below meth c Z hC hZ H locs ls hR hS hl
  unfold mx_un at hr
  split at hr
  · rename_i x rest hq
    dsimp only at hq
    subst hq
    cases hr
    refine lv_ineg hC.1 hC.2.1 hd ?_
    exact k p l e s mid args below meth c Z hC hZ H locs ls hR hS hl
  · cases hr
theorem mx_g_i2b {m : MR} {G : mx_G} {Λ : List mx_K} {pc : Nat} {st : mx_St} (hd : decode m.2.1 pc = .ok (.i2b, 1)) : mx_Go m G Λ pc 1 st (mx_un (fun x => x.toInt8.toInt32) st) := by
  obtain ⟨s0, l0, M⟩ := st
  intro st' φ hr hφ cl sl Q k p l e s mid args below meth c Z hC hZ H locs ls hR hS hl
  unfold mx_un at hr
  split at hr
  · rename_i x rest hq
    dsimp only at hq
    subst hq
    cases hr
    refine lv_i2b hC.1 hC.2.1 hd rfl ?_
    exact k p l e s mid args below meth c Z hC hZ H locs ls hR hS hl
  · cases hr
theorem mx_g_i2s {m : MR} {G : mx_G} {Λ : List mx_K} {pc : Nat} {st : mx_St} (hd : decode m.2.1 pc = .ok (.i2s, 1)) : mx_Go m G Λ pc 1 st (mx_un (fun x => x.toInt16.toInt32) st) := by
  obtain ⟨s0, l0, M⟩ := st
  intro st' φ hr hφ cl sl Q k p l e s mid args below meth c Z hC hZ H locs ls hR hS hl
  unfold mx_un at hr
  split at hr
  · rename_i x rest hq
    dsimp only at hq
    subst hq
    cases hr
    refine lv_i2s hC.1 hC.2.1 hd rfl ?_
    exact k p l e s mid args below meth c Z hC hZ H locs ls hR hS hl
  · cases hr
theorem mx_g_ladd {m : MR} {G : mx_G} {Λ : List mx_K} {pc : Nat} {st : mx_St} (hd : decode m.2.1 pc = .ok (.ladd, 1)) : mx_Go m G Λ pc 1 st (mx_lbin (fun x y => x + y) st) := by
  obtain ⟨s0, l0, M⟩ := st
  intro st' φ hr hφ cl sl Q k p l e s mid args below meth c Z hC hZ H locs ls hR hS hl
  unfold mx_lbin at hr
  split at hr
  · rename_i y x rest hq
    dsimp only at hq
    subst hq
    cases hr
    refine lv_ladd hC.1 hC.2.1 hd ?_
    exact k p l e s mid args below meth c Z hC hZ H locs ls hR hS hl
  · cases hr
theorem mx_g_lmul {m : MR} {G : mx_G} {Λ : List mx_K} {pc : Nat} {st : mx_St} (hd : decode m.2.1 pc = .ok (.lmul, 1)) : mx_Go m G Λ pc 1 st (mx_lbin (fun x y => x * y) st) := by
  obtain ⟨s0, l0, M⟩ := st
  intro st' φ hr hφ cl sl Q k p l e s mid args below meth c Z hC hZ H locs ls hR hS hl
  unfold mx_lbin at hr
  split at hr
  · rename_i y x rest hq
    dsimp only at hq
    subst hq
    cases hr
    refine lv_lmul hC.1 hC.2.1 hd ?_
    exact k p l e s mid args below meth c Z hC hZ H locs ls hR hS hl
  · cases hr
theorem mx_g_ldiv {m : MR} {G : mx_G} {Λ : List mx_K} {pc : Nat} {st : mx_St} (hd : decode m.2.1 pc = .ok (.ldiv, 1)) : mx_Go m G Λ pc 1 st (mx_lbinD (fun x y => x / y) st) := by
  obtain ⟨s0, l0, M⟩ := st
  intro st' φ hr hφ cl sl Q k p l e s mid args below meth c Z hC hZ H locs ls hR hS hl
  unfold mx_lbinD at hr
  split at hr
  · rename_i y x rest hq
    dsimp only at hq
    subst hq
    cases hr
    refine lv_ldiv hC.1 hC.2.1 hd hφ ?_
    exact k p l e s mid args below meth c Z hC hZ H locs ls hR hS hl
  · cases hr
theorem mx_g_lrem {m : MR} {G : mx_G} {Λ : List mx_K} {pc : Nat} {st : mx_St} (hd : decode m.2.1 pc = .ok (.lrem, 1)) : mx_Go m G Λ pc 1 st (mx_lbinD (fun x y => x - x / y * y) st) := by
  obtain ⟨s0, l0, M⟩ := st
  intro st' φ hr hφ cl sl Q k p l e s mid args below meth c Z hC hZ H locs ls hR hS hl
  unfold mx_lbinD at hr
  split at hr
  · rename_i y x rest hq
    dsimp only at hq
    subst hq
    cases hr
    refine lv_lrem hC.1 hC.2.1 hd hφ ?_
    exact k p l e s mid args below meth c Z hC hZ H locs ls hR hS hl
  · cases hr
theorem mx_g_lcmp {m : MR} {G : mx_G} {Λ : List mx_K} {pc : Nat} {st : mx_St} (hd : decode m.2.1 pc = .ok (.lcmp, 1)) : mx_Go m G Λ pc 1 st (mx_lcmp st) := by
  obtain ⟨s0, l0, M⟩ := st
  intro st' φ hr hφ cl sl Q k p l e s mid args below meth c Z hC hZ H locs ls hR hS hl
  unfold mx_lcmp at hr
  split at hr
  · rename_i y x rest hq
    dsimp only at hq
    subst hq
    cases hr
    refine W.lcmp hC.1 hC.2.1 hd ?_
    exact k p l e s mid args below meth c Z hC hZ H locs ls hR hS hl
  · cases hr
theorem mx_g_i2l {m : MR} {G : mx_G} {Λ : List mx_K} {pc : Nat} {st : mx_St} (hd : decode m.2.1 pc = .ok (.i2l, 1)) : mx_Go m G Λ pc 1 st (mx_i2l st) := by
  obtain ⟨s0, l0, M⟩ := st
  intro st' φ hr hφ cl sl Q k p l e s mid args below meth c Z hC hZ H locs ls hR hS hl
  unfold mx_i2l at hr
  split at hr
  · rename_i x rest hq
    dsimp only at hq
    subst hq
    cases hr
    refine lv_i2l hC.1 hC.2.1 hd rfl ?_
    exact k p l e s mid args below meth c Z hC hZ H locs ls hR hS hl
  · cases hr
theorem mx_g_l2i {m : MR} {G : mx_G} {Λ : List mx_K} {pc : Nat} {st : mx_St} (hd : decode m.2.1 pc = .ok (.l2i, 1)) : mx_Go m G Λ pc 1 st (mx_l2i st) := by
  obtain ⟨s0, l0, M⟩ := st
  intro st' φ hr hφ cl sl Q k p l e s mid args below meth c Z hC hZ H locs ls hR hS hl
  unfold mx_l2i at hr
  split at hr
  · rename_i x rest hq
    dsimp only at hq
    subst hq
    cases hr
    refine lv_l2i hC.1 hC.2.1 hd rfl ?_
    exact k p l e s mid args below meth c Z hC hZ H locs ls hR hS hl
  · cases hr
theorem mx_g_pop {m : MR} {G : mx_G} {Λ : List mx_K} {pc : Nat} {st : mx_St} (hd : decode m.2.1 pc = .ok (.pop, 1)) : mx_Go m G Λ pc 1 st (mx_pop st) := by
  obtain ⟨s0, l0, M⟩ := st
  intro st' φ hr hφ cl sl Q k p l e s mid args below meth c Z hC hZ H locs ls hR hS hl
  unfold mx_pop at hr
  split at hr
  · rename_i x rest hq
    dsimp only at hq
    subst hq
    cases hr
    refine lv_pop hC.1 hC.2.1 hd rfl ?_
    exact k p l e s mid args below meth c Z hC hZ H locs ls hR hS hl
  · cases hr
theorem mx_g_dup {m : MR} {G : mx_G} {Λ : List mx_K} {pc : Nat} {st : mx_St} (hd : decode m.2.1 pc = .ok (.dup, 1)) : mx_Go m G Λ pc 1 st (mx_dup st) := by
  obtain ⟨s0, l0, M⟩ := st
  intro st' φ hr hφ cl sl Q k p l e s mid args below meth c Z hC hZ H locs ls hR hS hl
  unfold mx_dup at hr
  split at hr
  · rename_i x rest hq
    dsimp only at hq
    subst hq
    cases hr
    refine lv_dup hC.1 hC.2.1 hd rfl ?_
    exact k p l e s mid args below meth c Z hC hZ H locs ls hR hS hl
  · rename_i x rest hq
    dsimp only at hq
    subst hq
    cases hr
    refine lv_dup hC.1 hC.2.1 hd rfl ?_
    exact k p l e s mid args below meth c Z hC hZ H locs ls hR hS hl
  · cases hr
theorem mx_g_dup2 {m : MR} {G : mx_G} {Λ : List mx_K} {pc : Nat} {st : mx_St} (hd : decode m.2.1 pc = .ok (.dup2, 1)) : mx_Go m G Λ pc 1 st (mx_dup2 st) := by
  obtain ⟨s0, l0, M⟩ := st
  intro st' φ hr hφ cl sl Q k p l e s mid args below meth c Z hC hZ H locs ls hR hS hl
  unfold mx_dup2 at hr
  split at hr
  · rename_i x y rest hq
    dsimp only at hq
    subst hq
    cases hr
    refine lv_dup2_11 hC.1 hC.2.1 hd rfl rfl ?_
    exact k p l e s mid args below meth c Z hC hZ H locs ls hR hS hl
  · cases hr
end
section
/-! ===== fields and arrays ===== -/
theorem mx_okF_spec {m : MR} {idx ci k pl : Nat} (h : mx_okF m idx ci k pl = true) : ∃ C T N, vwCl[ci]? = some (C, T, N) ∧ k < N ∧ (T k).1 = C ∧ Cond.fieldLink m.1.cls idx C (T k).2.1 (T k).2.2.1 ∈ TT := by
  unfold mx_okF at h
  split at h
  · rename_i C T N hc
    simp only [Bool.and_eq_true, decide_eq_true_eq] at h
    exact ⟨C, T, N, hc, h.1.1, h.1.2, inTT_mem h.2⟩
  · cases h
theorem mx_cl_11 {ci : Nat} {q : vw_C} (h : vwCl[ci]? = some q) : ci ≠ 99 := by
  have := (List.getElem?_eq_some_iff.mp h).1
  simp [vwCl] at this
  omega
theorem mx_refs_at {ci h k : Nat} {o : Option Nat} (ho : (mx_off.getD ci [])[k]? = some o) : (mx_refs ci h)[k]? = some (o.map (fun q => some (h + q))) := by
  unfold mx_refs
  rw [List.getElem?_map, ho]
  rfl
theorem mx_g_getfield {m : MR} {G : mx_G} {Λ : List mx_K} {pc : Nat} {st : mx_St} {idx : Nat} {as : List Nat} (hok : mx_okG m idx as = true) (hd : decode m.2.1 pc = .ok (.getfield idx, 3)) : mx_Go m G Λ pc 3 st (mx_getf Λ as st) := by
  obtain ⟨s0, l0, M⟩ := st
  intro st' φ hr hφ cl sl Q kk p l e s mid args below meth c Z hC hZ H locs ls hR hS hl
  unfold mx_okG at hok
  split at hok
  · rename_i ci k r pl
    simp only [Bool.and_eq_true, decide_eq_true_eq] at hok
    obtain ⟨hF, ho⟩ := hok
    obtain ⟨C, T, N, hc, hk, hT, hlink⟩ := mx_okF_spec hF
    cases s0 with
    | nil => simp [mx_getf] at hr
    | cons v0 rest =>
      cases v0 with
      | ref h =>
        simp only [mx_getf, Option.some.injEq, Prod.mk.injEq] at hr
        obtain ⟨hst, hph⟩ := hr
        subst hph
        have hoc : mx_ocl Λ h = ci := hφ
        have hL := mx_ocl_at (mx_cl_11 hc) hoc
        have hwa := mx_w_at (G := G) (M := M) hL
        have hat := mx_refs_at (h := h) ho
        obtain ⟨hin, hty, hnm⟩ := mx_cls ci C T N hc
        have he : mx_ph G (.ref h) = .ref (mx_B G + h) := by simp [mx_ph, mx_ad_at (hR.lt hL).2]
        show W p l e m.2.2.2.2 s mid args below meth c H locs cl sl Z (F0 mid pc ls (mx_ph G (.ref h) :: rest.map (mx_ph G)))
        rw [he]
        have hg : ∀ v : Value, ((mx_refs ci h).mapIdx (mx_fv G M h))[k]? = some (mx_ph G v) → st' = (v :: rest, l0, M) → W p l e m.2.2.2.2 s mid args below meth c H locs cl sl Z (F0 mid pc ls (.ref (mx_B G + h) :: rest.map (mx_ph G))) := by
          intro v hv hst
          subst hst
          exact va_get (D := G.1) (ci := ci) (C := C) (T := T) (N := N) hC.1 hC.2.1 hC.2.2.2.2.1 hin hC.2.2.2.1 hC.2.2.2.2.2.2.2.2.1.1 hR.1 h hwa hc k hk (hC.2.2.2.2.1 _ hlink) (fun x hx => by rw [← hT]; exact hx) hv hd (kk p l e s mid args below meth c Z hC hZ H locs ls hR hS hl)
        cases r with
        | zero => exact hg _ (by rw [List.getElem?_mapIdx, hat]; rfl) hst.symm
        | succ o => exact hg _ (by rw [List.getElem?_mapIdx, hat]; rfl) hst.symm
      | _ => simp [mx_getf] at hr
  · cases hok
section MXP
variable {G : mx_G} {Λ : List mx_K} {M : mx_M} {p : Program} {l : Launch} {e : Env} {R : Room} {s : State} {mid : MethodId} {args : Array Value} {below : List Frame} {meth : Method} {c : Code} {H : Heap} {locs : List Loc} {cells slots : Nat} {Z : State → Prop}
variable {m : MR} {idx ci k h pc : Nat} {ls : Array Slot} {rest : List Value} {v : Int32} {C : String} {T : u_T} {N : Nat}
theorem mx_putv (hC : mx_C G m p s mid args meth c) (hc : vwCl[ci]? = some (C, T, N)) (hk : k < N) (hT : (T k).1 = C) (hlink : Cond.fieldLink m.1.cls idx C (T k).2.1 (T k).2.2.1 ∈ TT)
    (hfin : (T k).2.2.2 = false) (ho : (mx_off.getD ci [])[k]? = some none) {ty : FieldType} (hty0 : mx_ty ci k = ty) (hn : narrow ty (.int v) = .int v) (hfit : fits ty (.int v) = true) (hoc : mx_ocl Λ h = ci) (hR : mx_R G Λ M H) (hS : va_S (mx_A G) s.heap H locs) (hd : decode m.2.1 pc = .ok (.putfield idx, 3))
    (kk : ∀ (H1 : Heap) (locs1 : List Loc), mx_R G Λ (mx_wr M h k v) H1 → va_S (mx_A G) s.heap H1 locs1 → W p l e R s mid args below meth c H1 locs1 cells slots Z (F0 mid (pc + 3) ls rest)) :
    W p l e R s mid args below meth c H locs cells slots Z (F0 mid pc ls (.int v :: .ref (mx_B G + h) :: rest)) := by
  have hL := mx_ocl_at (mx_cl_11 hc) hoc
  have he := mx_w_at (G := G) (M := M) hL
  have hat := mx_refs_at (h := h) ho
  obtain ⟨hin, hty, hnm⟩ := mx_cls ci C T N hc
  have hlk : k < ((mx_refs ci h).mapIdx (mx_fv G M h)).length := by
    have := (List.getElem?_eq_some_iff.mp hat).1
    simpa using this
  have hts := hC.2.2.2.2.1
  have hK := hC.2.2.2.2.2.2.2.2.1.1
  have hap := va_apart (own := m.1.cls) hts hin (mx_ty ci) hty hnm hK hc
  obtain ⟨r, h1, cell, q1, q2, q3, q4⟩ := hR.1 h _ he
  have hr : r = (C, T, N) := Option.some.inj (h1.symm.trans hc)
  subst hr
  obtain ⟨hSl, hfc, kC, hkC, hkind⟩ := hK.1 ci _ hc
  obtain ⟨cf, kf, fi, f, hi, hsl⟩ := hSl k hk
  have hlay := hts _ (hin _ (u_in_lay hk))
  unfold u_lay at hlay
  rw [if_neg (by rw [hfin]; decide)] at hlay
  have hst := (u_facts hfc hkC (u_lays hts hin hk) hi).1
  have h6 := u_store hfc hkC hkind hlay hi (by rw [hty k hk, hty0]) hn hfit
  refine W.putK hC.1 hC.2.1 (f := f) ⟨hC.2.2.2.1, hts _ hlink, ⟨_, _, _, by rw [← hT]; exact hi⟩, hst⟩ (by rw [q2]; exact h6) q1 q3 (by rw [hsl]; exact k2_hasslot (q4 k hk)) rfl rfl hd fun H' e1 e2 e3 => ?_
  rw [hsl] at e1 ⊢
  have hP1 := hR.1.set (mx_w_D G Λ M) he (e := .inr (ci, ((mx_refs ci h).mapIdx (mx_fv G M h)).set k (.int v))) ⟨_, hc, t_OB.to (V := updV (vp_V _) k (.int v)) ⟨_, e1, q2, q3, t_set q4 hap hk (.int v)⟩ (fun j _ => vp_updV_set hlk (.int v) j)⟩ e3
  have e4 : mx_w G Λ (mx_wr M h k v) = (mx_w G Λ M).set h (mx_B G + h, .inr (ci, ((mx_refs ci h).mapIdx (mx_fv G M h)).set k (.int v))) := by
    rw [mx_w_set hL (fun a ha => mx_wr_n M k v ha), mx_e_field hat]
  exact kk H' _ (mx_R_wr hR (hR.lt hL).1 (by rw [e4]; exact hP1) e2) (hS.put e2 e3 (show mx_B G ≤ mx_B G + h by omega))
theorem mx_iastv {a : Nat} {i : Int32} (hC : mx_C G m p s mid args meth c) (hin : vp_in i (mx_len Λ false a)) (hR : mx_R G Λ M H) (hS : va_S (mx_A G) s.heap H locs) (hd : decode m.2.1 pc = .ok (.iastore, 1))
    (kk : ∀ (H1 : Heap) (locs1 : List Loc), mx_R G Λ (mx_wr M a i.toNatClampNeg v) H1 → va_S (mx_A G) s.heap H1 locs1 → W p l e R s mid args below meth c H1 locs1 cells slots Z (F0 mid (pc + 1) ls rest)) :
    W p l e R s mid args below meth c H locs cells slots Z (F0 mid pc ls (.int v :: .int i :: .ref (mx_B G + a) :: rest)) := by
  have hL := mx_len_at hin
  have he := mx_w_at (G := G) (M := M) hL
  have hK := hC.2.2.2.2.2.2.2.2.1.1
  have hat : H[mx_B G + a]? = some (vp_cell (mx_cI G) (mx_len Λ false a, .inl (M a))) := hR.1 a _ he
  refine W.iast hC.1 hC.2.1 hat ((hK.2 0 _ rfl).1 _ (fun j => .int (M a j))) (fun q => by cases q) (by show ¬ (i < 0 ∨ (arrV _ _ _).slots.size ≤ _); rw [arrV_size]; exact hin) rfl rfl hd fun H1 e1 z oq => ?_
  have e4 : mx_w G Λ (mx_wr M a i.toNatClampNeg v) = (mx_w G Λ M).set a (mx_B G + a, .inl (mx_cI G, mx_len Λ false a, .inl (upd (M a) i.toNatClampNeg v))) := by
    rw [mx_w_set hL (fun b hb => mx_wr_n M _ v hb), mx_e_arr]
    rfl
  have hP1 := hR.1.set (mx_w_D G Λ M) he (e := .inl (mx_cI G, mx_len Λ false a, .inl (upd (M a) i.toNatClampNeg v))) (H1 := H1) (by
    show H1[mx_B G + a]? = some (vp_cell _ _)
    rw [e1, vp_cell_i, vp_cell_i, arrV_store]
    congr 2
    funext q
    by_cases hq : q = i.toNatClampNeg
    · subst hq
      simp [updV, upd]
    · simp [updV, upd, hq]) oq
  exact kk H1 _ (mx_R_wr hR (hR.lt hL).1 (by rw [e4]; exact hP1) z) (hS.put z oq (show mx_B G ≤ mx_B G + a by omega))
theorem mx_zastv {a : Nat} {i : Int32} (hC : mx_C G m p s mid args meth c) (hin : vp_in i (mx_len Λ true a)) (hv : v = 0 ∨ v = 1) (hR : mx_R G Λ M H) (hS : va_S (mx_A G) s.heap H locs) (hd : decode m.2.1 pc = .ok (.bastore, 1))
    (kk : ∀ (H1 : Heap) (locs1 : List Loc), mx_R G Λ (mx_wr M a i.toNatClampNeg v) H1 → va_S (mx_A G) s.heap H1 locs1 → W p l e R s mid args below meth c H1 locs1 cells slots Z (F0 mid (pc + 1) ls rest)) :
    W p l e R s mid args below meth c H locs cells slots Z (F0 mid pc ls (.int v :: .int i :: .ref (mx_B G + a) :: rest)) := by
  have hL := mx_len_at hin
  have he := mx_w_at (G := G) (M := M) hL
  have hK := hC.2.2.2.2.2.2.2.2.1.1
  have hn : narrow .boolean (.int v) = .int v := by rcases hv with rfl | rfl <;> decide +kernel
  have hat : H[mx_B G + a]? = some (vp_cell (mx_cZ G) (mx_len Λ true a, .inl (M a))) := hR.1 a _ he
  refine W.zast hC.1 hC.2.1 hat ((hK.2 1 _ rfl).1 _ (fun j => .int (M a j))) (fun q => by cases q) (by show ¬ (i < 0 ∨ (arrV _ _ _).slots.size ≤ _); rw [arrV_size]; exact hin) rfl rfl hd fun H1 e1 z oq => ?_
  have e4 : mx_w G Λ (mx_wr M a i.toNatClampNeg v) = (mx_w G Λ M).set a (mx_B G + a, .inl (mx_cZ G, mx_len Λ true a, .inl (upd (M a) i.toNatClampNeg v))) := by
    rw [mx_w_set hL (fun b hb => mx_wr_n M _ v hb), mx_e_arr]
    rfl
  have hP1 := hR.1.set (mx_w_D G Λ M) he (e := .inl (mx_cZ G, mx_len Λ true a, .inl (upd (M a) i.toNatClampNeg v))) (H1 := H1) (by
    show H1[mx_B G + a]? = some (vp_cell _ _)
    rw [e1, hn, vp_cell_i, vp_cell_i, arrV_store]
    congr 2
    funext q
    by_cases hq : q = i.toNatClampNeg
    · subst hq
      simp [updV, upd]
    · simp [updV, upd, hq]) oq
  exact kk H1 _ (mx_R_wr hR (hR.lt hL).1 (by rw [e4]; exact hP1) z) (hS.put z oq (show mx_B G ≤ mx_B G + a by omega))
end MXP
end
section
section MXG
variable {m : MR} {G : mx_G} {Λ : List mx_K} {pc : Nat} {st : mx_St}
theorem mx_ph_ref {M : mx_M} {H : Heap} (hR : mx_R G Λ M H) {k : Nat} {kd : mx_K} (hk : Λ[k]? = some kd) : mx_ph G (.ref k) = .ref (mx_B G + k) := by
  simp [mx_ph, mx_ad_at (hR.lt hk).2]
theorem mx_g_putfield {idx : Nat} {as : List Nat} (hok : mx_okP m idx as = true) (hd : decode m.2.1 pc = .ok (.putfield idx, 3)) : mx_Go m G Λ pc 3 st (mx_putf Λ as st) := by
  obtain ⟨s0, l0, M⟩ := st
  intro st' φ hr hφ cl sl Q kk p l e s mid args below meth c Z hC hZ H locs ls hR hS hl
  unfold mx_okP at hok
  split at hok
  · rename_i ci k t pl
    simp only [Bool.and_eq_true, decide_eq_true_eq] at hok
    obtain ⟨⟨⟨hF, ho⟩, hty⟩, hfin⟩ := hok
    obtain ⟨C, T, N, hc, hk, hT, hlink⟩ := mx_okF_spec hF
    rw [hc] at hfin
    have hfin : (T k).2.2.2 = false := by simpa using hfin
    match s0, hr with
    | .int v :: .ref h :: rest, hr =>
      simp only [mx_putf, Option.some.injEq, Prod.mk.injEq] at hr
      obtain ⟨hst, hph⟩ := hr
      subst hph
      subst hst
      have hoc : mx_ocl Λ h = ci := by
        cases t with
        | zero => exact hφ
        | succ t => exact hφ.1
      have hnf : narrow (mx_ty ci k) (.int v) = .int v ∧ fits (mx_ty ci k) (.int v) = true := by
        rw [hty]
        cases t with
        | zero => exact ⟨vp_nar_int v, rfl⟩
        | succ t =>
          show narrow .boolean (.int v) = .int v ∧ fits .boolean (.int v) = true
          rcases hφ.2 with rfl | rfl
          · exact ⟨by decide +kernel, by decide +kernel⟩
          · exact ⟨by decide +kernel, by decide +kernel⟩
      have hL := mx_ocl_at (mx_cl_11 hc) hoc
      show W p l e m.2.2.2.2 s mid args below meth c H locs cl sl Z (F0 mid pc ls (.int v :: mx_ph G (.ref h) :: rest.map (mx_ph G)))
      rw [mx_ph_ref hR hL]
      exact mx_putv hC hc hk hT hlink hfin ho rfl hnf.1 hnf.2 hoc hR hS hd (fun H1 locs1 hR1 hS1 => kk p l e s mid args below meth c Z hC hZ H1 locs1 ls hR1 hS1 hl)
    | [], hr => simp [mx_putf] at hr
    | [v0], hr => cases v0 <;> simp [mx_putf] at hr
    | .long _ :: _ :: _, hr => simp [mx_putf] at hr
    | .float _ :: _ :: _, hr => simp [mx_putf] at hr
    | .double _ :: _ :: _, hr => simp [mx_putf] at hr
    | .null :: _ :: _, hr => simp [mx_putf] at hr
    | .ref _ :: _ :: _, hr => simp [mx_putf] at hr
    | .retAddr _ :: _ :: _, hr => simp [mx_putf] at hr
    | .int _ :: .int _ :: _, hr => simp [mx_putf] at hr
    | .int _ :: .long _ :: _, hr => simp [mx_putf] at hr
    | .int _ :: .float _ :: _, hr => simp [mx_putf] at hr
    | .int _ :: .double _ :: _, hr => simp [mx_putf] at hr
    | .int _ :: .null :: _, hr => simp [mx_putf] at hr
    | .int _ :: .retAddr _ :: _, hr => simp [mx_putf] at hr
  · cases hok
theorem mx_g_iaload (hd : decode m.2.1 pc = .ok (.iaload, 1)) : mx_Go m G Λ pc 1 st (mx_ald Λ false st) := by
  obtain ⟨s0, l0, M⟩ := st
  intro st' φ hr hφ cl sl Q kk p l e s mid args below meth c Z hC hZ H locs ls hR hS hl
  unfold mx_ald at hr
  split at hr
  · rename_i i a rest hq
    dsimp only at hq
    subst hq
    cases hr
    have hin : vp_in i (mx_len Λ false a) := hφ
    have hL := mx_len_at hin
    show W p l e m.2.2.2.2 s mid args below meth c H locs cl sl Z (F0 mid pc ls (.int i :: mx_ph G (.ref a) :: rest.map (mx_ph G)))
    rw [mx_ph_ref hR hL]
    exact va_iald hC.1 hC.2.1 hC.2.2.2.2.2.2.2.2.1.1 hR.1 a 0 (mx_w_at hL) rfl hin hd (kk p l e s mid args below meth c Z hC hZ H locs ls hR hS hl)
  · cases hr
theorem mx_g_baload (hd : decode m.2.1 pc = .ok (.baload, 1)) : mx_Go m G Λ pc 1 st (mx_ald Λ true st) := by
  obtain ⟨s0, l0, M⟩ := st
  intro st' φ hr hφ cl sl Q kk p l e s mid args below meth c Z hC hZ H locs ls hR hS hl
  unfold mx_ald at hr
  split at hr
  · rename_i i a rest hq
    dsimp only at hq
    subst hq
    cases hr
    have hin : vp_in i (mx_len Λ true a) := hφ
    have hL := mx_len_at hin
    show W p l e m.2.2.2.2 s mid args below meth c H locs cl sl Z (F0 mid pc ls (.int i :: mx_ph G (.ref a) :: rest.map (mx_ph G)))
    rw [mx_ph_ref hR hL]
    exact va_zald hC.1 hC.2.1 hC.2.2.2.2.2.2.2.2.1.1 hR.1 a 1 (mx_w_at hL) rfl hin hd (kk p l e s mid args below meth c Z hC hZ H locs ls hR hS hl)
  · cases hr
theorem mx_g_iastore (hd : decode m.2.1 pc = .ok (.iastore, 1)) : mx_Go m G Λ pc 1 st (mx_iast Λ st) := by
  obtain ⟨s0, l0, M⟩ := st
  intro st' φ hr hφ cl sl Q kk p l e s mid args below meth c Z hC hZ H locs ls hR hS hl
  unfold mx_iast at hr
  split at hr
  · rename_i v i a rest hq
    dsimp only at hq
    subst hq
    cases hr
    have hin : vp_in i (mx_len Λ false a) := hφ
    show W p l e m.2.2.2.2 s mid args below meth c H locs cl sl Z (F0 mid pc ls (.int v :: .int i :: mx_ph G (.ref a) :: rest.map (mx_ph G)))
    rw [mx_ph_ref hR (mx_len_at hin)]
    exact mx_iastv hC hin hR hS hd (fun H1 locs1 hR1 hS1 => kk p l e s mid args below meth c Z hC hZ H1 locs1 ls hR1 hS1 hl)
  · cases hr
theorem mx_g_bastore (hd : decode m.2.1 pc = .ok (.bastore, 1)) : mx_Go m G Λ pc 1 st (mx_zast Λ st) := by
  obtain ⟨s0, l0, M⟩ := st
  intro st' φ hr hφ cl sl Q kk p l e s mid args below meth c Z hC hZ H locs ls hR hS hl
  unfold mx_zast at hr
  split at hr
  · rename_i v i a rest hq
    dsimp only at hq
    subst hq
    cases hr
    have hin : vp_in i (mx_len Λ true a) := hφ.1
    show W p l e m.2.2.2.2 s mid args below meth c H locs cl sl Z (F0 mid pc ls (.int v :: .int i :: mx_ph G (.ref a) :: rest.map (mx_ph G)))
    rw [mx_ph_ref hR (mx_len_at hin)]
    exact mx_zastv hC hin hφ.2 hR hS hd (fun H1 locs1 hR1 hS1 => kk p l e s mid args below meth c Z hC hZ H1 locs1 ls hR1 hS1 hl)
  · cases hr
theorem mx_g_alen (hd : decode m.2.1 pc = .ok (.arraylength, 1)) : mx_Go m G Λ pc 1 st (mx_alen Λ st) := by
  obtain ⟨s0, l0, M⟩ := st
  intro st' φ hr hφ cl sl Q kk p l e s mid args below meth c Z hC hZ H locs ls hR hS hl
  unfold mx_alen at hr
  split at hr
  · rename_i a rest hq
    dsimp only at hq
    subst hq
    cases hr
    have hL := mx_len_at0 (show mx_len Λ false a ≠ 0 from hφ)
    show W p l e m.2.2.2.2 s mid args below meth c H locs cl sl Z (F0 mid pc ls (mx_ph G (.ref a) :: rest.map (mx_ph G)))
    rw [mx_ph_ref hR hL]
    exact va_alen hC.1 hC.2.1 hC.2.2.2.2.2.2.2.2.1.1 hR.1 a 0 (mx_w_at hL) rfl rfl hd (kk p l e s mid args below meth c Z hC hZ H locs ls hR hS hl)
  · cases hr
theorem mx_g_sld (hm : m.1.cls = "TypeSetsLaw") (hd : decode m.2.1 pc = .ok (.iaload, 1)) : mx_Go m G Λ pc 1 st (mx_sld (mx_L G) st) := by
  obtain ⟨s0, l0, M⟩ := st
  intro st' φ hr hφ cl sl Q kk p l e s mid args below meth c Z hC hZ H locs ls hR hS hl
  unfold mx_sld at hr
  split at hr
  · rename_i i a rest hq
    dsimp only at hq
    subst hq
    cases hr
    obtain ⟨ha, hin⟩ : a = 1000 ∧ vp_in i (mx_L G) := hφ
    subst ha
    obtain ⟨hX, hb⟩ := hC.2.2.2.2.2.2.2.2.2.2 hm
    have h := kk p l e s mid args below meth c Z hC hZ H locs ls hR hS hl
    dsimp only at h
    have h5 : M 1000 = mx_xs G := hR.2.2.2.2
    rw [h5] at h
    exact va_sld hC.1 hC.2.1 hX (Nat.lt_of_lt_of_le hb hC.2.2.2.2.2.2.2.2.2.1) (Nat.not_le.mpr hb) hS hin hd h
  · cases hr
theorem mx_g_slen (hm : m.1.cls = "TypeSetsLaw") (hd : decode m.2.1 pc = .ok (.arraylength, 1)) : mx_Go m G Λ pc 1 st (mx_slen (mx_L G) st) := by
  obtain ⟨s0, l0, M⟩ := st
  intro st' φ hr hφ cl sl Q kk p l e s mid args below meth c Z hC hZ H locs ls hR hS hl
  unfold mx_slen at hr
  split at hr
  · rename_i a rest hq
    dsimp only at hq
    subst hq
    cases hr
    have ha : a = 1000 := hφ
    subst ha
    obtain ⟨hX, hb⟩ := hC.2.2.2.2.2.2.2.2.2.2 hm
    exact va_slen hC.1 hC.2.1 hX (Nat.lt_of_lt_of_le hb hC.2.2.2.2.2.2.2.2.2.1) (Nat.not_le.mpr hb) hS hd (kk p l e s mid args below meth c Z hC hZ H locs ls hR hS hl)
  · cases hr
theorem mx_no {n : Nat} {r : mx_O} (h : r = none) : mx_Go m G Λ pc n st r := by
  intro st' φ hr
  rw [h] at hr
  cases hr
/-- every straight instruction -/
theorem mx_run_go {o : mx_Op} (hok : mx_okO m o = true) (hd : decode m.2.1 pc = .ok (o.1, mx_il o.1)) : mx_Go m G Λ pc (mx_il o.1) st (mx_run (mx_L G) Λ o st) := by
  obtain ⟨i, as, v⟩ := o
  dsimp only at hd
  cases i with
  | iload_n k => exact mx_g_iload_n hd
  | iload k => exact mx_g_iload hd
  | aload_n k => exact mx_g_aload_n hd
  | aload k => exact mx_g_aload hd
  | lload_n k => exact mx_g_lload_n hd
  | lload k => exact mx_g_lload hd
  | istore_n k => exact mx_g_istore_n hd
  | istore k => exact mx_g_istore hd
  | astore_n k => exact mx_g_astore_n hd
  | astore k => exact mx_g_astore hd
  | lstore_n k => exact mx_g_lstore_n hd
  | lstore k => exact mx_g_lstore hd
  | iinc k n => exact mx_g_iinc (of_decide_eq_true hok) hd
  | iconst n => exact mx_g_iconst (of_decide_eq_true hok) hd
  | bipush n => exact mx_g_bipush (of_decide_eq_true hok) hd
  | sipush n => exact mx_g_sipush (of_decide_eq_true hok) hd
  | ldc n => exact mx_g_ldc (inTT_mem hok) hd
  | ldc_w n => exact mx_g_ldc_w (inTT_mem hok) hd
  | lconst n => exact mx_g_lconst (of_decide_eq_true hok) hd
  | ldc2_w n => exact mx_g_ldc2_w (inTT_mem hok) hd
  | iadd => exact mx_g_iadd hd
  | isub => exact mx_g_isub hd
  | imul => exact mx_g_imul hd
  | iand => exact mx_g_iand hd
  | ior => exact mx_g_ior hd
  | ixor => exact mx_g_ixor hd
  | ishl => exact mx_g_ishl hd
  | ishr => exact mx_g_ishr hd
  | iushr => exact mx_g_iushr hd
  | idiv => exact mx_g_idiv hd
  | irem => exact mx_g_irem hd
  | ineg => exact mx_g_ineg hd
  | i2b => exact mx_g_i2b hd
  | i2s => exact mx_g_i2s hd
  | ladd => exact mx_g_ladd hd
  | lmul => exact mx_g_lmul hd
  | ldiv => exact mx_g_ldiv hd
  | lrem => exact mx_g_lrem hd
  | lcmp => exact mx_g_lcmp hd
  | i2l => exact mx_g_i2l hd
  | l2i => exact mx_g_l2i hd
  | dup => exact mx_g_dup hd
  | dup2 => exact mx_g_dup2 hd
  | pop => exact mx_g_pop hd
  | getfield idx => exact mx_g_getfield hok hd
  | putfield idx => exact mx_g_putfield hok hd
  | iaload => cases as with
    | nil => exact mx_g_iaload hd
    | cons a t => exact mx_g_sld (of_decide_eq_true hok) hd
  | baload => exact mx_g_baload hd
  | iastore => exact mx_g_iastore hd
  | bastore => exact mx_g_bastore hd
  | arraylength => cases as with
    | nil => exact mx_g_alen hd
    | cons a t => exact mx_g_slen (of_decide_eq_true hok) hd
  | _ => exact mx_no rfl
/-- a stretch of straight instructions -/
theorem mx_go {ops : List mx_Op} {pc' : Nat} (hck : mx_ck m pc ops = some pc') {st' : mx_St} {φ : Prop} (hb : mx_blk (mx_L G) Λ ops st = some (st', φ)) (hφ : φ) {cl sl : Nat} {Q : mx_Q} (k : mx_W G m pc' st' Λ cl sl Q) : mx_W G m pc st Λ cl sl Q := by
  induction ops generalizing pc st φ with
  | nil =>
    cases hck
    cases hb
    exact k
  | cons o os ih =>
    simp only [mx_ck] at hck
    split at hck
    · rename_i i n hd
      split at hck
      · rename_i h3
        obtain ⟨h1, h2, h3⟩ := h3
        subst h1
        subst h3
        have hg := mx_run_go (G := G) (Λ := Λ) (st := st) h2 hd
        simp only [mx_blk] at hb
        split at hb
        · cases hb
        · rename_i st1 hr
          exact hg st1 none hr trivial cl sl Q (ih hck hb hφ)
        · rename_i st1 ψ hr
          split at hb
          · cases hb
          · rename_i st2 χ hb2
            cases hb
            exact hg st1 (some ψ) hr hφ.1 cl sl Q (ih hck hb2 hφ.2)
      · cases hck
    · cases hck
end MXG
end
section
section MXB
variable {m : MR} {G : mx_G} {Λ : List mx_K} {pc : Nat} {s : List Value} {l : List (Option Value)} {M : mx_M} {cl sl : Nat} {Q : mx_Q}
theorem mx_if_eq {x : Int32} {off : Int} {tgt : Nat} (hd : decode m.2.1 pc = .ok (.ifCond .eq off, 3)) (ht : (pc : Int) + off = (tgt : Int)) (kt : x = 0 → mx_W G m tgt (s, l, M) Λ cl sl Q) (kf : ¬ x = 0 → mx_W G m (pc + 3) (s, l, M) Λ cl sl Q) : mx_W G m pc (.int x :: s, l, M) Λ cl sl Q := by
  intro p l0 e s0 mid args below meth c Z hC hZ H locs ls hR hS hl
  exact lv_if_eq hC.1 hC.2.1 hd ht (fun h => kt h p l0 e s0 mid args below meth c Z hC hZ H locs ls hR hS hl) (fun h => kf h p l0 e s0 mid args below meth c Z hC hZ H locs ls hR hS hl)
theorem mx_ic_eq {x y : Int32} {off : Int} {tgt : Nat} (hd : decode m.2.1 pc = .ok (.if_icmp .eq off, 3)) (ht : (pc : Int) + off = (tgt : Int)) (kt : x = y → mx_W G m tgt (s, l, M) Λ cl sl Q) (kf : ¬ x = y → mx_W G m (pc + 3) (s, l, M) Λ cl sl Q) : mx_W G m pc (.int y :: .int x :: s, l, M) Λ cl sl Q := by
  intro p l0 e s0 mid args below meth c Z hC hZ H locs ls hR hS hl
  exact lv_icmp_eq hC.1 hC.2.1 hd ht (fun h => kt h p l0 e s0 mid args below meth c Z hC hZ H locs ls hR hS hl) (fun h => kf h p l0 e s0 mid args below meth c Z hC hZ H locs ls hR hS hl)
theorem mx_if_ne {x : Int32} {off : Int} {tgt : Nat} (hd : decode m.2.1 pc = .ok (.ifCond .ne off, 3)) (ht : (pc : Int) + off = (tgt : Int)) (kt : ¬ x = 0 → mx_W G m tgt (s, l, M) Λ cl sl Q) (kf : x = 0 → mx_W G m (pc + 3) (s, l, M) Λ cl sl Q) : mx_W G m pc (.int x :: s, l, M) Λ cl sl Q := by
  intro p l0 e s0 mid args below meth c Z hC hZ H locs ls hR hS hl
  exact lv_if_ne hC.1 hC.2.1 hd ht (fun h => kt h p l0 e s0 mid args below meth c Z hC hZ H locs ls hR hS hl) (fun h => kf h p l0 e s0 mid args below meth c Z hC hZ H locs ls hR hS hl)
theorem mx_ic_ne {x y : Int32} {off : Int} {tgt : Nat} (hd : decode m.2.1 pc = .ok (.if_icmp .ne off, 3)) (ht : (pc : Int) + off = (tgt : Int)) (kt : ¬ x = y → mx_W G m tgt (s, l, M) Λ cl sl Q) (kf : x = y → mx_W G m (pc + 3) (s, l, M) Λ cl sl Q) : mx_W G m pc (.int y :: .int x :: s, l, M) Λ cl sl Q := by
  intro p l0 e s0 mid args below meth c Z hC hZ H locs ls hR hS hl
  exact lv_icmp_ne hC.1 hC.2.1 hd ht (fun h => kt h p l0 e s0 mid args below meth c Z hC hZ H locs ls hR hS hl) (fun h => kf h p l0 e s0 mid args below meth c Z hC hZ H locs ls hR hS hl)
theorem mx_if_lt {x : Int32} {off : Int} {tgt : Nat} (hd : decode m.2.1 pc = .ok (.ifCond .lt off, 3)) (ht : (pc : Int) + off = (tgt : Int)) (kt : x < 0 → mx_W G m tgt (s, l, M) Λ cl sl Q) (kf : ¬ x < 0 → mx_W G m (pc + 3) (s, l, M) Λ cl sl Q) : mx_W G m pc (.int x :: s, l, M) Λ cl sl Q := by
  intro p l0 e s0 mid args below meth c Z hC hZ H locs ls hR hS hl
  exact lv_if_lt hC.1 hC.2.1 hd ht (fun h => kt h p l0 e s0 mid args below meth c Z hC hZ H locs ls hR hS hl) (fun h => kf h p l0 e s0 mid args below meth c Z hC hZ H locs ls hR hS hl)
theorem mx_ic_lt {x y : Int32} {off : Int} {tgt : Nat} (hd : decode m.2.1 pc = .ok (.if_icmp .lt off, 3)) (ht : (pc : Int) + off = (tgt : Int)) (kt : x < y → mx_W G m tgt (s, l, M) Λ cl sl Q) (kf : ¬ x < y → mx_W G m (pc + 3) (s, l, M) Λ cl sl Q) : mx_W G m pc (.int y :: .int x :: s, l, M) Λ cl sl Q := by
  intro p l0 e s0 mid args below meth c Z hC hZ H locs ls hR hS hl
  exact lv_icmp_lt hC.1 hC.2.1 hd ht (fun h => kt h p l0 e s0 mid args below meth c Z hC hZ H locs ls hR hS hl) (fun h => kf h p l0 e s0 mid args below meth c Z hC hZ H locs ls hR hS hl)
theorem mx_if_ge {x : Int32} {off : Int} {tgt : Nat} (hd : decode m.2.1 pc = .ok (.ifCond .ge off, 3)) (ht : (pc : Int) + off = (tgt : Int)) (kt : 0 ≤ x → mx_W G m tgt (s, l, M) Λ cl sl Q) (kf : ¬ 0 ≤ x → mx_W G m (pc + 3) (s, l, M) Λ cl sl Q) : mx_W G m pc (.int x :: s, l, M) Λ cl sl Q := by
  intro p l0 e s0 mid args below meth c Z hC hZ H locs ls hR hS hl
  exact lv_if_ge hC.1 hC.2.1 hd ht (fun h => kt h p l0 e s0 mid args below meth c Z hC hZ H locs ls hR hS hl) (fun h => kf h p l0 e s0 mid args below meth c Z hC hZ H locs ls hR hS hl)
theorem mx_ic_ge {x y : Int32} {off : Int} {tgt : Nat} (hd : decode m.2.1 pc = .ok (.if_icmp .ge off, 3)) (ht : (pc : Int) + off = (tgt : Int)) (kt : y ≤ x → mx_W G m tgt (s, l, M) Λ cl sl Q) (kf : ¬ y ≤ x → mx_W G m (pc + 3) (s, l, M) Λ cl sl Q) : mx_W G m pc (.int y :: .int x :: s, l, M) Λ cl sl Q := by
  intro p l0 e s0 mid args below meth c Z hC hZ H locs ls hR hS hl
  exact lv_icmp_ge hC.1 hC.2.1 hd ht (fun h => kt h p l0 e s0 mid args below meth c Z hC hZ H locs ls hR hS hl) (fun h => kf h p l0 e s0 mid args below meth c Z hC hZ H locs ls hR hS hl)
theorem mx_if_gt {x : Int32} {off : Int} {tgt : Nat} (hd : decode m.2.1 pc = .ok (.ifCond .gt off, 3)) (ht : (pc : Int) + off = (tgt : Int)) (kt : 0 < x → mx_W G m tgt (s, l, M) Λ cl sl Q) (kf : ¬ 0 < x → mx_W G m (pc + 3) (s, l, M) Λ cl sl Q) : mx_W G m pc (.int x :: s, l, M) Λ cl sl Q := by
  intro p l0 e s0 mid args below meth c Z hC hZ H locs ls hR hS hl
  exact lv_if_gt hC.1 hC.2.1 hd ht (fun h => kt h p l0 e s0 mid args below meth c Z hC hZ H locs ls hR hS hl) (fun h => kf h p l0 e s0 mid args below meth c Z hC hZ H locs ls hR hS hl)
theorem mx_ic_gt {x y : Int32} {off : Int} {tgt : Nat} (hd : decode m.2.1 pc = .ok (.if_icmp .gt off, 3)) (ht : (pc : Int) + off = (tgt : Int)) (kt : y < x → mx_W G m tgt (s, l, M) Λ cl sl Q) (kf : ¬ y < x → mx_W G m (pc + 3) (s, l, M) Λ cl sl Q) : mx_W G m pc (.int y :: .int x :: s, l, M) Λ cl sl Q := by
  intro p l0 e s0 mid args below meth c Z hC hZ H locs ls hR hS hl
  exact lv_icmp_gt hC.1 hC.2.1 hd ht (fun h => kt h p l0 e s0 mid args below meth c Z hC hZ H locs ls hR hS hl) (fun h => kf h p l0 e s0 mid args below meth c Z hC hZ H locs ls hR hS hl)
theorem mx_if_le {x : Int32} {off : Int} {tgt : Nat} (hd : decode m.2.1 pc = .ok (.ifCond .le off, 3)) (ht : (pc : Int) + off = (tgt : Int)) (kt : x ≤ 0 → mx_W G m tgt (s, l, M) Λ cl sl Q) (kf : ¬ x ≤ 0 → mx_W G m (pc + 3) (s, l, M) Λ cl sl Q) : mx_W G m pc (.int x :: s, l, M) Λ cl sl Q := by
  intro p l0 e s0 mid args below meth c Z hC hZ H locs ls hR hS hl
  exact lv_if_le hC.1 hC.2.1 hd ht (fun h => kt h p l0 e s0 mid args below meth c Z hC hZ H locs ls hR hS hl) (fun h => kf h p l0 e s0 mid args below meth c Z hC hZ H locs ls hR hS hl)
theorem mx_ic_le {x y : Int32} {off : Int} {tgt : Nat} (hd : decode m.2.1 pc = .ok (.if_icmp .le off, 3)) (ht : (pc : Int) + off = (tgt : Int)) (kt : x ≤ y → mx_W G m tgt (s, l, M) Λ cl sl Q) (kf : ¬ x ≤ y → mx_W G m (pc + 3) (s, l, M) Λ cl sl Q) : mx_W G m pc (.int y :: .int x :: s, l, M) Λ cl sl Q := by
  intro p l0 e s0 mid args below meth c Z hC hZ H locs ls hR hS hl
  exact lv_icmp_le hC.1 hC.2.1 hd ht (fun h => kt h p l0 e s0 mid args below meth c Z hC hZ H locs ls hR hS hl) (fun h => kf h p l0 e s0 mid args below meth c Z hC hZ H locs ls hR hS hl)
theorem mx_goto {off : Int} {tgt : Nat} {st : mx_St} (hd : decode m.2.1 pc = .ok (.goto off, 3)) (ht : (pc : Int) + off = (tgt : Int)) (k : mx_W G m tgt st Λ cl sl Q) : mx_W G m pc st Λ cl sl Q := by
  intro p l0 e s0 mid args below meth c Z hC hZ H locs ls hR hS hl
  exact lv_goto hC.1 hC.2.1 hd ht (k p l0 e s0 mid args below meth c Z hC hZ H locs ls hR hS hl)
theorem mx_nI_of {x : Int32} {n : Nat} (hn : n < 2 ^ 31) (h : x.toInt = (n : Int)) : x = nI n := Int32.toInt_inj.mp (by rw [h, nI_toInt hn])
/-- the cases of a table switch, from lo on -/
def mx_tc (G : mx_G) (m : MR) (st : mx_St) (Λ : List mx_K) (cl sl : Nat) (Q : mx_Q) (x : Int32) : List Nat → Nat → Prop
  | [], _ => True
  | t :: ts, lo => (x = nI lo → mx_W G m t st Λ cl sl Q) ∧ mx_tc G m st Λ cl sl Q x ts (lo + 1)
theorem mx_tc_at {st : mx_St} {x : Int32} : ∀ (tg : List Nat) (lo j t : Nat), mx_tc G m st Λ cl sl Q x tg lo → tg[j]? = some t → x = nI (lo + j) → mx_W G m t st Λ cl sl Q
  | [], _, j, t, _, ht, _ => by simp at ht
  | t0 :: ts, lo, j, t, h, ht, hx => by
    cases j with
    | zero =>
      simp only [List.getElem?_cons_zero, Option.some.injEq] at ht
      subst ht
      exact h.1 hx
    | succ j => exact mx_tc_at ts (lo + 1) j t h.2 (by simpa using ht) (by rw [hx]; congr 1; omega)
theorem mx_tsw {x : Int32} {d lo hi : Int} {offs : Array Int} {n lo' dt : Nat} {tg : List Nat} (hd : decode m.2.1 pc = .ok (.tableswitch d lo hi offs, n)) (hdt : (pc : Int) + d = (dt : Int))
    (htg : offs.toList.map (fun o => (pc : Int) + o) = tg.map (fun t : Nat => (t : Int)) ∧ lo = (lo' : Int) ∧ hi < 2 ^ 31 ∧ (hi - lo).toNat < offs.size) (kd : x.toInt < lo ∨ hi < x.toInt → mx_W G m dt (s, l, M) Λ cl sl Q) (kc : mx_tc G m (s, l, M) Λ cl sl Q x tg lo') : mx_W G m pc (.int x :: s, l, M) Λ cl sl Q := by
  obtain ⟨h1, h2, h3, h4⟩ := htg
  intro p l0 e s0 mid args below meth c Z hC hZ H locs ls hR hS hl
  by_cases hout : x.toInt < lo ∨ hi < x.toInt
  · exact lv_tableOut hC.1 hC.2.1 hd hout hdt (kd hout p l0 e s0 mid args below meth c Z hC hZ H locs ls hR hS hl)
  · have a1 : ¬ x.toInt < lo := fun h => hout (Or.inl h)
    have a2 : ¬ hi < x.toInt := fun h => hout (Or.inr h)
    have hlt : (x.toInt - lo).toNat < offs.size := by omega
    have ho : offs[(x.toInt - lo).toNat]? = some offs[(x.toInt - lo).toNat] := Array.getElem?_eq_getElem hlt
    have hm : (offs.toList.map (fun o => (pc : Int) + o))[(x.toInt - lo).toNat]? = some ((pc : Int) + offs[(x.toInt - lo).toNat]) := by
      rw [List.getElem?_map, Array.getElem?_toList, ho]
      rfl
    rw [h1, List.getElem?_map] at hm
    cases ht : tg[(x.toInt - lo).toNat]? with
    | none => rw [ht] at hm; cases hm
    | some t =>
      rw [ht] at hm
      simp only [Option.map_some, Option.some.injEq] at hm
      refine lv_tableIn hC.1 hC.2.1 hd a1 a2 ho hm.symm (mx_tc_at tg lo' _ t kc ht (mx_nI_of (by omega) ?_) p l0 e s0 mid args below meth c Z hC hZ H locs ls hR hS hl)
      omega
theorem mx_lsw {x : Int32} {d : Int} {ps : Array (Int × Int)} {n t : Nat} (hd : decode m.2.1 pc = .ok (.lookupswitch d ps, n)) (hp : (ps.toList.zip (ps.toList.drop 1)).all (fun (a, next) => a.1 < next.1) = true) (ht : (pc : Int) + Op.lookupswitch.offset ps.toList d x.toInt = (t : Int)) (k : mx_W G m t (s, l, M) Λ cl sl Q) : mx_W G m pc (.int x :: s, l, M) Λ cl sl Q := by
  intro p l0 e s0 mid args below meth c Z hC hZ H locs ls hR hS hl
  exact lv_lookup hC.1 hC.2.1 hd hp rfl ht (k p l0 e s0 mid args below meth c Z hC hZ H locs ls hR hS hl)
theorem mx_retI {v : Int32} {ty : FieldType} (hd : decode m.2.1 pc = .ok (.ireturn, 1)) (hr : m.2.2.2.1 = some ty) (hn : narrow ty (.int v) = .int v) (hcl : cl ≤ m.2.2.2.2.cells ∧ sl ≤ m.2.2.2.2.slots) (hQ : Q (some (.int v)) Λ M) : mx_W G m pc ([.int v], l, M) Λ cl sl Q := by
  intro p l0 e s0 mid args below meth c Z hC hZ H locs ls hR hS hl
  exact W.widen hcl.1 hcl.2 (hZ (some (.int v)) Λ M H locs pc ls hQ hR hS (Or.inr (Or.inl ⟨v, ty, rfl, hr, hn, hd⟩)))
theorem mx_retA {k : Nat} {C : String} (hd : decode m.2.1 pc = .ok (.areturn, 1)) (hr : m.2.2.2.1 = some (.object C)) (hcl : cl ≤ m.2.2.2.2.cells ∧ sl ≤ m.2.2.2.2.slots) (hQ : Q (some (.ref k)) Λ M) : mx_W G m pc ([.ref k], l, M) Λ cl sl Q := by
  intro p l0 e s0 mid args below meth c Z hC hZ H locs ls hR hS hl
  exact W.widen hcl.1 hcl.2 (hZ (some (.ref k)) Λ M H locs pc ls hQ hR hS (Or.inr (Or.inr ⟨k, C, rfl, hr, hd⟩)))
theorem mx_retV (hd : decode m.2.1 pc = .ok (.return_, 1)) (hr : m.2.2.2.1 = none) (hcl : cl ≤ m.2.2.2.2.cells ∧ sl ≤ m.2.2.2.2.slots) (hQ : Q none Λ M) : mx_W G m pc ([], l, M) Λ cl sl Q := by
  intro p l0 e s0 mid args below meth c Z hC hZ H locs ls hR hS hl
  exact W.widen hcl.1 hcl.2 (hZ none Λ M H locs pc ls hQ hR hS (Or.inl ⟨rfl, hr, hd⟩))
/-! calls -/
def mx_Pc (G : mx_G) (as : List Value) (Λ : List mx_K) (M : mx_M) : Array Value → State → Prop := fun v U => v = (as.map (mx_ph G)).toArray ∧ mx_R G Λ M U.heap ∧ mx_S G U
def mx_Qc (G : mx_G) (Q : mx_Q) : Array Value → State → Outcome → State → Prop := fun _ st oc t => (∃ r Λ' M', oc = .returned (r.map (mx_ph G)) ∧ Q r Λ' M' ∧ mx_R G Λ' M' t.heap) ∧ va_F (mx_A G) st t
theorem mx_blind (as : List Value) : FrameBlind (mx_Pc G as Λ M) := fun _ U g mk h => ⟨h.1, h.2.1, mx_S.same h.2.2 rfl⟩
theorem mx_after {p : Program} {l0 : Launch} {e : Env} {R : Room} {s0 : State} {mid : MethodId} {args : Array Value} {below : List Frame} {meth : Method} {c : Code} {H : Heap} {locs : List Loc} {mc ms : Nat} {Z : State → Prop} {ls : Array Slot} {st0 rest : List Value} {Q' : mx_Q} {a : Array Value}
    (hr : va_Run p l0 e R s0 mid args below meth c H locs cl sl mc ms (F0 mid pc ls st0) rest (mx_Qc G Q' a) (mx_A G)) (hS : va_S (mx_A G) s0.heap H locs)
    (kk : ∀ (r : Option Value) (Λ' : List mx_K) (M' : mx_M) (H1 : Heap) (locs1 : List Loc), Q' r Λ' M' → mx_R G Λ' M' H1 → va_S (mx_A G) s0.heap H1 locs1 → W p l0 e R s0 mid args below meth c H1 locs1 (cl + mc) (sl + ms) Z (F0 mid (pc + 3) ls (r.toList.map (mx_ph G) ++ rest))) : W p l0 e R s0 mid args below meth c H locs cl sl Z (F0 mid pc ls st0) := by
  intro T hT X
  obtain ⟨v, st₀, t, T', L, h0, X', hL, e1, e2, hq, st⟩ := hr T hT X
  obtain ⟨⟨r, Λ', M', hv, hQ, hR⟩, hF⟩ := hq
  cases hv
  have hS1 : va_S (mx_A G) s0.heap t.heap (locs ++ L) := by
    refine ⟨Nat.le_trans hS.1 (by rw [← h0]; exact hF.1), fun q h1 h2 => ?_, fun q hq => ?_⟩
    · rw [hF.2 q (by rw [h0]; exact Nat.lt_of_lt_of_le h1 hS.1) h2, h0]
      exact hS.2.1 q h1 h2
    · rcases List.mem_append.mp hq with h | h
      · exact hS.2.2 q h
      · exact hL q h
  obtain ⟨t2, a1, b1⟩ := kk r Λ' M' t.heap (locs ++ L) hQ hR hS1 T' e1 X'
  refine ⟨t2, st t2 ?_, b1⟩
  have ev : (r.map (mx_ph G)).toList ++ rest = r.toList.map (mx_ph G) ++ rest := by cases r <;> rfl
  rw [ev]
  exact a1
/-- what the tables must say of a call -/
def mx_cb (m mc : MR) (n : Nat) : Bool := decide (mc.1.cls ≠ "java/lang/invoke/MethodHandle") && decide (mc.1.cls ≠ "java/lang/invoke/VarHandle") && decide ((parseMethodDescriptor mc.1.desc).map (fun d => d.parameters.length) = some n) && decide (mc.2.2.2.2.frames + 1 ≤ m.2.2.2.2.frames) && decide (8 + (mc.2.2.1 + 11) + mc.2.2.2.2.locals ≤ m.2.2.2.2.locals)
def mx_cv (m mc : MR) (idx n : Nat) (ps : List Nat) : Bool := mx_cb m mc n && inTT (ps.getD 0 0) (.methodLink m.1.cls idx mc.1) && inTT (ps.getD 1 0) (.instanceMethod mc.1) && inTT (ps.getD 2 0) (.selects mc.1.cls mc.1 mc.1) && inTT (ps.getD 3 0) (.initialized mc.1.cls) && inTT (ps.getD 4 0) (.code mc.1 mc.2.1 mc.2.2.1 mc.2.2.2.1)
def mx_cs (m mc : MR) (idx n : Nat) (ps : List Nat) : Bool := mx_cb m mc n && inTT (ps.getD 0 0) (.methodLink m.1.cls idx mc.1) && inTT (ps.getD 1 0) (.static mc.1) && inTT (ps.getD 2 0) (.initialized mc.1.cls) && inTT (ps.getD 3 0) (.code mc.1 mc.2.1 mc.2.2.1 mc.2.2.2.1)
theorem mx_cats (s : List Value) : ((s.map (mx_ph G)).map fun v => v.category) = s.map fun v => v.category := by
  simp [Function.comp_def, mx_ph_cat]
theorem mx_callV {mc : MR} {idx n h ci : Nat} {ps : List Nat} {as : List Value} {Q' : mx_Q} (hd : decode m.2.1 pc = .ok (.invokevirtual idx, 3)) (hck : mx_cv m mc idx n ps = true) (hci : (vwCl[ci]?.map (fun q => q.1) = some mc.1.cls)) (hoc : mx_ocl Λ h = ci) (hn : as.length = n) (hll : l.length = m.2.2.1) (hw : (s.map fun v => v.category).sum ≤ 8)
    (hcl : cl + mc.2.2.2.2.cells ≤ m.2.2.2.2.cells ∧ sl + mc.2.2.2.2.slots ≤ m.2.2.2.2.slots) (hOk : mx_Ok G mc (.ref h :: as) Λ M Q') (k : ∀ r Λ' M', Q' r Λ' M' → mx_W G m (pc + 3) (r.toList ++ s, l, M') Λ' (cl + mc.2.2.2.2.cells) (sl + mc.2.2.2.2.slots) Q) : mx_W G m pc (as.reverse ++ .ref h :: s, l, M) Λ cl sl Q := by
  intro p l0 e s0 mid args below meth c Z hC hZ H locs ls hR hS hl
  simp only [mx_cv, mx_cb, Bool.and_eq_true, decide_eq_true_eq] at hck
  obtain ⟨⟨⟨⟨⟨⟨⟨⟨⟨c1, c2⟩, c3⟩, c4⟩, c5⟩, w1⟩, w2⟩, w3⟩, w4⟩, w5⟩ := hck
  cases hq : vwCl[ci]? with
  | none => rw [hq] at hci; cases hci
  | some q =>
    obtain ⟨C, T, N⟩ := q
    rw [hq] at hci
    simp only [Option.map_some, Option.some.injEq] at hci
    have hL := mx_ocl_at (mx_cl_11 hq) hoc
    have hK := hC.2.2.2.2.2.2.2.2.1.1
    have hts := hC.2.2.2.2.1
    have hg : GoodIn TT (wsV m.1.cls idx mc.1.cls mc.1 (mx_ws mc)) := by
      refine mx_good (fun w h => h) (fun w hw => ?_)
      rcases List.mem_append.mp hw with h | h
      · simp only [List.mem_cons, List.not_mem_nil, or_false] at h
        rcases h with rfl | rfl | rfl | rfl
        · exact inTT_mem w1
        · exact inTT_mem w2
        · exact inTT_mem w3
        · exact inTT_mem w4
      · exact mx_ws_sub (inTT_mem w5) w h
    have hrcv := va_recv hK hR.1 hq (mx_w_at (G := G) (M := M) hL)
    dsimp only at hrcv
    rw [hci] at hrcv
    have hsz : ls.size = m.2.2.1 := hl.1.trans hll
    have hr := va_runV (As := as.map (mx_ph G)) (rest := s.map (mx_ph G)) (b := mx_B G + h) (g := F0 mid pc ls ((as.reverse ++ .ref h :: s).map (mx_ph G))) (nL := m.2.2.1) (cells := cl) (slots := sl) (locs := locs) (H := H) (below := below) (meth := meth) (e := e) ⟨hC.1, hC.2.1, hC.2.2.1, hC.2.2.2.1, hts⟩ (hOk l0) (cwV (R := m.2.2.2.2) n hts hg rfl rfl rfl ⟨rfl, c1, c2, c3⟩ ⟨c4, c5⟩) ⟨mx_blind _, hrcv, fun U hU hW => ⟨by simp [mx_ph_ref hR hL], by rw [hU]; exact hR, hC.2.2.2.2.2.2.2.2.1.warm hW⟩⟩ rfl (by simp [hn]) hsz (by simp [mx_ph_ref hR hL]) (lv_room (by rw [mx_cats]; exact hw)) hd hcl
    refine mx_after (Q' := Q') (a := #[]) hr hS (fun r Λ' M' H1 locs1 hQ hR1 hS1 => ?_)
    have h2 := k r Λ' M' hQ p l0 e s0 mid args below meth c Z hC hZ H1 locs1 ls hR1 hS1 hl
    simpa using h2
theorem mx_callS {mc : MR} {idx n : Nat} {ps : List Nat} {as : List Value} {Q' : mx_Q} (hd : decode m.2.1 pc = .ok (.invokestatic idx, 3)) (hck : mx_cs m mc idx n ps = true) (hn : as.length = n) (hll : l.length = m.2.2.1) (hw : (s.map fun v => v.category).sum ≤ 8)
    (hcl : cl + mc.2.2.2.2.cells ≤ m.2.2.2.2.cells ∧ sl + mc.2.2.2.2.slots ≤ m.2.2.2.2.slots) (hOk : mx_Ok G mc as Λ M Q') (k : ∀ r Λ' M', Q' r Λ' M' → mx_W G m (pc + 3) (r.toList ++ s, l, M') Λ' (cl + mc.2.2.2.2.cells) (sl + mc.2.2.2.2.slots) Q) : mx_W G m pc (as.reverse ++ s, l, M) Λ cl sl Q := by
  intro p l0 e s0 mid args below meth c Z hC hZ H locs ls hR hS hl
  simp only [mx_cs, mx_cb, Bool.and_eq_true, decide_eq_true_eq] at hck
  obtain ⟨⟨⟨⟨⟨⟨⟨⟨c1, c2⟩, c3⟩, c4⟩, c5⟩, w1⟩, w2⟩, w3⟩, w4⟩ := hck
  have hts := hC.2.2.2.2.1
  have hg : GoodIn TT (va_wsS m.1.cls idx mc.1 (mx_ws mc)) := by
    refine mx_good (fun w h => h) (fun w hw => ?_)
    rcases List.mem_append.mp hw with h | h
    · simp only [List.mem_cons, List.not_mem_nil, or_false] at h
      rcases h with rfl | rfl | rfl
      · exact inTT_mem w1
      · exact inTT_mem w2
      · exact inTT_mem w3
    · exact mx_ws_sub (inTT_mem w4) w h
  have hsz : ls.size = m.2.2.1 := hl.1.trans hll
  have hr := va_runS (As := as.map (mx_ph G)) (rest := s.map (mx_ph G)) (g := F0 mid pc ls ((as.reverse ++ s).map (mx_ph G))) (nL := m.2.2.1) (cells := cl) (slots := sl) (locs := locs) (H := H) (below := below) (meth := meth) (e := e) ⟨hC.1, hC.2.1, hC.2.2.1, hC.2.2.2.1, hts⟩ (hOk l0) (va_cwS (R := m.2.2.2.2) n hts hg rfl rfl rfl ⟨c1, c2, c3⟩ ⟨c4, c5⟩) ⟨mx_blind _, fun U hU hW => ⟨rfl, by rw [hU]; exact hR, hC.2.2.2.2.2.2.2.2.1.warm hW⟩⟩ rfl (by simp [hn]) hsz (by simp) (lv_room (by rw [mx_cats]; exact hw)) hd hcl
  refine mx_after (Q' := Q') (a := #[]) hr hS (fun r Λ' M' H1 locs1 hQ hR1 hS1 => ?_)
  have h2 := k r Λ' M' hQ p l0 e s0 mid args below meth c Z hC hZ H1 locs1 ls hR1 hS1 hl
  simpa using h2
/-- System.arraycopy between arrays of ints -/
def mx_cp (M : mx_M) (a0 a1 sp dp n : Nat) : mx_M := fun a => if a = a1 then va_cpy (M a0) (M a1) sp dp n else M a
theorem mx_cp_s (M : mx_M) (a0 a1 sp dp n : Nat) : mx_cp M a0 a1 sp dp n a1 = va_cpy (M a0) (M a1) sp dp n := if_pos rfl
theorem mx_cp_n (M : mx_M) {a a1 : Nat} (a0 sp dp n : Nat) (h : a ≠ a1) : mx_cp M a0 a1 sp dp n a = M a := if_neg h
def mx_ca (m : MR) (idx : Nat) (ps : List Nat) : Bool := inTT (ps.getD 0 0) (.methodLink m.1.cls idx arraycopyName) && inTT (ps.getD 1 0) (.native arraycopyName) && inTT (ps.getD 2 0) (.static arraycopyName) && inTT (ps.getD 3 0) (.initialized "java/lang/System") && decide (1 ≤ m.2.2.2.2.frames) && decide (26 ≤ m.2.2.2.2.locals)
theorem mx_copy {idx a0 a1 : Nat} {ps : List Nat} {sp dp n : Int32} (h139 : Λ.length = 139) (hd : decode m.2.1 pc = .ok (.invokestatic idx, 3)) (hck : mx_ca m idx ps = true) (hll : l.length = m.2.2.1) (hw : (s.map fun v => v.category).sum ≤ 8)
    (z0 : mx_len Λ false a0 ≠ 0) (z1 : mx_len Λ false a1 ≠ 0) (h1 : ¬ sp < 0) (h2 : ¬ dp < 0) (h3 : ¬ n < 0) (h4 : sp.toNatClampNeg + n.toNatClampNeg ≤ mx_len Λ false a0) (h5 : dp.toNatClampNeg + n.toNatClampNeg ≤ mx_len Λ false a1)
    (k : mx_W G m (pc + 3) (s, l, mx_cp M a0 a1 sp.toNatClampNeg dp.toNatClampNeg n.toNatClampNeg) Λ cl sl Q) : mx_W G m pc (.int n :: .int dp :: .ref a1 :: .int sp :: .ref a0 :: s, l, M) Λ cl sl Q := by
  intro p l0 e s0 mid args below meth c Z hC hZ H locs ls hR hS hl
  simp only [mx_ca, Bool.and_eq_true, decide_eq_true_eq] at hck
  obtain ⟨⟨⟨⟨⟨w1, w2⟩, w3⟩, w4⟩, c1⟩, c2⟩ := hck
  have hts := hC.2.2.2.2.1
  have hK := hC.2.2.2.2.2.2.2.2.1.1
  have hL0 := mx_len_at0 z0
  have hL1 := mx_len_at0 z1
  show W p l0 e m.2.2.2.2 s0 mid args below meth c H locs cl sl Z (F0 mid pc ls (.int n :: .int dp :: mx_ph G (.ref a1) :: .int sp :: mx_ph G (.ref a0) :: s.map (mx_ph G)))
  rw [mx_ph_ref hR hL0, mx_ph_ref hR hL1]
  refine va_copyi hC.1 hC.2.1 (by rw [hC.2.2.1, hl.1, hll]) hC.2.2.2.1 (hts _ (inTT_mem w1)) (hts _ (inTT_mem w2)) (hts _ (inTT_mem w3)) (hts _ (inTT_mem w4)) hK hR.1 (mx_w_D G Λ M) hS a0 a1 0 0 (mx_w_at hL0) (mx_w_at hL1) rfl rfl rfl h1 h2 h3 h4 h5 (fun _ _ => rfl) c1 ?_ hd (fun H1 locs1 hP1 hD1 hS1 => ?_)
  · rw [mx_cats]
    have : nativeFrameWords "java/lang/System" "arraycopy" 5 = 7 := by decide +kernel
    omega
  · have e4 : mx_w G Λ (mx_cp M a0 a1 sp.toNatClampNeg dp.toNatClampNeg n.toNatClampNeg) = (mx_w G Λ M).set a1 (mx_B G + a1, .inl (mx_cI G, mx_len Λ false a1, .inl (va_cpy (M a0) (M a1) sp.toNatClampNeg dp.toNatClampNeg n.toNatClampNeg))) := by
      rw [mx_w_set hL1 (fun b hb => mx_cp_n M _ _ _ _ hb)]
      simp [mx_e, mx_cp_s]
    have hlt := (hR.lt hL1).1
    refine k p l0 e s0 mid args below meth c Z hC hZ H1 locs1 ls ⟨by rw [e4]; exact hP1, fun h => by omega, hR.2.2.1, fun q hq hq2 i => ?_, ?_⟩ hS1 hl
    · show mx_cp M _ _ _ _ _ q i = 0
      rw [mx_cp_n M _ _ _ _ (by omega)]
      exact hR.2.2.2.1 q hq hq2 i
    · have := hR.2.2.1
      show mx_cp M _ _ _ _ _ 1000 = mx_xs G
      rw [mx_cp_n M _ _ _ _ (by omega)]
      exact hR.2.2.2.2
end MXB
end
section
theorem b_Acts_forgetOldest_0 : mx_ck m_Acts_forgetOldest 0 [(.aload_n 0, [], 0), (.bipush 23, [], nI 23), (.putfield 22, [0, 4, 0, 202], 0), (.aload_n 0, [], 0), (.getfield 9, [0, 0, 2, 198], 0), (.iconst 1, [], nI 1), (.aload_n 0, [], 0), (.getfield 9, [0, 0, 2, 198], 0), (.iconst 0, [], nI 0), (.aload_n 0, [], 0), (.getfield 22, [0, 4, 0, 202], 0)] = some 20 := by decide +kernel
theorem b_Acts_forgetOldest_23 : mx_ck m_Acts_forgetOldest 23 [(.aload_n 0, [], 0), (.getfield 13, [0, 1, 3, 199], 0), (.iconst 1, [], nI 1), (.aload_n 0, [], 0), (.getfield 13, [0, 1, 3, 199], 0), (.iconst 0, [], nI 0), (.aload_n 0, [], 0), (.getfield 22, [0, 4, 0, 202], 0)] = some 37 := by decide +kernel
theorem b_Acts_forgetOldest_40 : mx_ck m_Acts_forgetOldest 40 [(.aload_n 0, [], 0), (.getfield 16, [0, 2, 4, 200], 0), (.iconst 1, [], nI 1), (.aload_n 0, [], 0), (.getfield 16, [0, 2, 4, 200], 0), (.iconst 0, [], nI 0), (.aload_n 0, [], 0), (.getfield 22, [0, 4, 0, 202], 0)] = some 54 := by decide +kernel
theorem b_Acts_forgetOldest_57 : mx_ck m_Acts_forgetOldest 57 [(.aload_n 0, [], 0), (.getfield 19, [0, 3, 5, 201], 0), (.iconst 1, [], nI 1), (.aload_n 0, [], 0), (.getfield 19, [0, 3, 5, 201], 0), (.iconst 0, [], nI 0), (.aload_n 0, [], 0), (.getfield 22, [0, 4, 0, 202], 0)] = some 71 := by decide +kernel
theorem d_Acts_forgetOldest_20 : decode m_Acts_forgetOldest.2.1 20 = .ok (.invokestatic 38, 3) := by decide +kernel
theorem c_Acts_forgetOldest_20 : mx_ca m_Acts_forgetOldest 38 [582, 466, 465, 93] = true := by decide +kernel
theorem d_Acts_forgetOldest_37 : decode m_Acts_forgetOldest.2.1 37 = .ok (.invokestatic 38, 3) := by decide +kernel
theorem c_Acts_forgetOldest_37 : mx_ca m_Acts_forgetOldest 38 [582, 466, 465, 93] = true := by decide +kernel
theorem d_Acts_forgetOldest_54 : decode m_Acts_forgetOldest.2.1 54 = .ok (.invokestatic 38, 3) := by decide +kernel
theorem c_Acts_forgetOldest_54 : mx_ca m_Acts_forgetOldest 38 [582, 466, 465, 93] = true := by decide +kernel
theorem d_Acts_forgetOldest_71 : decode m_Acts_forgetOldest.2.1 71 = .ok (.invokestatic 38, 3) := by decide +kernel
theorem c_Acts_forgetOldest_71 : mx_ca m_Acts_forgetOldest 38 [582, 466, 465, 93] = true := by decide +kernel
theorem d_Acts_forgetOldest_74 : decode m_Acts_forgetOldest.2.1 74 = .ok (.return_, 1) := by decide +kernel
theorem b_Acts_init_0 : mx_ck m_Acts_init 0 [(.aload_n 0, [], 0)] = some 1 := by decide +kernel
theorem b_Acts_init_4 : mx_ck m_Acts_init 4 [(.aload_n 0, [], 0), (.bipush 24, [], nI 24)] = some 7 := by decide +kernel
theorem b_Acts_init_12 : mx_ck m_Acts_init 12 [(.aload_n 0, [], 0), (.bipush 24, [], nI 24)] = some 15 := by decide +kernel
theorem b_Acts_init_20 : mx_ck m_Acts_init 20 [(.aload_n 0, [], 0), (.bipush 24, [], nI 24)] = some 23 := by decide +kernel
theorem b_Acts_init_28 : mx_ck m_Acts_init 28 [(.aload_n 0, [], 0), (.bipush 24, [], nI 24)] = some 31 := by decide +kernel
theorem d_Acts_init_1 : decode m_Acts_init.2.1 1 = .ok (.invokespecial 1, 3) := by decide +kernel
theorem d_Acts_init_7 : decode m_Acts_init.2.1 7 = .ok (.newarray .int, 2) := by decide +kernel
theorem d_Acts_init_9 : decode m_Acts_init.2.1 9 = .ok (.putfield 9, 3) := by decide +kernel
theorem d_Acts_init_15 : decode m_Acts_init.2.1 15 = .ok (.newarray .int, 2) := by decide +kernel
theorem d_Acts_init_17 : decode m_Acts_init.2.1 17 = .ok (.putfield 13, 3) := by decide +kernel
theorem d_Acts_init_23 : decode m_Acts_init.2.1 23 = .ok (.newarray .int, 2) := by decide +kernel
theorem d_Acts_init_25 : decode m_Acts_init.2.1 25 = .ok (.putfield 16, 3) := by decide +kernel
theorem d_Acts_init_31 : decode m_Acts_init.2.1 31 = .ok (.newarray .int, 2) := by decide +kernel
theorem d_Acts_init_33 : decode m_Acts_init.2.1 33 = .ok (.putfield 19, 3) := by decide +kernel
theorem d_Acts_init_36 : decode m_Acts_init.2.1 36 = .ok (.return_, 1) := by decide +kernel
theorem b_Acts_keep_0 : mx_ck m_Acts_keep 0 [(.aload_n 0, [], 0), (.getfield 22, [0, 4, 0, 202], 0), (.bipush 24, [], nI 24)] = some 6 := by decide +kernel
theorem b_Acts_keep_9 : mx_ck m_Acts_keep 9 [(.aload_n 0, [], 0)] = some 10 := by decide +kernel
theorem b_Acts_keep_13 : mx_ck m_Acts_keep 13 [(.aload_n 0, [], 0), (.getfield 9, [0, 0, 2, 198], 0), (.aload_n 0, [], 0), (.getfield 22, [0, 4, 0, 202], 0), (.iload_n 2, [], 0), (.iastore, [], 0), (.aload_n 0, [], 0), (.getfield 13, [0, 1, 3, 199], 0), (.aload_n 0, [], 0), (.getfield 22, [0, 4, 0, 202], 0), (.aload_n 1, [], 0), (.getfield 29, [3, 0, 2, 161], 0), (.iload_n 2, [], 0), (.iaload, [], 0), (.iastore, [], 0), (.aload_n 0, [], 0), (.getfield 16, [0, 2, 4, 200], 0), (.aload_n 0, [], 0), (.getfield 22, [0, 4, 0, 202], 0), (.aload_n 1, [], 0), (.getfield 32, [3, 1, 3, 165], 0), (.iload_n 2, [], 0), (.iaload, [], 0), (.iastore, [], 0), (.aload_n 0, [], 0), (.getfield 19, [0, 3, 5, 201], 0), (.aload_n 0, [], 0), (.getfield 22, [0, 4, 0, 202], 0), (.aload_n 1, [], 0), (.getfield 33, [3, 2, 4, 169], 0), (.iload_n 2, [], 0), (.iaload, [], 0), (.iastore, [], 0), (.aload_n 0, [], 0), (.dup, [], 0), (.getfield 22, [0, 4, 0, 202], 0), (.iconst 1, [], nI 1), (.iadd, [], 0), (.putfield 22, [0, 4, 0, 202], 0)] = some 78 := by decide +kernel
theorem d_Acts_keep_6 : decode m_Acts_keep.2.1 6 = .ok (.if_icmp .ne 7, 3) := by decide +kernel
theorem d_Acts_keep_10 : decode m_Acts_keep.2.1 10 = .ok (.invokevirtual 26, 3) := by decide +kernel
theorem c_Acts_keep_10 : mx_cv m_Acts_keep m_Acts_forgetOldest 26 0 [578, 580, 9, 86, 581] = true := by decide +kernel
theorem d_Acts_keep_78 : decode m_Acts_keep.2.1 78 = .ok (.return_, 1) := by decide +kernel
theorem b_Acts_takeBack_0 : mx_ck m_Acts_takeBack 0 [(.aload_n 0, [], 0), (.getfield 22, [0, 4, 0, 202], 0)] = some 4 := by decide +kernel
theorem b_Acts_takeBack_7 : mx_ck m_Acts_takeBack 7 [(.aload_n 0, [], 0), (.dup, [], 0), (.getfield 22, [0, 4, 0, 202], 0), (.iconst 1, [], nI 1), (.isub, [], 0), (.putfield 22, [0, 4, 0, 202], 0), (.aload_n 1, [], 0), (.aload_n 0, [], 0), (.getfield 9, [0, 0, 2, 198], 0), (.aload_n 0, [], 0), (.getfield 22, [0, 4, 0, 202], 0), (.iaload, [], 0), (.aload_n 0, [], 0), (.getfield 13, [0, 1, 3, 199], 0), (.aload_n 0, [], 0), (.getfield 22, [0, 4, 0, 202], 0), (.iaload, [], 0), (.aload_n 0, [], 0), (.getfield 16, [0, 2, 4, 200], 0), (.aload_n 0, [], 0), (.getfield 22, [0, 4, 0, 202], 0), (.iaload, [], 0), (.aload_n 0, [], 0), (.getfield 19, [0, 3, 5, 201], 0), (.aload_n 0, [], 0), (.getfield 22, [0, 4, 0, 202], 0), (.iaload, [], 0)] = some 54 := by decide +kernel
theorem d_Acts_takeBack_4 : decode m_Acts_takeBack.2.1 4 = .ok (.ifCond .le 53, 3) := by decide +kernel
theorem d_Acts_takeBack_54 : decode m_Acts_takeBack.2.1 54 = .ok (.invokevirtual 34, 3) := by decide +kernel
theorem c_Acts_takeBack_54 : mx_cv m_Acts_takeBack m_House_tell 34 4 [568, 538, 539, 85, 540] = true := by decide +kernel
theorem d_Acts_takeBack_57 : decode m_Acts_takeBack.2.1 57 = .ok (.return_, 1) := by decide +kernel
theorem b_Asks_begin_0 : mx_ck m_Asks_begin 0 [(.aload_n 0, [], 0), (.iconst 0, [], nI 0), (.putfield 15, [1, 1, 0, 358], 0), (.aload_n 0, [], 0), (.iload_n 2, [], 0), (.putfield 19, [1, 2, 0, 360], 0), (.aload_n 0, [], 0), (.aload_n 1, [], 0), (.getfield 22, [3, 0, 2, 162], 0), (.iload_n 2, [], 0), (.iaload, [], 0)] = some 17 := by decide +kernel
theorem b_Asks_begin_20 : mx_ck m_Asks_begin 20 [(.putfield 31, [1, 3, 0, 361], 0), (.aload_n 0, [], 0), (.aload_n 1, [], 0), (.getfield 34, [3, 1, 3, 166], 0), (.iload_n 2, [], 0), (.iaload, [], 0), (.putfield 37, [1, 4, 0, 362], 0), (.aload_n 0, [], 0), (.aload_n 1, [], 0), (.getfield 40, [3, 2, 4, 170], 0), (.iload_n 2, [], 0), (.iaload, [], 0), (.putfield 43, [1, 5, 0, 363], 0)] = some 43 := by decide +kernel
theorem d_Asks_begin_17 : decode m_Asks_begin.2.1 17 = .ok (.invokestatic 27, 3) := by decide +kernel
theorem c_Asks_begin_17 : mx_cs m_Asks_begin m_Asks_kindOf 27 1 [866, 849, 91, 850] = true := by decide +kernel
theorem d_Asks_begin_43 : decode m_Asks_begin.2.1 43 = .ok (.return_, 1) := by decide +kernel
theorem b_Asks_body10_0 : mx_ck m_Asks_body10 0 [(.aload_n 0, [], 0), (.bipush 10, [], nI 10)] = some 3 := by decide +kernel
theorem b_Asks_body10_6 : mx_ck m_Asks_body10 6 [(.aload_n 0, [], 0), (.getfield 37, [1, 4, 0, 362], 0)] = some 10 := by decide +kernel
theorem d_Asks_body10_3 : decode m_Asks_body10.2.1 3 = .ok (.invokevirtual 87, 3) := by decide +kernel
theorem c_Asks_body10_3 : mx_cv m_Asks_body10 m_Asks_leave 87 1 [876, 878, 28, 91, 879] = true := by decide +kernel
theorem d_Asks_body10_10 : decode m_Asks_body10.2.1 10 = .ok (.ireturn, 1) := by decide +kernel
theorem b_Asks_body11_0 : mx_ck m_Asks_body11 0 [(.aload_n 0, [], 0), (.bipush 11, [], nI 11)] = some 3 := by decide +kernel
theorem b_Asks_body11_6 : mx_ck m_Asks_body11 6 [(.aload_n 0, [], 0)] = some 7 := by decide +kernel
theorem b_Asks_body11_10 : mx_ck m_Asks_body11 10 [(.aload_n 0, [], 0)] = some 11 := by decide +kernel
theorem b_Asks_body11_14 : mx_ck m_Asks_body11 14 [(.iadd, [], 0)] = some 15 := by decide +kernel
theorem d_Asks_body11_3 : decode m_Asks_body11.2.1 3 = .ok (.invokevirtual 87, 3) := by decide +kernel
theorem c_Asks_body11_3 : mx_cv m_Asks_body11 m_Asks_leave 87 1 [876, 878, 28, 91, 879] = true := by decide +kernel
theorem d_Asks_body11_7 : decode m_Asks_body11.2.1 7 = .ok (.invokevirtual 60, 3) := by decide +kernel
theorem c_Asks_body11_7 : mx_cv m_Asks_body11 m_Asks_body10 60 0 [884, 886, 30, 91, 887] = true := by decide +kernel
theorem d_Asks_body11_11 : decode m_Asks_body11.2.1 11 = .ok (.invokevirtual 63, 3) := by decide +kernel
theorem c_Asks_body11_11 : mx_cv m_Asks_body11 m_Asks_markOfJoint 63 0 [888, 890, 31, 91, 891] = true := by decide +kernel
theorem d_Asks_body11_15 : decode m_Asks_body11.2.1 15 = .ok (.ireturn, 1) := by decide +kernel
theorem b_Asks_body12_0 : mx_ck m_Asks_body12 0 [(.aload_n 0, [], 0), (.bipush 12, [], nI 12)] = some 3 := by decide +kernel
theorem b_Asks_body12_6 : mx_ck m_Asks_body12 6 [(.aload_n 0, [], 0)] = some 7 := by decide +kernel
theorem b_Asks_body12_10 : mx_ck m_Asks_body12 10 [(.ineg, [], 0)] = some 11 := by decide +kernel
theorem d_Asks_body12_3 : decode m_Asks_body12.2.1 3 = .ok (.invokevirtual 87, 3) := by decide +kernel
theorem c_Asks_body12_3 : mx_cv m_Asks_body12 m_Asks_leave 87 1 [876, 878, 28, 91, 879] = true := by decide +kernel
theorem d_Asks_body12_7 : decode m_Asks_body12.2.1 7 = .ok (.invokevirtual 54, 3) := by decide +kernel
theorem c_Asks_body12_7 : mx_cv m_Asks_body12 m_Asks_body11 54 0 [880, 882, 29, 91, 883] = true := by decide +kernel
theorem d_Asks_body12_11 : decode m_Asks_body12.2.1 11 = .ok (.ireturn, 1) := by decide +kernel
theorem b_Asks_body13_0 : mx_ck m_Asks_body13 0 [(.aload_n 0, [], 0), (.bipush 13, [], nI 13)] = some 3 := by decide +kernel
theorem b_Asks_body13_6 : mx_ck m_Asks_body13 6 [(.aload_n 0, [], 0)] = some 7 := by decide +kernel
theorem b_Asks_body13_10 : mx_ck m_Asks_body13 10 [(.bipush 100, [], nI 100), (.isub, [], 0)] = some 13 := by decide +kernel
theorem d_Asks_body13_3 : decode m_Asks_body13.2.1 3 = .ok (.invokevirtual 87, 3) := by decide +kernel
theorem c_Asks_body13_3 : mx_cv m_Asks_body13 m_Asks_leave 87 1 [876, 878, 28, 91, 879] = true := by decide +kernel
theorem d_Asks_body13_7 : decode m_Asks_body13.2.1 7 = .ok (.invokevirtual 60, 3) := by decide +kernel
theorem c_Asks_body13_7 : mx_cv m_Asks_body13 m_Asks_body10 60 0 [884, 886, 30, 91, 887] = true := by decide +kernel
theorem d_Asks_body13_13 : decode m_Asks_body13.2.1 13 = .ok (.ireturn, 1) := by decide +kernel
theorem b_Asks_body14_0 : mx_ck m_Asks_body14 0 [(.aload_n 0, [], 0), (.bipush 14, [], nI 14)] = some 3 := by decide +kernel
theorem b_Asks_body14_6 : mx_ck m_Asks_body14 6 [(.aload_n 0, [], 0)] = some 7 := by decide +kernel
theorem b_Asks_body14_10 : mx_ck m_Asks_body14 10 [(.iconst 2, [], nI 2), (.imul, [], 0)] = some 12 := by decide +kernel
theorem d_Asks_body14_3 : decode m_Asks_body14.2.1 3 = .ok (.invokevirtual 87, 3) := by decide +kernel
theorem c_Asks_body14_3 : mx_cv m_Asks_body14 m_Asks_leave 87 1 [876, 878, 28, 91, 879] = true := by decide +kernel
theorem d_Asks_body14_7 : decode m_Asks_body14.2.1 7 = .ok (.invokevirtual 75, 3) := by decide +kernel
theorem c_Asks_body14_7 : mx_cv m_Asks_body14 m_Asks_body13 75 0 [916, 918, 38, 91, 919] = true := by decide +kernel
theorem d_Asks_body14_12 : decode m_Asks_body14.2.1 12 = .ok (.ireturn, 1) := by decide +kernel
theorem b_Asks_body20_0 : mx_ck m_Asks_body20 0 [(.aload_n 0, [], 0), (.bipush 20, [], nI 20)] = some 3 := by decide +kernel
theorem b_Asks_body20_6 : mx_ck m_Asks_body20 6 [(.aload_n 0, [], 0), (.getfield 19, [1, 2, 0, 360], 0)] = some 10 := by decide +kernel
theorem d_Asks_body20_3 : decode m_Asks_body20.2.1 3 = .ok (.invokevirtual 87, 3) := by decide +kernel
theorem c_Asks_body20_3 : mx_cv m_Asks_body20 m_Asks_leave 87 1 [876, 878, 28, 91, 879] = true := by decide +kernel
theorem d_Asks_body20_10 : decode m_Asks_body20.2.1 10 = .ok (.ireturn, 1) := by decide +kernel
theorem b_Asks_body21_0 : mx_ck m_Asks_body21 0 [(.aload_n 0, [], 0), (.bipush 21, [], nI 21)] = some 3 := by decide +kernel
theorem b_Asks_body21_6 : mx_ck m_Asks_body21 6 [(.aload_n 0, [], 0)] = some 7 := by decide +kernel
theorem b_Asks_body21_10 : mx_ck m_Asks_body21 10 [(.aload_n 0, [], 0), (.getfield 43, [1, 5, 0, 363], 0), (.iadd, [], 0)] = some 15 := by decide +kernel
theorem d_Asks_body21_3 : decode m_Asks_body21.2.1 3 = .ok (.invokevirtual 87, 3) := by decide +kernel
theorem c_Asks_body21_3 : mx_cv m_Asks_body21 m_Asks_leave 87 1 [876, 878, 28, 91, 879] = true := by decide +kernel
theorem d_Asks_body21_7 : decode m_Asks_body21.2.1 7 = .ok (.invokevirtual 69, 3) := by decide +kernel
theorem c_Asks_body21_7 : mx_cv m_Asks_body21 m_Asks_body20 69 0 [900, 902, 34, 91, 903] = true := by decide +kernel
theorem d_Asks_body21_15 : decode m_Asks_body21.2.1 15 = .ok (.ireturn, 1) := by decide +kernel
theorem b_Asks_body22_0 : mx_ck m_Asks_body22 0 [(.aload_n 0, [], 0), (.bipush 22, [], nI 22)] = some 3 := by decide +kernel
theorem b_Asks_body22_6 : mx_ck m_Asks_body22 6 [(.aload_n 0, [], 0)] = some 7 := by decide +kernel
theorem b_Asks_body22_10 : mx_ck m_Asks_body22 10 [(.sipush 1000, [], nI 1000), (.isub, [], 0)] = some 14 := by decide +kernel
theorem d_Asks_body22_3 : decode m_Asks_body22.2.1 3 = .ok (.invokevirtual 87, 3) := by decide +kernel
theorem c_Asks_body22_3 : mx_cv m_Asks_body22 m_Asks_leave 87 1 [876, 878, 28, 91, 879] = true := by decide +kernel
theorem d_Asks_body22_7 : decode m_Asks_body22.2.1 7 = .ok (.invokevirtual 84, 3) := by decide +kernel
theorem c_Asks_body22_7 : mx_cv m_Asks_body22 m_Asks_body21 84 0 [896, 898, 33, 91, 899] = true := by decide +kernel
theorem d_Asks_body22_14 : decode m_Asks_body22.2.1 14 = .ok (.ireturn, 1) := by decide +kernel
theorem b_Asks_body23_0 : mx_ck m_Asks_body23 0 [(.aload_n 0, [], 0), (.bipush 23, [], nI 23)] = some 3 := by decide +kernel
theorem b_Asks_body23_6 : mx_ck m_Asks_body23 6 [(.aload_n 0, [], 0)] = some 7 := by decide +kernel
theorem b_Asks_body23_10 : mx_ck m_Asks_body23 10 [(.aload_n 0, [], 0)] = some 11 := by decide +kernel
theorem b_Asks_body23_14 : mx_ck m_Asks_body23 14 [(.isub, [], 0)] = some 15 := by decide +kernel
theorem d_Asks_body23_3 : decode m_Asks_body23.2.1 3 = .ok (.invokevirtual 87, 3) := by decide +kernel
theorem c_Asks_body23_3 : mx_cv m_Asks_body23 m_Asks_leave 87 1 [876, 878, 28, 91, 879] = true := by decide +kernel
theorem d_Asks_body23_7 : decode m_Asks_body23.2.1 7 = .ok (.invokevirtual 69, 3) := by decide +kernel
theorem c_Asks_body23_7 : mx_cv m_Asks_body23 m_Asks_body20 69 0 [900, 902, 34, 91, 903] = true := by decide +kernel
theorem d_Asks_body23_11 : decode m_Asks_body23.2.1 11 = .ok (.invokevirtual 57, 3) := by decide +kernel
theorem c_Asks_body23_11 : mx_cv m_Asks_body23 m_Asks_sizeOfPairs 57 0 [908, 910, 36, 91, 911] = true := by decide +kernel
theorem d_Asks_body23_15 : decode m_Asks_body23.2.1 15 = .ok (.ireturn, 1) := by decide +kernel
theorem b_Asks_body24_0 : mx_ck m_Asks_body24 0 [(.aload_n 0, [], 0), (.bipush 24, [], nI 24)] = some 3 := by decide +kernel
theorem b_Asks_body24_6 : mx_ck m_Asks_body24 6 [(.aload_n 0, [], 0)] = some 7 := by decide +kernel
theorem b_Asks_body24_10 : mx_ck m_Asks_body24 10 [(.iconst 2, [], nI 2), (.imul, [], 0)] = some 12 := by decide +kernel
theorem d_Asks_body24_3 : decode m_Asks_body24.2.1 3 = .ok (.invokevirtual 87, 3) := by decide +kernel
theorem c_Asks_body24_3 : mx_cv m_Asks_body24 m_Asks_leave 87 1 [876, 878, 28, 91, 879] = true := by decide +kernel
theorem d_Asks_body24_7 : decode m_Asks_body24.2.1 7 = .ok (.invokevirtual 84, 3) := by decide +kernel
theorem c_Asks_body24_7 : mx_cv m_Asks_body24 m_Asks_body21 84 0 [896, 898, 33, 91, 899] = true := by decide +kernel
theorem d_Asks_body24_12 : decode m_Asks_body24.2.1 12 = .ok (.ireturn, 1) := by decide +kernel
theorem b_Asks_init_0 : mx_ck m_Asks_init 0 [(.aload_n 0, [], 0)] = some 1 := by decide +kernel
theorem b_Asks_init_4 : mx_ck m_Asks_init 4 [(.aload_n 0, [], 0), (.bipush 16, [], nI 16)] = some 7 := by decide +kernel
theorem d_Asks_init_1 : decode m_Asks_init.2.1 1 = .ok (.invokespecial 3, 3) := by decide +kernel
theorem d_Asks_init_7 : decode m_Asks_init.2.1 7 = .ok (.newarray .int, 2) := by decide +kernel
theorem d_Asks_init_9 : decode m_Asks_init.2.1 9 = .ok (.putfield 11, 3) := by decide +kernel
theorem d_Asks_init_12 : decode m_Asks_init.2.1 12 = .ok (.return_, 1) := by decide +kernel
theorem b_Asks_isOne_0 : mx_ck m_Asks_isOne 0 [(.iload_n 1, [], 0)] = some 1 := by decide +kernel
theorem b_Asks_isOne_36 : mx_ck m_Asks_isOne 36 [(.iconst 1, [], nI 1)] = some 37 := by decide +kernel
theorem b_Asks_isOne_38 : mx_ck m_Asks_isOne 38 [(.iload_n 0, [], 0), (.iconst 1, [], nI 1)] = some 40 := by decide +kernel
theorem b_Asks_isOne_43 : mx_ck m_Asks_isOne 43 [(.iload_n 0, [], 0), (.iconst 3, [], nI 3)] = some 45 := by decide +kernel
theorem b_Asks_isOne_48 : mx_ck m_Asks_isOne 48 [(.iconst 1, [], nI 1)] = some 49 := by decide +kernel
theorem b_Asks_isOne_52 : mx_ck m_Asks_isOne 52 [(.iconst 0, [], nI 0)] = some 53 := by decide +kernel
theorem b_Asks_isOne_54 : mx_ck m_Asks_isOne 54 [(.iload_n 0, [], 0), (.iconst 4, [], nI 4)] = some 56 := by decide +kernel
theorem b_Asks_isOne_59 : mx_ck m_Asks_isOne 59 [(.iconst 1, [], nI 1)] = some 60 := by decide +kernel
theorem b_Asks_isOne_63 : mx_ck m_Asks_isOne 63 [(.iconst 0, [], nI 0)] = some 64 := by decide +kernel
theorem b_Asks_isOne_65 : mx_ck m_Asks_isOne 65 [(.iload_n 0, [], 0), (.iload_n 1, [], 0)] = some 67 := by decide +kernel
theorem b_Asks_isOne_70 : mx_ck m_Asks_isOne 70 [(.iconst 1, [], nI 1)] = some 71 := by decide +kernel
theorem b_Asks_isOne_74 : mx_ck m_Asks_isOne 74 [(.iconst 0, [], nI 0)] = some 75 := by decide +kernel
theorem d_Asks_isOne_1 : decode m_Asks_isOne.2.1 1 = .ok (.tableswitch 64 0 4 #[35, 37, 64, 64, 53], 35) := by decide +kernel
theorem d_Asks_isOne_37 : decode m_Asks_isOne.2.1 37 = .ok (.ireturn, 1) := by decide +kernel
theorem d_Asks_isOne_40 : decode m_Asks_isOne.2.1 40 = .ok (.if_icmp .lt 12, 3) := by decide +kernel
theorem d_Asks_isOne_45 : decode m_Asks_isOne.2.1 45 = .ok (.if_icmp .gt 7, 3) := by decide +kernel
theorem d_Asks_isOne_49 : decode m_Asks_isOne.2.1 49 = .ok (.goto 4, 3) := by decide +kernel
theorem d_Asks_isOne_53 : decode m_Asks_isOne.2.1 53 = .ok (.ireturn, 1) := by decide +kernel
theorem d_Asks_isOne_56 : decode m_Asks_isOne.2.1 56 = .ok (.if_icmp .lt 7, 3) := by decide +kernel
theorem d_Asks_isOne_60 : decode m_Asks_isOne.2.1 60 = .ok (.goto 4, 3) := by decide +kernel
theorem d_Asks_isOne_64 : decode m_Asks_isOne.2.1 64 = .ok (.ireturn, 1) := by decide +kernel
theorem d_Asks_isOne_67 : decode m_Asks_isOne.2.1 67 = .ok (.if_icmp .ne 7, 3) := by decide +kernel
theorem d_Asks_isOne_71 : decode m_Asks_isOne.2.1 71 = .ok (.goto 4, 3) := by decide +kernel
theorem d_Asks_isOne_75 : decode m_Asks_isOne.2.1 75 = .ok (.ireturn, 1) := by decide +kernel
theorem b_Asks_kindOf_0 : mx_ck m_Asks_kindOf 0 [(.iload_n 0, [], 0)] = some 1 := by decide +kernel
theorem b_Asks_kindOf_36 : mx_ck m_Asks_kindOf 36 [(.iconst 4, [], nI 4)] = some 37 := by decide +kernel
theorem b_Asks_kindOf_38 : mx_ck m_Asks_kindOf 38 [(.iconst 5, [], nI 5)] = some 39 := by decide +kernel
theorem b_Asks_kindOf_40 : mx_ck m_Asks_kindOf 40 [(.iconst 1, [], nI 1)] = some 41 := by decide +kernel
theorem b_Asks_kindOf_42 : mx_ck m_Asks_kindOf 42 [(.iconst 2, [], nI 2)] = some 43 := by decide +kernel
theorem b_Asks_kindOf_44 : mx_ck m_Asks_kindOf 44 [(.iconst 3, [], nI 3)] = some 45 := by decide +kernel
theorem b_Asks_kindOf_46 : mx_ck m_Asks_kindOf 46 [(.iconst 0, [], nI 0)] = some 47 := by decide +kernel
theorem d_Asks_kindOf_1 : decode m_Asks_kindOf.2.1 1 = .ok (.tableswitch 45 1 5 #[35, 37, 39, 41, 43], 35) := by decide +kernel
theorem d_Asks_kindOf_37 : decode m_Asks_kindOf.2.1 37 = .ok (.ireturn, 1) := by decide +kernel
theorem d_Asks_kindOf_39 : decode m_Asks_kindOf.2.1 39 = .ok (.ireturn, 1) := by decide +kernel
theorem d_Asks_kindOf_41 : decode m_Asks_kindOf.2.1 41 = .ok (.ireturn, 1) := by decide +kernel
theorem d_Asks_kindOf_43 : decode m_Asks_kindOf.2.1 43 = .ok (.ireturn, 1) := by decide +kernel
theorem d_Asks_kindOf_45 : decode m_Asks_kindOf.2.1 45 = .ok (.ireturn, 1) := by decide +kernel
theorem d_Asks_kindOf_47 : decode m_Asks_kindOf.2.1 47 = .ok (.ireturn, 1) := by decide +kernel
theorem b_Asks_leave_0 : mx_ck m_Asks_leave 0 [(.aload_n 0, [], 0), (.getfield 15, [1, 1, 0, 358], 0), (.bipush 16, [], nI 16)] = some 6 := by decide +kernel
theorem b_Asks_leave_9 : mx_ck m_Asks_leave 9 [(.aload_n 0, [], 0), (.getfield 11, [1, 0, 2, 356], 0), (.aload_n 0, [], 0), (.getfield 15, [1, 1, 0, 358], 0), (.iload_n 1, [], 0), (.iastore, [], 0), (.aload_n 0, [], 0), (.dup, [], 0), (.getfield 15, [1, 1, 0, 358], 0), (.iconst 1, [], nI 1), (.iadd, [], 0), (.putfield 15, [1, 1, 0, 358], 0)] = some 29 := by decide +kernel
theorem d_Asks_leave_6 : decode m_Asks_leave.2.1 6 = .ok (.if_icmp .ge 23, 3) := by decide +kernel
theorem d_Asks_leave_29 : decode m_Asks_leave.2.1 29 = .ok (.return_, 1) := by decide +kernel
theorem b_Asks_markOfJoint_0 : mx_ck m_Asks_markOfJoint 0 [(.aload_n 0, [], 0), (.getfield 31, [1, 3, 0, 361], 0)] = some 4 := by decide +kernel
theorem b_Asks_markOfJoint_32 : mx_ck m_Asks_markOfJoint 32 [(.aload_n 0, [], 0)] = some 33 := by decide +kernel
theorem b_Asks_markOfJoint_37 : mx_ck m_Asks_markOfJoint 37 [(.aload_n 0, [], 0)] = some 38 := by decide +kernel
theorem b_Asks_markOfJoint_42 : mx_ck m_Asks_markOfJoint 42 [(.aload_n 0, [], 0)] = some 43 := by decide +kernel
theorem d_Asks_markOfJoint_4 : decode m_Asks_markOfJoint.2.1 4 = .ok (.lookupswitch 38 #[(2, 28), (3, 33)], 28) := by decide +kernel
theorem d_Asks_markOfJoint_33 : decode m_Asks_markOfJoint.2.1 33 = .ok (.invokevirtual 78, 3) := by decide +kernel
theorem c_Asks_markOfJoint_33 : mx_cv m_Asks_markOfJoint m_Asks_body24 78 0 [892, 894, 32, 91, 895] = true := by decide +kernel
theorem d_Asks_markOfJoint_36 : decode m_Asks_markOfJoint.2.1 36 = .ok (.ireturn, 1) := by decide +kernel
theorem d_Asks_markOfJoint_38 : decode m_Asks_markOfJoint.2.1 38 = .ok (.invokevirtual 81, 3) := by decide +kernel
theorem c_Asks_markOfJoint_38 : mx_cv m_Asks_markOfJoint m_Asks_body22 81 0 [904, 906, 35, 91, 907] = true := by decide +kernel
theorem d_Asks_markOfJoint_41 : decode m_Asks_markOfJoint.2.1 41 = .ok (.ireturn, 1) := by decide +kernel
theorem d_Asks_markOfJoint_43 : decode m_Asks_markOfJoint.2.1 43 = .ok (.invokevirtual 84, 3) := by decide +kernel
theorem c_Asks_markOfJoint_43 : mx_cv m_Asks_markOfJoint m_Asks_body21 84 0 [896, 898, 33, 91, 899] = true := by decide +kernel
theorem d_Asks_markOfJoint_46 : decode m_Asks_markOfJoint.2.1 46 = .ok (.ireturn, 1) := by decide +kernel
theorem b_Asks_markOfOne_0 : mx_ck m_Asks_markOfOne 0 [(.aload_n 0, [], 0), (.getfield 31, [1, 3, 0, 361], 0), (.iconst 1, [], nI 1)] = some 5 := by decide +kernel
theorem b_Asks_markOfOne_11 : mx_ck m_Asks_markOfOne 11 [(.aload_n 0, [], 0)] = some 12 := by decide +kernel
theorem b_Asks_markOfOne_16 : mx_ck m_Asks_markOfOne 16 [(.aload_n 0, [], 0), (.getfield 31, [1, 3, 0, 361], 0), (.iconst 4, [], nI 4)] = some 21 := by decide +kernel
theorem b_Asks_markOfOne_27 : mx_ck m_Asks_markOfOne 27 [(.aload_n 0, [], 0)] = some 28 := by decide +kernel
theorem b_Asks_markOfOne_34 : mx_ck m_Asks_markOfOne 34 [(.aload_n 0, [], 0)] = some 35 := by decide +kernel
theorem d_Asks_markOfOne_5 : decode m_Asks_markOfOne.2.1 5 = .ok (.invokestatic 46, 3) := by decide +kernel
theorem c_Asks_markOfOne_5 : mx_cs m_Asks_markOfOne m_Asks_isOne 46 2 [871, 856, 91, 857] = true := by decide +kernel
theorem d_Asks_markOfOne_8 : decode m_Asks_markOfOne.2.1 8 = .ok (.ifCond .eq 8, 3) := by decide +kernel
theorem d_Asks_markOfOne_12 : decode m_Asks_markOfOne.2.1 12 = .ok (.invokevirtual 63, 3) := by decide +kernel
theorem c_Asks_markOfOne_12 : mx_cv m_Asks_markOfOne m_Asks_markOfJoint 63 0 [888, 890, 31, 91, 891] = true := by decide +kernel
theorem d_Asks_markOfOne_15 : decode m_Asks_markOfOne.2.1 15 = .ok (.ireturn, 1) := by decide +kernel
theorem d_Asks_markOfOne_21 : decode m_Asks_markOfOne.2.1 21 = .ok (.invokestatic 46, 3) := by decide +kernel
theorem c_Asks_markOfOne_21 : mx_cs m_Asks_markOfOne m_Asks_isOne 46 2 [871, 856, 91, 857] = true := by decide +kernel
theorem d_Asks_markOfOne_24 : decode m_Asks_markOfOne.2.1 24 = .ok (.ifCond .eq 10, 3) := by decide +kernel
theorem d_Asks_markOfOne_28 : decode m_Asks_markOfOne.2.1 28 = .ok (.invokevirtual 66, 3) := by decide +kernel
theorem c_Asks_markOfOne_28 : mx_cv m_Asks_markOfOne m_Asks_body23 66 0 [924, 926, 39, 91, 927] = true := by decide +kernel
theorem d_Asks_markOfOne_31 : decode m_Asks_markOfOne.2.1 31 = .ok (.goto 7, 3) := by decide +kernel
theorem d_Asks_markOfOne_35 : decode m_Asks_markOfOne.2.1 35 = .ok (.invokevirtual 69, 3) := by decide +kernel
theorem c_Asks_markOfOne_35 : mx_cv m_Asks_markOfOne m_Asks_body20 69 0 [900, 902, 34, 91, 903] = true := by decide +kernel
theorem d_Asks_markOfOne_38 : decode m_Asks_markOfOne.2.1 38 = .ok (.ireturn, 1) := by decide +kernel
theorem b_Asks_sizeOfOne_0 : mx_ck m_Asks_sizeOfOne 0 [(.aload_n 0, [], 0), (.getfield 31, [1, 3, 0, 361], 0), (.iconst 1, [], nI 1)] = some 5 := by decide +kernel
theorem b_Asks_sizeOfOne_11 : mx_ck m_Asks_sizeOfOne 11 [(.aload_n 0, [], 0), (.getfield 31, [1, 3, 0, 361], 0), (.iconst 2, [], nI 2)] = some 16 := by decide +kernel
theorem b_Asks_sizeOfOne_19 : mx_ck m_Asks_sizeOfOne 19 [(.aload_n 0, [], 0)] = some 20 := by decide +kernel
theorem b_Asks_sizeOfOne_26 : mx_ck m_Asks_sizeOfOne 26 [(.aload_n 0, [], 0)] = some 27 := by decide +kernel
theorem b_Asks_sizeOfOne_31 : mx_ck m_Asks_sizeOfOne 31 [(.aload_n 0, [], 0), (.getfield 31, [1, 3, 0, 361], 0), (.iconst 4, [], nI 4)] = some 36 := by decide +kernel
theorem b_Asks_sizeOfOne_42 : mx_ck m_Asks_sizeOfOne 42 [(.aload_n 0, [], 0)] = some 43 := by decide +kernel
theorem b_Asks_sizeOfOne_49 : mx_ck m_Asks_sizeOfOne 49 [(.aload_n 0, [], 0)] = some 50 := by decide +kernel
theorem d_Asks_sizeOfOne_5 : decode m_Asks_sizeOfOne.2.1 5 = .ok (.invokestatic 46, 3) := by decide +kernel
theorem c_Asks_sizeOfOne_5 : mx_cs m_Asks_sizeOfOne m_Asks_isOne 46 2 [871, 856, 91, 857] = true := by decide +kernel
theorem d_Asks_sizeOfOne_8 : decode m_Asks_sizeOfOne.2.1 8 = .ok (.ifCond .eq 23, 3) := by decide +kernel
theorem d_Asks_sizeOfOne_16 : decode m_Asks_sizeOfOne.2.1 16 = .ok (.if_icmp .ne 10, 3) := by decide +kernel
theorem d_Asks_sizeOfOne_20 : decode m_Asks_sizeOfOne.2.1 20 = .ok (.invokevirtual 50, 3) := by decide +kernel
theorem c_Asks_sizeOfOne_20 : mx_cv m_Asks_sizeOfOne m_Asks_body12 50 0 [872, 874, 27, 91, 875] = true := by decide +kernel
theorem d_Asks_sizeOfOne_23 : decode m_Asks_sizeOfOne.2.1 23 = .ok (.goto 7, 3) := by decide +kernel
theorem d_Asks_sizeOfOne_27 : decode m_Asks_sizeOfOne.2.1 27 = .ok (.invokevirtual 54, 3) := by decide +kernel
theorem c_Asks_sizeOfOne_27 : mx_cv m_Asks_sizeOfOne m_Asks_body11 54 0 [880, 882, 29, 91, 883] = true := by decide +kernel
theorem d_Asks_sizeOfOne_30 : decode m_Asks_sizeOfOne.2.1 30 = .ok (.ireturn, 1) := by decide +kernel
theorem d_Asks_sizeOfOne_36 : decode m_Asks_sizeOfOne.2.1 36 = .ok (.invokestatic 46, 3) := by decide +kernel
theorem c_Asks_sizeOfOne_36 : mx_cs m_Asks_sizeOfOne m_Asks_isOne 46 2 [871, 856, 91, 857] = true := by decide +kernel
theorem d_Asks_sizeOfOne_39 : decode m_Asks_sizeOfOne.2.1 39 = .ok (.ifCond .eq 10, 3) := by decide +kernel
theorem d_Asks_sizeOfOne_43 : decode m_Asks_sizeOfOne.2.1 43 = .ok (.invokevirtual 57, 3) := by decide +kernel
theorem c_Asks_sizeOfOne_43 : mx_cv m_Asks_sizeOfOne m_Asks_sizeOfPairs 57 0 [908, 910, 36, 91, 911] = true := by decide +kernel
theorem d_Asks_sizeOfOne_46 : decode m_Asks_sizeOfOne.2.1 46 = .ok (.goto 7, 3) := by decide +kernel
theorem d_Asks_sizeOfOne_50 : decode m_Asks_sizeOfOne.2.1 50 = .ok (.invokevirtual 60, 3) := by decide +kernel
theorem c_Asks_sizeOfOne_50 : mx_cv m_Asks_sizeOfOne m_Asks_body10 60 0 [884, 886, 30, 91, 887] = true := by decide +kernel
theorem d_Asks_sizeOfOne_53 : decode m_Asks_sizeOfOne.2.1 53 = .ok (.ireturn, 1) := by decide +kernel
theorem b_Asks_sizeOfPairs_0 : mx_ck m_Asks_sizeOfPairs 0 [(.aload_n 0, [], 0), (.getfield 31, [1, 3, 0, 361], 0), (.iconst 5, [], nI 5)] = some 5 := by decide +kernel
theorem b_Asks_sizeOfPairs_8 : mx_ck m_Asks_sizeOfPairs 8 [(.aload_n 0, [], 0)] = some 9 := by decide +kernel
theorem b_Asks_sizeOfPairs_15 : mx_ck m_Asks_sizeOfPairs 15 [(.aload_n 0, [], 0)] = some 16 := by decide +kernel
theorem d_Asks_sizeOfPairs_5 : decode m_Asks_sizeOfPairs.2.1 5 = .ok (.if_icmp .ne 10, 3) := by decide +kernel
theorem d_Asks_sizeOfPairs_9 : decode m_Asks_sizeOfPairs.2.1 9 = .ok (.invokevirtual 72, 3) := by decide +kernel
theorem c_Asks_sizeOfPairs_9 : mx_cv m_Asks_sizeOfPairs m_Asks_body14 72 0 [912, 914, 37, 91, 915] = true := by decide +kernel
theorem d_Asks_sizeOfPairs_12 : decode m_Asks_sizeOfPairs.2.1 12 = .ok (.goto 7, 3) := by decide +kernel
theorem d_Asks_sizeOfPairs_16 : decode m_Asks_sizeOfPairs.2.1 16 = .ok (.invokevirtual 75, 3) := by decide +kernel
theorem c_Asks_sizeOfPairs_16 : mx_cv m_Asks_sizeOfPairs m_Asks_body13 75 0 [916, 918, 38, 91, 919] = true := by decide +kernel
theorem d_Asks_sizeOfPairs_19 : decode m_Asks_sizeOfPairs.2.1 19 = .ok (.ireturn, 1) := by decide +kernel
theorem b_Cells_addCase_0 : mx_ck m_Cells_addCase 0 [(.aload_n 0, [], 0), (.getfield 38, [2, 10, 30, 282], 0), (.getfield 140, [6, 1, 3, 234], 0), (.iload_n 1, [], 0), (.iaload, [], 0)] = some 9 := by decide +kernel
theorem b_Cells_addCase_13 : mx_ck m_Cells_addCase 13 [(.aload_n 0, [], 0), (.getfield 38, [2, 10, 30, 282], 0), (.getfield 61, [6, 2, 0, 236], 0), (.istore_n 3, [], 0), (.iconst 0, [], nI 0), (.istore 4, [], 0)] = some 24 := by decide +kernel
theorem b_Cells_addCase_24 : mx_ck m_Cells_addCase 24 [(.iload 4, [], 0), (.iload_n 3, [], 0)] = some 27 := by decide +kernel
theorem b_Cells_addCase_30 : mx_ck m_Cells_addCase 30 [(.aload_n 0, [], 0), (.aload_n 0, [], 0), (.getfield 38, [2, 10, 30, 282], 0), (.getfield 71, [6, 0, 2, 231], 0), (.iload 4, [], 0), (.iaload, [], 0), (.iload_n 1, [], 0), (.ior, [], 0), (.iload_n 2, [], 0)] = some 44 := by decide +kernel
theorem b_Cells_addCase_47 : mx_ck m_Cells_addCase 47 [(.iinc 4 1, [], nI 1)] = some 50 := by decide +kernel
theorem d_Cells_addCase_9 : decode m_Cells_addCase.2.1 9 = .ok (.ifCond .eq 4, 3) := by decide +kernel
theorem d_Cells_addCase_12 : decode m_Cells_addCase.2.1 12 = .ok (.return_, 1) := by decide +kernel
theorem d_Cells_addCase_27 : decode m_Cells_addCase.2.1 27 = .ok (.if_icmp .ge 26, 3) := by decide +kernel
theorem d_Cells_addCase_44 : decode m_Cells_addCase.2.1 44 = .ok (.invokevirtual 127, 3) := by decide +kernel
theorem c_Cells_addCase_44 : mx_cv m_Cells_addCase m_Cells_addFunction 127 2 [644, 646, 12, 87, 647] = true := by decide +kernel
theorem d_Cells_addCase_50 : decode m_Cells_addCase.2.1 50 = .ok (.goto (-26), 3) := by decide +kernel
theorem d_Cells_addCase_53 : decode m_Cells_addCase.2.1 53 = .ok (.return_, 1) := by decide +kernel
theorem b_Cells_addCases_0 : mx_ck m_Cells_addCases 0 [(.iconst 0, [], nI 0), (.istore 4, [], 0)] = some 3 := by decide +kernel
theorem b_Cells_addCases_3 : mx_ck m_Cells_addCases 3 [(.iload 4, [], 0), (.aload_n 0, [], 0), (.getfield 32, [2, 8, 18, 280], 0), (.getfield 65, [7, 2, 4, 259], 0), (.getfield 61, [6, 2, 0, 236], 0)] = some 15 := by decide +kernel
theorem b_Cells_addCases_18 : mx_ck m_Cells_addCases 18 [(.iload 4, [], 0), (.iload_n 1, [], 0)] = some 21 := by decide +kernel
theorem b_Cells_addCases_24 : mx_ck m_Cells_addCases 24 [(.iload_n 2, [], 0)] = some 25 := by decide +kernel
theorem b_Cells_addCases_28 : mx_ck m_Cells_addCases 28 [(.iconst 0, [], nI 0)] = some 29 := by decide +kernel
theorem b_Cells_addCases_29 : mx_ck m_Cells_addCases 29 [(.istore 5, [], 0)] = some 31 := by decide +kernel
theorem b_Cells_addCases_31 : mx_ck m_Cells_addCases 31 [(.iload 5, [], 0), (.aload_n 0, [], 0), (.getfield 32, [2, 8, 18, 280], 0), (.getfield 68, [7, 3, 7, 261], 0), (.getfield 61, [6, 2, 0, 236], 0)] = some 43 := by decide +kernel
theorem b_Cells_addCases_46 : mx_ck m_Cells_addCases 46 [(.aload_n 0, [], 0), (.aload_n 0, [], 0), (.getfield 32, [2, 8, 18, 280], 0), (.getfield 65, [7, 2, 4, 259], 0), (.getfield 71, [6, 0, 2, 231], 0), (.iload 4, [], 0), (.iaload, [], 0), (.aload_n 0, [], 0), (.getfield 32, [2, 8, 18, 280], 0), (.getfield 68, [7, 3, 7, 261], 0), (.getfield 71, [6, 0, 2, 231], 0), (.iload 5, [], 0), (.iaload, [], 0), (.iconst (-1), [], (-1)), (.ixor, [], 0), (.iand, [], 0), (.iload_n 3, [], 0)] = some 77 := by decide +kernel
theorem b_Cells_addCases_80 : mx_ck m_Cells_addCases 80 [(.iinc 5 1, [], nI 1)] = some 83 := by decide +kernel
theorem b_Cells_addCases_86 : mx_ck m_Cells_addCases 86 [(.iinc 4 1, [], nI 1)] = some 89 := by decide +kernel
theorem d_Cells_addCases_15 : decode m_Cells_addCases.2.1 15 = .ok (.if_icmp .ge 77, 3) := by decide +kernel
theorem d_Cells_addCases_21 : decode m_Cells_addCases.2.1 21 = .ok (.if_icmp .ge 7, 3) := by decide +kernel
theorem d_Cells_addCases_25 : decode m_Cells_addCases.2.1 25 = .ok (.goto 4, 3) := by decide +kernel
theorem d_Cells_addCases_43 : decode m_Cells_addCases.2.1 43 = .ok (.if_icmp .ge 43, 3) := by decide +kernel
theorem d_Cells_addCases_77 : decode m_Cells_addCases.2.1 77 = .ok (.invokevirtual 137, 3) := by decide +kernel
theorem c_Cells_addCases_77 : mx_cv m_Cells_addCases m_Cells_addCase 137 2 [674, 676, 16, 87, 677] = true := by decide +kernel
theorem d_Cells_addCases_83 : decode m_Cells_addCases.2.1 83 = .ok (.goto (-52), 3) := by decide +kernel
theorem d_Cells_addCases_89 : decode m_Cells_addCases.2.1 89 = .ok (.goto (-86), 3) := by decide +kernel
theorem d_Cells_addCases_92 : decode m_Cells_addCases.2.1 92 = .ok (.return_, 1) := by decide +kernel
theorem b_Cells_addFunction_0 : mx_ck m_Cells_addFunction 0 [(.aload_n 0, [], 0), (.getfield 38, [2, 10, 30, 282], 0), (.iload_n 1, [], 0), (.iconst 1, [], nI 1)] = some 6 := by decide +kernel
theorem b_Cells_addFunction_12 : mx_ck m_Cells_addFunction 12 [(.aload_n 0, [], 0), (.getfield 12, [2, 0, 2, 271], 0), (.aload_n 0, [], 0), (.getfield 101, [2, 2, 0, 273], 0), (.iload_n 1, [], 0), (.iconst (-1), [], (-1)), (.ixor, [], 0), (.iand, [], 0)] = some 24 := by decide +kernel
theorem b_Cells_addFunction_27 : mx_ck m_Cells_addFunction 27 [(.istore_n 3, [], 0), (.aload_n 0, [], 0), (.getfield 45, [2, 12, 34, 284], 0), (.iload_n 1, [], 0), (.iload_n 3, [], 0), (.iastore, [], 0), (.aload_n 0, [], 0), (.dup, [], 0), (.getfield 110, [2, 5, 0, 276], 0), (.iload_n 3, [], 0), (.ior, [], 0), (.putfield 110, [2, 5, 0, 276], 0), (.aload_n 0, [], 0), (.getfield 21, [2, 6, 6, 277], 0), (.iload_n 3, [], 0), (.iload_n 2, [], 0)] = some 51 := by decide +kernel
theorem b_Cells_addFunction_54 : mx_ck m_Cells_addFunction 54 [(.pop, [], 0)] = some 55 := by decide +kernel
theorem d_Cells_addFunction_6 : decode m_Cells_addFunction.2.1 6 = .ok (.invokevirtual 123, 3) := by decide +kernel
theorem c_Cells_addFunction_6 : mx_cv m_Cells_addFunction m_Sets_add 123 2 [640, 641, 642, 88, 643] = true := by decide +kernel
theorem d_Cells_addFunction_9 : decode m_Cells_addFunction.2.1 9 = .ok (.ifCond .eq 46, 3) := by decide +kernel
theorem d_Cells_addFunction_24 : decode m_Cells_addFunction.2.1 24 = .ok (.invokevirtual 134, 3) := by decide +kernel
theorem c_Cells_addFunction_24 : mx_cv m_Cells_addFunction m_House_cellOf 134 1 [648, 637, 638, 85, 639] = true := by decide +kernel
theorem d_Cells_addFunction_51 : decode m_Cells_addFunction.2.1 51 = .ok (.invokevirtual 123, 3) := by decide +kernel
theorem c_Cells_addFunction_51 : mx_cv m_Cells_addFunction m_Sets_add 123 2 [640, 641, 642, 88, 643] = true := by decide +kernel
theorem d_Cells_addFunction_55 : decode m_Cells_addFunction.2.1 55 = .ok (.return_, 1) := by decide +kernel
theorem b_Cells_addPair_0 : mx_ck m_Cells_addPair 0 [(.aload_n 0, [], 0), (.getfield 35, [2, 9, 27, 281], 0), (.iload_n 1, [], 0), (.iconst 1, [], nI 1)] = some 6 := by decide +kernel
theorem b_Cells_addPair_12 : mx_ck m_Cells_addPair 12 [(.aload_n 0, [], 0), (.getfield 12, [2, 0, 2, 271], 0), (.iload_n 1, [], 0)] = some 17 := by decide +kernel
theorem b_Cells_addPair_20 : mx_ck m_Cells_addPair 20 [(.istore_n 3, [], 0), (.aload_n 0, [], 0), (.getfield 41, [2, 11, 33, 283], 0), (.iload_n 1, [], 0), (.iload_n 3, [], 0), (.iastore, [], 0), (.aload_n 0, [], 0), (.dup, [], 0), (.getfield 107, [2, 4, 0, 275], 0), (.iload_n 3, [], 0), (.ior, [], 0), (.putfield 107, [2, 4, 0, 275], 0), (.aload_n 0, [], 0), (.getfield 21, [2, 6, 6, 277], 0), (.iload_n 3, [], 0), (.iload_n 2, [], 0)] = some 44 := by decide +kernel
theorem b_Cells_addPair_47 : mx_ck m_Cells_addPair 47 [(.pop, [], 0)] = some 48 := by decide +kernel
theorem d_Cells_addPair_6 : decode m_Cells_addPair.2.1 6 = .ok (.invokevirtual 123, 3) := by decide +kernel
theorem c_Cells_addPair_6 : mx_cv m_Cells_addPair m_Sets_add 123 2 [640, 641, 642, 88, 643] = true := by decide +kernel
theorem d_Cells_addPair_9 : decode m_Cells_addPair.2.1 9 = .ok (.ifCond .eq 39, 3) := by decide +kernel
theorem d_Cells_addPair_17 : decode m_Cells_addPair.2.1 17 = .ok (.invokevirtual 134, 3) := by decide +kernel
theorem c_Cells_addPair_17 : mx_cv m_Cells_addPair m_House_cellOf 134 1 [648, 637, 638, 85, 639] = true := by decide +kernel
theorem d_Cells_addPair_44 : decode m_Cells_addPair.2.1 44 = .ok (.invokevirtual 123, 3) := by decide +kernel
theorem c_Cells_addPair_44 : mx_cv m_Cells_addPair m_Sets_add 123 2 [640, 641, 642, 88, 643] = true := by decide +kernel
theorem d_Cells_addPair_48 : decode m_Cells_addPair.2.1 48 = .ok (.return_, 1) := by decide +kernel
theorem b_Cells_addPairs_0 : mx_ck m_Cells_addPairs 0 [(.iconst 0, [], nI 0), (.istore 4, [], 0)] = some 3 := by decide +kernel
theorem b_Cells_addPairs_3 : mx_ck m_Cells_addPairs 3 [(.iload 4, [], 0), (.aload_n 0, [], 0), (.getfield 28, [2, 7, 9, 279], 0), (.getfield 65, [7, 2, 4, 259], 0), (.getfield 61, [6, 2, 0, 236], 0)] = some 15 := by decide +kernel
theorem b_Cells_addPairs_18 : mx_ck m_Cells_addPairs 18 [(.iload 4, [], 0), (.iload_n 1, [], 0)] = some 21 := by decide +kernel
theorem b_Cells_addPairs_24 : mx_ck m_Cells_addPairs 24 [(.iload_n 2, [], 0)] = some 25 := by decide +kernel
theorem b_Cells_addPairs_28 : mx_ck m_Cells_addPairs 28 [(.iconst 0, [], nI 0)] = some 29 := by decide +kernel
theorem b_Cells_addPairs_29 : mx_ck m_Cells_addPairs 29 [(.istore 5, [], 0)] = some 31 := by decide +kernel
theorem b_Cells_addPairs_31 : mx_ck m_Cells_addPairs 31 [(.iload 5, [], 0), (.aload_n 0, [], 0), (.getfield 28, [2, 7, 9, 279], 0), (.getfield 68, [7, 3, 7, 261], 0), (.getfield 61, [6, 2, 0, 236], 0)] = some 43 := by decide +kernel
theorem b_Cells_addPairs_46 : mx_ck m_Cells_addPairs 46 [(.aload_n 0, [], 0), (.aload_n 0, [], 0), (.getfield 28, [2, 7, 9, 279], 0), (.getfield 65, [7, 2, 4, 259], 0), (.getfield 71, [6, 0, 2, 231], 0), (.iload 4, [], 0), (.iaload, [], 0), (.aload_n 0, [], 0), (.getfield 28, [2, 7, 9, 279], 0), (.getfield 68, [7, 3, 7, 261], 0), (.getfield 71, [6, 0, 2, 231], 0), (.iload 5, [], 0), (.iaload, [], 0), (.iand, [], 0), (.iload_n 3, [], 0)] = some 75 := by decide +kernel
theorem b_Cells_addPairs_78 : mx_ck m_Cells_addPairs 78 [(.iinc 5 1, [], nI 1)] = some 81 := by decide +kernel
theorem b_Cells_addPairs_84 : mx_ck m_Cells_addPairs 84 [(.iinc 4 1, [], nI 1)] = some 87 := by decide +kernel
theorem d_Cells_addPairs_15 : decode m_Cells_addPairs.2.1 15 = .ok (.if_icmp .ge 75, 3) := by decide +kernel
theorem d_Cells_addPairs_21 : decode m_Cells_addPairs.2.1 21 = .ok (.if_icmp .ge 7, 3) := by decide +kernel
theorem d_Cells_addPairs_25 : decode m_Cells_addPairs.2.1 25 = .ok (.goto 4, 3) := by decide +kernel
theorem d_Cells_addPairs_43 : decode m_Cells_addPairs.2.1 43 = .ok (.if_icmp .ge 41, 3) := by decide +kernel
theorem d_Cells_addPairs_75 : decode m_Cells_addPairs.2.1 75 = .ok (.invokevirtual 131, 3) := by decide +kernel
theorem c_Cells_addPairs_75 : mx_cv m_Cells_addPairs m_Cells_addPair 131 2 [666, 668, 14, 87, 669] = true := by decide +kernel
theorem d_Cells_addPairs_81 : decode m_Cells_addPairs.2.1 81 = .ok (.goto (-50), 3) := by decide +kernel
theorem d_Cells_addPairs_87 : decode m_Cells_addPairs.2.1 87 = .ok (.goto (-84), 3) := by decide +kernel
theorem d_Cells_addPairs_90 : decode m_Cells_addPairs.2.1 90 = .ok (.return_, 1) := by decide +kernel
theorem b_Cells_alwaysAnswered_0 : mx_ck m_Cells_alwaysAnswered 0 [(.aload_n 0, [], 0), (.getfield 104, [2, 3, 0, 274], 0), (.iload_n 1, [], 0), (.ishr, [], 0), (.iconst 1, [], nI 1), (.iand, [], 0)] = some 8 := by decide +kernel
theorem b_Cells_alwaysAnswered_11 : mx_ck m_Cells_alwaysAnswered 11 [(.aload_n 0, [], 0), (.getfield 107, [2, 4, 0, 275], 0), (.iload_n 1, [], 0), (.ishr, [], 0), (.iconst 1, [], nI 1), (.iand, [], 0)] = some 19 := by decide +kernel
theorem b_Cells_alwaysAnswered_22 : mx_ck m_Cells_alwaysAnswered 22 [(.iconst 0, [], nI 0)] = some 23 := by decide +kernel
theorem b_Cells_alwaysAnswered_24 : mx_ck m_Cells_alwaysAnswered 24 [(.aload_n 0, [], 0), (.iload_n 1, [], 0)] = some 26 := by decide +kernel
theorem b_Cells_alwaysAnswered_29 : mx_ck m_Cells_alwaysAnswered 29 [(.iconst 0, [], nI 0), (.istore_n 2, [], 0), (.iconst 0, [], nI 0), (.istore_n 3, [], 0)] = some 33 := by decide +kernel
theorem b_Cells_alwaysAnswered_33 : mx_ck m_Cells_alwaysAnswered 33 [(.iload_n 3, [], 0), (.aload_n 0, [], 0), (.getfield 21, [2, 6, 6, 277], 0), (.getfield 61, [6, 2, 0, 236], 0)] = some 41 := by decide +kernel
theorem b_Cells_alwaysAnswered_44 : mx_ck m_Cells_alwaysAnswered 44 [(.aload_n 0, [], 0), (.getfield 48, [2, 13, 35, 285], 0), (.aload_n 0, [], 0), (.getfield 32, [2, 8, 18, 280], 0), (.getfield 157, [7, 0, 2, 255], 0), (.iload_n 3, [], 0), (.iaload, [], 0), (.iaload, [], 0)] = some 58 := by decide +kernel
theorem b_Cells_alwaysAnswered_61 : mx_ck m_Cells_alwaysAnswered 61 [(.iload_n 2, [], 0), (.aload_n 0, [], 0), (.getfield 21, [2, 6, 6, 277], 0), (.getfield 71, [6, 0, 2, 231], 0), (.iload_n 3, [], 0), (.iaload, [], 0), (.ior, [], 0), (.istore_n 2, [], 0)] = some 73 := by decide +kernel
theorem b_Cells_alwaysAnswered_73 : mx_ck m_Cells_alwaysAnswered 73 [(.iinc 3 1, [], nI 1)] = some 76 := by decide +kernel
theorem b_Cells_alwaysAnswered_79 : mx_ck m_Cells_alwaysAnswered 79 [(.aload_n 0, [], 0), (.getfield 95, [2, 1, 0, 272], 0), (.iload_n 2, [], 0), (.iconst (-1), [], (-1)), (.ixor, [], 0), (.iand, [], 0)] = some 87 := by decide +kernel
theorem d_Cells_alwaysAnswered_8 : decode m_Cells_alwaysAnswered.2.1 8 = .ok (.ifCond .ne 14, 3) := by decide +kernel
theorem d_Cells_alwaysAnswered_19 : decode m_Cells_alwaysAnswered.2.1 19 = .ok (.ifCond .eq 5, 3) := by decide +kernel
theorem d_Cells_alwaysAnswered_23 : decode m_Cells_alwaysAnswered.2.1 23 = .ok (.ireturn, 1) := by decide +kernel
theorem d_Cells_alwaysAnswered_26 : decode m_Cells_alwaysAnswered.2.1 26 = .ok (.invokevirtual 153, 3) := by decide +kernel
theorem c_Cells_alwaysAnswered_26 : mx_cv m_Cells_alwaysAnswered m_Cells_openFor 153 1 [725, 727, 18, 87, 728] = true := by decide +kernel
theorem d_Cells_alwaysAnswered_41 : decode m_Cells_alwaysAnswered.2.1 41 = .ok (.if_icmp .ge 38, 3) := by decide +kernel
theorem d_Cells_alwaysAnswered_58 : decode m_Cells_alwaysAnswered.2.1 58 = .ok (.ifCond .eq 15, 3) := by decide +kernel
theorem d_Cells_alwaysAnswered_76 : decode m_Cells_alwaysAnswered.2.1 76 = .ok (.goto (-43), 3) := by decide +kernel
theorem d_Cells_alwaysAnswered_87 : decode m_Cells_alwaysAnswered.2.1 87 = .ok (.ireturn, 1) := by decide +kernel
theorem b_Cells_begin_0 : mx_ck m_Cells_begin 0 [(.aload_n 0, [], 0), (.getfield 12, [2, 0, 2, 271], 0), (.aload_n 1, [], 0)] = some 5 := by decide +kernel
theorem b_Cells_begin_8 : mx_ck m_Cells_begin 8 [(.aload_n 0, [], 0), (.aload_n 1, [], 0)] = some 10 := by decide +kernel
theorem b_Cells_begin_13 : mx_ck m_Cells_begin 13 [(.putfield 95, [2, 1, 0, 272], 0), (.aload_n 0, [], 0), (.aload_n 1, [], 0), (.iconst 2, [], nI 2)] = some 19 := by decide +kernel
theorem b_Cells_begin_22 : mx_ck m_Cells_begin 22 [(.putfield 101, [2, 2, 0, 273], 0), (.aload_n 0, [], 0), (.iconst 0, [], nI 0), (.putfield 104, [2, 3, 0, 274], 0), (.aload_n 0, [], 0), (.iconst 0, [], nI 0), (.putfield 107, [2, 4, 0, 275], 0), (.aload_n 0, [], 0), (.iconst 0, [], nI 0), (.putfield 110, [2, 5, 0, 276], 0), (.aload_n 0, [], 0), (.getfield 21, [2, 6, 6, 277], 0)] = some 44 := by decide +kernel
theorem b_Cells_begin_47 : mx_ck m_Cells_begin 47 [(.aload_n 0, [], 0), (.getfield 28, [2, 7, 9, 279], 0)] = some 51 := by decide +kernel
theorem b_Cells_begin_54 : mx_ck m_Cells_begin 54 [(.aload_n 0, [], 0), (.getfield 32, [2, 8, 18, 280], 0)] = some 58 := by decide +kernel
theorem b_Cells_begin_61 : mx_ck m_Cells_begin 61 [(.aload_n 0, [], 0), (.getfield 35, [2, 9, 27, 281], 0)] = some 65 := by decide +kernel
theorem b_Cells_begin_68 : mx_ck m_Cells_begin 68 [(.aload_n 0, [], 0), (.getfield 38, [2, 10, 30, 282], 0)] = some 72 := by decide +kernel
theorem b_Cells_begin_75 : mx_ck m_Cells_begin 75 [(.iconst 0, [], nI 0), (.istore_n 2, [], 0)] = some 77 := by decide +kernel
theorem b_Cells_begin_77 : mx_ck m_Cells_begin 77 [(.iload_n 2, [], 0), (.aload_n 1, [], 0), (.getfield 117, [3, 4, 0, 178], 0)] = some 82 := by decide +kernel
theorem b_Cells_begin_85 : mx_ck m_Cells_begin 85 [(.aload_n 1, [], 0), (.iload_n 2, [], 0)] = some 87 := by decide +kernel
theorem b_Cells_begin_90 : mx_ck m_Cells_begin 90 [(.istore_n 3, [], 0), (.aload_n 0, [], 0), (.dup, [], 0), (.getfield 104, [2, 3, 0, 274], 0), (.iload_n 3, [], 0), (.ior, [], 0), (.putfield 104, [2, 3, 0, 274], 0), (.aload_n 0, [], 0), (.getfield 21, [2, 6, 6, 277], 0), (.iload_n 3, [], 0), (.iconst 1, [], nI 1)] = some 107 := by decide +kernel
theorem b_Cells_begin_110 : mx_ck m_Cells_begin 110 [(.pop, [], 0), (.iinc 2 1, [], nI 1)] = some 114 := by decide +kernel
theorem b_Cells_begin_117 : mx_ck m_Cells_begin 117 [(.aload_n 0, [], 0), (.iconst 0, [], nI 0), (.iconst 1, [], nI 1)] = some 120 := by decide +kernel
theorem b_Cells_begin_123 : mx_ck m_Cells_begin 123 [(.aload_n 0, [], 0), (.getfield 32, [2, 8, 18, 280], 0), (.getfield 68, [7, 3, 7, 261], 0), (.iconst 0, [], nI 0), (.iconst 1, [], nI 1)] = some 132 := by decide +kernel
theorem b_Cells_begin_135 : mx_ck m_Cells_begin 135 [(.pop, [], 0)] = some 136 := by decide +kernel
theorem d_Cells_begin_5 : decode m_Cells_begin.2.1 5 = .ok (.invokevirtual 88, 3) := by decide +kernel
theorem c_Cells_begin_5 : mx_cv m_Cells_begin m_House_takeFrom 88 1 [617, 547, 548, 85, 549] = true := by decide +kernel
theorem d_Cells_begin_10 : decode m_Cells_begin.2.1 10 = .ok (.invokevirtual 91, 3) := by decide +kernel
theorem c_Cells_begin_10 : mx_cv m_Cells_begin m_House_all 91 0 [618, 602, 603, 85, 604] = true := by decide +kernel
theorem d_Cells_begin_19 : decode m_Cells_begin.2.1 19 = .ok (.invokevirtual 97, 3) := by decide +kernel
theorem c_Cells_begin_19 : mx_cv m_Cells_begin m_House_ofSort 97 1 [619, 620, 621, 85, 622] = true := by decide +kernel
theorem d_Cells_begin_44 : decode m_Cells_begin.2.1 44 = .ok (.invokevirtual 113, 3) := by decide +kernel
theorem c_Cells_begin_44 : mx_cv m_Cells_begin m_Sets_clear 113 0 [623, 624, 625, 88, 626] = true := by decide +kernel
theorem d_Cells_begin_51 : decode m_Cells_begin.2.1 51 = .ok (.invokevirtual 116, 3) := by decide +kernel
theorem c_Cells_begin_51 : mx_cv m_Cells_begin m_Sides_clear 116 0 [627, 628, 629, 89, 630] = true := by decide +kernel
theorem d_Cells_begin_58 : decode m_Cells_begin.2.1 58 = .ok (.invokevirtual 116, 3) := by decide +kernel
theorem c_Cells_begin_58 : mx_cv m_Cells_begin m_Sides_clear 116 0 [627, 628, 629, 89, 630] = true := by decide +kernel
theorem d_Cells_begin_65 : decode m_Cells_begin.2.1 65 = .ok (.invokevirtual 113, 3) := by decide +kernel
theorem c_Cells_begin_65 : mx_cv m_Cells_begin m_Sets_clear 113 0 [623, 624, 625, 88, 626] = true := by decide +kernel
theorem d_Cells_begin_72 : decode m_Cells_begin.2.1 72 = .ok (.invokevirtual 113, 3) := by decide +kernel
theorem c_Cells_begin_72 : mx_cv m_Cells_begin m_Sets_clear 113 0 [623, 624, 625, 88, 626] = true := by decide +kernel
theorem d_Cells_begin_82 : decode m_Cells_begin.2.1 82 = .ok (.if_icmp .ge 35, 3) := by decide +kernel
theorem d_Cells_begin_87 : decode m_Cells_begin.2.1 87 = .ok (.invokevirtual 120, 3) := by decide +kernel
theorem c_Cells_begin_87 : mx_cv m_Cells_begin m_House_cellOfConstant 120 1 [632, 633, 634, 85, 635] = true := by decide +kernel
theorem d_Cells_begin_107 : decode m_Cells_begin.2.1 107 = .ok (.invokevirtual 123, 3) := by decide +kernel
theorem c_Cells_begin_107 : mx_cv m_Cells_begin m_Sets_add 123 2 [640, 641, 642, 88, 643] = true := by decide +kernel
theorem d_Cells_begin_114 : decode m_Cells_begin.2.1 114 = .ok (.goto (-37), 3) := by decide +kernel
theorem d_Cells_begin_120 : decode m_Cells_begin.2.1 120 = .ok (.invokevirtual 127, 3) := by decide +kernel
theorem c_Cells_begin_120 : mx_cv m_Cells_begin m_Cells_addFunction 127 2 [644, 646, 12, 87, 647] = true := by decide +kernel
theorem d_Cells_begin_132 : decode m_Cells_begin.2.1 132 = .ok (.invokevirtual 123, 3) := by decide +kernel
theorem c_Cells_begin_132 : mx_cv m_Cells_begin m_Sets_add 123 2 [640, 641, 642, 88, 643] = true := by decide +kernel
theorem d_Cells_begin_136 : decode m_Cells_begin.2.1 136 = .ok (.return_, 1) := by decide +kernel
theorem b_Cells_holdingAnswers_0 : mx_ck m_Cells_holdingAnswers 0 [(.aload_n 0, [], 0), (.getfield 104, [2, 3, 0, 274], 0), (.iload_n 1, [], 0), (.ishr, [], 0), (.iconst 1, [], nI 1), (.iand, [], 0)] = some 8 := by decide +kernel
theorem b_Cells_holdingAnswers_11 : mx_ck m_Cells_holdingAnswers 11 [(.aload_n 0, [], 0), (.getfield 107, [2, 4, 0, 275], 0), (.iload_n 1, [], 0), (.ishr, [], 0), (.iconst 1, [], nI 1), (.iand, [], 0)] = some 19 := by decide +kernel
theorem b_Cells_holdingAnswers_22 : mx_ck m_Cells_holdingAnswers 22 [(.iconst 0, [], nI 0)] = some 23 := by decide +kernel
theorem b_Cells_holdingAnswers_24 : mx_ck m_Cells_holdingAnswers 24 [(.aload_n 0, [], 0), (.iload_n 1, [], 0)] = some 26 := by decide +kernel
theorem b_Cells_holdingAnswers_29 : mx_ck m_Cells_holdingAnswers 29 [(.aload_n 0, [], 0), (.getfield 95, [2, 1, 0, 272], 0), (.istore_n 3, [], 0), (.iconst 0, [], nI 0), (.istore 4, [], 0)] = some 37 := by decide +kernel
theorem b_Cells_holdingAnswers_37 : mx_ck m_Cells_holdingAnswers 37 [(.iload 4, [], 0), (.aload_n 0, [], 0), (.getfield 21, [2, 6, 6, 277], 0), (.getfield 61, [6, 2, 0, 236], 0)] = some 46 := by decide +kernel
theorem b_Cells_holdingAnswers_49 : mx_ck m_Cells_holdingAnswers 49 [(.iload_n 3, [], 0)] = some 50 := by decide +kernel
theorem b_Cells_holdingAnswers_53 : mx_ck m_Cells_holdingAnswers 53 [(.aload_n 0, [], 0), (.getfield 21, [2, 6, 6, 277], 0), (.getfield 71, [6, 0, 2, 231], 0), (.iload 4, [], 0), (.iaload, [], 0), (.iload_n 2, [], 0), (.ishr, [], 0), (.iconst 1, [], nI 1), (.iand, [], 0)] = some 67 := by decide +kernel
theorem b_Cells_holdingAnswers_70 : mx_ck m_Cells_holdingAnswers 70 [(.iload_n 3, [], 0), (.aload_n 0, [], 0), (.aload_n 0, [], 0), (.getfield 32, [2, 8, 18, 280], 0), (.getfield 157, [7, 0, 2, 255], 0), (.iload 4, [], 0), (.iaload, [], 0)] = some 82 := by decide +kernel
theorem b_Cells_holdingAnswers_85 : mx_ck m_Cells_holdingAnswers 85 [(.iand, [], 0), (.istore_n 3, [], 0)] = some 87 := by decide +kernel
theorem b_Cells_holdingAnswers_87 : mx_ck m_Cells_holdingAnswers 87 [(.iinc 4 1, [], nI 1)] = some 90 := by decide +kernel
theorem b_Cells_holdingAnswers_93 : mx_ck m_Cells_holdingAnswers 93 [(.iload_n 3, [], 0)] = some 94 := by decide +kernel
theorem d_Cells_holdingAnswers_8 : decode m_Cells_holdingAnswers.2.1 8 = .ok (.ifCond .ne 14, 3) := by decide +kernel
theorem d_Cells_holdingAnswers_19 : decode m_Cells_holdingAnswers.2.1 19 = .ok (.ifCond .eq 5, 3) := by decide +kernel
theorem d_Cells_holdingAnswers_23 : decode m_Cells_holdingAnswers.2.1 23 = .ok (.ireturn, 1) := by decide +kernel
theorem d_Cells_holdingAnswers_26 : decode m_Cells_holdingAnswers.2.1 26 = .ok (.invokevirtual 153, 3) := by decide +kernel
theorem c_Cells_holdingAnswers_26 : mx_cv m_Cells_holdingAnswers m_Cells_openFor 153 1 [725, 727, 18, 87, 728] = true := by decide +kernel
theorem d_Cells_holdingAnswers_46 : decode m_Cells_holdingAnswers.2.1 46 = .ok (.if_icmp .ge 47, 3) := by decide +kernel
theorem d_Cells_holdingAnswers_50 : decode m_Cells_holdingAnswers.2.1 50 = .ok (.ifCond .eq 43, 3) := by decide +kernel
theorem d_Cells_holdingAnswers_67 : decode m_Cells_holdingAnswers.2.1 67 = .ok (.ifCond .eq 20, 3) := by decide +kernel
theorem d_Cells_holdingAnswers_82 : decode m_Cells_holdingAnswers.2.1 82 = .ok (.invokevirtual 160, 3) := by decide +kernel
theorem c_Cells_holdingAnswers_82 : mx_cv m_Cells_holdingAnswers m_Cells_holdingAnswersFrom 160 1 [729, 731, 19, 87, 732] = true := by decide +kernel
theorem d_Cells_holdingAnswers_90 : decode m_Cells_holdingAnswers.2.1 90 = .ok (.goto (-53), 3) := by decide +kernel
theorem d_Cells_holdingAnswers_94 : decode m_Cells_holdingAnswers.2.1 94 = .ok (.ireturn, 1) := by decide +kernel
theorem b_Cells_holdingAnswersFrom_0 : mx_ck m_Cells_holdingAnswersFrom 0 [(.aload_n 0, [], 0), (.getfield 48, [2, 13, 35, 285], 0), (.iload_n 1, [], 0), (.iaload, [], 0)] = some 6 := by decide +kernel
theorem b_Cells_holdingAnswersFrom_9 : mx_ck m_Cells_holdingAnswersFrom 9 [(.iconst 0, [], nI 0)] = some 10 := by decide +kernel
theorem b_Cells_holdingAnswersFrom_11 : mx_ck m_Cells_holdingAnswersFrom 11 [(.aload_n 0, [], 0), (.getfield 95, [2, 1, 0, 272], 0), (.istore_n 2, [], 0), (.iconst 0, [], nI 0), (.istore_n 3, [], 0)] = some 18 := by decide +kernel
theorem b_Cells_holdingAnswersFrom_18 : mx_ck m_Cells_holdingAnswersFrom 18 [(.iload_n 3, [], 0), (.aload_n 0, [], 0), (.getfield 21, [2, 6, 6, 277], 0), (.getfield 61, [6, 2, 0, 236], 0)] = some 26 := by decide +kernel
theorem b_Cells_holdingAnswersFrom_29 : mx_ck m_Cells_holdingAnswersFrom 29 [(.aload_n 0, [], 0), (.getfield 48, [2, 13, 35, 285], 0), (.iload_n 1, [], 0), (.aload_n 0, [], 0), (.getfield 32, [2, 8, 18, 280], 0), (.getfield 163, [7, 1, 3, 257], 0), (.iload_n 3, [], 0), (.iaload, [], 0), (.iconst (-1), [], (-1)), (.ixor, [], 0), (.iand, [], 0), (.iaload, [], 0)] = some 47 := by decide +kernel
theorem b_Cells_holdingAnswersFrom_50 : mx_ck m_Cells_holdingAnswersFrom 50 [(.iload_n 2, [], 0), (.aload_n 0, [], 0), (.getfield 21, [2, 6, 6, 277], 0), (.getfield 71, [6, 0, 2, 231], 0), (.iload_n 3, [], 0), (.iaload, [], 0), (.iand, [], 0), (.istore_n 2, [], 0)] = some 62 := by decide +kernel
theorem b_Cells_holdingAnswersFrom_62 : mx_ck m_Cells_holdingAnswersFrom 62 [(.iinc 3 1, [], nI 1)] = some 65 := by decide +kernel
theorem b_Cells_holdingAnswersFrom_68 : mx_ck m_Cells_holdingAnswersFrom 68 [(.iload_n 2, [], 0)] = some 69 := by decide +kernel
theorem d_Cells_holdingAnswersFrom_6 : decode m_Cells_holdingAnswersFrom.2.1 6 = .ok (.ifCond .eq 5, 3) := by decide +kernel
theorem d_Cells_holdingAnswersFrom_10 : decode m_Cells_holdingAnswersFrom.2.1 10 = .ok (.ireturn, 1) := by decide +kernel
theorem d_Cells_holdingAnswersFrom_26 : decode m_Cells_holdingAnswersFrom.2.1 26 = .ok (.if_icmp .ge 42, 3) := by decide +kernel
theorem d_Cells_holdingAnswersFrom_47 : decode m_Cells_holdingAnswersFrom.2.1 47 = .ok (.ifCond .eq 15, 3) := by decide +kernel
theorem d_Cells_holdingAnswersFrom_65 : decode m_Cells_holdingAnswersFrom.2.1 65 = .ok (.goto (-47), 3) := by decide +kernel
theorem d_Cells_holdingAnswersFrom_69 : decode m_Cells_holdingAnswersFrom.2.1 69 = .ok (.ireturn, 1) := by decide +kernel
theorem b_Cells_holdingSide_0 : mx_ck m_Cells_holdingSide 0 [(.aload_n 0, [], 0), (.getfield 104, [2, 3, 0, 274], 0), (.iload_n 1, [], 0), (.ishr, [], 0), (.iconst 1, [], nI 1), (.iand, [], 0)] = some 8 := by decide +kernel
theorem b_Cells_holdingSide_11 : mx_ck m_Cells_holdingSide 11 [(.aload_n 0, [], 0), (.getfield 110, [2, 5, 0, 276], 0), (.iload_n 1, [], 0), (.ishr, [], 0), (.iconst 1, [], nI 1), (.iand, [], 0)] = some 19 := by decide +kernel
theorem b_Cells_holdingSide_22 : mx_ck m_Cells_holdingSide 22 [(.iconst 0, [], nI 0)] = some 23 := by decide +kernel
theorem b_Cells_holdingSide_24 : mx_ck m_Cells_holdingSide 24 [(.iload_n 2, [], 0)] = some 25 := by decide +kernel
theorem b_Cells_holdingSide_28 : mx_ck m_Cells_holdingSide 28 [(.aload_n 0, [], 0), (.getfield 28, [2, 7, 9, 279], 0), (.getfield 157, [7, 0, 2, 255], 0)] = some 35 := by decide +kernel
theorem b_Cells_holdingSide_38 : mx_ck m_Cells_holdingSide 38 [(.aload_n 0, [], 0), (.getfield 28, [2, 7, 9, 279], 0), (.getfield 163, [7, 1, 3, 257], 0)] = some 45 := by decide +kernel
theorem b_Cells_holdingSide_45 : mx_ck m_Cells_holdingSide 45 [(.astore_n 3, [], 0), (.iload_n 2, [], 0)] = some 47 := by decide +kernel
theorem b_Cells_holdingSide_50 : mx_ck m_Cells_holdingSide 50 [(.aload_n 0, [], 0), (.getfield 28, [2, 7, 9, 279], 0), (.getfield 68, [7, 3, 7, 261], 0)] = some 57 := by decide +kernel
theorem b_Cells_holdingSide_60 : mx_ck m_Cells_holdingSide 60 [(.aload_n 0, [], 0), (.getfield 28, [2, 7, 9, 279], 0), (.getfield 65, [7, 2, 4, 259], 0)] = some 67 := by decide +kernel
theorem b_Cells_holdingSide_67 : mx_ck m_Cells_holdingSide 67 [(.astore 4, [], 0), (.aload_n 0, [], 0), (.getfield 95, [2, 1, 0, 272], 0), (.istore 5, [], 0), (.iconst 0, [], nI 0), (.istore 6, [], 0)] = some 78 := by decide +kernel
theorem b_Cells_holdingSide_78 : mx_ck m_Cells_holdingSide 78 [(.iload 6, [], 0), (.aload_n 0, [], 0), (.getfield 21, [2, 6, 6, 277], 0), (.getfield 61, [6, 2, 0, 236], 0)] = some 87 := by decide +kernel
theorem b_Cells_holdingSide_90 : mx_ck m_Cells_holdingSide 90 [(.aload_n 0, [], 0), (.iload_n 1, [], 0), (.aload_n 3, [], 0), (.iload 6, [], 0), (.iaload, [], 0), (.aload 4, [], 0)] = some 98 := by decide +kernel
theorem b_Cells_holdingSide_104 : mx_ck m_Cells_holdingSide 104 [(.iload 5, [], 0), (.aload_n 0, [], 0), (.getfield 21, [2, 6, 6, 277], 0), (.getfield 71, [6, 0, 2, 231], 0), (.iload 6, [], 0), (.iaload, [], 0), (.iand, [], 0), (.istore 5, [], 0)] = some 119 := by decide +kernel
theorem b_Cells_holdingSide_119 : mx_ck m_Cells_holdingSide 119 [(.iinc 6 1, [], nI 1)] = some 122 := by decide +kernel
theorem b_Cells_holdingSide_125 : mx_ck m_Cells_holdingSide 125 [(.iload 5, [], 0)] = some 127 := by decide +kernel
theorem d_Cells_holdingSide_8 : decode m_Cells_holdingSide.2.1 8 = .ok (.ifCond .ne 14, 3) := by decide +kernel
theorem d_Cells_holdingSide_19 : decode m_Cells_holdingSide.2.1 19 = .ok (.ifCond .eq 5, 3) := by decide +kernel
theorem d_Cells_holdingSide_23 : decode m_Cells_holdingSide.2.1 23 = .ok (.ireturn, 1) := by decide +kernel
theorem d_Cells_holdingSide_25 : decode m_Cells_holdingSide.2.1 25 = .ok (.ifCond .ne 13, 3) := by decide +kernel
theorem d_Cells_holdingSide_35 : decode m_Cells_holdingSide.2.1 35 = .ok (.goto 10, 3) := by decide +kernel
theorem d_Cells_holdingSide_47 : decode m_Cells_holdingSide.2.1 47 = .ok (.ifCond .ne 13, 3) := by decide +kernel
theorem d_Cells_holdingSide_57 : decode m_Cells_holdingSide.2.1 57 = .ok (.goto 10, 3) := by decide +kernel
theorem d_Cells_holdingSide_87 : decode m_Cells_holdingSide.2.1 87 = .ok (.if_icmp .ge 38, 3) := by decide +kernel
theorem d_Cells_holdingSide_98 : decode m_Cells_holdingSide.2.1 98 = .ok (.invokevirtual 166, 3) := by decide +kernel
theorem c_Cells_holdingSide_98 : mx_cv m_Cells_holdingSide m_Cells_pairsInto 166 3 [749, 751, 20, 87, 752] = true := by decide +kernel
theorem d_Cells_holdingSide_101 : decode m_Cells_holdingSide.2.1 101 = .ok (.ifCond .eq 18, 3) := by decide +kernel
theorem d_Cells_holdingSide_122 : decode m_Cells_holdingSide.2.1 122 = .ok (.goto (-44), 3) := by decide +kernel
theorem d_Cells_holdingSide_127 : decode m_Cells_holdingSide.2.1 127 = .ok (.ireturn, 1) := by decide +kernel
theorem b_Cells_inOrder_0 : mx_ck m_Cells_inOrder 0 [(.iload_n 1, [], 0), (.istore_n 2, [], 0), (.iconst 0, [], nI 0), (.istore_n 3, [], 0)] = some 4 := by decide +kernel
theorem b_Cells_inOrder_4 : mx_ck m_Cells_inOrder 4 [(.iload_n 3, [], 0), (.sipush 256, [], nI 256)] = some 8 := by decide +kernel
theorem b_Cells_inOrder_11 : mx_ck m_Cells_inOrder 11 [(.aload_n 0, [], 0), (.getfield 21, [2, 6, 6, 277], 0), (.getfield 140, [6, 1, 3, 234], 0), (.iload_n 3, [], 0), (.iaload, [], 0)] = some 20 := by decide +kernel
theorem b_Cells_inOrder_23 : mx_ck m_Cells_inOrder 23 [(.iload_n 2, [], 0)] = some 24 := by decide +kernel
theorem b_Cells_inOrder_27 : mx_ck m_Cells_inOrder 27 [(.iload_n 3, [], 0)] = some 28 := by decide +kernel
theorem b_Cells_inOrder_29 : mx_ck m_Cells_inOrder 29 [(.iinc 2 (-1), [], (-1))] = some 32 := by decide +kernel
theorem b_Cells_inOrder_32 : mx_ck m_Cells_inOrder 32 [(.iinc 3 1, [], nI 1)] = some 35 := by decide +kernel
theorem b_Cells_inOrder_38 : mx_ck m_Cells_inOrder 38 [(.ldc 152, [687], (-1000000))] = some 40 := by decide +kernel
theorem d_Cells_inOrder_8 : decode m_Cells_inOrder.2.1 8 = .ok (.if_icmp .ge 30, 3) := by decide +kernel
theorem d_Cells_inOrder_20 : decode m_Cells_inOrder.2.1 20 = .ok (.ifCond .eq 12, 3) := by decide +kernel
theorem d_Cells_inOrder_24 : decode m_Cells_inOrder.2.1 24 = .ok (.ifCond .ne 5, 3) := by decide +kernel
theorem d_Cells_inOrder_28 : decode m_Cells_inOrder.2.1 28 = .ok (.ireturn, 1) := by decide +kernel
theorem d_Cells_inOrder_35 : decode m_Cells_inOrder.2.1 35 = .ok (.goto (-31), 3) := by decide +kernel
theorem d_Cells_inOrder_40 : decode m_Cells_inOrder.2.1 40 = .ok (.ireturn, 1) := by decide +kernel
theorem b_Cells_init_0 : mx_ck m_Cells_init 0 [(.aload_n 0, [], 0)] = some 1 := by decide +kernel
theorem b_Cells_init_4 : mx_ck m_Cells_init 4 [(.aload_n 0, [], 0)] = some 5 := by decide +kernel
theorem b_Cells_init_8 : mx_ck m_Cells_init 8 [(.dup, [], 0)] = some 9 := by decide +kernel
theorem b_Cells_init_15 : mx_ck m_Cells_init 15 [(.aload_n 0, [], 0)] = some 16 := by decide +kernel
theorem b_Cells_init_19 : mx_ck m_Cells_init 19 [(.dup, [], 0)] = some 20 := by decide +kernel
theorem b_Cells_init_26 : mx_ck m_Cells_init 26 [(.aload_n 0, [], 0)] = some 27 := by decide +kernel
theorem b_Cells_init_30 : mx_ck m_Cells_init 30 [(.dup, [], 0)] = some 31 := by decide +kernel
theorem b_Cells_init_37 : mx_ck m_Cells_init 37 [(.aload_n 0, [], 0)] = some 38 := by decide +kernel
theorem b_Cells_init_41 : mx_ck m_Cells_init 41 [(.dup, [], 0)] = some 42 := by decide +kernel
theorem b_Cells_init_48 : mx_ck m_Cells_init 48 [(.aload_n 0, [], 0)] = some 49 := by decide +kernel
theorem b_Cells_init_52 : mx_ck m_Cells_init 52 [(.dup, [], 0)] = some 53 := by decide +kernel
theorem b_Cells_init_59 : mx_ck m_Cells_init 59 [(.aload_n 0, [], 0)] = some 60 := by decide +kernel
theorem b_Cells_init_63 : mx_ck m_Cells_init 63 [(.dup, [], 0)] = some 64 := by decide +kernel
theorem b_Cells_init_70 : mx_ck m_Cells_init 70 [(.aload_n 0, [], 0), (.sipush 256, [], nI 256)] = some 74 := by decide +kernel
theorem b_Cells_init_79 : mx_ck m_Cells_init 79 [(.aload_n 0, [], 0), (.sipush 256, [], nI 256)] = some 83 := by decide +kernel
theorem b_Cells_init_88 : mx_ck m_Cells_init 88 [(.aload_n 0, [], 0), (.sipush 256, [], nI 256)] = some 92 := by decide +kernel
theorem b_Cells_init_97 : mx_ck m_Cells_init 97 [(.aload_n 0, [], 0), (.bipush 8, [], nI 8)] = some 100 := by decide +kernel
theorem b_Cells_init_105 : mx_ck m_Cells_init 105 [(.aload_n 0, [], 0), (.bipush 8, [], nI 8)] = some 108 := by decide +kernel
theorem d_Cells_init_1 : decode m_Cells_init.2.1 1 = .ok (.invokespecial 3, 3) := by decide +kernel
theorem d_Cells_init_5 : decode m_Cells_init.2.1 5 = .ok (.new 9, 3) := by decide +kernel
theorem d_Cells_init_9 : decode m_Cells_init.2.1 9 = .ok (.invokespecial 11, 3) := by decide +kernel
theorem d_Cells_init_12 : decode m_Cells_init.2.1 12 = .ok (.putfield 12, 3) := by decide +kernel
theorem d_Cells_init_16 : decode m_Cells_init.2.1 16 = .ok (.new 18, 3) := by decide +kernel
theorem d_Cells_init_20 : decode m_Cells_init.2.1 20 = .ok (.invokespecial 20, 3) := by decide +kernel
theorem d_Cells_init_23 : decode m_Cells_init.2.1 23 = .ok (.putfield 21, 3) := by decide +kernel
theorem d_Cells_init_27 : decode m_Cells_init.2.1 27 = .ok (.new 25, 3) := by decide +kernel
theorem d_Cells_init_31 : decode m_Cells_init.2.1 31 = .ok (.invokespecial 27, 3) := by decide +kernel
theorem d_Cells_init_34 : decode m_Cells_init.2.1 34 = .ok (.putfield 28, 3) := by decide +kernel
theorem d_Cells_init_38 : decode m_Cells_init.2.1 38 = .ok (.new 25, 3) := by decide +kernel
theorem d_Cells_init_42 : decode m_Cells_init.2.1 42 = .ok (.invokespecial 27, 3) := by decide +kernel
theorem d_Cells_init_45 : decode m_Cells_init.2.1 45 = .ok (.putfield 32, 3) := by decide +kernel
theorem d_Cells_init_49 : decode m_Cells_init.2.1 49 = .ok (.new 18, 3) := by decide +kernel
theorem d_Cells_init_53 : decode m_Cells_init.2.1 53 = .ok (.invokespecial 20, 3) := by decide +kernel
theorem d_Cells_init_56 : decode m_Cells_init.2.1 56 = .ok (.putfield 35, 3) := by decide +kernel
theorem d_Cells_init_60 : decode m_Cells_init.2.1 60 = .ok (.new 18, 3) := by decide +kernel
theorem d_Cells_init_64 : decode m_Cells_init.2.1 64 = .ok (.invokespecial 20, 3) := by decide +kernel
theorem d_Cells_init_67 : decode m_Cells_init.2.1 67 = .ok (.putfield 38, 3) := by decide +kernel
theorem d_Cells_init_74 : decode m_Cells_init.2.1 74 = .ok (.newarray .int, 2) := by decide +kernel
theorem d_Cells_init_76 : decode m_Cells_init.2.1 76 = .ok (.putfield 41, 3) := by decide +kernel
theorem d_Cells_init_83 : decode m_Cells_init.2.1 83 = .ok (.newarray .int, 2) := by decide +kernel
theorem d_Cells_init_85 : decode m_Cells_init.2.1 85 = .ok (.putfield 45, 3) := by decide +kernel
theorem d_Cells_init_92 : decode m_Cells_init.2.1 92 = .ok (.newarray .int, 2) := by decide +kernel
theorem d_Cells_init_94 : decode m_Cells_init.2.1 94 = .ok (.putfield 48, 3) := by decide +kernel
theorem d_Cells_init_100 : decode m_Cells_init.2.1 100 = .ok (.newarray .int, 2) := by decide +kernel
theorem d_Cells_init_102 : decode m_Cells_init.2.1 102 = .ok (.putfield 51, 3) := by decide +kernel
theorem d_Cells_init_108 : decode m_Cells_init.2.1 108 = .ok (.newarray .int, 2) := by decide +kernel
theorem d_Cells_init_110 : decode m_Cells_init.2.1 110 = .ok (.putfield 54, 3) := by decide +kernel
theorem d_Cells_init_113 : decode m_Cells_init.2.1 113 = .ok (.return_, 1) := by decide +kernel
theorem b_Cells_leastHeight_0 : mx_ck m_Cells_leastHeight 0 [(.iconst 0, [], nI 0), (.istore_n 3, [], 0)] = some 2 := by decide +kernel
theorem b_Cells_leastHeight_2 : mx_ck m_Cells_leastHeight 2 [(.iload_n 3, [], 0), (.aload_n 0, [], 0), (.getfield 21, [2, 6, 6, 277], 0), (.getfield 61, [6, 2, 0, 236], 0)] = some 10 := by decide +kernel
theorem b_Cells_leastHeight_13 : mx_ck m_Cells_leastHeight 13 [(.aload_n 0, [], 0), (.getfield 21, [2, 6, 6, 277], 0), (.getfield 71, [6, 0, 2, 231], 0), (.iload_n 3, [], 0), (.iaload, [], 0), (.istore 4, [], 0), (.iload 4, [], 0), (.iload_n 1, [], 0), (.iand, [], 0), (.iload_n 1, [], 0)] = some 29 := by decide +kernel
theorem b_Cells_leastHeight_32 : mx_ck m_Cells_leastHeight 32 [(.iload 4, [], 0), (.iload_n 2, [], 0), (.iand, [], 0)] = some 36 := by decide +kernel
theorem b_Cells_leastHeight_39 : mx_ck m_Cells_leastHeight 39 [(.aload_n 0, [], 0), (.getfield 21, [2, 6, 6, 277], 0), (.getfield 140, [6, 1, 3, 234], 0), (.iload 4, [], 0), (.iaload, [], 0)] = some 49 := by decide +kernel
theorem b_Cells_leastHeight_50 : mx_ck m_Cells_leastHeight 50 [(.iinc 3 1, [], nI 1)] = some 53 := by decide +kernel
theorem b_Cells_leastHeight_56 : mx_ck m_Cells_leastHeight 56 [(.ldc 152, [687], (-1000000))] = some 58 := by decide +kernel
theorem d_Cells_leastHeight_10 : decode m_Cells_leastHeight.2.1 10 = .ok (.if_icmp .ge 46, 3) := by decide +kernel
theorem d_Cells_leastHeight_29 : decode m_Cells_leastHeight.2.1 29 = .ok (.if_icmp .ne 21, 3) := by decide +kernel
theorem d_Cells_leastHeight_36 : decode m_Cells_leastHeight.2.1 36 = .ok (.ifCond .ne 14, 3) := by decide +kernel
theorem d_Cells_leastHeight_49 : decode m_Cells_leastHeight.2.1 49 = .ok (.ireturn, 1) := by decide +kernel
theorem d_Cells_leastHeight_53 : decode m_Cells_leastHeight.2.1 53 = .ok (.goto (-51), 3) := by decide +kernel
theorem d_Cells_leastHeight_58 : decode m_Cells_leastHeight.2.1 58 = .ok (.ireturn, 1) := by decide +kernel
theorem b_Cells_lyingIn_0 : mx_ck m_Cells_lyingIn 0 [(.iconst 0, [], nI 0), (.istore_n 2, [], 0), (.iconst 0, [], nI 0), (.istore_n 3, [], 0)] = some 4 := by decide +kernel
theorem b_Cells_lyingIn_4 : mx_ck m_Cells_lyingIn 4 [(.iload_n 3, [], 0), (.aload_n 0, [], 0), (.getfield 12, [2, 0, 2, 271], 0), (.getfield 149, [3, 3, 0, 175], 0)] = some 12 := by decide +kernel
theorem b_Cells_lyingIn_15 : mx_ck m_Cells_lyingIn 15 [(.iload_n 2, [], 0), (.aload_n 0, [], 0), (.getfield 51, [2, 14, 36, 286], 0), (.iload_n 3, [], 0), (.iaload, [], 0), (.iload_n 1, [], 0), (.ishr, [], 0), (.iconst 1, [], nI 1), (.iand, [], 0), (.iload_n 3, [], 0), (.ishl, [], 0), (.ior, [], 0), (.istore_n 2, [], 0), (.iinc 3 1, [], nI 1)] = some 33 := by decide +kernel
theorem b_Cells_lyingIn_36 : mx_ck m_Cells_lyingIn 36 [(.iload_n 2, [], 0)] = some 37 := by decide +kernel
theorem d_Cells_lyingIn_12 : decode m_Cells_lyingIn.2.1 12 = .ok (.if_icmp .ge 24, 3) := by decide +kernel
theorem d_Cells_lyingIn_33 : decode m_Cells_lyingIn.2.1 33 = .ok (.goto (-29), 3) := by decide +kernel
theorem d_Cells_lyingIn_37 : decode m_Cells_lyingIn.2.1 37 = .ok (.ireturn, 1) := by decide +kernel
theorem b_Cells_measure_0 : mx_ck m_Cells_measure 0 [(.aload_n 0, [], 0), (.aload_n 1, [], 0)] = some 2 := by decide +kernel
theorem b_Cells_measure_5 : mx_ck m_Cells_measure 5 [(.iconst 0, [], nI 0), (.istore_n 2, [], 0), (.iconst 2, [], nI 2), (.istore_n 3, [], 0)] = some 9 := by decide +kernel
theorem b_Cells_measure_9 : mx_ck m_Cells_measure 9 [(.iload_n 3, [], 0), (.sipush 257, [], nI 257)] = some 13 := by decide +kernel
theorem b_Cells_measure_16 : mx_ck m_Cells_measure 16 [(.iload_n 2, [], 0), (.aload_n 0, [], 0), (.getfield 21, [2, 6, 6, 277], 0), (.getfield 61, [6, 2, 0, 236], 0)] = some 24 := by decide +kernel
theorem b_Cells_measure_27 : mx_ck m_Cells_measure 27 [(.aload_n 0, [], 0), (.getfield 28, [2, 7, 9, 279], 0), (.getfield 65, [7, 2, 4, 259], 0), (.getfield 61, [6, 2, 0, 236], 0), (.istore 4, [], 0), (.aload_n 0, [], 0), (.getfield 28, [2, 7, 9, 279], 0), (.getfield 68, [7, 3, 7, 261], 0), (.getfield 61, [6, 2, 0, 236], 0), (.istore 5, [], 0), (.aload_n 0, [], 0), (.getfield 32, [2, 8, 18, 280], 0), (.getfield 65, [7, 2, 4, 259], 0), (.getfield 61, [6, 2, 0, 236], 0), (.istore 6, [], 0), (.aload_n 0, [], 0), (.getfield 32, [2, 8, 18, 280], 0), (.getfield 68, [7, 3, 7, 261], 0), (.getfield 61, [6, 2, 0, 236], 0), (.istore 7, [], 0), (.aload_n 0, [], 0), (.getfield 21, [2, 6, 6, 277], 0), (.getfield 61, [6, 2, 0, 236], 0), (.istore 8, [], 0), (.iload_n 2, [], 0), (.istore 9, [], 0)] = some 87 := by decide +kernel
theorem b_Cells_measure_87 : mx_ck m_Cells_measure 87 [(.iload 9, [], 0), (.iload 8, [], 0)] = some 91 := by decide +kernel
theorem b_Cells_measure_94 : mx_ck m_Cells_measure 94 [(.aload_n 0, [], 0), (.getfield 28, [2, 7, 9, 279], 0), (.aload_n 0, [], 0), (.getfield 12, [2, 0, 2, 271], 0), (.iconst 1, [], nI 1), (.iload 9, [], 0), (.aload_n 0, [], 0), (.getfield 21, [2, 6, 6, 277], 0), (.getfield 71, [6, 0, 2, 231], 0), (.iload 9, [], 0), (.iaload, [], 0)] = some 115 := by decide +kernel
theorem b_Cells_measure_118 : mx_ck m_Cells_measure 118 [(.aload_n 0, [], 0), (.getfield 32, [2, 8, 18, 280], 0), (.aload_n 0, [], 0), (.getfield 12, [2, 0, 2, 271], 0), (.iconst 2, [], nI 2), (.iload 9, [], 0), (.aload_n 0, [], 0), (.getfield 21, [2, 6, 6, 277], 0), (.getfield 71, [6, 0, 2, 231], 0), (.iload 9, [], 0), (.iaload, [], 0)] = some 139 := by decide +kernel
theorem b_Cells_measure_142 : mx_ck m_Cells_measure 142 [(.iinc 9 1, [], nI 1)] = some 145 := by decide +kernel
theorem b_Cells_measure_148 : mx_ck m_Cells_measure 148 [(.iload 8, [], 0), (.istore_n 2, [], 0), (.aload_n 0, [], 0), (.iload 4, [], 0), (.iload 5, [], 0), (.iload_n 3, [], 0)] = some 157 := by decide +kernel
theorem b_Cells_measure_160 : mx_ck m_Cells_measure 160 [(.aload_n 0, [], 0), (.iload 6, [], 0), (.iload 7, [], 0), (.iload_n 3, [], 0)] = some 166 := by decide +kernel
theorem b_Cells_measure_169 : mx_ck m_Cells_measure 169 [(.iinc 3 1, [], nI 1)] = some 172 := by decide +kernel
theorem b_Cells_measure_175 : mx_ck m_Cells_measure 175 [(.aload_n 0, [], 0)] = some 176 := by decide +kernel
theorem d_Cells_measure_2 : decode m_Cells_measure.2.1 2 = .ok (.invokevirtual 57, 3) := by decide +kernel
theorem c_Cells_measure_2 : mx_cv m_Cells_measure m_Cells_begin 57 1 [613, 615, 11, 87, 616] = true := by decide +kernel
theorem d_Cells_measure_13 : decode m_Cells_measure.2.1 13 = .ok (.if_icmp .gt 162, 3) := by decide +kernel
theorem d_Cells_measure_24 : decode m_Cells_measure.2.1 24 = .ok (.if_icmp .ge 151, 3) := by decide +kernel
theorem d_Cells_measure_91 : decode m_Cells_measure.2.1 91 = .ok (.if_icmp .ge 57, 3) := by decide +kernel
theorem d_Cells_measure_115 : decode m_Cells_measure.2.1 115 = .ok (.invokevirtual 74, 3) := by decide +kernel
theorem c_Cells_measure_115 : mx_cv m_Cells_measure m_Sides_see 74 4 [649, 650, 651, 89, 652] = true := by decide +kernel
theorem d_Cells_measure_139 : decode m_Cells_measure.2.1 139 = .ok (.invokevirtual 74, 3) := by decide +kernel
theorem c_Cells_measure_139 : mx_cv m_Cells_measure m_Sides_see 74 4 [649, 650, 651, 89, 652] = true := by decide +kernel
theorem d_Cells_measure_145 : decode m_Cells_measure.2.1 145 = .ok (.goto (-58), 3) := by decide +kernel
theorem d_Cells_measure_157 : decode m_Cells_measure.2.1 157 = .ok (.invokevirtual 78, 3) := by decide +kernel
theorem c_Cells_measure_157 : mx_cv m_Cells_measure m_Cells_addPairs 78 3 [662, 664, 13, 87, 665] = true := by decide +kernel
theorem d_Cells_measure_166 : decode m_Cells_measure.2.1 166 = .ok (.invokevirtual 82, 3) := by decide +kernel
theorem c_Cells_measure_166 : mx_cv m_Cells_measure m_Cells_addCases 82 3 [670, 672, 15, 87, 673] = true := by decide +kernel
theorem d_Cells_measure_172 : decode m_Cells_measure.2.1 172 = .ok (.goto (-163), 3) := by decide +kernel
theorem d_Cells_measure_176 : decode m_Cells_measure.2.1 176 = .ok (.invokevirtual 85, 3) := by decide +kernel
theorem c_Cells_measure_176 : mx_cv m_Cells_measure m_Cells_relate 85 0 [678, 680, 17, 87, 681] = true := by decide +kernel
theorem d_Cells_measure_179 : decode m_Cells_measure.2.1 179 = .ok (.return_, 1) := by decide +kernel
theorem b_Cells_openFor_0 : mx_ck m_Cells_openFor 0 [(.aload_n 0, [], 0), (.getfield 48, [2, 13, 35, 285], 0), (.iconst 0, [], nI 0)] = some 5 := by decide +kernel
theorem b_Cells_openFor_8 : mx_ck m_Cells_openFor 8 [(.iconst 0, [], nI 0), (.istore_n 2, [], 0)] = some 10 := by decide +kernel
theorem b_Cells_openFor_10 : mx_ck m_Cells_openFor 10 [(.iload_n 2, [], 0), (.aload_n 0, [], 0), (.getfield 38, [2, 10, 30, 282], 0), (.getfield 61, [6, 2, 0, 236], 0)] = some 18 := by decide +kernel
theorem b_Cells_openFor_21 : mx_ck m_Cells_openFor 21 [(.aload_n 0, [], 0), (.getfield 48, [2, 13, 35, 285], 0), (.aload_n 0, [], 0), (.getfield 38, [2, 10, 30, 282], 0), (.getfield 71, [6, 0, 2, 231], 0), (.iload_n 2, [], 0), (.iaload, [], 0), (.aload_n 0, [], 0), (.getfield 45, [2, 12, 34, 284], 0), (.aload_n 0, [], 0), (.getfield 38, [2, 10, 30, 282], 0), (.getfield 71, [6, 0, 2, 231], 0), (.iload_n 2, [], 0), (.iaload, [], 0), (.iaload, [], 0), (.iload_n 1, [], 0), (.ishr, [], 0), (.iconst 1, [], nI 1), (.iand, [], 0), (.iastore, [], 0), (.iinc 2 1, [], nI 1)] = some 56 := by decide +kernel
theorem b_Cells_openFor_59 : mx_ck m_Cells_openFor 59 [(.iconst 1, [], nI 1), (.istore_n 2, [], 0)] = some 61 := by decide +kernel
theorem b_Cells_openFor_61 : mx_ck m_Cells_openFor 61 [(.iload_n 2, [], 0), (.sipush 256, [], nI 256)] = some 65 := by decide +kernel
theorem b_Cells_openFor_68 : mx_ck m_Cells_openFor 68 [(.iconst 0, [], nI 0), (.istore_n 3, [], 0)] = some 70 := by decide +kernel
theorem b_Cells_openFor_70 : mx_ck m_Cells_openFor 70 [(.iload_n 3, [], 0), (.sipush 256, [], nI 256)] = some 74 := by decide +kernel
theorem b_Cells_openFor_77 : mx_ck m_Cells_openFor 77 [(.aload_n 0, [], 0), (.getfield 101, [2, 2, 0, 273], 0), (.iload_n 2, [], 0), (.iand, [], 0)] = some 83 := by decide +kernel
theorem b_Cells_openFor_86 : mx_ck m_Cells_openFor 86 [(.aload_n 0, [], 0), (.getfield 48, [2, 13, 35, 285], 0), (.iload_n 3, [], 0), (.dup2, [], 0), (.iaload, [], 0), (.aload_n 0, [], 0), (.getfield 48, [2, 13, 35, 285], 0), (.iload_n 3, [], 0), (.iload_n 2, [], 0), (.ior, [], 0), (.iaload, [], 0), (.ior, [], 0), (.iastore, [], 0), (.iinc 3 1, [], nI 1)] = some 106 := by decide +kernel
theorem b_Cells_openFor_109 : mx_ck m_Cells_openFor 109 [(.iload_n 2, [], 0), (.iconst 1, [], nI 1), (.ishl, [], 0), (.istore_n 2, [], 0)] = some 113 := by decide +kernel
theorem d_Cells_openFor_5 : decode m_Cells_openFor.2.1 5 = .ok (.invokestatic 143, 3) := by decide +kernel
theorem c_Cells_openFor_5 : mx_cs m_Cells_openFor m_fill 143 2 [682, 110, 83, 111] = true := by decide +kernel
theorem d_Cells_openFor_18 : decode m_Cells_openFor.2.1 18 = .ok (.if_icmp .ge 41, 3) := by decide +kernel
theorem d_Cells_openFor_56 : decode m_Cells_openFor.2.1 56 = .ok (.goto (-46), 3) := by decide +kernel
theorem d_Cells_openFor_65 : decode m_Cells_openFor.2.1 65 = .ok (.if_icmp .ge 51, 3) := by decide +kernel
theorem d_Cells_openFor_74 : decode m_Cells_openFor.2.1 74 = .ok (.if_icmp .ge 35, 3) := by decide +kernel
theorem d_Cells_openFor_83 : decode m_Cells_openFor.2.1 83 = .ok (.ifCond .eq 26, 3) := by decide +kernel
theorem d_Cells_openFor_106 : decode m_Cells_openFor.2.1 106 = .ok (.goto (-36), 3) := by decide +kernel
theorem d_Cells_openFor_113 : decode m_Cells_openFor.2.1 113 = .ok (.goto (-52), 3) := by decide +kernel
theorem d_Cells_openFor_116 : decode m_Cells_openFor.2.1 116 = .ok (.return_, 1) := by decide +kernel
theorem b_Cells_pairsInto_0 : mx_ck m_Cells_pairsInto 0 [(.iconst 0, [], nI 0), (.istore 4, [], 0)] = some 3 := by decide +kernel
theorem b_Cells_pairsInto_3 : mx_ck m_Cells_pairsInto 3 [(.iload 4, [], 0), (.aload_n 3, [], 0), (.getfield 61, [6, 2, 0, 236], 0)] = some 9 := by decide +kernel
theorem b_Cells_pairsInto_12 : mx_ck m_Cells_pairsInto 12 [(.aload_n 0, [], 0), (.getfield 41, [2, 11, 33, 283], 0), (.iload_n 2, [], 0), (.aload_n 3, [], 0), (.getfield 71, [6, 0, 2, 231], 0), (.iload 4, [], 0), (.iaload, [], 0), (.iand, [], 0), (.iaload, [], 0), (.iload_n 1, [], 0), (.ishr, [], 0), (.iconst 1, [], nI 1), (.iand, [], 0)] = some 30 := by decide +kernel
theorem b_Cells_pairsInto_33 : mx_ck m_Cells_pairsInto 33 [(.iconst 1, [], nI 1)] = some 34 := by decide +kernel
theorem b_Cells_pairsInto_35 : mx_ck m_Cells_pairsInto 35 [(.iinc 4 1, [], nI 1)] = some 38 := by decide +kernel
theorem b_Cells_pairsInto_41 : mx_ck m_Cells_pairsInto 41 [(.iconst 0, [], nI 0)] = some 42 := by decide +kernel
theorem d_Cells_pairsInto_9 : decode m_Cells_pairsInto.2.1 9 = .ok (.if_icmp .ge 32, 3) := by decide +kernel
theorem d_Cells_pairsInto_30 : decode m_Cells_pairsInto.2.1 30 = .ok (.ifCond .eq 5, 3) := by decide +kernel
theorem d_Cells_pairsInto_34 : decode m_Cells_pairsInto.2.1 34 = .ok (.ireturn, 1) := by decide +kernel
theorem d_Cells_pairsInto_38 : decode m_Cells_pairsInto.2.1 38 = .ok (.goto (-35), 3) := by decide +kernel
theorem d_Cells_pairsInto_42 : decode m_Cells_pairsInto.2.1 42 = .ok (.ireturn, 1) := by decide +kernel
theorem b_Cells_relate_0 : mx_ck m_Cells_relate 0 [(.aload_n 0, [], 0), (.getfield 51, [2, 14, 36, 286], 0), (.aload_n 0, [], 0), (.getfield 95, [2, 1, 0, 272], 0)] = some 8 := by decide +kernel
theorem b_Cells_relate_11 : mx_ck m_Cells_relate 11 [(.aload_n 0, [], 0), (.getfield 54, [2, 15, 37, 288], 0), (.iconst 0, [], nI 0)] = some 16 := by decide +kernel
theorem b_Cells_relate_19 : mx_ck m_Cells_relate 19 [(.iconst 0, [], nI 0), (.istore_n 1, [], 0)] = some 21 := by decide +kernel
theorem b_Cells_relate_21 : mx_ck m_Cells_relate 21 [(.iload_n 1, [], 0), (.aload_n 0, [], 0), (.getfield 21, [2, 6, 6, 277], 0), (.getfield 61, [6, 2, 0, 236], 0)] = some 29 := by decide +kernel
theorem b_Cells_relate_32 : mx_ck m_Cells_relate 32 [(.aload_n 0, [], 0), (.getfield 21, [2, 6, 6, 277], 0), (.getfield 71, [6, 0, 2, 231], 0), (.iload_n 1, [], 0), (.iaload, [], 0), (.istore_n 2, [], 0), (.iconst 0, [], nI 0), (.istore_n 3, [], 0)] = some 44 := by decide +kernel
theorem b_Cells_relate_44 : mx_ck m_Cells_relate 44 [(.iload_n 3, [], 0), (.aload_n 0, [], 0), (.getfield 12, [2, 0, 2, 271], 0), (.getfield 149, [3, 3, 0, 175], 0)] = some 52 := by decide +kernel
theorem b_Cells_relate_55 : mx_ck m_Cells_relate 55 [(.iload_n 2, [], 0), (.iload_n 3, [], 0), (.ishr, [], 0), (.iconst 1, [], nI 1), (.iand, [], 0)] = some 60 := by decide +kernel
theorem b_Cells_relate_63 : mx_ck m_Cells_relate 63 [(.aload_n 0, [], 0), (.getfield 51, [2, 14, 36, 286], 0), (.iload_n 3, [], 0), (.dup2, [], 0), (.iaload, [], 0), (.iload_n 2, [], 0), (.iand, [], 0), (.iastore, [], 0), (.aload_n 0, [], 0), (.getfield 54, [2, 15, 37, 288], 0), (.iload_n 3, [], 0), (.dup2, [], 0), (.iaload, [], 0), (.iload_n 2, [], 0), (.ior, [], 0), (.iastore, [], 0)] = some 83 := by decide +kernel
theorem b_Cells_relate_83 : mx_ck m_Cells_relate 83 [(.iinc 3 1, [], nI 1)] = some 86 := by decide +kernel
theorem b_Cells_relate_89 : mx_ck m_Cells_relate 89 [(.iinc 1 1, [], nI 1)] = some 92 := by decide +kernel
theorem d_Cells_relate_8 : decode m_Cells_relate.2.1 8 = .ok (.invokestatic 143, 3) := by decide +kernel
theorem c_Cells_relate_8 : mx_cs m_Cells_relate m_fill 143 2 [682, 110, 83, 111] = true := by decide +kernel
theorem d_Cells_relate_16 : decode m_Cells_relate.2.1 16 = .ok (.invokestatic 143, 3) := by decide +kernel
theorem c_Cells_relate_16 : mx_cs m_Cells_relate m_fill 143 2 [682, 110, 83, 111] = true := by decide +kernel
theorem d_Cells_relate_29 : decode m_Cells_relate.2.1 29 = .ok (.if_icmp .ge 66, 3) := by decide +kernel
theorem d_Cells_relate_52 : decode m_Cells_relate.2.1 52 = .ok (.if_icmp .ge 37, 3) := by decide +kernel
theorem d_Cells_relate_60 : decode m_Cells_relate.2.1 60 = .ok (.ifCond .eq 23, 3) := by decide +kernel
theorem d_Cells_relate_86 : decode m_Cells_relate.2.1 86 = .ok (.goto (-42), 3) := by decide +kernel
theorem d_Cells_relate_92 : decode m_Cells_relate.2.1 92 = .ok (.goto (-71), 3) := by decide +kernel
theorem d_Cells_relate_95 : decode m_Cells_relate.2.1 95 = .ok (.return_, 1) := by decide +kernel
theorem b_Cells_withoutValue_0 : mx_ck m_Cells_withoutValue 0 [(.aload_n 0, [], 0), (.getfield 95, [2, 1, 0, 272], 0), (.aload_n 0, [], 0), (.getfield 104, [2, 3, 0, 274], 0), (.aload_n 0, [], 0), (.getfield 107, [2, 4, 0, 275], 0), (.ior, [], 0), (.aload_n 0, [], 0), (.getfield 110, [2, 5, 0, 276], 0), (.ior, [], 0), (.iconst (-1), [], (-1)), (.ixor, [], 0), (.iand, [], 0)] = some 21 := by decide +kernel
theorem d_Cells_withoutValue_21 : decode m_Cells_withoutValue.2.1 21 = .ok (.ireturn, 1) := by decide +kernel
theorem b_House_all_0 : mx_ck m_House_all 0 [(.iconst 1, [], nI 1), (.aload_n 0, [], 0), (.getfield 21, [3, 3, 0, 172], 0), (.ishl, [], 0), (.iconst 1, [], nI 1), (.isub, [], 0)] = some 8 := by decide +kernel
theorem d_House_all_8 : decode m_House_all.2.1 8 = .ok (.ireturn, 1) := by decide +kernel
theorem b_House_cellOf_0 : mx_ck m_House_cellOf 0 [(.iload_n 1, [], 0), (.istore_n 2, [], 0), (.iconst 0, [], nI 0), (.istore_n 3, [], 0)] = some 4 := by decide +kernel
theorem b_House_cellOf_4 : mx_ck m_House_cellOf 4 [(.iload_n 3, [], 0), (.aload_n 0, [], 0), (.getfield 21, [3, 3, 0, 172], 0)] = some 9 := by decide +kernel
theorem b_House_cellOf_12 : mx_ck m_House_cellOf 12 [(.iload_n 2, [], 0), (.aload_n 0, [], 0), (.getfield 15, [3, 1, 3, 164], 0), (.iload_n 3, [], 0), (.iaload, [], 0), (.ishr, [], 0), (.iconst 1, [], nI 1), (.iand, [], 0), (.istore 4, [], 0), (.iload_n 2, [], 0), (.aload_n 0, [], 0), (.getfield 18, [3, 2, 4, 168], 0), (.iload_n 3, [], 0), (.iaload, [], 0), (.ishr, [], 0), (.iconst 1, [], nI 1), (.iand, [], 0), (.istore 5, [], 0), (.aload_n 0, [], 0), (.getfield 9, [3, 0, 2, 160], 0), (.iload_n 3, [], 0), (.iaload, [], 0)] = some 42 := by decide +kernel
theorem b_House_cellOf_68 : mx_ck m_House_cellOf 68 [(.iload_n 2, [], 0), (.iload 4, [], 0), (.iload 5, [], 0), (.ior, [], 0), (.iload_n 3, [], 0), (.ishl, [], 0), (.ior, [], 0), (.istore_n 2, [], 0)] = some 78 := by decide +kernel
theorem b_House_cellOf_81 : mx_ck m_House_cellOf 81 [(.iload_n 2, [], 0), (.iload 4, [], 0), (.iload 5, [], 0), (.iand, [], 0), (.iload_n 3, [], 0), (.ishl, [], 0), (.ior, [], 0), (.istore_n 2, [], 0)] = some 91 := by decide +kernel
theorem b_House_cellOf_94 : mx_ck m_House_cellOf 94 [(.iload_n 2, [], 0), (.iload 4, [], 0), (.iconst 1, [], nI 1), (.iload 5, [], 0), (.ixor, [], 0), (.iand, [], 0), (.iload_n 3, [], 0), (.ishl, [], 0), (.ior, [], 0), (.istore_n 2, [], 0)] = some 106 := by decide +kernel
theorem b_House_cellOf_109 : mx_ck m_House_cellOf 109 [(.iinc 3 1, [], nI 1)] = some 112 := by decide +kernel
theorem b_House_cellOf_115 : mx_ck m_House_cellOf 115 [(.iload_n 2, [], 0)] = some 116 := by decide +kernel
theorem d_House_cellOf_9 : decode m_House_cellOf.2.1 9 = .ok (.if_icmp .ge 106, 3) := by decide +kernel
theorem d_House_cellOf_42 : decode m_House_cellOf.2.1 42 = .ok (.tableswitch 67 3 5 #[26, 39, 52], 26) := by decide +kernel
theorem d_House_cellOf_78 : decode m_House_cellOf.2.1 78 = .ok (.goto 31, 3) := by decide +kernel
theorem d_House_cellOf_91 : decode m_House_cellOf.2.1 91 = .ok (.goto 18, 3) := by decide +kernel
theorem d_House_cellOf_106 : decode m_House_cellOf.2.1 106 = .ok (.goto 3, 3) := by decide +kernel
theorem d_House_cellOf_112 : decode m_House_cellOf.2.1 112 = .ok (.goto (-108), 3) := by decide +kernel
theorem d_House_cellOf_116 : decode m_House_cellOf.2.1 116 = .ok (.ireturn, 1) := by decide +kernel
theorem b_House_cellOfConstant_0 : mx_ck m_House_cellOfConstant 0 [(.iconst 0, [], nI 0), (.istore_n 2, [], 0), (.iconst 0, [], nI 0), (.istore_n 3, [], 0)] = some 4 := by decide +kernel
theorem b_House_cellOfConstant_4 : mx_ck m_House_cellOfConstant 4 [(.iload_n 3, [], 0), (.aload_n 0, [], 0), (.getfield 21, [3, 3, 0, 172], 0)] = some 9 := by decide +kernel
theorem b_House_cellOfConstant_12 : mx_ck m_House_cellOfConstant 12 [(.aload_n 0, [], 0), (.getfield 9, [3, 0, 2, 160], 0), (.iload_n 3, [], 0), (.iaload, [], 0)] = some 18 := by decide +kernel
theorem b_House_cellOfConstant_21 : mx_ck m_House_cellOfConstant 21 [(.aload_n 0, [], 0), (.getfield 15, [3, 1, 3, 164], 0), (.iload_n 3, [], 0), (.iaload, [], 0), (.iload_n 1, [], 0)] = some 28 := by decide +kernel
theorem b_House_cellOfConstant_31 : mx_ck m_House_cellOfConstant 31 [(.iload_n 1, [], 0), (.aload_n 0, [], 0), (.getfield 18, [3, 2, 4, 168], 0), (.iload_n 3, [], 0), (.iaload, [], 0)] = some 38 := by decide +kernel
theorem b_House_cellOfConstant_41 : mx_ck m_House_cellOfConstant 41 [(.iload_n 2, [], 0), (.iconst 1, [], nI 1), (.iload_n 3, [], 0), (.ishl, [], 0), (.ior, [], 0), (.istore_n 2, [], 0)] = some 47 := by decide +kernel
theorem b_House_cellOfConstant_47 : mx_ck m_House_cellOfConstant 47 [(.iinc 3 1, [], nI 1)] = some 50 := by decide +kernel
theorem b_House_cellOfConstant_53 : mx_ck m_House_cellOfConstant 53 [(.aload_n 0, [], 0), (.iload_n 2, [], 0)] = some 55 := by decide +kernel
theorem d_House_cellOfConstant_9 : decode m_House_cellOfConstant.2.1 9 = .ok (.if_icmp .ge 44, 3) := by decide +kernel
theorem d_House_cellOfConstant_18 : decode m_House_cellOfConstant.2.1 18 = .ok (.ifCond .ne 29, 3) := by decide +kernel
theorem d_House_cellOfConstant_28 : decode m_House_cellOfConstant.2.1 28 = .ok (.if_icmp .gt 19, 3) := by decide +kernel
theorem d_House_cellOfConstant_38 : decode m_House_cellOfConstant.2.1 38 = .ok (.if_icmp .gt 9, 3) := by decide +kernel
theorem d_House_cellOfConstant_50 : decode m_House_cellOfConstant.2.1 50 = .ok (.goto (-46), 3) := by decide +kernel
theorem d_House_cellOfConstant_55 : decode m_House_cellOfConstant.2.1 55 = .ok (.invokevirtual 46, 3) := by decide +kernel
theorem c_House_cellOfConstant_55 : mx_cv m_House_cellOfConstant m_House_cellOf 46 1 [636, 637, 638, 85, 639] = true := by decide +kernel
theorem d_House_cellOfConstant_58 : decode m_House_cellOfConstant.2.1 58 = .ok (.ireturn, 1) := by decide +kernel
theorem b_House_has_0 : mx_ck m_House_has 0 [(.iload_n 1, [], 0)] = some 1 := by decide +kernel
theorem b_House_has_4 : mx_ck m_House_has 4 [(.iload_n 1, [], 0), (.aload_n 0, [], 0), (.getfield 21, [3, 3, 0, 172], 0)] = some 9 := by decide +kernel
theorem b_House_has_12 : mx_ck m_House_has 12 [(.iconst 1, [], nI 1)] = some 13 := by decide +kernel
theorem b_House_has_16 : mx_ck m_House_has 16 [(.iconst 0, [], nI 0)] = some 17 := by decide +kernel
theorem d_House_has_1 : decode m_House_has.2.1 1 = .ok (.ifCond .lt 15, 3) := by decide +kernel
theorem d_House_has_9 : decode m_House_has.2.1 9 = .ok (.if_icmp .ge 7, 3) := by decide +kernel
theorem d_House_has_13 : decode m_House_has.2.1 13 = .ok (.goto 4, 3) := by decide +kernel
theorem d_House_has_17 : decode m_House_has.2.1 17 = .ok (.ireturn, 1) := by decide +kernel
theorem b_House_init_0 : mx_ck m_House_init 0 [(.aload_n 0, [], 0)] = some 1 := by decide +kernel
theorem b_House_init_4 : mx_ck m_House_init 4 [(.aload_n 0, [], 0), (.bipush 8, [], nI 8)] = some 7 := by decide +kernel
theorem b_House_init_12 : mx_ck m_House_init 12 [(.aload_n 0, [], 0), (.bipush 8, [], nI 8)] = some 15 := by decide +kernel
theorem b_House_init_20 : mx_ck m_House_init 20 [(.aload_n 0, [], 0), (.bipush 8, [], nI 8)] = some 23 := by decide +kernel
theorem d_House_init_1 : decode m_House_init.2.1 1 = .ok (.invokespecial 3, 3) := by decide +kernel
theorem d_House_init_7 : decode m_House_init.2.1 7 = .ok (.newarray .int, 2) := by decide +kernel
theorem d_House_init_9 : decode m_House_init.2.1 9 = .ok (.putfield 9, 3) := by decide +kernel
theorem d_House_init_15 : decode m_House_init.2.1 15 = .ok (.newarray .int, 2) := by decide +kernel
theorem d_House_init_17 : decode m_House_init.2.1 17 = .ok (.putfield 15, 3) := by decide +kernel
theorem d_House_init_23 : decode m_House_init.2.1 23 = .ok (.newarray .int, 2) := by decide +kernel
theorem d_House_init_25 : decode m_House_init.2.1 25 = .ok (.putfield 18, 3) := by decide +kernel
theorem d_House_init_28 : decode m_House_init.2.1 28 = .ok (.return_, 1) := by decide +kernel
theorem b_House_isNone_0 : mx_ck m_House_isNone 0 [(.aload_n 0, [], 0), (.getfield 21, [3, 3, 0, 172], 0)] = some 4 := by decide +kernel
theorem b_House_isNone_7 : mx_ck m_House_isNone 7 [(.iconst 1, [], nI 1)] = some 8 := by decide +kernel
theorem b_House_isNone_11 : mx_ck m_House_isNone 11 [(.iconst 0, [], nI 0)] = some 12 := by decide +kernel
theorem d_House_isNone_4 : decode m_House_isNone.2.1 4 = .ok (.ifCond .ne 7, 3) := by decide +kernel
theorem d_House_isNone_8 : decode m_House_isNone.2.1 8 = .ok (.goto 4, 3) := by decide +kernel
theorem d_House_isNone_12 : decode m_House_isNone.2.1 12 = .ok (.ireturn, 1) := by decide +kernel
theorem b_House_isSet_0 : mx_ck m_House_isSet 0 [(.iload_n 1, [], 0)] = some 1 := by decide +kernel
theorem b_House_isSet_4 : mx_ck m_House_isSet 4 [(.iload_n 1, [], 0), (.aload_n 0, [], 0)] = some 6 := by decide +kernel
theorem b_House_isSet_12 : mx_ck m_House_isSet 12 [(.iconst 1, [], nI 1)] = some 13 := by decide +kernel
theorem b_House_isSet_16 : mx_ck m_House_isSet 16 [(.iconst 0, [], nI 0)] = some 17 := by decide +kernel
theorem d_House_isSet_1 : decode m_House_isSet.2.1 1 = .ok (.ifCond .lt 15, 3) := by decide +kernel
theorem d_House_isSet_6 : decode m_House_isSet.2.1 6 = .ok (.invokevirtual 25, 3) := by decide +kernel
theorem c_House_isSet_6 : mx_cv m_House_isSet m_House_all 25 0 [601, 602, 603, 85, 604] = true := by decide +kernel
theorem d_House_isSet_9 : decode m_House_isSet.2.1 9 = .ok (.if_icmp .gt 7, 3) := by decide +kernel
theorem d_House_isSet_13 : decode m_House_isSet.2.1 13 = .ok (.goto 4, 3) := by decide +kernel
theorem d_House_isSet_17 : decode m_House_isSet.2.1 17 = .ok (.ireturn, 1) := by decide +kernel
theorem b_House_mayStand_0 : mx_ck m_House_mayStand 0 [(.aload_n 0, [], 0), (.iload_n 1, [], 0)] = some 2 := by decide +kernel
theorem b_House_mayStand_8 : mx_ck m_House_mayStand 8 [(.iload_n 2, [], 0)] = some 9 := by decide +kernel
theorem b_House_mayStand_12 : mx_ck m_House_mayStand 12 [(.iload_n 2, [], 0), (.bipush 6, [], nI 6)] = some 15 := by decide +kernel
theorem b_House_mayStand_18 : mx_ck m_House_mayStand 18 [(.iload_n 3, [], 0)] = some 19 := by decide +kernel
theorem b_House_mayStand_22 : mx_ck m_House_mayStand 22 [(.iload 4, [], 0)] = some 24 := by decide +kernel
theorem b_House_mayStand_27 : mx_ck m_House_mayStand 27 [(.iconst 0, [], nI 0)] = some 28 := by decide +kernel
theorem b_House_mayStand_29 : mx_ck m_House_mayStand 29 [(.iload_n 2, [], 0)] = some 30 := by decide +kernel
theorem b_House_mayStand_33 : mx_ck m_House_mayStand 33 [(.iload_n 3, [], 0), (.iload 4, [], 0)] = some 36 := by decide +kernel
theorem b_House_mayStand_39 : mx_ck m_House_mayStand 39 [(.iload 4, [], 0), (.iconst 3, [], nI 3)] = some 42 := by decide +kernel
theorem b_House_mayStand_45 : mx_ck m_House_mayStand 45 [(.iconst 1, [], nI 1)] = some 46 := by decide +kernel
theorem b_House_mayStand_49 : mx_ck m_House_mayStand 49 [(.iconst 0, [], nI 0)] = some 50 := by decide +kernel
theorem b_House_mayStand_51 : mx_ck m_House_mayStand 51 [(.iload_n 2, [], 0), (.iconst 1, [], nI 1)] = some 53 := by decide +kernel
theorem b_House_mayStand_56 : mx_ck m_House_mayStand 56 [(.iload_n 2, [], 0), (.iconst 2, [], nI 2)] = some 58 := by decide +kernel
theorem b_House_mayStand_61 : mx_ck m_House_mayStand 61 [(.aload_n 0, [], 0), (.getfield 21, [3, 3, 0, 172], 0), (.iconst 1, [], nI 1), (.isub, [], 0)] = some 67 := by decide +kernel
theorem b_House_mayStand_70 : mx_ck m_House_mayStand 70 [(.iload_n 1, [], 0), (.iconst 1, [], nI 1), (.isub, [], 0)] = some 73 := by decide +kernel
theorem b_House_mayStand_73 : mx_ck m_House_mayStand 73 [(.istore 5, [], 0), (.iload_n 3, [], 0), (.iload 5, [], 0)] = some 78 := by decide +kernel
theorem b_House_mayStand_81 : mx_ck m_House_mayStand 81 [(.iload 4, [], 0), (.iload 5, [], 0)] = some 85 := by decide +kernel
theorem b_House_mayStand_88 : mx_ck m_House_mayStand 88 [(.iconst 1, [], nI 1)] = some 89 := by decide +kernel
theorem b_House_mayStand_92 : mx_ck m_House_mayStand 92 [(.iconst 0, [], nI 0)] = some 93 := by decide +kernel
theorem d_House_mayStand_2 : decode m_House_mayStand.2.1 2 = .ok (.invokevirtual 38, 3) := by decide +kernel
theorem c_House_mayStand_2 : mx_cv m_House_mayStand m_House_has 38 1 [523, 524, 525, 85, 526] = true := by decide +kernel
theorem d_House_mayStand_5 : decode m_House_mayStand.2.1 5 = .ok (.ifCond .eq 22, 3) := by decide +kernel
theorem d_House_mayStand_9 : decode m_House_mayStand.2.1 9 = .ok (.ifCond .lt 18, 3) := by decide +kernel
theorem d_House_mayStand_15 : decode m_House_mayStand.2.1 15 = .ok (.if_icmp .ge 12, 3) := by decide +kernel
theorem d_House_mayStand_19 : decode m_House_mayStand.2.1 19 = .ok (.ifCond .lt 8, 3) := by decide +kernel
theorem d_House_mayStand_24 : decode m_House_mayStand.2.1 24 = .ok (.ifCond .ge 5, 3) := by decide +kernel
theorem d_House_mayStand_28 : decode m_House_mayStand.2.1 28 = .ok (.ireturn, 1) := by decide +kernel
theorem d_House_mayStand_30 : decode m_House_mayStand.2.1 30 = .ok (.ifCond .ne 21, 3) := by decide +kernel
theorem d_House_mayStand_36 : decode m_House_mayStand.2.1 36 = .ok (.if_icmp .gt 13, 3) := by decide +kernel
theorem d_House_mayStand_42 : decode m_House_mayStand.2.1 42 = .ok (.if_icmp .gt 7, 3) := by decide +kernel
theorem d_House_mayStand_46 : decode m_House_mayStand.2.1 46 = .ok (.goto 4, 3) := by decide +kernel
theorem d_House_mayStand_50 : decode m_House_mayStand.2.1 50 = .ok (.ireturn, 1) := by decide +kernel
theorem d_House_mayStand_53 : decode m_House_mayStand.2.1 53 = .ok (.if_icmp .eq 8, 3) := by decide +kernel
theorem d_House_mayStand_58 : decode m_House_mayStand.2.1 58 = .ok (.if_icmp .ne 12, 3) := by decide +kernel
theorem d_House_mayStand_67 : decode m_House_mayStand.2.1 67 = .ok (.goto 6, 3) := by decide +kernel
theorem d_House_mayStand_78 : decode m_House_mayStand.2.1 78 = .ok (.if_icmp .gt 14, 3) := by decide +kernel
theorem d_House_mayStand_85 : decode m_House_mayStand.2.1 85 = .ok (.if_icmp .gt 7, 3) := by decide +kernel
theorem d_House_mayStand_89 : decode m_House_mayStand.2.1 89 = .ok (.goto 4, 3) := by decide +kernel
theorem d_House_mayStand_93 : decode m_House_mayStand.2.1 93 = .ok (.ireturn, 1) := by decide +kernel
theorem b_House_namesOnlyItsOwn_0 : mx_ck m_House_namesOnlyItsOwn 0 [(.iconst 0, [], nI 0), (.istore_n 1, [], 0)] = some 2 := by decide +kernel
theorem b_House_namesOnlyItsOwn_2 : mx_ck m_House_namesOnlyItsOwn 2 [(.iload_n 1, [], 0), (.aload_n 0, [], 0), (.getfield 21, [3, 3, 0, 172], 0)] = some 7 := by decide +kernel
theorem b_House_namesOnlyItsOwn_10 : mx_ck m_House_namesOnlyItsOwn 10 [(.aload_n 0, [], 0), (.iload_n 1, [], 0), (.aload_n 0, [], 0), (.getfield 9, [3, 0, 2, 160], 0), (.iload_n 1, [], 0), (.iaload, [], 0), (.aload_n 0, [], 0), (.getfield 15, [3, 1, 3, 164], 0), (.iload_n 1, [], 0), (.iaload, [], 0), (.aload_n 0, [], 0), (.getfield 18, [3, 2, 4, 168], 0), (.iload_n 1, [], 0), (.iaload, [], 0)] = some 30 := by decide +kernel
theorem b_House_namesOnlyItsOwn_36 : mx_ck m_House_namesOnlyItsOwn 36 [(.iconst 0, [], nI 0)] = some 37 := by decide +kernel
theorem b_House_namesOnlyItsOwn_38 : mx_ck m_House_namesOnlyItsOwn 38 [(.iinc 1 1, [], nI 1)] = some 41 := by decide +kernel
theorem b_House_namesOnlyItsOwn_44 : mx_ck m_House_namesOnlyItsOwn 44 [(.iconst 1, [], nI 1)] = some 45 := by decide +kernel
theorem d_House_namesOnlyItsOwn_7 : decode m_House_namesOnlyItsOwn.2.1 7 = .ok (.if_icmp .ge 37, 3) := by decide +kernel
theorem d_House_namesOnlyItsOwn_30 : decode m_House_namesOnlyItsOwn.2.1 30 = .ok (.invokevirtual 42, 3) := by decide +kernel
theorem c_House_namesOnlyItsOwn_30 : mx_cv m_House_namesOnlyItsOwn m_House_mayStand 42 4 [519, 520, 521, 85, 522] = true := by decide +kernel
theorem d_House_namesOnlyItsOwn_33 : decode m_House_namesOnlyItsOwn.2.1 33 = .ok (.ifCond .ne 5, 3) := by decide +kernel
theorem d_House_namesOnlyItsOwn_37 : decode m_House_namesOnlyItsOwn.2.1 37 = .ok (.ireturn, 1) := by decide +kernel
theorem d_House_namesOnlyItsOwn_41 : decode m_House_namesOnlyItsOwn.2.1 41 = .ok (.goto (-39), 3) := by decide +kernel
theorem d_House_namesOnlyItsOwn_45 : decode m_House_namesOnlyItsOwn.2.1 45 = .ok (.ireturn, 1) := by decide +kernel
theorem b_House_ofSort_0 : mx_ck m_House_ofSort 0 [(.iconst 0, [], nI 0), (.istore_n 2, [], 0), (.iconst 0, [], nI 0), (.istore_n 3, [], 0)] = some 4 := by decide +kernel
theorem b_House_ofSort_4 : mx_ck m_House_ofSort 4 [(.iload_n 3, [], 0), (.aload_n 0, [], 0), (.getfield 21, [3, 3, 0, 172], 0)] = some 9 := by decide +kernel
theorem b_House_ofSort_12 : mx_ck m_House_ofSort 12 [(.iload_n 2, [], 0), (.aload_n 0, [], 0), (.getfield 9, [3, 0, 2, 160], 0), (.iload_n 3, [], 0), (.iaload, [], 0), (.iload_n 1, [], 0)] = some 20 := by decide +kernel
theorem b_House_ofSort_23 : mx_ck m_House_ofSort 23 [(.iconst 1, [], nI 1), (.iload_n 3, [], 0), (.ishl, [], 0)] = some 26 := by decide +kernel
theorem b_House_ofSort_29 : mx_ck m_House_ofSort 29 [(.iconst 0, [], nI 0)] = some 30 := by decide +kernel
theorem b_House_ofSort_30 : mx_ck m_House_ofSort 30 [(.ior, [], 0), (.istore_n 2, [], 0), (.iinc 3 1, [], nI 1)] = some 35 := by decide +kernel
theorem b_House_ofSort_38 : mx_ck m_House_ofSort 38 [(.iload_n 2, [], 0)] = some 39 := by decide +kernel
theorem d_House_ofSort_9 : decode m_House_ofSort.2.1 9 = .ok (.if_icmp .ge 29, 3) := by decide +kernel
theorem d_House_ofSort_20 : decode m_House_ofSort.2.1 20 = .ok (.if_icmp .ne 9, 3) := by decide +kernel
theorem d_House_ofSort_26 : decode m_House_ofSort.2.1 26 = .ok (.goto 4, 3) := by decide +kernel
theorem d_House_ofSort_35 : decode m_House_ofSort.2.1 35 = .ok (.goto (-31), 3) := by decide +kernel
theorem d_House_ofSort_39 : decode m_House_ofSort.2.1 39 = .ok (.ireturn, 1) := by decide +kernel
theorem b_House_takeFrom_0 : mx_ck m_House_takeFrom 0 [(.aload_n 1, [], 0), (.getfield 9, [3, 0, 2, 160], 0), (.iconst 0, [], nI 0), (.aload_n 0, [], 0), (.getfield 9, [3, 0, 2, 160], 0), (.iconst 0, [], nI 0), (.bipush 8, [], nI 8)] = some 12 := by decide +kernel
theorem b_House_takeFrom_15 : mx_ck m_House_takeFrom 15 [(.aload_n 1, [], 0), (.getfield 15, [3, 1, 3, 164], 0), (.iconst 0, [], nI 0), (.aload_n 0, [], 0), (.getfield 15, [3, 1, 3, 164], 0), (.iconst 0, [], nI 0), (.bipush 8, [], nI 8)] = some 27 := by decide +kernel
theorem b_House_takeFrom_30 : mx_ck m_House_takeFrom 30 [(.aload_n 1, [], 0), (.getfield 18, [3, 2, 4, 168], 0), (.iconst 0, [], nI 0), (.aload_n 0, [], 0), (.getfield 18, [3, 2, 4, 168], 0), (.iconst 0, [], nI 0), (.bipush 8, [], nI 8)] = some 42 := by decide +kernel
theorem b_House_takeFrom_45 : mx_ck m_House_takeFrom 45 [(.aload_n 0, [], 0), (.aload_n 1, [], 0), (.getfield 21, [3, 3, 0, 172], 0), (.putfield 21, [3, 3, 0, 172], 0), (.aload_n 0, [], 0), (.aload_n 1, [], 0), (.getfield 35, [3, 4, 0, 179], 0), (.putfield 35, [3, 4, 0, 179], 0)] = some 61 := by decide +kernel
theorem d_House_takeFrom_12 : decode m_House_takeFrom.2.1 12 = .ok (.invokestatic 29, 3) := by decide +kernel
theorem c_House_takeFrom_12 : mx_ca m_House_takeFrom 29 [550, 466, 465, 93] = true := by decide +kernel
theorem d_House_takeFrom_27 : decode m_House_takeFrom.2.1 27 = .ok (.invokestatic 29, 3) := by decide +kernel
theorem c_House_takeFrom_27 : mx_ca m_House_takeFrom 29 [550, 466, 465, 93] = true := by decide +kernel
theorem d_House_takeFrom_42 : decode m_House_takeFrom.2.1 42 = .ok (.invokestatic 29, 3) := by decide +kernel
theorem c_House_takeFrom_42 : mx_ca m_House_takeFrom 29 [550, 466, 465, 93] = true := by decide +kernel
theorem d_House_takeFrom_61 : decode m_House_takeFrom.2.1 61 = .ok (.return_, 1) := by decide +kernel
theorem b_House_tell_0 : mx_ck m_House_tell 0 [(.aload_n 0, [], 0), (.getfield 9, [3, 0, 2, 160], 0), (.iload_n 1, [], 0), (.iload_n 2, [], 0), (.iastore, [], 0), (.aload_n 0, [], 0), (.getfield 15, [3, 1, 3, 164], 0), (.iload_n 1, [], 0), (.iload_n 3, [], 0), (.iastore, [], 0), (.aload_n 0, [], 0), (.getfield 18, [3, 2, 4, 168], 0), (.iload_n 1, [], 0), (.iload 4, [], 0), (.iastore, [], 0)] = some 22 := by decide +kernel
theorem d_House_tell_22 : decode m_House_tell.2.1 22 = .ok (.return_, 1) := by decide +kernel
theorem b_House_withFirstIn_0 : mx_ck m_House_withFirstIn 0 [(.iconst 0, [], nI 0), (.istore_n 3, [], 0), (.iconst 0, [], nI 0), (.istore 4, [], 0)] = some 5 := by decide +kernel
theorem b_House_withFirstIn_5 : mx_ck m_House_withFirstIn 5 [(.iload 4, [], 0), (.aload_n 0, [], 0), (.getfield 21, [3, 3, 0, 172], 0)] = some 11 := by decide +kernel
theorem b_House_withFirstIn_14 : mx_ck m_House_withFirstIn 14 [(.iload_n 3, [], 0), (.aload_n 0, [], 0), (.getfield 9, [3, 0, 2, 160], 0), (.iload 4, [], 0), (.iaload, [], 0), (.iload_n 1, [], 0)] = some 23 := by decide +kernel
theorem b_House_withFirstIn_26 : mx_ck m_House_withFirstIn 26 [(.iload_n 2, [], 0), (.aload_n 0, [], 0), (.getfield 15, [3, 1, 3, 164], 0), (.iload 4, [], 0), (.iaload, [], 0), (.ishr, [], 0), (.iconst 1, [], nI 1), (.iand, [], 0), (.iload 4, [], 0), (.ishl, [], 0)] = some 40 := by decide +kernel
theorem b_House_withFirstIn_43 : mx_ck m_House_withFirstIn 43 [(.iconst 0, [], nI 0)] = some 44 := by decide +kernel
theorem b_House_withFirstIn_44 : mx_ck m_House_withFirstIn 44 [(.ior, [], 0), (.istore_n 3, [], 0), (.iinc 4 1, [], nI 1)] = some 49 := by decide +kernel
theorem b_House_withFirstIn_52 : mx_ck m_House_withFirstIn 52 [(.iload_n 3, [], 0)] = some 53 := by decide +kernel
theorem d_House_withFirstIn_11 : decode m_House_withFirstIn.2.1 11 = .ok (.if_icmp .ge 41, 3) := by decide +kernel
theorem d_House_withFirstIn_23 : decode m_House_withFirstIn.2.1 23 = .ok (.if_icmp .ne 20, 3) := by decide +kernel
theorem d_House_withFirstIn_40 : decode m_House_withFirstIn.2.1 40 = .ok (.goto 4, 3) := by decide +kernel
theorem d_House_withFirstIn_49 : decode m_House_withFirstIn.2.1 49 = .ok (.goto (-44), 3) := by decide +kernel
theorem d_House_withFirstIn_53 : decode m_House_withFirstIn.2.1 53 = .ok (.ireturn, 1) := by decide +kernel
theorem b_House_withSecondIn_0 : mx_ck m_House_withSecondIn 0 [(.iconst 0, [], nI 0), (.istore_n 3, [], 0), (.iconst 0, [], nI 0), (.istore 4, [], 0)] = some 5 := by decide +kernel
theorem b_House_withSecondIn_5 : mx_ck m_House_withSecondIn 5 [(.iload 4, [], 0), (.aload_n 0, [], 0), (.getfield 21, [3, 3, 0, 172], 0)] = some 11 := by decide +kernel
theorem b_House_withSecondIn_14 : mx_ck m_House_withSecondIn 14 [(.iload_n 3, [], 0), (.aload_n 0, [], 0), (.getfield 9, [3, 0, 2, 160], 0), (.iload 4, [], 0), (.iaload, [], 0), (.iload_n 1, [], 0)] = some 23 := by decide +kernel
theorem b_House_withSecondIn_26 : mx_ck m_House_withSecondIn 26 [(.iload_n 2, [], 0), (.aload_n 0, [], 0), (.getfield 18, [3, 2, 4, 168], 0), (.iload 4, [], 0), (.iaload, [], 0), (.ishr, [], 0), (.iconst 1, [], nI 1), (.iand, [], 0), (.iload 4, [], 0), (.ishl, [], 0)] = some 40 := by decide +kernel
theorem b_House_withSecondIn_43 : mx_ck m_House_withSecondIn 43 [(.iconst 0, [], nI 0)] = some 44 := by decide +kernel
theorem b_House_withSecondIn_44 : mx_ck m_House_withSecondIn 44 [(.ior, [], 0), (.istore_n 3, [], 0), (.iinc 4 1, [], nI 1)] = some 49 := by decide +kernel
theorem b_House_withSecondIn_52 : mx_ck m_House_withSecondIn 52 [(.iload_n 3, [], 0)] = some 53 := by decide +kernel
theorem d_House_withSecondIn_11 : decode m_House_withSecondIn.2.1 11 = .ok (.if_icmp .ge 41, 3) := by decide +kernel
theorem d_House_withSecondIn_23 : decode m_House_withSecondIn.2.1 23 = .ok (.if_icmp .ne 20, 3) := by decide +kernel
theorem d_House_withSecondIn_40 : decode m_House_withSecondIn.2.1 40 = .ok (.goto 4, 3) := by decide +kernel
theorem d_House_withSecondIn_49 : decode m_House_withSecondIn.2.1 49 = .ok (.goto (-44), 3) := by decide +kernel
theorem d_House_withSecondIn_53 : decode m_House_withSecondIn.2.1 53 = .ok (.ireturn, 1) := by decide +kernel
theorem b_Plain_howMany_0 : mx_ck m_Plain_howMany 0 [(.aload_n 0, [], 0), (.getfield 9, [4, 0, 2, 331], 0), (.iload_n 2, [], 0), (.iconst 1, [], nI 1), (.isub, [], 0), (.bipush 8, [], nI 8), (.imul, [], 0), (.iload_n 1, [], 0), (.iadd, [], 0), (.iaload, [], 0)] = some 13 := by decide +kernel
theorem d_Plain_howMany_13 : decode m_Plain_howMany.2.1 13 = .ok (.ireturn, 1) := by decide +kernel
theorem b_Plain_init_0 : mx_ck m_Plain_init 0 [(.aload_n 0, [], 0)] = some 1 := by decide +kernel
theorem b_Plain_init_4 : mx_ck m_Plain_init 4 [(.aload_n 0, [], 0), (.bipush 32, [], nI 32)] = some 7 := by decide +kernel
theorem b_Plain_init_12 : mx_ck m_Plain_init 12 [(.aload_n 0, [], 0), (.iconst 4, [], nI 4)] = some 14 := by decide +kernel
theorem b_Plain_init_19 : mx_ck m_Plain_init 19 [(.aload_n 0, [], 0)] = some 20 := by decide +kernel
theorem b_Plain_init_23 : mx_ck m_Plain_init 23 [(.dup, [], 0)] = some 24 := by decide +kernel
theorem b_Plain_init_30 : mx_ck m_Plain_init 30 [(.aload_n 0, [], 0)] = some 31 := by decide +kernel
theorem b_Plain_init_34 : mx_ck m_Plain_init 34 [(.dup, [], 0)] = some 35 := by decide +kernel
theorem b_Plain_init_41 : mx_ck m_Plain_init 41 [(.aload_n 0, [], 0)] = some 42 := by decide +kernel
theorem b_Plain_init_45 : mx_ck m_Plain_init 45 [(.dup, [], 0)] = some 46 := by decide +kernel
theorem b_Plain_init_52 : mx_ck m_Plain_init 52 [(.aload_n 0, [], 0)] = some 53 := by decide +kernel
theorem b_Plain_init_56 : mx_ck m_Plain_init 56 [(.dup, [], 0)] = some 57 := by decide +kernel
theorem d_Plain_init_1 : decode m_Plain_init.2.1 1 = .ok (.invokespecial 3, 3) := by decide +kernel
theorem d_Plain_init_7 : decode m_Plain_init.2.1 7 = .ok (.newarray .int, 2) := by decide +kernel
theorem d_Plain_init_9 : decode m_Plain_init.2.1 9 = .ok (.putfield 9, 3) := by decide +kernel
theorem d_Plain_init_14 : decode m_Plain_init.2.1 14 = .ok (.newarray .int, 2) := by decide +kernel
theorem d_Plain_init_16 : decode m_Plain_init.2.1 16 = .ok (.putfield 15, 3) := by decide +kernel
theorem d_Plain_init_20 : decode m_Plain_init.2.1 20 = .ok (.new 18, 3) := by decide +kernel
theorem d_Plain_init_24 : decode m_Plain_init.2.1 24 = .ok (.invokespecial 20, 3) := by decide +kernel
theorem d_Plain_init_27 : decode m_Plain_init.2.1 27 = .ok (.putfield 21, 3) := by decide +kernel
theorem d_Plain_init_31 : decode m_Plain_init.2.1 31 = .ok (.new 18, 3) := by decide +kernel
theorem d_Plain_init_35 : decode m_Plain_init.2.1 35 = .ok (.invokespecial 20, 3) := by decide +kernel
theorem d_Plain_init_38 : decode m_Plain_init.2.1 38 = .ok (.putfield 25, 3) := by decide +kernel
theorem d_Plain_init_42 : decode m_Plain_init.2.1 42 = .ok (.new 18, 3) := by decide +kernel
theorem d_Plain_init_46 : decode m_Plain_init.2.1 46 = .ok (.invokespecial 20, 3) := by decide +kernel
theorem d_Plain_init_49 : decode m_Plain_init.2.1 49 = .ok (.putfield 28, 3) := by decide +kernel
theorem d_Plain_init_53 : decode m_Plain_init.2.1 53 = .ok (.new 18, 3) := by decide +kernel
theorem d_Plain_init_57 : decode m_Plain_init.2.1 57 = .ok (.invokespecial 20, 3) := by decide +kernel
theorem d_Plain_init_60 : decode m_Plain_init.2.1 60 = .ok (.putfield 31, 3) := by decide +kernel
theorem d_Plain_init_63 : decode m_Plain_init.2.1 63 = .ok (.return_, 1) := by decide +kernel
theorem b_Plain_measure_0 : mx_ck m_Plain_measure 0 [(.aload_n 0, [], 0), (.getfield 9, [4, 0, 2, 331], 0), (.iconst 0, [], nI 0)] = some 5 := by decide +kernel
theorem b_Plain_measure_8 : mx_ck m_Plain_measure 8 [(.aload_n 0, [], 0), (.getfield 15, [4, 1, 3, 332], 0), (.iconst 0, [], nI 0)] = some 13 := by decide +kernel
theorem b_Plain_measure_16 : mx_ck m_Plain_measure 16 [(.aload_n 0, [], 0), (.getfield 21, [4, 2, 4, 333], 0)] = some 20 := by decide +kernel
theorem b_Plain_measure_23 : mx_ck m_Plain_measure 23 [(.iconst 0, [], nI 0), (.istore_n 2, [], 0)] = some 25 := by decide +kernel
theorem b_Plain_measure_25 : mx_ck m_Plain_measure 25 [(.iload_n 2, [], 0), (.iconst 4, [], nI 4)] = some 27 := by decide +kernel
theorem b_Plain_measure_30 : mx_ck m_Plain_measure 30 [(.aload_n 0, [], 0), (.aload_n 1, [], 0)] = some 32 := by decide +kernel
theorem b_Plain_measure_35 : mx_ck m_Plain_measure 35 [(.aload_n 0, [], 0), (.getfield 21, [4, 2, 4, 333], 0)] = some 39 := by decide +kernel
theorem b_Plain_measure_42 : mx_ck m_Plain_measure 42 [(.iconst 0, [], nI 0), (.istore_n 3, [], 0)] = some 44 := by decide +kernel
theorem b_Plain_measure_44 : mx_ck m_Plain_measure 44 [(.iload_n 3, [], 0), (.aload_n 1, [], 0), (.getfield 47, [3, 4, 0, 176], 0)] = some 49 := by decide +kernel
theorem b_Plain_measure_52 : mx_ck m_Plain_measure 52 [(.aload_n 0, [], 0), (.getfield 21, [4, 2, 4, 333], 0), (.aload_n 1, [], 0), (.iload_n 3, [], 0)] = some 58 := by decide +kernel
theorem b_Plain_measure_61 : mx_ck m_Plain_measure 61 [(.iconst 1, [], nI 1)] = some 62 := by decide +kernel
theorem b_Plain_measure_65 : mx_ck m_Plain_measure 65 [(.iinc 3 1, [], nI 1)] = some 68 := by decide +kernel
theorem b_Plain_measure_71 : mx_ck m_Plain_measure 71 [(.iconst 0, [], nI 0), (.istore_n 3, [], 0)] = some 73 := by decide +kernel
theorem b_Plain_measure_73 : mx_ck m_Plain_measure 73 [(.iload_n 3, [], 0), (.aload_n 0, [], 0), (.getfield 31, [4, 5, 13, 336], 0), (.getfield 61, [6, 2, 0, 237], 0)] = some 81 := by decide +kernel
theorem b_Plain_measure_84 : mx_ck m_Plain_measure 84 [(.aload_n 0, [], 0), (.getfield 31, [4, 5, 13, 336], 0), (.getfield 64, [6, 0, 2, 230], 0), (.iload_n 3, [], 0), (.iaload, [], 0), (.istore 4, [], 0), (.aload_n 0, [], 0), (.getfield 21, [4, 2, 4, 333], 0), (.aload_n 1, [], 0), (.iload 4, [], 0)] = some 102 := by decide +kernel
theorem b_Plain_measure_105 : mx_ck m_Plain_measure 105 [(.aload_n 0, [], 0), (.getfield 31, [4, 5, 13, 336], 0), (.getfield 70, [6, 1, 3, 233], 0), (.iload 4, [], 0), (.iaload, [], 0)] = some 115 := by decide +kernel
theorem b_Plain_measure_118 : mx_ck m_Plain_measure 118 [(.iinc 3 1, [], nI 1)] = some 121 := by decide +kernel
theorem b_Plain_measure_124 : mx_ck m_Plain_measure 124 [(.aload_n 0, [], 0), (.iload_n 2, [], 0)] = some 126 := by decide +kernel
theorem b_Plain_measure_129 : mx_ck m_Plain_measure 129 [(.iinc 2 1, [], nI 1)] = some 132 := by decide +kernel
theorem d_Plain_measure_5 : decode m_Plain_measure.2.1 5 = .ok (.invokestatic 34, 3) := by decide +kernel
theorem c_Plain_measure_5 : mx_cs m_Plain_measure m_fill 34 2 [765, 110, 83, 111] = true := by decide +kernel
theorem d_Plain_measure_13 : decode m_Plain_measure.2.1 13 = .ok (.invokestatic 34, 3) := by decide +kernel
theorem c_Plain_measure_13 : mx_cs m_Plain_measure m_fill 34 2 [765, 110, 83, 111] = true := by decide +kernel
theorem d_Plain_measure_20 : decode m_Plain_measure.2.1 20 = .ok (.invokevirtual 40, 3) := by decide +kernel
theorem c_Plain_measure_20 : mx_cv m_Plain_measure m_Sets_clear 40 0 [766, 624, 625, 88, 626] = true := by decide +kernel
theorem d_Plain_measure_27 : decode m_Plain_measure.2.1 27 = .ok (.if_icmp .ge 108, 3) := by decide +kernel
theorem d_Plain_measure_32 : decode m_Plain_measure.2.1 32 = .ok (.invokevirtual 43, 3) := by decide +kernel
theorem c_Plain_measure_32 : mx_cv m_Plain_measure m_Plain_pairUp 43 1 [767, 769, 22, 90, 770] = true := by decide +kernel
theorem d_Plain_measure_39 : decode m_Plain_measure.2.1 39 = .ok (.invokevirtual 40, 3) := by decide +kernel
theorem c_Plain_measure_39 : mx_cv m_Plain_measure m_Sets_clear 40 0 [766, 624, 625, 88, 626] = true := by decide +kernel
theorem d_Plain_measure_49 : decode m_Plain_measure.2.1 49 = .ok (.if_icmp .ge 22, 3) := by decide +kernel
theorem d_Plain_measure_58 : decode m_Plain_measure.2.1 58 = .ok (.invokevirtual 53, 3) := by decide +kernel
theorem c_Plain_measure_58 : mx_cv m_Plain_measure m_House_cellOfConstant 53 1 [778, 633, 634, 85, 635] = true := by decide +kernel
theorem d_Plain_measure_62 : decode m_Plain_measure.2.1 62 = .ok (.invokevirtual 57, 3) := by decide +kernel
theorem c_Plain_measure_62 : mx_cv m_Plain_measure m_Sets_raise 57 2 [772, 773, 774, 88, 775] = true := by decide +kernel
theorem d_Plain_measure_68 : decode m_Plain_measure.2.1 68 = .ok (.goto (-24), 3) := by decide +kernel
theorem d_Plain_measure_81 : decode m_Plain_measure.2.1 81 = .ok (.if_icmp .ge 43, 3) := by decide +kernel
theorem d_Plain_measure_102 : decode m_Plain_measure.2.1 102 = .ok (.invokevirtual 67, 3) := by decide +kernel
theorem c_Plain_measure_102 : mx_cv m_Plain_measure m_House_cellOf 67 1 [779, 637, 638, 85, 639] = true := by decide +kernel
theorem d_Plain_measure_115 : decode m_Plain_measure.2.1 115 = .ok (.invokevirtual 57, 3) := by decide +kernel
theorem c_Plain_measure_115 : mx_cv m_Plain_measure m_Sets_raise 57 2 [772, 773, 774, 88, 775] = true := by decide +kernel
theorem d_Plain_measure_121 : decode m_Plain_measure.2.1 121 = .ok (.goto (-48), 3) := by decide +kernel
theorem d_Plain_measure_126 : decode m_Plain_measure.2.1 126 = .ok (.invokevirtual 73, 3) := by decide +kernel
theorem c_Plain_measure_126 : mx_cv m_Plain_measure m_Plain_sumUp 73 1 [780, 782, 23, 90, 783] = true := by decide +kernel
theorem d_Plain_measure_132 : decode m_Plain_measure.2.1 132 = .ok (.goto (-107), 3) := by decide +kernel
theorem d_Plain_measure_135 : decode m_Plain_measure.2.1 135 = .ok (.return_, 1) := by decide +kernel
theorem b_Plain_ofAny_0 : mx_ck m_Plain_ofAny 0 [(.aload_n 0, [], 0), (.getfield 15, [4, 1, 3, 332], 0), (.iload_n 1, [], 0), (.iconst 1, [], nI 1), (.isub, [], 0), (.iaload, [], 0)] = some 8 := by decide +kernel
theorem d_Plain_ofAny_8 : decode m_Plain_ofAny.2.1 8 = .ok (.ireturn, 1) := by decide +kernel
theorem b_Plain_pairUp_0 : mx_ck m_Plain_pairUp 0 [(.aload_n 0, [], 0), (.getfield 25, [4, 3, 7, 334], 0)] = some 4 := by decide +kernel
theorem b_Plain_pairUp_7 : mx_ck m_Plain_pairUp 7 [(.aload_n 0, [], 0), (.getfield 28, [4, 4, 10, 335], 0)] = some 11 := by decide +kernel
theorem b_Plain_pairUp_14 : mx_ck m_Plain_pairUp 14 [(.aload_n 0, [], 0), (.getfield 31, [4, 5, 13, 336], 0)] = some 18 := by decide +kernel
theorem b_Plain_pairUp_21 : mx_ck m_Plain_pairUp 21 [(.iconst 0, [], nI 0), (.istore_n 2, [], 0)] = some 23 := by decide +kernel
theorem b_Plain_pairUp_23 : mx_ck m_Plain_pairUp 23 [(.iload_n 2, [], 0), (.aload_n 0, [], 0), (.getfield 21, [4, 2, 4, 333], 0), (.getfield 61, [6, 2, 0, 237], 0)] = some 31 := by decide +kernel
theorem b_Plain_pairUp_34 : mx_ck m_Plain_pairUp 34 [(.aload_n 0, [], 0), (.getfield 21, [4, 2, 4, 333], 0), (.getfield 64, [6, 0, 2, 230], 0), (.iload_n 2, [], 0), (.iaload, [], 0), (.istore_n 3, [], 0), (.aload_n 0, [], 0), (.getfield 25, [4, 3, 7, 334], 0), (.aload_n 1, [], 0), (.iconst 1, [], nI 1), (.iload_n 3, [], 0)] = some 51 := by decide +kernel
theorem b_Plain_pairUp_54 : mx_ck m_Plain_pairUp 54 [(.aload_n 0, [], 0), (.getfield 21, [4, 2, 4, 333], 0), (.getfield 70, [6, 1, 3, 233], 0), (.iload_n 3, [], 0), (.iaload, [], 0)] = some 63 := by decide +kernel
theorem b_Plain_pairUp_66 : mx_ck m_Plain_pairUp 66 [(.aload_n 0, [], 0), (.getfield 28, [4, 4, 10, 335], 0), (.aload_n 1, [], 0), (.iconst 1, [], nI 1), (.iload_n 3, [], 0)] = some 73 := by decide +kernel
theorem b_Plain_pairUp_76 : mx_ck m_Plain_pairUp 76 [(.aload_n 0, [], 0), (.getfield 21, [4, 2, 4, 333], 0), (.getfield 70, [6, 1, 3, 233], 0), (.iload_n 3, [], 0), (.iaload, [], 0)] = some 85 := by decide +kernel
theorem b_Plain_pairUp_88 : mx_ck m_Plain_pairUp 88 [(.iinc 2 1, [], nI 1)] = some 91 := by decide +kernel
theorem b_Plain_pairUp_94 : mx_ck m_Plain_pairUp 94 [(.iconst 0, [], nI 0), (.istore_n 2, [], 0)] = some 96 := by decide +kernel
theorem b_Plain_pairUp_96 : mx_ck m_Plain_pairUp 96 [(.iload_n 2, [], 0), (.aload_n 0, [], 0), (.getfield 25, [4, 3, 7, 334], 0), (.getfield 61, [6, 2, 0, 237], 0)] = some 104 := by decide +kernel
theorem b_Plain_pairUp_107 : mx_ck m_Plain_pairUp 107 [(.aload_n 0, [], 0), (.getfield 25, [4, 3, 7, 334], 0), (.getfield 64, [6, 0, 2, 230], 0), (.iload_n 2, [], 0), (.iaload, [], 0), (.istore_n 3, [], 0), (.iconst 0, [], nI 0), (.istore 4, [], 0)] = some 120 := by decide +kernel
theorem b_Plain_pairUp_120 : mx_ck m_Plain_pairUp 120 [(.iload 4, [], 0), (.aload_n 0, [], 0), (.getfield 28, [4, 4, 10, 335], 0), (.getfield 61, [6, 2, 0, 237], 0)] = some 129 := by decide +kernel
theorem b_Plain_pairUp_132 : mx_ck m_Plain_pairUp 132 [(.aload_n 0, [], 0), (.getfield 28, [4, 4, 10, 335], 0), (.getfield 64, [6, 0, 2, 230], 0), (.iload 4, [], 0), (.iaload, [], 0), (.istore 5, [], 0), (.aload_n 0, [], 0), (.getfield 31, [4, 5, 13, 336], 0), (.iload_n 3, [], 0), (.iload 5, [], 0), (.iand, [], 0), (.aload_n 0, [], 0), (.getfield 25, [4, 3, 7, 334], 0), (.getfield 70, [6, 1, 3, 233], 0), (.iload_n 3, [], 0), (.iaload, [], 0), (.aload_n 0, [], 0), (.getfield 28, [4, 4, 10, 335], 0), (.getfield 70, [6, 1, 3, 233], 0), (.iload 5, [], 0), (.iaload, [], 0), (.imul, [], 0)] = some 172 := by decide +kernel
theorem b_Plain_pairUp_175 : mx_ck m_Plain_pairUp 175 [(.iinc 4 1, [], nI 1)] = some 178 := by decide +kernel
theorem b_Plain_pairUp_181 : mx_ck m_Plain_pairUp 181 [(.iinc 2 1, [], nI 1)] = some 184 := by decide +kernel
theorem d_Plain_pairUp_4 : decode m_Plain_pairUp.2.1 4 = .ok (.invokevirtual 40, 3) := by decide +kernel
theorem c_Plain_pairUp_4 : mx_cv m_Plain_pairUp m_Sets_clear 40 0 [766, 624, 625, 88, 626] = true := by decide +kernel
theorem d_Plain_pairUp_11 : decode m_Plain_pairUp.2.1 11 = .ok (.invokevirtual 40, 3) := by decide +kernel
theorem c_Plain_pairUp_11 : mx_cv m_Plain_pairUp m_Sets_clear 40 0 [766, 624, 625, 88, 626] = true := by decide +kernel
theorem d_Plain_pairUp_18 : decode m_Plain_pairUp.2.1 18 = .ok (.invokevirtual 40, 3) := by decide +kernel
theorem c_Plain_pairUp_18 : mx_cv m_Plain_pairUp m_Sets_clear 40 0 [766, 624, 625, 88, 626] = true := by decide +kernel
theorem d_Plain_pairUp_31 : decode m_Plain_pairUp.2.1 31 = .ok (.if_icmp .ge 63, 3) := by decide +kernel
theorem d_Plain_pairUp_51 : decode m_Plain_pairUp.2.1 51 = .ok (.invokevirtual 77, 3) := by decide +kernel
theorem c_Plain_pairUp_51 : mx_cv m_Plain_pairUp m_House_withFirstIn 77 2 [771, 654, 655, 85, 656] = true := by decide +kernel
theorem d_Plain_pairUp_63 : decode m_Plain_pairUp.2.1 63 = .ok (.invokevirtual 57, 3) := by decide +kernel
theorem c_Plain_pairUp_63 : mx_cv m_Plain_pairUp m_Sets_raise 57 2 [772, 773, 774, 88, 775] = true := by decide +kernel
theorem d_Plain_pairUp_73 : decode m_Plain_pairUp.2.1 73 = .ok (.invokevirtual 81, 3) := by decide +kernel
theorem c_Plain_pairUp_73 : mx_cv m_Plain_pairUp m_House_withSecondIn 81 2 [777, 658, 659, 85, 660] = true := by decide +kernel
theorem d_Plain_pairUp_85 : decode m_Plain_pairUp.2.1 85 = .ok (.invokevirtual 57, 3) := by decide +kernel
theorem c_Plain_pairUp_85 : mx_cv m_Plain_pairUp m_Sets_raise 57 2 [772, 773, 774, 88, 775] = true := by decide +kernel
theorem d_Plain_pairUp_91 : decode m_Plain_pairUp.2.1 91 = .ok (.goto (-68), 3) := by decide +kernel
theorem d_Plain_pairUp_104 : decode m_Plain_pairUp.2.1 104 = .ok (.if_icmp .ge 83, 3) := by decide +kernel
theorem d_Plain_pairUp_129 : decode m_Plain_pairUp.2.1 129 = .ok (.if_icmp .ge 52, 3) := by decide +kernel
theorem d_Plain_pairUp_172 : decode m_Plain_pairUp.2.1 172 = .ok (.invokevirtual 57, 3) := by decide +kernel
theorem c_Plain_pairUp_172 : mx_cv m_Plain_pairUp m_Sets_raise 57 2 [772, 773, 774, 88, 775] = true := by decide +kernel
theorem d_Plain_pairUp_178 : decode m_Plain_pairUp.2.1 178 = .ok (.goto (-58), 3) := by decide +kernel
theorem d_Plain_pairUp_184 : decode m_Plain_pairUp.2.1 184 = .ok (.goto (-88), 3) := by decide +kernel
theorem d_Plain_pairUp_187 : decode m_Plain_pairUp.2.1 187 = .ok (.return_, 1) := by decide +kernel
theorem b_Plain_sumUp_0 : mx_ck m_Plain_sumUp 0 [(.iconst 0, [], nI 0), (.istore_n 2, [], 0)] = some 2 := by decide +kernel
theorem b_Plain_sumUp_2 : mx_ck m_Plain_sumUp 2 [(.iload_n 2, [], 0), (.aload_n 0, [], 0), (.getfield 21, [4, 2, 4, 333], 0), (.getfield 61, [6, 2, 0, 237], 0)] = some 10 := by decide +kernel
theorem b_Plain_sumUp_13 : mx_ck m_Plain_sumUp 13 [(.aload_n 0, [], 0), (.getfield 21, [4, 2, 4, 333], 0), (.getfield 64, [6, 0, 2, 230], 0), (.iload_n 2, [], 0), (.iaload, [], 0), (.istore_n 3, [], 0), (.aload_n 0, [], 0), (.getfield 21, [4, 2, 4, 333], 0), (.getfield 70, [6, 1, 3, 233], 0), (.iload_n 3, [], 0), (.iaload, [], 0), (.istore 4, [], 0), (.aload_n 0, [], 0), (.getfield 15, [4, 1, 3, 332], 0), (.iload_n 1, [], 0), (.dup2, [], 0), (.iaload, [], 0), (.iload 4, [], 0), (.iadd, [], 0), (.iastore, [], 0), (.iconst 0, [], nI 0), (.istore 5, [], 0)] = some 48 := by decide +kernel
theorem b_Plain_sumUp_48 : mx_ck m_Plain_sumUp 48 [(.iload 5, [], 0), (.bipush 8, [], nI 8)] = some 52 := by decide +kernel
theorem b_Plain_sumUp_55 : mx_ck m_Plain_sumUp 55 [(.aload_n 0, [], 0), (.getfield 9, [4, 0, 2, 331], 0), (.iload_n 1, [], 0), (.bipush 8, [], nI 8), (.imul, [], 0), (.iload 5, [], 0), (.iadd, [], 0), (.dup2, [], 0), (.iaload, [], 0), (.iload_n 3, [], 0), (.iload 5, [], 0), (.ishr, [], 0), (.iconst 1, [], nI 1), (.iand, [], 0), (.iload 4, [], 0), (.imul, [], 0), (.iadd, [], 0), (.iastore, [], 0), (.iinc 5 1, [], nI 1)] = some 82 := by decide +kernel
theorem b_Plain_sumUp_85 : mx_ck m_Plain_sumUp 85 [(.iinc 2 1, [], nI 1)] = some 88 := by decide +kernel
theorem d_Plain_sumUp_10 : decode m_Plain_sumUp.2.1 10 = .ok (.if_icmp .ge 81, 3) := by decide +kernel
theorem d_Plain_sumUp_52 : decode m_Plain_sumUp.2.1 52 = .ok (.if_icmp .ge 33, 3) := by decide +kernel
theorem d_Plain_sumUp_82 : decode m_Plain_sumUp.2.1 82 = .ok (.goto (-34), 3) := by decide +kernel
theorem d_Plain_sumUp_88 : decode m_Plain_sumUp.2.1 88 = .ok (.goto (-86), 3) := by decide +kernel
theorem d_Plain_sumUp_91 : decode m_Plain_sumUp.2.1 91 = .ok (.return_, 1) := by decide +kernel
theorem b_Rows_bits_0 : mx_ck m_Rows_bits 0 [(.iconst 0, [], nI 0), (.istore 4, [], 0), (.iconst 0, [], nI 0), (.istore 5, [], 0)] = some 6 := by decide +kernel
theorem b_Rows_bits_6 : mx_ck m_Rows_bits 6 [(.iload 5, [], 0), (.iload_n 3, [], 0)] = some 9 := by decide +kernel
theorem b_Rows_bits_12 : mx_ck m_Rows_bits 12 [(.iload 4, [], 0), (.aload_n 0, [], 0), (.getfield 18, [5, 2, 4, 114], 0), (.iload_n 1, [], 0), (.bipush 40, [], nI 40), (.imul, [], 0), (.iload_n 2, [], 0), (.iadd, [], 0), (.iload 5, [], 0), (.iadd, [], 0), (.iaload, [], 0)] = some 28 := by decide +kernel
theorem b_Rows_bits_31 : mx_ck m_Rows_bits 31 [(.iconst 1, [], nI 1), (.iload 5, [], 0), (.ishl, [], 0)] = some 35 := by decide +kernel
theorem b_Rows_bits_38 : mx_ck m_Rows_bits 38 [(.iconst 0, [], nI 0)] = some 39 := by decide +kernel
theorem b_Rows_bits_39 : mx_ck m_Rows_bits 39 [(.ior, [], 0), (.istore 4, [], 0), (.iinc 5 1, [], nI 1)] = some 45 := by decide +kernel
theorem b_Rows_bits_48 : mx_ck m_Rows_bits 48 [(.iload 4, [], 0)] = some 50 := by decide +kernel
theorem d_Rows_bits_9 : decode m_Rows_bits.2.1 9 = .ok (.if_icmp .ge 39, 3) := by decide +kernel
theorem d_Rows_bits_28 : decode m_Rows_bits.2.1 28 = .ok (.ifCond .eq 10, 3) := by decide +kernel
theorem d_Rows_bits_35 : decode m_Rows_bits.2.1 35 = .ok (.goto 4, 3) := by decide +kernel
theorem d_Rows_bits_45 : decode m_Rows_bits.2.1 45 = .ok (.goto (-39), 3) := by decide +kernel
theorem d_Rows_bits_50 : decode m_Rows_bits.2.1 50 = .ok (.ireturn, 1) := by decide +kernel
theorem b_Rows_findingAt_0 : mx_ck m_Rows_findingAt 0 [(.aload_n 0, [], 0), (.getfield 11, [5, 0, 2, 112], 0), (.iload_n 1, [], 0), (.iaload, [], 0), (.iconst (-1), [], (-1))] = some 7 := by decide +kernel
theorem b_Rows_findingAt_10 : mx_ck m_Rows_findingAt 10 [(.iconst 1, [], nI 1)] = some 11 := by decide +kernel
theorem b_Rows_findingAt_12 : mx_ck m_Rows_findingAt 12 [(.aload_n 0, [], 0), (.iload_n 1, [], 0), (.iload_n 2, [], 0), (.iload_n 3, [], 0)] = some 16 := by decide +kernel
theorem b_Rows_findingAt_22 : mx_ck m_Rows_findingAt 22 [(.iconst 0, [], nI 0)] = some 23 := by decide +kernel
theorem b_Rows_findingAt_26 : mx_ck m_Rows_findingAt 26 [(.iconst 2, [], nI 2)] = some 27 := by decide +kernel
theorem d_Rows_findingAt_7 : decode m_Rows_findingAt.2.1 7 = .ok (.if_icmp .ne 5, 3) := by decide +kernel
theorem d_Rows_findingAt_11 : decode m_Rows_findingAt.2.1 11 = .ok (.ireturn, 1) := by decide +kernel
theorem d_Rows_findingAt_16 : decode m_Rows_findingAt.2.1 16 = .ok (.invokevirtual 33, 3) := by decide +kernel
theorem c_Rows_findingAt_16 : mx_cv m_Rows_findingAt m_Rows_isPlace 33 3 [444, 446, 0, 82, 447] = true := by decide +kernel
theorem d_Rows_findingAt_19 : decode m_Rows_findingAt.2.1 19 = .ok (.ifCond .eq 7, 3) := by decide +kernel
theorem d_Rows_findingAt_23 : decode m_Rows_findingAt.2.1 23 = .ok (.goto 4, 3) := by decide +kernel
theorem d_Rows_findingAt_27 : decode m_Rows_findingAt.2.1 27 = .ok (.ireturn, 1) := by decide +kernel
theorem b_Rows_findingOfMove_0 : mx_ck m_Rows_findingOfMove 0 [(.aload_n 0, [], 0), (.getfield 11, [5, 0, 2, 112], 0), (.iload_n 1, [], 0), (.iaload, [], 0), (.iconst (-1), [], (-1))] = some 7 := by decide +kernel
theorem b_Rows_findingOfMove_10 : mx_ck m_Rows_findingOfMove 10 [(.aload_n 0, [], 0), (.getfield 11, [5, 0, 2, 112], 0), (.iload_n 3, [], 0), (.iaload, [], 0), (.iconst (-1), [], (-1))] = some 17 := by decide +kernel
theorem b_Rows_findingOfMove_20 : mx_ck m_Rows_findingOfMove 20 [(.iconst 1, [], nI 1)] = some 21 := by decide +kernel
theorem b_Rows_findingOfMove_22 : mx_ck m_Rows_findingOfMove 22 [(.aload_n 0, [], 0), (.getfield 11, [5, 0, 2, 112], 0), (.iload_n 1, [], 0), (.iaload, [], 0), (.aload_n 0, [], 0), (.getfield 11, [5, 0, 2, 112], 0), (.iload_n 3, [], 0), (.iaload, [], 0)] = some 34 := by decide +kernel
theorem b_Rows_findingOfMove_37 : mx_ck m_Rows_findingOfMove 37 [(.iconst 5, [], nI 5)] = some 38 := by decide +kernel
theorem b_Rows_findingOfMove_39 : mx_ck m_Rows_findingOfMove 39 [(.aload_n 0, [], 0), (.iload_n 1, [], 0), (.iload_n 2, [], 0), (.iload 5, [], 0)] = some 44 := by decide +kernel
theorem b_Rows_findingOfMove_50 : mx_ck m_Rows_findingOfMove 50 [(.aload_n 0, [], 0), (.iload_n 3, [], 0), (.iload 4, [], 0), (.iload 5, [], 0)] = some 56 := by decide +kernel
theorem b_Rows_findingOfMove_62 : mx_ck m_Rows_findingOfMove 62 [(.iconst 0, [], nI 0)] = some 63 := by decide +kernel
theorem b_Rows_findingOfMove_66 : mx_ck m_Rows_findingOfMove 66 [(.iconst 2, [], nI 2)] = some 67 := by decide +kernel
theorem d_Rows_findingOfMove_7 : decode m_Rows_findingOfMove.2.1 7 = .ok (.if_icmp .eq 13, 3) := by decide +kernel
theorem d_Rows_findingOfMove_17 : decode m_Rows_findingOfMove.2.1 17 = .ok (.if_icmp .ne 5, 3) := by decide +kernel
theorem d_Rows_findingOfMove_21 : decode m_Rows_findingOfMove.2.1 21 = .ok (.ireturn, 1) := by decide +kernel
theorem d_Rows_findingOfMove_34 : decode m_Rows_findingOfMove.2.1 34 = .ok (.if_icmp .eq 5, 3) := by decide +kernel
theorem d_Rows_findingOfMove_38 : decode m_Rows_findingOfMove.2.1 38 = .ok (.ireturn, 1) := by decide +kernel
theorem d_Rows_findingOfMove_44 : decode m_Rows_findingOfMove.2.1 44 = .ok (.invokevirtual 33, 3) := by decide +kernel
theorem c_Rows_findingOfMove_44 : mx_cv m_Rows_findingOfMove m_Rows_isPlace 33 3 [444, 446, 0, 82, 447] = true := by decide +kernel
theorem d_Rows_findingOfMove_47 : decode m_Rows_findingOfMove.2.1 47 = .ok (.ifCond .eq 19, 3) := by decide +kernel
theorem d_Rows_findingOfMove_56 : decode m_Rows_findingOfMove.2.1 56 = .ok (.invokevirtual 33, 3) := by decide +kernel
theorem c_Rows_findingOfMove_56 : mx_cv m_Rows_findingOfMove m_Rows_isPlace 33 3 [444, 446, 0, 82, 447] = true := by decide +kernel
theorem d_Rows_findingOfMove_59 : decode m_Rows_findingOfMove.2.1 59 = .ok (.ifCond .eq 7, 3) := by decide +kernel
theorem d_Rows_findingOfMove_63 : decode m_Rows_findingOfMove.2.1 63 = .ok (.goto 4, 3) := by decide +kernel
theorem d_Rows_findingOfMove_67 : decode m_Rows_findingOfMove.2.1 67 = .ok (.ireturn, 1) := by decide +kernel
theorem b_Rows_init_0 : mx_ck m_Rows_init 0 [(.aload_n 0, [], 0)] = some 1 := by decide +kernel
theorem b_Rows_init_4 : mx_ck m_Rows_init 4 [(.aload_n 0, [], 0), (.bipush 8, [], nI 8)] = some 7 := by decide +kernel
theorem b_Rows_init_12 : mx_ck m_Rows_init 12 [(.aload_n 0, [], 0), (.bipush 8, [], nI 8)] = some 15 := by decide +kernel
theorem b_Rows_init_20 : mx_ck m_Rows_init 20 [(.aload_n 0, [], 0), (.sipush 320, [], nI 320)] = some 24 := by decide +kernel
theorem b_Rows_init_29 : mx_ck m_Rows_init 29 [(.aload_n 0, [], 0), (.getfield 11, [5, 0, 2, 112], 0), (.iconst (-1), [], (-1))] = some 34 := by decide +kernel
theorem d_Rows_init_1 : decode m_Rows_init.2.1 1 = .ok (.invokespecial 3, 3) := by decide +kernel
theorem d_Rows_init_7 : decode m_Rows_init.2.1 7 = .ok (.newarray .int, 2) := by decide +kernel
theorem d_Rows_init_9 : decode m_Rows_init.2.1 9 = .ok (.putfield 11, 3) := by decide +kernel
theorem d_Rows_init_15 : decode m_Rows_init.2.1 15 = .ok (.newarray .int, 2) := by decide +kernel
theorem d_Rows_init_17 : decode m_Rows_init.2.1 17 = .ok (.putfield 15, 3) := by decide +kernel
theorem d_Rows_init_24 : decode m_Rows_init.2.1 24 = .ok (.newarray .int, 2) := by decide +kernel
theorem d_Rows_init_26 : decode m_Rows_init.2.1 26 = .ok (.putfield 18, 3) := by decide +kernel
theorem d_Rows_init_34 : decode m_Rows_init.2.1 34 = .ok (.invokestatic 21, 3) := by decide +kernel
theorem c_Rows_init_34 : mx_cs m_Rows_init m_fill 21 2 [109, 110, 83, 111] = true := by decide +kernel
theorem d_Rows_init_37 : decode m_Rows_init.2.1 37 = .ok (.return_, 1) := by decide +kernel
theorem b_Rows_isLane_0 : mx_ck m_Rows_isLane 0 [(.iload_n 0, [], 0)] = some 1 := by decide +kernel
theorem b_Rows_isLane_4 : mx_ck m_Rows_isLane 4 [(.iload_n 0, [], 0), (.iconst 2, [], nI 2)] = some 6 := by decide +kernel
theorem b_Rows_isLane_9 : mx_ck m_Rows_isLane 9 [(.iconst 1, [], nI 1)] = some 10 := by decide +kernel
theorem b_Rows_isLane_13 : mx_ck m_Rows_isLane 13 [(.iconst 0, [], nI 0)] = some 14 := by decide +kernel
theorem d_Rows_isLane_1 : decode m_Rows_isLane.2.1 1 = .ok (.ifCond .lt 12, 3) := by decide +kernel
theorem d_Rows_isLane_6 : decode m_Rows_isLane.2.1 6 = .ok (.if_icmp .gt 7, 3) := by decide +kernel
theorem d_Rows_isLane_10 : decode m_Rows_isLane.2.1 10 = .ok (.goto 4, 3) := by decide +kernel
theorem d_Rows_isLane_14 : decode m_Rows_isLane.2.1 14 = .ok (.ireturn, 1) := by decide +kernel
theorem b_Rows_isNumber_0 : mx_ck m_Rows_isNumber 0 [(.iload_n 0, [], 0)] = some 1 := by decide +kernel
theorem b_Rows_isNumber_4 : mx_ck m_Rows_isNumber 4 [(.iload_n 0, [], 0), (.bipush 8, [], nI 8)] = some 7 := by decide +kernel
theorem b_Rows_isNumber_10 : mx_ck m_Rows_isNumber 10 [(.iconst 1, [], nI 1)] = some 11 := by decide +kernel
theorem b_Rows_isNumber_14 : mx_ck m_Rows_isNumber 14 [(.iconst 0, [], nI 0)] = some 15 := by decide +kernel
theorem d_Rows_isNumber_1 : decode m_Rows_isNumber.2.1 1 = .ok (.ifCond .lt 13, 3) := by decide +kernel
theorem d_Rows_isNumber_7 : decode m_Rows_isNumber.2.1 7 = .ok (.if_icmp .ge 7, 3) := by decide +kernel
theorem d_Rows_isNumber_11 : decode m_Rows_isNumber.2.1 11 = .ok (.goto 4, 3) := by decide +kernel
theorem d_Rows_isNumber_15 : decode m_Rows_isNumber.2.1 15 = .ok (.ireturn, 1) := by decide +kernel
theorem b_Rows_isPlace_0 : mx_ck m_Rows_isPlace 0 [(.iload_n 2, [], 0)] = some 1 := by decide +kernel
theorem b_Rows_isPlace_4 : mx_ck m_Rows_isPlace 4 [(.iload_n 3, [], 0)] = some 5 := by decide +kernel
theorem b_Rows_isPlace_8 : mx_ck m_Rows_isPlace 8 [(.iload_n 2, [], 0), (.aload_n 0, [], 0), (.getfield 15, [5, 1, 3, 113], 0), (.iload_n 1, [], 0), (.iaload, [], 0)] = some 15 := by decide +kernel
theorem b_Rows_isPlace_18 : mx_ck m_Rows_isPlace 18 [(.iload_n 3, [], 0), (.aload_n 0, [], 0), (.getfield 15, [5, 1, 3, 113], 0), (.iload_n 1, [], 0), (.iaload, [], 0), (.iload_n 2, [], 0), (.isub, [], 0)] = some 27 := by decide +kernel
theorem b_Rows_isPlace_30 : mx_ck m_Rows_isPlace 30 [(.iconst 1, [], nI 1)] = some 31 := by decide +kernel
theorem b_Rows_isPlace_34 : mx_ck m_Rows_isPlace 34 [(.iconst 0, [], nI 0)] = some 35 := by decide +kernel
theorem d_Rows_isPlace_1 : decode m_Rows_isPlace.2.1 1 = .ok (.ifCond .lt 33, 3) := by decide +kernel
theorem d_Rows_isPlace_5 : decode m_Rows_isPlace.2.1 5 = .ok (.ifCond .lt 29, 3) := by decide +kernel
theorem d_Rows_isPlace_15 : decode m_Rows_isPlace.2.1 15 = .ok (.if_icmp .gt 19, 3) := by decide +kernel
theorem d_Rows_isPlace_27 : decode m_Rows_isPlace.2.1 27 = .ok (.if_icmp .gt 7, 3) := by decide +kernel
theorem d_Rows_isPlace_31 : decode m_Rows_isPlace.2.1 31 = .ok (.goto 4, 3) := by decide +kernel
theorem d_Rows_isPlace_35 : decode m_Rows_isPlace.2.1 35 = .ok (.ireturn, 1) := by decide +kernel
theorem b_Rows_lose_0 : mx_ck m_Rows_lose 0 [(.aload_n 0, [], 0), (.getfield 11, [5, 0, 2, 112], 0), (.iload_n 1, [], 0), (.iconst (-1), [], (-1)), (.iastore, [], 0), (.aload_n 0, [], 0), (.getfield 15, [5, 1, 3, 113], 0), (.iload_n 1, [], 0), (.iaload, [], 0)] = some 13 := by decide +kernel
theorem d_Rows_lose_13 : decode m_Rows_lose.2.1 13 = .ok (.ireturn, 1) := by decide +kernel
theorem b_Rows_make_0 : mx_ck m_Rows_make 0 [(.aload_n 0, [], 0), (.getfield 11, [5, 0, 2, 112], 0), (.iload_n 1, [], 0), (.iload_n 2, [], 0), (.iastore, [], 0), (.aload_n 0, [], 0), (.getfield 15, [5, 1, 3, 113], 0), (.iload_n 1, [], 0), (.iload_n 3, [], 0), (.iastore, [], 0), (.iconst 0, [], nI 0), (.istore 4, [], 0)] = some 17 := by decide +kernel
theorem b_Rows_make_17 : mx_ck m_Rows_make 17 [(.iload 4, [], 0), (.iload_n 3, [], 0)] = some 20 := by decide +kernel
theorem b_Rows_make_23 : mx_ck m_Rows_make 23 [(.aload_n 0, [], 0), (.getfield 18, [5, 2, 4, 114], 0), (.iload_n 1, [], 0), (.bipush 40, [], nI 40), (.imul, [], 0), (.iload 4, [], 0), (.iadd, [], 0), (.iconst 0, [], nI 0), (.iastore, [], 0), (.iinc 4 1, [], nI 1)] = some 39 := by decide +kernel
theorem d_Rows_make_20 : decode m_Rows_make.2.1 20 = .ok (.if_icmp .ge 22, 3) := by decide +kernel
theorem d_Rows_make_39 : decode m_Rows_make.2.1 39 = .ok (.goto (-22), 3) := by decide +kernel
theorem d_Rows_make_42 : decode m_Rows_make.2.1 42 = .ok (.return_, 1) := by decide +kernel
theorem b_Rows_move_0 : mx_ck m_Rows_move 0 [(.aload_n 0, [], 0), (.getfield 18, [5, 2, 4, 114], 0), (.iload_n 1, [], 0), (.bipush 40, [], nI 40), (.imul, [], 0), (.iload_n 2, [], 0), (.iadd, [], 0), (.aload_n 0, [], 0), (.getfield 18, [5, 2, 4, 114], 0), (.iload_n 3, [], 0), (.bipush 40, [], nI 40), (.imul, [], 0), (.iload 4, [], 0), (.iadd, [], 0), (.iload 5, [], 0)] = some 23 := by decide +kernel
theorem d_Rows_move_23 : decode m_Rows_move.2.1 23 = .ok (.invokestatic 27, 3) := by decide +kernel
theorem c_Rows_move_23 : mx_ca m_Rows_move 27 [464, 466, 465, 93] = true := by decide +kernel
theorem d_Rows_move_26 : decode m_Rows_move.2.1 26 = .ok (.return_, 1) := by decide +kernel
theorem b_Rows_present_0 : mx_ck m_Rows_present 0 [(.iconst 0, [], nI 0), (.istore_n 1, [], 0), (.iconst 0, [], nI 0), (.istore_n 2, [], 0)] = some 4 := by decide +kernel
theorem b_Rows_present_4 : mx_ck m_Rows_present 4 [(.iload_n 2, [], 0), (.bipush 8, [], nI 8)] = some 7 := by decide +kernel
theorem b_Rows_present_10 : mx_ck m_Rows_present 10 [(.iload_n 1, [], 0), (.aload_n 0, [], 0), (.getfield 11, [5, 0, 2, 112], 0), (.iload_n 2, [], 0), (.iaload, [], 0), (.iconst (-1), [], (-1))] = some 18 := by decide +kernel
theorem b_Rows_present_21 : mx_ck m_Rows_present 21 [(.iconst 1, [], nI 1)] = some 22 := by decide +kernel
theorem b_Rows_present_25 : mx_ck m_Rows_present 25 [(.iconst 0, [], nI 0)] = some 26 := by decide +kernel
theorem b_Rows_present_26 : mx_ck m_Rows_present 26 [(.iadd, [], 0), (.istore_n 1, [], 0), (.iinc 2 1, [], nI 1)] = some 31 := by decide +kernel
theorem b_Rows_present_34 : mx_ck m_Rows_present 34 [(.iload_n 1, [], 0)] = some 35 := by decide +kernel
theorem d_Rows_present_7 : decode m_Rows_present.2.1 7 = .ok (.if_icmp .ge 27, 3) := by decide +kernel
theorem d_Rows_present_18 : decode m_Rows_present.2.1 18 = .ok (.if_icmp .eq 7, 3) := by decide +kernel
theorem d_Rows_present_22 : decode m_Rows_present.2.1 22 = .ok (.goto 4, 3) := by decide +kernel
theorem d_Rows_present_31 : decode m_Rows_present.2.1 31 = .ok (.goto (-27), 3) := by decide +kernel
theorem d_Rows_present_35 : decode m_Rows_present.2.1 35 = .ok (.ireturn, 1) := by decide +kernel
theorem b_Rows_put_0 : mx_ck m_Rows_put 0 [(.aload_n 0, [], 0), (.getfield 11, [5, 0, 2, 112], 0), (.iload_n 1, [], 0), (.iaload, [], 0), (.istore 4, [], 0), (.iload 4, [], 0)] = some 10 := by decide +kernel
theorem b_Rows_put_13 : mx_ck m_Rows_put 13 [(.iload_n 3, [], 0), (.i2b, [], 0)] = some 15 := by decide +kernel
theorem b_Rows_put_18 : mx_ck m_Rows_put 18 [(.iload 4, [], 0), (.iconst 1, [], nI 1)] = some 21 := by decide +kernel
theorem b_Rows_put_24 : mx_ck m_Rows_put 24 [(.iload_n 3, [], 0), (.i2s, [], 0)] = some 26 := by decide +kernel
theorem b_Rows_put_29 : mx_ck m_Rows_put 29 [(.iload_n 3, [], 0)] = some 30 := by decide +kernel
theorem b_Rows_put_30 : mx_ck m_Rows_put 30 [(.istore 5, [], 0), (.aload_n 0, [], 0), (.getfield 18, [5, 2, 4, 114], 0), (.iload_n 1, [], 0), (.bipush 40, [], nI 40), (.imul, [], 0), (.iload_n 2, [], 0), (.iadd, [], 0), (.iload 5, [], 0), (.iastore, [], 0), (.iload 5, [], 0)] = some 47 := by decide +kernel
theorem d_Rows_put_10 : decode m_Rows_put.2.1 10 = .ok (.ifCond .ne 8, 3) := by decide +kernel
theorem d_Rows_put_15 : decode m_Rows_put.2.1 15 = .ok (.goto 15, 3) := by decide +kernel
theorem d_Rows_put_21 : decode m_Rows_put.2.1 21 = .ok (.if_icmp .ne 8, 3) := by decide +kernel
theorem d_Rows_put_26 : decode m_Rows_put.2.1 26 = .ok (.goto 4, 3) := by decide +kernel
theorem d_Rows_put_47 : decode m_Rows_put.2.1 47 = .ok (.ireturn, 1) := by decide +kernel
theorem b_Sets_add_0 : mx_ck m_Sets_add 0 [(.aload_n 0, [], 0), (.getfield 15, [6, 1, 3, 232], 0), (.iload_n 1, [], 0), (.iaload, [], 0)] = some 6 := by decide +kernel
theorem b_Sets_add_9 : mx_ck m_Sets_add 9 [(.aload_n 0, [], 0), (.getfield 18, [6, 2, 0, 235], 0), (.sipush 256, [], nI 256)] = some 16 := by decide +kernel
theorem b_Sets_add_19 : mx_ck m_Sets_add 19 [(.iconst 0, [], nI 0)] = some 20 := by decide +kernel
theorem b_Sets_add_21 : mx_ck m_Sets_add 21 [(.aload_n 0, [], 0), (.getfield 9, [6, 0, 2, 229], 0), (.aload_n 0, [], 0), (.getfield 18, [6, 2, 0, 235], 0), (.iload_n 1, [], 0), (.iastore, [], 0), (.aload_n 0, [], 0), (.getfield 15, [6, 1, 3, 232], 0), (.iload_n 1, [], 0), (.iload_n 2, [], 0), (.iastore, [], 0), (.aload_n 0, [], 0), (.dup, [], 0), (.getfield 18, [6, 2, 0, 235], 0), (.iconst 1, [], nI 1), (.iadd, [], 0), (.putfield 18, [6, 2, 0, 235], 0), (.iconst 1, [], nI 1)] = some 49 := by decide +kernel
theorem d_Sets_add_6 : decode m_Sets_add.2.1 6 = .ok (.ifCond .ne 13, 3) := by decide +kernel
theorem d_Sets_add_16 : decode m_Sets_add.2.1 16 = .ok (.if_icmp .lt 5, 3) := by decide +kernel
theorem d_Sets_add_20 : decode m_Sets_add.2.1 20 = .ok (.ireturn, 1) := by decide +kernel
theorem d_Sets_add_49 : decode m_Sets_add.2.1 49 = .ok (.ireturn, 1) := by decide +kernel
theorem b_Sets_clear_0 : mx_ck m_Sets_clear 0 [(.iconst 0, [], nI 0), (.istore_n 1, [], 0)] = some 2 := by decide +kernel
theorem b_Sets_clear_2 : mx_ck m_Sets_clear 2 [(.iload_n 1, [], 0), (.aload_n 0, [], 0), (.getfield 18, [6, 2, 0, 235], 0)] = some 7 := by decide +kernel
theorem b_Sets_clear_10 : mx_ck m_Sets_clear 10 [(.aload_n 0, [], 0), (.getfield 15, [6, 1, 3, 232], 0), (.aload_n 0, [], 0), (.getfield 9, [6, 0, 2, 229], 0), (.iload_n 1, [], 0), (.iaload, [], 0), (.iconst 0, [], nI 0), (.iastore, [], 0), (.iinc 1 1, [], nI 1)] = some 25 := by decide +kernel
theorem b_Sets_clear_28 : mx_ck m_Sets_clear 28 [(.aload_n 0, [], 0), (.iconst 0, [], nI 0), (.putfield 18, [6, 2, 0, 235], 0)] = some 33 := by decide +kernel
theorem d_Sets_clear_7 : decode m_Sets_clear.2.1 7 = .ok (.if_icmp .ge 21, 3) := by decide +kernel
theorem d_Sets_clear_25 : decode m_Sets_clear.2.1 25 = .ok (.goto (-23), 3) := by decide +kernel
theorem d_Sets_clear_33 : decode m_Sets_clear.2.1 33 = .ok (.return_, 1) := by decide +kernel
theorem b_Sets_init_0 : mx_ck m_Sets_init 0 [(.aload_n 0, [], 0)] = some 1 := by decide +kernel
theorem b_Sets_init_4 : mx_ck m_Sets_init 4 [(.aload_n 0, [], 0), (.sipush 256, [], nI 256)] = some 8 := by decide +kernel
theorem b_Sets_init_13 : mx_ck m_Sets_init 13 [(.aload_n 0, [], 0), (.sipush 256, [], nI 256)] = some 17 := by decide +kernel
theorem d_Sets_init_1 : decode m_Sets_init.2.1 1 = .ok (.invokespecial 3, 3) := by decide +kernel
theorem d_Sets_init_8 : decode m_Sets_init.2.1 8 = .ok (.newarray .int, 2) := by decide +kernel
theorem d_Sets_init_10 : decode m_Sets_init.2.1 10 = .ok (.putfield 9, 3) := by decide +kernel
theorem d_Sets_init_17 : decode m_Sets_init.2.1 17 = .ok (.newarray .int, 2) := by decide +kernel
theorem d_Sets_init_19 : decode m_Sets_init.2.1 19 = .ok (.putfield 15, 3) := by decide +kernel
theorem d_Sets_init_22 : decode m_Sets_init.2.1 22 = .ok (.return_, 1) := by decide +kernel
theorem b_Sets_raise_0 : mx_ck m_Sets_raise 0 [(.aload_n 0, [], 0), (.iload_n 1, [], 0), (.iload_n 2, [], 0)] = some 3 := by decide +kernel
theorem b_Sets_raise_9 : mx_ck m_Sets_raise 9 [(.aload_n 0, [], 0), (.getfield 15, [6, 1, 3, 232], 0), (.iload_n 1, [], 0), (.dup2, [], 0), (.iaload, [], 0), (.iload_n 2, [], 0), (.iadd, [], 0), (.iastore, [], 0)] = some 19 := by decide +kernel
theorem d_Sets_raise_3 : decode m_Sets_raise.2.1 3 = .ok (.invokevirtual 22, 3) := by decide +kernel
theorem c_Sets_raise_3 : mx_cv m_Sets_raise m_Sets_add 22 2 [776, 641, 642, 88, 643] = true := by decide +kernel
theorem d_Sets_raise_6 : decode m_Sets_raise.2.1 6 = .ok (.ifCond .ne 13, 3) := by decide +kernel
theorem d_Sets_raise_19 : decode m_Sets_raise.2.1 19 = .ok (.return_, 1) := by decide +kernel
theorem b_Sides_clear_0 : mx_ck m_Sides_clear 0 [(.aload_n 0, [], 0), (.getfield 21, [7, 2, 4, 258], 0)] = some 4 := by decide +kernel
theorem b_Sides_clear_7 : mx_ck m_Sides_clear 7 [(.aload_n 0, [], 0), (.getfield 25, [7, 3, 7, 260], 0)] = some 11 := by decide +kernel
theorem d_Sides_clear_4 : decode m_Sides_clear.2.1 4 = .ok (.invokevirtual 28, 3) := by decide +kernel
theorem c_Sides_clear_4 : mx_cv m_Sides_clear m_Sets_clear 28 0 [631, 624, 625, 88, 626] = true := by decide +kernel
theorem d_Sides_clear_11 : decode m_Sides_clear.2.1 11 = .ok (.invokevirtual 28, 3) := by decide +kernel
theorem c_Sides_clear_11 : mx_cv m_Sides_clear m_Sets_clear 28 0 [631, 624, 625, 88, 626] = true := by decide +kernel
theorem d_Sides_clear_14 : decode m_Sides_clear.2.1 14 = .ok (.return_, 1) := by decide +kernel
theorem b_Sides_init_0 : mx_ck m_Sides_init 0 [(.aload_n 0, [], 0)] = some 1 := by decide +kernel
theorem b_Sides_init_4 : mx_ck m_Sides_init 4 [(.aload_n 0, [], 0), (.sipush 256, [], nI 256)] = some 8 := by decide +kernel
theorem b_Sides_init_13 : mx_ck m_Sides_init 13 [(.aload_n 0, [], 0), (.sipush 256, [], nI 256)] = some 17 := by decide +kernel
theorem b_Sides_init_22 : mx_ck m_Sides_init 22 [(.aload_n 0, [], 0)] = some 23 := by decide +kernel
theorem b_Sides_init_26 : mx_ck m_Sides_init 26 [(.dup, [], 0)] = some 27 := by decide +kernel
theorem b_Sides_init_33 : mx_ck m_Sides_init 33 [(.aload_n 0, [], 0)] = some 34 := by decide +kernel
theorem b_Sides_init_37 : mx_ck m_Sides_init 37 [(.dup, [], 0)] = some 38 := by decide +kernel
theorem d_Sides_init_1 : decode m_Sides_init.2.1 1 = .ok (.invokespecial 3, 3) := by decide +kernel
theorem d_Sides_init_8 : decode m_Sides_init.2.1 8 = .ok (.newarray .int, 2) := by decide +kernel
theorem d_Sides_init_10 : decode m_Sides_init.2.1 10 = .ok (.putfield 9, 3) := by decide +kernel
theorem d_Sides_init_17 : decode m_Sides_init.2.1 17 = .ok (.newarray .int, 2) := by decide +kernel
theorem d_Sides_init_19 : decode m_Sides_init.2.1 19 = .ok (.putfield 15, 3) := by decide +kernel
theorem d_Sides_init_23 : decode m_Sides_init.2.1 23 = .ok (.new 18, 3) := by decide +kernel
theorem d_Sides_init_27 : decode m_Sides_init.2.1 27 = .ok (.invokespecial 20, 3) := by decide +kernel
theorem d_Sides_init_30 : decode m_Sides_init.2.1 30 = .ok (.putfield 21, 3) := by decide +kernel
theorem d_Sides_init_34 : decode m_Sides_init.2.1 34 = .ok (.new 18, 3) := by decide +kernel
theorem d_Sides_init_38 : decode m_Sides_init.2.1 38 = .ok (.invokespecial 20, 3) := by decide +kernel
theorem d_Sides_init_41 : decode m_Sides_init.2.1 41 = .ok (.putfield 25, 3) := by decide +kernel
theorem d_Sides_init_44 : decode m_Sides_init.2.1 44 = .ok (.return_, 1) := by decide +kernel
theorem b_Sides_see_0 : mx_ck m_Sides_see 0 [(.aload_n 0, [], 0), (.getfield 9, [7, 0, 2, 254], 0), (.iload_n 3, [], 0), (.aload_n 1, [], 0), (.iload_n 2, [], 0), (.iload 4, [], 0)] = some 9 := by decide +kernel
theorem b_Sides_see_12 : mx_ck m_Sides_see 12 [(.iastore, [], 0), (.aload_n 0, [], 0), (.getfield 15, [7, 1, 3, 256], 0), (.iload_n 3, [], 0), (.aload_n 1, [], 0), (.iload_n 2, [], 0), (.iload 4, [], 0)] = some 22 := by decide +kernel
theorem b_Sides_see_25 : mx_ck m_Sides_see 25 [(.iastore, [], 0), (.aload_n 0, [], 0), (.getfield 21, [7, 2, 4, 258], 0), (.aload_n 0, [], 0), (.getfield 9, [7, 0, 2, 254], 0), (.iload_n 3, [], 0), (.iaload, [], 0), (.iconst 1, [], nI 1)] = some 37 := by decide +kernel
theorem b_Sides_see_40 : mx_ck m_Sides_see 40 [(.pop, [], 0), (.aload_n 0, [], 0), (.getfield 25, [7, 3, 7, 260], 0), (.aload_n 0, [], 0), (.getfield 15, [7, 1, 3, 256], 0), (.iload_n 3, [], 0), (.iaload, [], 0), (.iconst 1, [], nI 1)] = some 52 := by decide +kernel
theorem b_Sides_see_55 : mx_ck m_Sides_see 55 [(.pop, [], 0)] = some 56 := by decide +kernel
theorem d_Sides_see_9 : decode m_Sides_see.2.1 9 = .ok (.invokevirtual 31, 3) := by decide +kernel
theorem c_Sides_see_9 : mx_cv m_Sides_see m_House_withFirstIn 31 2 [653, 654, 655, 85, 656] = true := by decide +kernel
theorem d_Sides_see_22 : decode m_Sides_see.2.1 22 = .ok (.invokevirtual 37, 3) := by decide +kernel
theorem c_Sides_see_22 : mx_cv m_Sides_see m_House_withSecondIn 37 2 [657, 658, 659, 85, 660] = true := by decide +kernel
theorem d_Sides_see_37 : decode m_Sides_see.2.1 37 = .ok (.invokevirtual 40, 3) := by decide +kernel
theorem c_Sides_see_37 : mx_cv m_Sides_see m_Sets_add 40 2 [661, 641, 642, 88, 643] = true := by decide +kernel
theorem d_Sides_see_52 : decode m_Sides_see.2.1 52 = .ok (.invokevirtual 40, 3) := by decide +kernel
theorem c_Sides_see_52 : mx_cv m_Sides_see m_Sets_add 40 2 [661, 641, 642, 88, 643] = true := by decide +kernel
theorem d_Sides_see_56 : decode m_Sides_see.2.1 56 = .ok (.return_, 1) := by decide +kernel
theorem b_Tape_add_0 : mx_ck m_Tape_add 0 [(.aload_n 0, [], 0), (.getfield 15, [8, 1, 0, 130], 0), (.bipush 80, [], nI 80)] = some 6 := by decide +kernel
theorem b_Tape_add_9 : mx_ck m_Tape_add 9 [(.iconst 0, [], nI 0)] = some 10 := by decide +kernel
theorem b_Tape_add_11 : mx_ck m_Tape_add 11 [(.aload_n 0, [], 0), (.getfield 11, [8, 0, 2, 129], 0), (.aload_n 0, [], 0), (.getfield 15, [8, 1, 0, 130], 0), (.iload_n 1, [], 0), (.iastore, [], 0), (.aload_n 0, [], 0), (.dup, [], 0), (.getfield 15, [8, 1, 0, 130], 0), (.iconst 1, [], nI 1), (.iadd, [], 0), (.putfield 15, [8, 1, 0, 130], 0), (.iconst 1, [], nI 1)] = some 32 := by decide +kernel
theorem d_Tape_add_6 : decode m_Tape_add.2.1 6 = .ok (.if_icmp .lt 5, 3) := by decide +kernel
theorem d_Tape_add_10 : decode m_Tape_add.2.1 10 = .ok (.ireturn, 1) := by decide +kernel
theorem d_Tape_add_32 : decode m_Tape_add.2.1 32 = .ok (.ireturn, 1) := by decide +kernel
theorem b_Tape_fails_0 : mx_ck m_Tape_fails 0 [(.aload_n 0, [], 0), (.iload_n 1, [], 0), (.putfield 74, [8, 6, 0, 138], 0), (.iconst 0, [], nI 0)] = some 6 := by decide +kernel
theorem d_Tape_fails_6 : decode m_Tape_fails.2.1 6 = .ok (.ireturn, 1) := by decide +kernel
theorem b_Tape_init_0 : mx_ck m_Tape_init 0 [(.aload_n 0, [], 0)] = some 1 := by decide +kernel
theorem b_Tape_init_4 : mx_ck m_Tape_init 4 [(.aload_n 0, [], 0), (.bipush 80, [], nI 80)] = some 7 := by decide +kernel
theorem d_Tape_init_1 : decode m_Tape_init.2.1 1 = .ok (.invokespecial 3, 3) := by decide +kernel
theorem d_Tape_init_7 : decode m_Tape_init.2.1 7 = .ok (.newarray .int, 2) := by decide +kernel
theorem d_Tape_init_9 : decode m_Tape_init.2.1 9 = .ok (.putfield 11, 3) := by decide +kernel
theorem d_Tape_init_12 : decode m_Tape_init.2.1 12 = .ok (.return_, 1) := by decide +kernel
theorem b_Tape_isFigure_0 : mx_ck m_Tape_isFigure 0 [(.iload_n 0, [], 0), (.bipush 48, [], nI 48)] = some 3 := by decide +kernel
theorem b_Tape_isFigure_6 : mx_ck m_Tape_isFigure 6 [(.iload_n 0, [], 0), (.bipush 57, [], nI 57)] = some 9 := by decide +kernel
theorem b_Tape_isFigure_12 : mx_ck m_Tape_isFigure 12 [(.iconst 1, [], nI 1)] = some 13 := by decide +kernel
theorem b_Tape_isFigure_16 : mx_ck m_Tape_isFigure 16 [(.iconst 0, [], nI 0)] = some 17 := by decide +kernel
theorem d_Tape_isFigure_3 : decode m_Tape_isFigure.2.1 3 = .ok (.if_icmp .lt 13, 3) := by decide +kernel
theorem d_Tape_isFigure_9 : decode m_Tape_isFigure.2.1 9 = .ok (.if_icmp .gt 7, 3) := by decide +kernel
theorem d_Tape_isFigure_13 : decode m_Tape_isFigure.2.1 13 = .ok (.goto 4, 3) := by decide +kernel
theorem d_Tape_isFigure_17 : decode m_Tape_isFigure.2.1 17 = .ok (.ireturn, 1) := by decide +kernel
theorem b_Tape_mostOf_0 : mx_ck m_Tape_mostOf 0 [(.iload_n 0, [], 0)] = some 1 := by decide +kernel
theorem b_Tape_mostOf_4 : mx_ck m_Tape_mostOf 4 [(.iconst 3, [], nI 3)] = some 5 := by decide +kernel
theorem b_Tape_mostOf_6 : mx_ck m_Tape_mostOf 6 [(.iload_n 0, [], 0), (.iconst 1, [], nI 1)] = some 8 := by decide +kernel
theorem b_Tape_mostOf_11 : mx_ck m_Tape_mostOf 11 [(.iload_n 0, [], 0), (.iconst 2, [], nI 2)] = some 13 := by decide +kernel
theorem b_Tape_mostOf_16 : mx_ck m_Tape_mostOf 16 [(.bipush 7, [], nI 7)] = some 18 := by decide +kernel
theorem b_Tape_mostOf_21 : mx_ck m_Tape_mostOf 21 [(.iload_n 1, [], 0), (.iconst 1, [], nI 1), (.isub, [], 0)] = some 24 := by decide +kernel
theorem d_Tape_mostOf_1 : decode m_Tape_mostOf.2.1 1 = .ok (.ifCond .ne 5, 3) := by decide +kernel
theorem d_Tape_mostOf_5 : decode m_Tape_mostOf.2.1 5 = .ok (.ireturn, 1) := by decide +kernel
theorem d_Tape_mostOf_8 : decode m_Tape_mostOf.2.1 8 = .ok (.if_icmp .eq 8, 3) := by decide +kernel
theorem d_Tape_mostOf_13 : decode m_Tape_mostOf.2.1 13 = .ok (.if_icmp .ne 8, 3) := by decide +kernel
theorem d_Tape_mostOf_18 : decode m_Tape_mostOf.2.1 18 = .ok (.goto 6, 3) := by decide +kernel
theorem d_Tape_mostOf_24 : decode m_Tape_mostOf.2.1 24 = .ok (.ireturn, 1) := by decide +kernel
theorem b_Tape_read_0 : mx_ck m_Tape_read 0 [(.aload_n 0, [], 0), (.iconst 0, [], nI 0), (.putfield 19, [8, 2, 0, 132], 0), (.aload_n 1, [], 0), (.iconst 0, [], nI 0), (.putfield 22, [3, 3, 0, 173], 0), (.aload_n 0, [], 0), (.bipush 115, [], nI 115)] = some 13 := by decide +kernel
theorem b_Tape_read_19 : mx_ck m_Tape_read 19 [(.aload_n 0, [], 0), (.iconst 1, [], nI 1), (.iconst 4, [], nI 4)] = some 22 := by decide +kernel
theorem b_Tape_read_28 : mx_ck m_Tape_read 28 [(.iconst 0, [], nI 0)] = some 29 := by decide +kernel
theorem b_Tape_read_30 : mx_ck m_Tape_read 30 [(.aload_n 1, [], 0), (.aload_n 0, [], 0), (.getfield 35, [8, 4, 0, 134], 0), (.putfield 38, [3, 4, 0, 177], 0), (.aload_n 0, [], 0), (.bipush 59, [], nI 59)] = some 41 := by decide +kernel
theorem b_Tape_read_47 : mx_ck m_Tape_read 47 [(.aload_n 0, [], 0), (.aload_n 1, [], 0)] = some 49 := by decide +kernel
theorem b_Tape_read_55 : mx_ck m_Tape_read 55 [(.iconst 1, [], nI 1)] = some 56 := by decide +kernel
theorem b_Tape_read_59 : mx_ck m_Tape_read 59 [(.iconst 0, [], nI 0)] = some 60 := by decide +kernel
theorem d_Tape_read_13 : decode m_Tape_read.2.1 13 = .ok (.invokevirtual 27, 3) := by decide +kernel
theorem c_Tape_read_13 : mx_cv m_Tape_read m_Tape_takesSign 27 1 [492, 494, 1, 84, 495] = true := by decide +kernel
theorem d_Tape_read_16 : decode m_Tape_read.2.1 16 = .ok (.ifCond .eq 12, 3) := by decide +kernel
theorem d_Tape_read_22 : decode m_Tape_read.2.1 22 = .ok (.invokevirtual 31, 3) := by decide +kernel
theorem c_Tape_read_22 : mx_cv m_Tape_read m_Tape_takesNumber 31 2 [507, 509, 4, 84, 510] = true := by decide +kernel
theorem d_Tape_read_25 : decode m_Tape_read.2.1 25 = .ok (.ifCond .ne 5, 3) := by decide +kernel
theorem d_Tape_read_29 : decode m_Tape_read.2.1 29 = .ok (.ireturn, 1) := by decide +kernel
theorem d_Tape_read_41 : decode m_Tape_read.2.1 41 = .ok (.invokevirtual 27, 3) := by decide +kernel
theorem c_Tape_read_41 : mx_cv m_Tape_read m_Tape_takesSign 27 1 [492, 494, 1, 84, 495] = true := by decide +kernel
theorem d_Tape_read_44 : decode m_Tape_read.2.1 44 = .ok (.ifCond .eq 15, 3) := by decide +kernel
theorem d_Tape_read_49 : decode m_Tape_read.2.1 49 = .ok (.invokevirtual 41, 3) := by decide +kernel
theorem c_Tape_read_49 : mx_cv m_Tape_read m_Tape_readTypes 41 1 [511, 513, 5, 84, 514] = true := by decide +kernel
theorem d_Tape_read_52 : decode m_Tape_read.2.1 52 = .ok (.ifCond .eq 7, 3) := by decide +kernel
theorem d_Tape_read_56 : decode m_Tape_read.2.1 56 = .ok (.goto 4, 3) := by decide +kernel
theorem d_Tape_read_60 : decode m_Tape_read.2.1 60 = .ok (.ireturn, 1) := by decide +kernel
theorem b_Tape_readEquation_0 : mx_ck m_Tape_readEquation 0 [(.iload_n 3, [], 0), (.iload_n 2, [], 0)] = some 2 := by decide +kernel
theorem b_Tape_readEquation_5 : mx_ck m_Tape_readEquation 5 [(.istore 4, [], 0), (.aload_n 0, [], 0), (.iconst 0, [], nI 0), (.iload 4, [], 0)] = some 11 := by decide +kernel
theorem b_Tape_readEquation_17 : mx_ck m_Tape_readEquation 17 [(.iconst 0, [], nI 0)] = some 18 := by decide +kernel
theorem b_Tape_readEquation_19 : mx_ck m_Tape_readEquation 19 [(.aload_n 0, [], 0), (.getfield 35, [8, 4, 0, 134], 0), (.istore 5, [], 0), (.aload_n 0, [], 0), (.bipush 44, [], nI 44)] = some 28 := by decide +kernel
theorem b_Tape_readEquation_34 : mx_ck m_Tape_readEquation 34 [(.aload_n 0, [], 0), (.iload_n 3, [], 0)] = some 36 := by decide +kernel
theorem b_Tape_readEquation_39 : mx_ck m_Tape_readEquation 39 [(.iload 5, [], 0)] = some 41 := by decide +kernel
theorem b_Tape_readEquation_44 : mx_ck m_Tape_readEquation 44 [(.iconst 0, [], nI 0)] = some 45 := by decide +kernel
theorem b_Tape_readEquation_45 : mx_ck m_Tape_readEquation 45 [(.iload 4, [], 0)] = some 47 := by decide +kernel
theorem b_Tape_readEquation_53 : mx_ck m_Tape_readEquation 53 [(.iconst 0, [], nI 0)] = some 54 := by decide +kernel
theorem b_Tape_readEquation_55 : mx_ck m_Tape_readEquation 55 [(.aload_n 1, [], 0), (.iload_n 2, [], 0), (.iconst 1, [], nI 1), (.iadd, [], 0), (.putfield 22, [3, 3, 0, 173], 0), (.aload_n 1, [], 0), (.iload_n 2, [], 0), (.iload_n 3, [], 0), (.iload 5, [], 0), (.aload_n 0, [], 0), (.getfield 35, [8, 4, 0, 134], 0)] = some 71 := by decide +kernel
theorem b_Tape_readEquation_74 : mx_ck m_Tape_readEquation 74 [(.aload_n 0, [], 0), (.bipush 59, [], nI 59)] = some 77 := by decide +kernel
theorem d_Tape_readEquation_2 : decode m_Tape_readEquation.2.1 2 = .ok (.invokestatic 66, 3) := by decide +kernel
theorem c_Tape_readEquation_2 : mx_cs m_Tape_readEquation m_Tape_mostOf 66 2 [534, 535, 84, 536] = true := by decide +kernel
theorem d_Tape_readEquation_11 : decode m_Tape_readEquation.2.1 11 = .ok (.invokevirtual 31, 3) := by decide +kernel
theorem c_Tape_readEquation_11 : mx_cv m_Tape_readEquation m_Tape_takesNumber 31 2 [507, 509, 4, 84, 510] = true := by decide +kernel
theorem d_Tape_readEquation_14 : decode m_Tape_readEquation.2.1 14 = .ok (.ifCond .ne 5, 3) := by decide +kernel
theorem d_Tape_readEquation_18 : decode m_Tape_readEquation.2.1 18 = .ok (.ireturn, 1) := by decide +kernel
theorem d_Tape_readEquation_28 : decode m_Tape_readEquation.2.1 28 = .ok (.invokevirtual 27, 3) := by decide +kernel
theorem c_Tape_readEquation_28 : mx_cv m_Tape_readEquation m_Tape_takesSign 27 1 [492, 494, 1, 84, 495] = true := by decide +kernel
theorem d_Tape_readEquation_31 : decode m_Tape_readEquation.2.1 31 = .ok (.ifCond .eq 22, 3) := by decide +kernel
theorem d_Tape_readEquation_36 : decode m_Tape_readEquation.2.1 36 = .ok (.ifCond .ne 8, 3) := by decide +kernel
theorem d_Tape_readEquation_41 : decode m_Tape_readEquation.2.1 41 = .ok (.goto 4, 3) := by decide +kernel
theorem d_Tape_readEquation_47 : decode m_Tape_readEquation.2.1 47 = .ok (.invokevirtual 31, 3) := by decide +kernel
theorem c_Tape_readEquation_47 : mx_cv m_Tape_readEquation m_Tape_takesNumber 31 2 [507, 509, 4, 84, 510] = true := by decide +kernel
theorem d_Tape_readEquation_50 : decode m_Tape_readEquation.2.1 50 = .ok (.ifCond .ne 5, 3) := by decide +kernel
theorem d_Tape_readEquation_54 : decode m_Tape_readEquation.2.1 54 = .ok (.ireturn, 1) := by decide +kernel
theorem d_Tape_readEquation_71 : decode m_Tape_readEquation.2.1 71 = .ok (.invokevirtual 70, 3) := by decide +kernel
theorem c_Tape_readEquation_71 : mx_cv m_Tape_readEquation m_House_tell 70 4 [537, 538, 539, 85, 540] = true := by decide +kernel
theorem d_Tape_readEquation_77 : decode m_Tape_readEquation.2.1 77 = .ok (.invokevirtual 27, 3) := by decide +kernel
theorem c_Tape_readEquation_77 : mx_cv m_Tape_readEquation m_Tape_takesSign 27 1 [492, 494, 1, 84, 495] = true := by decide +kernel
theorem d_Tape_readEquation_80 : decode m_Tape_readEquation.2.1 80 = .ok (.ireturn, 1) := by decide +kernel
theorem b_Tape_readTypes_0 : mx_ck m_Tape_readTypes 0 [(.iconst 0, [], nI 0), (.istore_n 2, [], 0)] = some 2 := by decide +kernel
theorem b_Tape_readTypes_2 : mx_ck m_Tape_readTypes 2 [(.iload_n 2, [], 0), (.bipush 8, [], nI 8)] = some 5 := by decide +kernel
theorem b_Tape_readTypes_8 : mx_ck m_Tape_readTypes 8 [(.aload_n 0, [], 0)] = some 9 := by decide +kernel
theorem b_Tape_readTypes_12 : mx_ck m_Tape_readTypes 12 [(.aload_n 0, [], 0), (.getfield 48, [8, 3, 0, 133], 0), (.bipush (-2), [], (-2))] = some 18 := by decide +kernel
theorem b_Tape_readTypes_21 : mx_ck m_Tape_readTypes 21 [(.iload_n 2, [], 0)] = some 22 := by decide +kernel
theorem b_Tape_readTypes_25 : mx_ck m_Tape_readTypes 25 [(.aload_n 1, [], 0)] = some 26 := by decide +kernel
theorem b_Tape_readTypes_32 : mx_ck m_Tape_readTypes 32 [(.aload_n 0, [], 0), (.iconst 4, [], nI 4)] = some 34 := by decide +kernel
theorem b_Tape_readTypes_40 : mx_ck m_Tape_readTypes 40 [(.iconst 1, [], nI 1)] = some 41 := by decide +kernel
theorem b_Tape_readTypes_44 : mx_ck m_Tape_readTypes 44 [(.iconst 0, [], nI 0)] = some 45 := by decide +kernel
theorem b_Tape_readTypes_46 : mx_ck m_Tape_readTypes 46 [(.aload_n 0, [], 0), (.getfield 48, [8, 3, 0, 133], 0)] = some 50 := by decide +kernel
theorem b_Tape_readTypes_53 : mx_ck m_Tape_readTypes 53 [(.istore_n 3, [], 0), (.iload_n 3, [], 0)] = some 55 := by decide +kernel
theorem b_Tape_readTypes_58 : mx_ck m_Tape_readTypes 58 [(.aload_n 0, [], 0), (.iconst 1, [], nI 1)] = some 60 := by decide +kernel
theorem b_Tape_readTypes_64 : mx_ck m_Tape_readTypes 64 [(.iload_n 2, [], 0), (.bipush 8, [], nI 8)] = some 67 := by decide +kernel
theorem b_Tape_readTypes_70 : mx_ck m_Tape_readTypes 70 [(.aload_n 0, [], 0), (.iconst 3, [], nI 3)] = some 72 := by decide +kernel
theorem b_Tape_readTypes_76 : mx_ck m_Tape_readTypes 76 [(.aload_n 0, [], 0), (.aload_n 1, [], 0), (.iload_n 2, [], 0), (.iload_n 3, [], 0)] = some 80 := by decide +kernel
theorem b_Tape_readTypes_86 : mx_ck m_Tape_readTypes 86 [(.iconst 0, [], nI 0)] = some 87 := by decide +kernel
theorem b_Tape_readTypes_88 : mx_ck m_Tape_readTypes 88 [(.iinc 2 1, [], nI 1)] = some 91 := by decide +kernel
theorem b_Tape_readTypes_94 : mx_ck m_Tape_readTypes 94 [(.iconst 0, [], nI 0)] = some 95 := by decide +kernel
theorem d_Tape_readTypes_5 : decode m_Tape_readTypes.2.1 5 = .ok (.if_icmp .gt 89, 3) := by decide +kernel
theorem d_Tape_readTypes_9 : decode m_Tape_readTypes.2.1 9 = .ok (.invokevirtual 45, 3) := by decide +kernel
theorem c_Tape_readTypes_9 : mx_cv m_Tape_readTypes m_Tape_step 45 0 [496, 498, 2, 84, 499] = true := by decide +kernel
theorem d_Tape_readTypes_18 : decode m_Tape_readTypes.2.1 18 = .ok (.if_icmp .ne 28, 3) := by decide +kernel
theorem d_Tape_readTypes_22 : decode m_Tape_readTypes.2.1 22 = .ok (.ifCond .le 24, 3) := by decide +kernel
theorem d_Tape_readTypes_26 : decode m_Tape_readTypes.2.1 26 = .ok (.invokevirtual 51, 3) := by decide +kernel
theorem c_Tape_readTypes_26 : mx_cv m_Tape_readTypes m_House_namesOnlyItsOwn 51 0 [515, 516, 517, 85, 518] = true := by decide +kernel
theorem d_Tape_readTypes_29 : decode m_Tape_readTypes.2.1 29 = .ok (.ifCond .ne 11, 3) := by decide +kernel
theorem d_Tape_readTypes_34 : decode m_Tape_readTypes.2.1 34 = .ok (.invokevirtual 55, 3) := by decide +kernel
theorem c_Tape_readTypes_34 : mx_cv m_Tape_readTypes m_Tape_fails 55 1 [503, 505, 3, 84, 506] = true := by decide +kernel
theorem d_Tape_readTypes_37 : decode m_Tape_readTypes.2.1 37 = .ok (.ifCond .eq 7, 3) := by decide +kernel
theorem d_Tape_readTypes_41 : decode m_Tape_readTypes.2.1 41 = .ok (.goto 4, 3) := by decide +kernel
theorem d_Tape_readTypes_45 : decode m_Tape_readTypes.2.1 45 = .ok (.ireturn, 1) := by decide +kernel
theorem d_Tape_readTypes_50 : decode m_Tape_readTypes.2.1 50 = .ok (.invokestatic 58, 3) := by decide +kernel
theorem c_Tape_readTypes_50 : mx_cs m_Tape_readTypes m_Tape_sortOf 58 1 [527, 528, 84, 529] = true := by decide +kernel
theorem d_Tape_readTypes_55 : decode m_Tape_readTypes.2.1 55 = .ok (.ifCond .ge 9, 3) := by decide +kernel
theorem d_Tape_readTypes_60 : decode m_Tape_readTypes.2.1 60 = .ok (.invokevirtual 55, 3) := by decide +kernel
theorem c_Tape_readTypes_60 : mx_cv m_Tape_readTypes m_Tape_fails 55 1 [503, 505, 3, 84, 506] = true := by decide +kernel
theorem d_Tape_readTypes_63 : decode m_Tape_readTypes.2.1 63 = .ok (.ireturn, 1) := by decide +kernel
theorem d_Tape_readTypes_67 : decode m_Tape_readTypes.2.1 67 = .ok (.if_icmp .ne 9, 3) := by decide +kernel
theorem d_Tape_readTypes_72 : decode m_Tape_readTypes.2.1 72 = .ok (.invokevirtual 55, 3) := by decide +kernel
theorem c_Tape_readTypes_72 : mx_cv m_Tape_readTypes m_Tape_fails 55 1 [503, 505, 3, 84, 506] = true := by decide +kernel
theorem d_Tape_readTypes_75 : decode m_Tape_readTypes.2.1 75 = .ok (.ireturn, 1) := by decide +kernel
theorem d_Tape_readTypes_80 : decode m_Tape_readTypes.2.1 80 = .ok (.invokevirtual 62, 3) := by decide +kernel
theorem c_Tape_readTypes_80 : mx_cv m_Tape_readTypes m_Tape_readEquation 62 3 [530, 532, 6, 84, 533] = true := by decide +kernel
theorem d_Tape_readTypes_83 : decode m_Tape_readTypes.2.1 83 = .ok (.ifCond .ne 5, 3) := by decide +kernel
theorem d_Tape_readTypes_87 : decode m_Tape_readTypes.2.1 87 = .ok (.ireturn, 1) := by decide +kernel
theorem d_Tape_readTypes_91 : decode m_Tape_readTypes.2.1 91 = .ok (.goto (-89), 3) := by decide +kernel
theorem d_Tape_readTypes_95 : decode m_Tape_readTypes.2.1 95 = .ok (.ireturn, 1) := by decide +kernel
theorem b_Tape_sortOf_0 : mx_ck m_Tape_sortOf 0 [(.iload_n 0, [], 0)] = some 1 := by decide +kernel
theorem b_Tape_sortOf_96 : mx_ck m_Tape_sortOf 96 [(.iconst 0, [], nI 0)] = some 97 := by decide +kernel
theorem b_Tape_sortOf_98 : mx_ck m_Tape_sortOf 98 [(.iconst 1, [], nI 1)] = some 99 := by decide +kernel
theorem b_Tape_sortOf_100 : mx_ck m_Tape_sortOf 100 [(.iconst 2, [], nI 2)] = some 101 := by decide +kernel
theorem b_Tape_sortOf_102 : mx_ck m_Tape_sortOf 102 [(.iconst 3, [], nI 3)] = some 103 := by decide +kernel
theorem b_Tape_sortOf_104 : mx_ck m_Tape_sortOf 104 [(.iconst 4, [], nI 4)] = some 105 := by decide +kernel
theorem b_Tape_sortOf_106 : mx_ck m_Tape_sortOf 106 [(.iconst 5, [], nI 5)] = some 107 := by decide +kernel
theorem b_Tape_sortOf_108 : mx_ck m_Tape_sortOf 108 [(.iconst (-1), [], (-1))] = some 109 := by decide +kernel
theorem d_Tape_sortOf_1 : decode m_Tape_sortOf.2.1 1 = .ok (.tableswitch 107 98 117 #[103, 95, 107, 107, 99, 107, 107, 107, 107, 107, 105, 107, 107, 107, 97, 107, 107, 107, 107, 101], 95) := by decide +kernel
theorem d_Tape_sortOf_97 : decode m_Tape_sortOf.2.1 97 = .ok (.ireturn, 1) := by decide +kernel
theorem d_Tape_sortOf_99 : decode m_Tape_sortOf.2.1 99 = .ok (.ireturn, 1) := by decide +kernel
theorem d_Tape_sortOf_101 : decode m_Tape_sortOf.2.1 101 = .ok (.ireturn, 1) := by decide +kernel
theorem d_Tape_sortOf_103 : decode m_Tape_sortOf.2.1 103 = .ok (.ireturn, 1) := by decide +kernel
theorem d_Tape_sortOf_105 : decode m_Tape_sortOf.2.1 105 = .ok (.ireturn, 1) := by decide +kernel
theorem d_Tape_sortOf_107 : decode m_Tape_sortOf.2.1 107 = .ok (.ireturn, 1) := by decide +kernel
theorem d_Tape_sortOf_109 : decode m_Tape_sortOf.2.1 109 = .ok (.ireturn, 1) := by decide +kernel
theorem b_Tape_step_0 : mx_ck m_Tape_step 0 [(.aload_n 0, [], 0), (.aload_n 0, [], 0), (.getfield 19, [8, 2, 0, 132], 0), (.putfield 77, [8, 5, 0, 136], 0), (.aload_n 0, [], 0), (.iconst 0, [], nI 0), (.putfield 35, [8, 4, 0, 134], 0)] = some 13 := by decide +kernel
theorem b_Tape_step_13 : mx_ck m_Tape_step 13 [(.aload_n 0, [], 0), (.getfield 19, [8, 2, 0, 132], 0), (.aload_n 0, [], 0), (.getfield 15, [8, 1, 0, 130], 0)] = some 21 := by decide +kernel
theorem b_Tape_step_24 : mx_ck m_Tape_step 24 [(.aload_n 0, [], 0), (.getfield 11, [8, 0, 2, 129], 0), (.aload_n 0, [], 0), (.getfield 19, [8, 2, 0, 132], 0), (.iaload, [], 0)] = some 33 := by decide +kernel
theorem b_Tape_step_39 : mx_ck m_Tape_step 39 [(.aload_n 0, [], 0), (.aload_n 0, [], 0), (.getfield 19, [8, 2, 0, 132], 0), (.aload_n 0, [], 0), (.getfield 77, [8, 5, 0, 136], 0), (.isub, [], 0), (.iconst 2, [], nI 2)] = some 50 := by decide +kernel
theorem b_Tape_step_53 : mx_ck m_Tape_step 53 [(.aload_n 0, [], 0), (.getfield 35, [8, 4, 0, 134], 0), (.bipush 10, [], nI 10), (.imul, [], 0), (.aload_n 0, [], 0), (.getfield 11, [8, 0, 2, 129], 0), (.aload_n 0, [], 0), (.getfield 19, [8, 2, 0, 132], 0), (.iaload, [], 0), (.iadd, [], 0), (.bipush 48, [], nI 48), (.isub, [], 0)] = some 73 := by decide +kernel
theorem b_Tape_step_76 : mx_ck m_Tape_step 76 [(.aload_n 0, [], 0), (.getfield 35, [8, 4, 0, 134], 0)] = some 80 := by decide +kernel
theorem b_Tape_step_80 : mx_ck m_Tape_step 80 [(.putfield 35, [8, 4, 0, 134], 0), (.aload_n 0, [], 0), (.dup, [], 0), (.getfield 19, [8, 2, 0, 132], 0), (.iconst 1, [], nI 1), (.iadd, [], 0), (.putfield 19, [8, 2, 0, 132], 0)] = some 93 := by decide +kernel
theorem b_Tape_step_96 : mx_ck m_Tape_step 96 [(.aload_n 0, [], 0), (.getfield 19, [8, 2, 0, 132], 0), (.aload_n 0, [], 0), (.getfield 77, [8, 5, 0, 136], 0)] = some 104 := by decide +kernel
theorem b_Tape_step_107 : mx_ck m_Tape_step 107 [(.aload_n 0, [], 0), (.aload_n 0, [], 0), (.getfield 19, [8, 2, 0, 132], 0), (.aload_n 0, [], 0), (.getfield 77, [8, 5, 0, 136], 0), (.isub, [], 0), (.iconst 2, [], nI 2)] = some 118 := by decide +kernel
theorem b_Tape_step_121 : mx_ck m_Tape_step 121 [(.iconst (-1), [], (-1))] = some 122 := by decide +kernel
theorem b_Tape_step_125 : mx_ck m_Tape_step 125 [(.bipush (-3), [], (-3))] = some 127 := by decide +kernel
theorem b_Tape_step_127 : mx_ck m_Tape_step 127 [(.putfield 48, [8, 3, 0, 133], 0)] = some 130 := by decide +kernel
theorem b_Tape_step_133 : mx_ck m_Tape_step 133 [(.aload_n 0, [], 0), (.getfield 19, [8, 2, 0, 132], 0), (.aload_n 0, [], 0), (.getfield 15, [8, 1, 0, 130], 0)] = some 141 := by decide +kernel
theorem b_Tape_step_144 : mx_ck m_Tape_step 144 [(.aload_n 0, [], 0), (.bipush (-2), [], (-2)), (.putfield 48, [8, 3, 0, 133], 0)] = some 150 := by decide +kernel
theorem b_Tape_step_153 : mx_ck m_Tape_step 153 [(.aload_n 0, [], 0), (.getfield 11, [8, 0, 2, 129], 0), (.aload_n 0, [], 0), (.getfield 19, [8, 2, 0, 132], 0), (.iaload, [], 0), (.istore_n 1, [], 0), (.aload_n 0, [], 0), (.iload_n 1, [], 0), (.bipush 97, [], nI 97)] = some 167 := by decide +kernel
theorem b_Tape_step_170 : mx_ck m_Tape_step 170 [(.iload_n 1, [], 0), (.bipush 122, [], nI 122)] = some 173 := by decide +kernel
theorem b_Tape_step_176 : mx_ck m_Tape_step 176 [(.iload_n 1, [], 0), (.bipush 44, [], nI 44)] = some 179 := by decide +kernel
theorem b_Tape_step_182 : mx_ck m_Tape_step 182 [(.iload_n 1, [], 0), (.bipush 59, [], nI 59)] = some 185 := by decide +kernel
theorem b_Tape_step_188 : mx_ck m_Tape_step 188 [(.iload_n 1, [], 0)] = some 189 := by decide +kernel
theorem b_Tape_step_192 : mx_ck m_Tape_step 192 [(.bipush (-3), [], (-3))] = some 194 := by decide +kernel
theorem b_Tape_step_194 : mx_ck m_Tape_step 194 [(.putfield 48, [8, 3, 0, 133], 0), (.aload_n 0, [], 0), (.dup, [], 0), (.getfield 19, [8, 2, 0, 132], 0), (.iconst 1, [], nI 1), (.iadd, [], 0), (.putfield 19, [8, 2, 0, 132], 0)] = some 207 := by decide +kernel
theorem d_Tape_step_21 : decode m_Tape_step.2.1 21 = .ok (.if_icmp .ge 75, 3) := by decide +kernel
theorem d_Tape_step_33 : decode m_Tape_step.2.1 33 = .ok (.invokestatic 80, 3) := by decide +kernel
theorem c_Tape_step_33 : mx_cs m_Tape_step m_Tape_isFigure 80 1 [500, 501, 84, 502] = true := by decide +kernel
theorem d_Tape_step_36 : decode m_Tape_step.2.1 36 = .ok (.ifCond .eq 60, 3) := by decide +kernel
theorem d_Tape_step_50 : decode m_Tape_step.2.1 50 = .ok (.if_icmp .ge 26, 3) := by decide +kernel
theorem d_Tape_step_73 : decode m_Tape_step.2.1 73 = .ok (.goto 7, 3) := by decide +kernel
theorem d_Tape_step_93 : decode m_Tape_step.2.1 93 = .ok (.goto (-80), 3) := by decide +kernel
theorem d_Tape_step_104 : decode m_Tape_step.2.1 104 = .ok (.if_icmp .le 29, 3) := by decide +kernel
theorem d_Tape_step_118 : decode m_Tape_step.2.1 118 = .ok (.if_icmp .gt 7, 3) := by decide +kernel
theorem d_Tape_step_122 : decode m_Tape_step.2.1 122 = .ok (.goto 5, 3) := by decide +kernel
theorem d_Tape_step_130 : decode m_Tape_step.2.1 130 = .ok (.goto 77, 3) := by decide +kernel
theorem d_Tape_step_141 : decode m_Tape_step.2.1 141 = .ok (.if_icmp .lt 12, 3) := by decide +kernel
theorem d_Tape_step_150 : decode m_Tape_step.2.1 150 = .ok (.goto 57, 3) := by decide +kernel
theorem d_Tape_step_167 : decode m_Tape_step.2.1 167 = .ok (.if_icmp .lt 9, 3) := by decide +kernel
theorem d_Tape_step_173 : decode m_Tape_step.2.1 173 = .ok (.if_icmp .le 15, 3) := by decide +kernel
theorem d_Tape_step_179 : decode m_Tape_step.2.1 179 = .ok (.if_icmp .eq 9, 3) := by decide +kernel
theorem d_Tape_step_185 : decode m_Tape_step.2.1 185 = .ok (.if_icmp .ne 7, 3) := by decide +kernel
theorem d_Tape_step_189 : decode m_Tape_step.2.1 189 = .ok (.goto 5, 3) := by decide +kernel
theorem d_Tape_step_207 : decode m_Tape_step.2.1 207 = .ok (.return_, 1) := by decide +kernel
theorem b_Tape_takesNumber_0 : mx_ck m_Tape_takesNumber 0 [(.aload_n 0, [], 0)] = some 1 := by decide +kernel
theorem b_Tape_takesNumber_4 : mx_ck m_Tape_takesNumber 4 [(.aload_n 0, [], 0), (.getfield 48, [8, 3, 0, 133], 0), (.iconst (-1), [], (-1))] = some 9 := by decide +kernel
theorem b_Tape_takesNumber_12 : mx_ck m_Tape_takesNumber 12 [(.aload_n 0, [], 0), (.iconst 1, [], nI 1)] = some 14 := by decide +kernel
theorem b_Tape_takesNumber_18 : mx_ck m_Tape_takesNumber 18 [(.aload_n 0, [], 0), (.getfield 35, [8, 4, 0, 134], 0), (.iload_n 1, [], 0)] = some 23 := by decide +kernel
theorem b_Tape_takesNumber_26 : mx_ck m_Tape_takesNumber 26 [(.aload_n 0, [], 0), (.getfield 35, [8, 4, 0, 134], 0), (.iload_n 2, [], 0)] = some 31 := by decide +kernel
theorem b_Tape_takesNumber_34 : mx_ck m_Tape_takesNumber 34 [(.aload_n 0, [], 0), (.iconst 2, [], nI 2)] = some 36 := by decide +kernel
theorem b_Tape_takesNumber_42 : mx_ck m_Tape_takesNumber 42 [(.iconst 1, [], nI 1)] = some 43 := by decide +kernel
theorem b_Tape_takesNumber_46 : mx_ck m_Tape_takesNumber 46 [(.iconst 0, [], nI 0)] = some 47 := by decide +kernel
theorem d_Tape_takesNumber_1 : decode m_Tape_takesNumber.2.1 1 = .ok (.invokevirtual 45, 3) := by decide +kernel
theorem c_Tape_takesNumber_1 : mx_cv m_Tape_takesNumber m_Tape_step 45 0 [496, 498, 2, 84, 499] = true := by decide +kernel
theorem d_Tape_takesNumber_9 : decode m_Tape_takesNumber.2.1 9 = .ok (.if_icmp .eq 9, 3) := by decide +kernel
theorem d_Tape_takesNumber_14 : decode m_Tape_takesNumber.2.1 14 = .ok (.invokevirtual 55, 3) := by decide +kernel
theorem c_Tape_takesNumber_14 : mx_cv m_Tape_takesNumber m_Tape_fails 55 1 [503, 505, 3, 84, 506] = true := by decide +kernel
theorem d_Tape_takesNumber_17 : decode m_Tape_takesNumber.2.1 17 = .ok (.ireturn, 1) := by decide +kernel
theorem d_Tape_takesNumber_23 : decode m_Tape_takesNumber.2.1 23 = .ok (.if_icmp .lt 11, 3) := by decide +kernel
theorem d_Tape_takesNumber_31 : decode m_Tape_takesNumber.2.1 31 = .ok (.if_icmp .le 11, 3) := by decide +kernel
theorem d_Tape_takesNumber_36 : decode m_Tape_takesNumber.2.1 36 = .ok (.invokevirtual 55, 3) := by decide +kernel
theorem c_Tape_takesNumber_36 : mx_cv m_Tape_takesNumber m_Tape_fails 55 1 [503, 505, 3, 84, 506] = true := by decide +kernel
theorem d_Tape_takesNumber_39 : decode m_Tape_takesNumber.2.1 39 = .ok (.ifCond .eq 7, 3) := by decide +kernel
theorem d_Tape_takesNumber_43 : decode m_Tape_takesNumber.2.1 43 = .ok (.goto 4, 3) := by decide +kernel
theorem d_Tape_takesNumber_47 : decode m_Tape_takesNumber.2.1 47 = .ok (.ireturn, 1) := by decide +kernel
theorem b_Tape_takesSign_0 : mx_ck m_Tape_takesSign 0 [(.aload_n 0, [], 0)] = some 1 := by decide +kernel
theorem b_Tape_takesSign_4 : mx_ck m_Tape_takesSign 4 [(.aload_n 0, [], 0), (.getfield 48, [8, 3, 0, 133], 0), (.iload_n 1, [], 0)] = some 9 := by decide +kernel
theorem b_Tape_takesSign_12 : mx_ck m_Tape_takesSign 12 [(.aload_n 0, [], 0), (.iconst 1, [], nI 1)] = some 14 := by decide +kernel
theorem b_Tape_takesSign_20 : mx_ck m_Tape_takesSign 20 [(.iconst 1, [], nI 1)] = some 21 := by decide +kernel
theorem b_Tape_takesSign_24 : mx_ck m_Tape_takesSign 24 [(.iconst 0, [], nI 0)] = some 25 := by decide +kernel
theorem d_Tape_takesSign_1 : decode m_Tape_takesSign.2.1 1 = .ok (.invokevirtual 45, 3) := by decide +kernel
theorem c_Tape_takesSign_1 : mx_cv m_Tape_takesSign m_Tape_step 45 0 [496, 498, 2, 84, 499] = true := by decide +kernel
theorem d_Tape_takesSign_9 : decode m_Tape_takesSign.2.1 9 = .ok (.if_icmp .eq 11, 3) := by decide +kernel
theorem d_Tape_takesSign_14 : decode m_Tape_takesSign.2.1 14 = .ok (.invokevirtual 55, 3) := by decide +kernel
theorem c_Tape_takesSign_14 : mx_cv m_Tape_takesSign m_Tape_fails 55 1 [503, 505, 3, 84, 506] = true := by decide +kernel
theorem d_Tape_takesSign_17 : decode m_Tape_takesSign.2.1 17 = .ok (.ifCond .eq 7, 3) := by decide +kernel
theorem d_Tape_takesSign_21 : decode m_Tape_takesSign.2.1 21 = .ok (.goto 4, 3) := by decide +kernel
theorem d_Tape_takesSign_25 : decode m_Tape_takesSign.2.1 25 = .ok (.ireturn, 1) := by decide +kernel
theorem b_bitCount_0 : mx_ck m_bitCount 0 [(.iload_n 0, [], 0), (.iload_n 0, [], 0), (.iconst 1, [], nI 1), (.iushr, [], 0), (.ldc_w 265, [829], nI 1431655765), (.iand, [], 0), (.isub, [], 0), (.istore_n 0, [], 0), (.iload_n 0, [], 0), (.ldc_w 266, [830], nI 858993459), (.iand, [], 0), (.iload_n 0, [], 0), (.iconst 2, [], nI 2), (.iushr, [], 0), (.ldc_w 266, [830], nI 858993459), (.iand, [], 0), (.iadd, [], 0), (.istore_n 0, [], 0), (.iload_n 0, [], 0), (.iload_n 0, [], 0), (.iconst 4, [], nI 4), (.iushr, [], 0), (.iadd, [], 0), (.ldc_w 267, [831], nI 252645135), (.iand, [], 0), (.istore_n 0, [], 0), (.iload_n 0, [], 0), (.iload_n 0, [], 0), (.bipush 8, [], nI 8), (.iushr, [], 0), (.iadd, [], 0), (.istore_n 0, [], 0), (.iload_n 0, [], 0), (.iload_n 0, [], 0), (.bipush 16, [], nI 16), (.iushr, [], 0), (.iadd, [], 0), (.istore_n 0, [], 0), (.iload_n 0, [], 0), (.bipush 63, [], nI 63), (.iand, [], 0)] = some 52 := by decide +kernel
theorem d_bitCount_52 : decode m_bitCount.2.1 52 = .ok (.ireturn, 1) := by decide +kernel
theorem b_fill_0 : mx_ck m_fill 0 [(.iconst 0, [], nI 0), (.istore_n 2, [], 0), (.aload_n 0, [], 0), (.arraylength, [], 0), (.istore_n 3, [], 0)] = some 5 := by decide +kernel
theorem b_fill_5 : mx_ck m_fill 5 [(.iload_n 2, [], 0), (.iload_n 3, [], 0)] = some 7 := by decide +kernel
theorem b_fill_10 : mx_ck m_fill 10 [(.aload_n 0, [], 0), (.iload_n 2, [], 0), (.iload_n 1, [], 0), (.iastore, [], 0), (.iinc 2 1, [], nI 1)] = some 17 := by decide +kernel
theorem d_fill_7 : decode m_fill.2.1 7 = .ok (.if_icmp .ge 13, 3) := by decide +kernel
theorem d_fill_17 : decode m_fill.2.1 17 = .ok (.goto (-12), 3) := by decide +kernel
theorem d_fill_20 : decode m_fill.2.1 20 = .ok (.return_, 1) := by decide +kernel
end
section
theorem b_TS_anew_0 : mx_ck m_TS_anew 0 [(.aload_n 0, [], 0), (.getfield 26, [9, 2, 8, 379], 0), (.iload_n 1, [], 0), (.iload_n 2, [], 0), (.iload_n 3, [], 0), (.iload 4, [], 0)] = some 9 := by decide +kernel
theorem b_TS_anew_15 : mx_ck m_TS_anew 15 [(.ldc 77, [430], (-1000001))] = some 17 := by decide +kernel
theorem b_TS_anew_18 : mx_ck m_TS_anew 18 [(.aload_n 0, [], 0), (.getfield 26, [9, 2, 8, 379], 0), (.getfield 145, [3, 0, 2, 163], 0), (.iload_n 1, [], 0), (.iaload, [], 0), (.istore 5, [], 0), (.aload_n 0, [], 0), (.getfield 42, [9, 6, 24, 383], 0), (.aload_n 0, [], 0), (.getfield 26, [9, 2, 8, 379], 0), (.iload_n 1, [], 0)] = some 38 := by decide +kernel
theorem b_TS_anew_41 : mx_ck m_TS_anew 41 [(.aload_n 0, [], 0), (.getfield 26, [9, 2, 8, 379], 0), (.iload_n 1, [], 0), (.iload_n 2, [], 0), (.iload_n 3, [], 0), (.iload 4, [], 0)] = some 50 := by decide +kernel
theorem b_TS_anew_53 : mx_ck m_TS_anew 53 [(.aload_n 0, [], 0)] = some 54 := by decide +kernel
theorem b_TS_anew_57 : mx_ck m_TS_anew 57 [(.iload 5, [], 0)] = some 59 := by decide +kernel
theorem d_TS_anew_9 : decode m_TS_anew.2.1 9 = .ok (.invokevirtual 141, 3) := by decide +kernel
theorem c_TS_anew_9 : mx_cv m_TS_anew m_House_mayStand 141 4 [573, 520, 521, 85, 522] = true := by decide +kernel
theorem d_TS_anew_12 : decode m_TS_anew.2.1 12 = .ok (.ifCond .ne 6, 3) := by decide +kernel
theorem d_TS_anew_17 : decode m_TS_anew.2.1 17 = .ok (.ireturn, 1) := by decide +kernel
theorem d_TS_anew_38 : decode m_TS_anew.2.1 38 = .ok (.invokevirtual 149, 3) := by decide +kernel
theorem c_TS_anew_38 : mx_cv m_TS_anew m_Acts_keep 149 2 [574, 575, 576, 86, 577] = true := by decide +kernel
theorem d_TS_anew_50 : decode m_TS_anew.2.1 50 = .ok (.invokevirtual 153, 3) := by decide +kernel
theorem c_TS_anew_50 : mx_cv m_TS_anew m_House_tell 153 4 [583, 538, 539, 85, 540] = true := by decide +kernel
theorem d_TS_anew_54 : decode m_TS_anew.2.1 54 = .ok (.invokevirtual 138, 3) := by decide +kernel
theorem c_TS_anew_54 : mx_cv m_TS_anew m_TS_forgetWhatStood 138 0 [551, 553, 8, 81, 554] = true := by decide +kernel
theorem d_TS_anew_59 : decode m_TS_anew.2.1 59 = .ok (.ireturn, 1) := by decide +kernel
theorem b_TS_answers_0 : mx_ck m_TS_answers 0 [(.aload_n 0, [], 0), (.getfield 26, [9, 2, 8, 379], 0), (.iload_n 1, [], 0)] = some 5 := by decide +kernel
theorem b_TS_answers_11 : mx_ck m_TS_answers 11 [(.aload_n 0, [], 0), (.getfield 26, [9, 2, 8, 379], 0), (.iload_n 2, [], 0)] = some 16 := by decide +kernel
theorem b_TS_answers_22 : mx_ck m_TS_answers 22 [(.aload_n 0, [], 0)] = some 23 := by decide +kernel
theorem b_TS_answers_26 : mx_ck m_TS_answers 26 [(.iload_n 1, [], 0), (.iload_n 2, [], 0)] = some 28 := by decide +kernel
theorem b_TS_answers_34 : mx_ck m_TS_answers 34 [(.ldc 77, [430], (-1000001))] = some 36 := by decide +kernel
theorem d_TS_answers_5 : decode m_TS_answers.2.1 5 = .ok (.invokevirtual 157, 3) := by decide +kernel
theorem c_TS_answers_5 : mx_cv m_TS_answers m_House_has 157 1 [588, 524, 525, 85, 526] = true := by decide +kernel
theorem d_TS_answers_8 : decode m_TS_answers.2.1 8 = .ok (.ifCond .eq 26, 3) := by decide +kernel
theorem d_TS_answers_16 : decode m_TS_answers.2.1 16 = .ok (.invokevirtual 157, 3) := by decide +kernel
theorem c_TS_answers_16 : mx_cv m_TS_answers m_House_has 157 1 [588, 524, 525, 85, 526] = true := by decide +kernel
theorem d_TS_answers_19 : decode m_TS_answers.2.1 19 = .ok (.ifCond .eq 15, 3) := by decide +kernel
theorem d_TS_answers_23 : decode m_TS_answers.2.1 23 = .ok (.invokevirtual 173, 3) := by decide +kernel
theorem c_TS_answers_23 : mx_cv m_TS_answers m_TS_cellsNow 173 0 [605, 607, 10, 81, 608] = true := by decide +kernel
theorem d_TS_answers_28 : decode m_TS_answers.2.1 28 = .ok (.invokevirtual 209, 3) := by decide +kernel
theorem c_TS_answers_28 : mx_cv m_TS_answers m_Cells_holdingAnswers 209 2 [721, 722, 723, 87, 724] = true := by decide +kernel
theorem d_TS_answers_31 : decode m_TS_answers.2.1 31 = .ok (.goto 5, 3) := by decide +kernel
theorem d_TS_answers_36 : decode m_TS_answers.2.1 36 = .ok (.ireturn, 1) := by decide +kernel
theorem b_TS_as_0 : mx_ck m_TS_as 0 [(.aload_n 0, [], 0), (.getfield 26, [9, 2, 8, 379], 0), (.iload_n 1, [], 0)] = some 5 := by decide +kernel
theorem b_TS_as_11 : mx_ck m_TS_as 11 [(.iload_n 2, [], 0)] = some 12 := by decide +kernel
theorem b_TS_as_15 : mx_ck m_TS_as 15 [(.iload_n 2, [], 0), (.iconst 5, [], nI 5)] = some 17 := by decide +kernel
theorem b_TS_as_20 : mx_ck m_TS_as 20 [(.ldc 77, [430], (-1000001))] = some 22 := by decide +kernel
theorem b_TS_as_23 : mx_ck m_TS_as 23 [(.aload_n 0, [], 0), (.aload_n 0, [], 0), (.getfield 26, [9, 2, 8, 379], 0), (.getfield 145, [3, 0, 2, 163], 0), (.iload_n 1, [], 0), (.iaload, [], 0)] = some 33 := by decide +kernel
theorem b_TS_as_36 : mx_ck m_TS_as 36 [(.iload_n 2, [], 0)] = some 37 := by decide +kernel
theorem b_TS_as_43 : mx_ck m_TS_as 43 [(.iconst 0, [], nI 0)] = some 44 := by decide +kernel
theorem b_TS_as_47 : mx_ck m_TS_as 47 [(.iconst 3, [], nI 3)] = some 48 := by decide +kernel
theorem b_TS_as_48 : mx_ck m_TS_as 48 [(.putfield 78, [9, 13, 0, 390], 0), (.aload_n 0, [], 0), (.getfield 78, [9, 13, 0, 390], 0)] = some 55 := by decide +kernel
theorem b_TS_as_58 : mx_ck m_TS_as 58 [(.ldc 82, [431], (-1000010)), (.aload_n 0, [], 0), (.getfield 78, [9, 13, 0, 390], 0), (.isub, [], 0)] = some 65 := by decide +kernel
theorem b_TS_as_68 : mx_ck m_TS_as 68 [(.iload_n 1, [], 0)] = some 69 := by decide +kernel
theorem d_TS_as_5 : decode m_TS_as.2.1 5 = .ok (.invokevirtual 157, 3) := by decide +kernel
theorem c_TS_as_5 : mx_cv m_TS_as m_House_has 157 1 [588, 524, 525, 85, 526] = true := by decide +kernel
theorem d_TS_as_8 : decode m_TS_as.2.1 8 = .ok (.ifCond .eq 12, 3) := by decide +kernel
theorem d_TS_as_12 : decode m_TS_as.2.1 12 = .ok (.ifCond .lt 8, 3) := by decide +kernel
theorem d_TS_as_17 : decode m_TS_as.2.1 17 = .ok (.if_icmp .le 6, 3) := by decide +kernel
theorem d_TS_as_22 : decode m_TS_as.2.1 22 = .ok (.ireturn, 1) := by decide +kernel
theorem d_TS_as_33 : decode m_TS_as.2.1 33 = .ok (.invokestatic 262, 3) := by decide +kernel
theorem c_TS_as_33 : mx_cs m_TS_as m_Asks_kindOf 262 1 [848, 849, 91, 850] = true := by decide +kernel
theorem d_TS_as_37 : decode m_TS_as.2.1 37 = .ok (.invokestatic 265, 3) := by decide +kernel
theorem c_TS_as_37 : mx_cs m_TS_as m_Asks_isOne 265 2 [855, 856, 91, 857] = true := by decide +kernel
theorem d_TS_as_40 : decode m_TS_as.2.1 40 = .ok (.ifCond .eq 7, 3) := by decide +kernel
theorem d_TS_as_44 : decode m_TS_as.2.1 44 = .ok (.goto 4, 3) := by decide +kernel
theorem d_TS_as_55 : decode m_TS_as.2.1 55 = .ok (.ifCond .eq 13, 3) := by decide +kernel
theorem d_TS_as_65 : decode m_TS_as.2.1 65 = .ok (.goto 4, 3) := by decide +kernel
theorem d_TS_as_69 : decode m_TS_as.2.1 69 = .ok (.ireturn, 1) := by decide +kernel
theorem b_TS_ask_0 : mx_ck m_TS_ask 0 [(.aload_n 0, [], 0), (.getfield 26, [9, 2, 8, 379], 0), (.iload_n 1, [], 0)] = some 5 := by decide +kernel
theorem b_TS_ask_11 : mx_ck m_TS_ask 11 [(.iload_n 2, [], 0)] = some 12 := by decide +kernel
theorem b_TS_ask_15 : mx_ck m_TS_ask 15 [(.iload_n 2, [], 0), (.iconst 1, [], nI 1)] = some 17 := by decide +kernel
theorem b_TS_ask_20 : mx_ck m_TS_ask 20 [(.ldc 77, [430], (-1000001))] = some 22 := by decide +kernel
theorem b_TS_ask_23 : mx_ck m_TS_ask 23 [(.aload_n 0, [], 0), (.getfield 66, [9, 10, 118, 387], 0), (.aload_n 0, [], 0), (.getfield 26, [9, 2, 8, 379], 0), (.iload_n 1, [], 0)] = some 32 := by decide +kernel
theorem b_TS_ask_35 : mx_ck m_TS_ask 35 [(.iload_n 2, [], 0)] = some 36 := by decide +kernel
theorem b_TS_ask_39 : mx_ck m_TS_ask 39 [(.aload_n 0, [], 0), (.getfield 66, [9, 10, 118, 387], 0)] = some 43 := by decide +kernel
theorem b_TS_ask_49 : mx_ck m_TS_ask 49 [(.aload_n 0, [], 0), (.getfield 66, [9, 10, 118, 387], 0)] = some 53 := by decide +kernel
theorem d_TS_ask_5 : decode m_TS_ask.2.1 5 = .ok (.invokevirtual 157, 3) := by decide +kernel
theorem c_TS_ask_5 : mx_cv m_TS_ask m_House_has 157 1 [588, 524, 525, 85, 526] = true := by decide +kernel
theorem d_TS_ask_8 : decode m_TS_ask.2.1 8 = .ok (.ifCond .eq 12, 3) := by decide +kernel
theorem d_TS_ask_12 : decode m_TS_ask.2.1 12 = .ok (.ifCond .lt 8, 3) := by decide +kernel
theorem d_TS_ask_17 : decode m_TS_ask.2.1 17 = .ok (.if_icmp .le 6, 3) := by decide +kernel
theorem d_TS_ask_22 : decode m_TS_ask.2.1 22 = .ok (.ireturn, 1) := by decide +kernel
theorem d_TS_ask_32 : decode m_TS_ask.2.1 32 = .ok (.invokevirtual 269, 3) := by decide +kernel
theorem c_TS_ask_32 : mx_cv m_TS_ask m_Asks_begin 269 2 [862, 863, 864, 91, 865] = true := by decide +kernel
theorem d_TS_ask_36 : decode m_TS_ask.2.1 36 = .ok (.ifCond .ne 13, 3) := by decide +kernel
theorem d_TS_ask_43 : decode m_TS_ask.2.1 43 = .ok (.invokevirtual 272, 3) := by decide +kernel
theorem c_TS_ask_43 : mx_cv m_TS_ask m_Asks_sizeOfOne 272 0 [867, 868, 869, 91, 870] = true := by decide +kernel
theorem d_TS_ask_46 : decode m_TS_ask.2.1 46 = .ok (.goto 10, 3) := by decide +kernel
theorem d_TS_ask_53 : decode m_TS_ask.2.1 53 = .ok (.invokevirtual 275, 3) := by decide +kernel
theorem c_TS_ask_53 : mx_cv m_TS_ask m_Asks_markOfOne 275 0 [920, 921, 922, 91, 923] = true := by decide +kernel
theorem d_TS_ask_56 : decode m_TS_ask.2.1 56 = .ok (.ireturn, 1) := by decide +kernel
theorem b_TS_askable_0 : mx_ck m_TS_askable 0 [(.aload_n 0, [], 0), (.getfield 26, [9, 2, 8, 379], 0), (.iload_n 1, [], 0)] = some 5 := by decide +kernel
theorem b_TS_askable_11 : mx_ck m_TS_askable 11 [(.aload_n 0, [], 0)] = some 12 := by decide +kernel
theorem b_TS_askable_15 : mx_ck m_TS_askable 15 [(.iload_n 1, [], 0)] = some 16 := by decide +kernel
theorem b_TS_askable_22 : mx_ck m_TS_askable 22 [(.ldc 77, [430], (-1000001))] = some 24 := by decide +kernel
theorem d_TS_askable_5 : decode m_TS_askable.2.1 5 = .ok (.invokevirtual 157, 3) := by decide +kernel
theorem c_TS_askable_5 : mx_cv m_TS_askable m_House_has 157 1 [588, 524, 525, 85, 526] = true := by decide +kernel
theorem d_TS_askable_8 : decode m_TS_askable.2.1 8 = .ok (.ifCond .eq 14, 3) := by decide +kernel
theorem d_TS_askable_12 : decode m_TS_askable.2.1 12 = .ok (.invokevirtual 173, 3) := by decide +kernel
theorem c_TS_askable_12 : mx_cv m_TS_askable m_TS_cellsNow 173 0 [605, 607, 10, 81, 608] = true := by decide +kernel
theorem d_TS_askable_16 : decode m_TS_askable.2.1 16 = .ok (.invokevirtual 212, 3) := by decide +kernel
theorem c_TS_askable_16 : mx_cv m_TS_askable m_Cells_alwaysAnswered 212 1 [737, 738, 739, 87, 740] = true := by decide +kernel
theorem d_TS_askable_19 : decode m_TS_askable.2.1 19 = .ok (.goto 5, 3) := by decide +kernel
theorem d_TS_askable_24 : decode m_TS_askable.2.1 24 = .ok (.ireturn, 1) := by decide +kernel
theorem b_TS_cellAt_0 : mx_ck m_TS_cellAt 0 [(.aload_n 0, [], 0), (.getfield 26, [9, 2, 8, 379], 0)] = some 4 := by decide +kernel
theorem b_TS_cellAt_10 : mx_ck m_TS_cellAt 10 [(.ldc 134, [563], (-1000002))] = some 12 := by decide +kernel
theorem b_TS_cellAt_13 : mx_ck m_TS_cellAt 13 [(.iload_n 1, [], 0), (.iconst (-1), [], (-1))] = some 15 := by decide +kernel
theorem b_TS_cellAt_18 : mx_ck m_TS_cellAt 18 [(.ldc 77, [430], (-1000001))] = some 20 := by decide +kernel
theorem b_TS_cellAt_21 : mx_ck m_TS_cellAt 21 [(.iload_n 1, [], 0), (.iconst (-1), [], (-1))] = some 23 := by decide +kernel
theorem b_TS_cellAt_26 : mx_ck m_TS_cellAt 26 [(.aload_n 0, [], 0)] = some 27 := by decide +kernel
theorem b_TS_cellAt_30 : mx_ck m_TS_cellAt 30 [(.getfield 197, [2, 6, 6, 278], 0), (.getfield 201, [6, 2, 0, 238], 0)] = some 36 := by decide +kernel
theorem b_TS_cellAt_39 : mx_ck m_TS_cellAt 39 [(.aload_n 0, [], 0)] = some 40 := by decide +kernel
theorem b_TS_cellAt_43 : mx_ck m_TS_cellAt 43 [(.iload_n 1, [], 0)] = some 44 := by decide +kernel
theorem d_TS_cellAt_4 : decode m_TS_cellAt.2.1 4 = .ok (.invokevirtual 166, 3) := by decide +kernel
theorem c_TS_cellAt_4 : mx_cv m_TS_cellAt m_House_isNone 166 0 [593, 594, 595, 85, 596] = true := by decide +kernel
theorem d_TS_cellAt_7 : decode m_TS_cellAt.2.1 7 = .ok (.ifCond .eq 6, 3) := by decide +kernel
theorem d_TS_cellAt_12 : decode m_TS_cellAt.2.1 12 = .ok (.ireturn, 1) := by decide +kernel
theorem d_TS_cellAt_15 : decode m_TS_cellAt.2.1 15 = .ok (.if_icmp .ge 6, 3) := by decide +kernel
theorem d_TS_cellAt_20 : decode m_TS_cellAt.2.1 20 = .ok (.ireturn, 1) := by decide +kernel
theorem d_TS_cellAt_23 : decode m_TS_cellAt.2.1 23 = .ok (.if_icmp .ne 16, 3) := by decide +kernel
theorem d_TS_cellAt_27 : decode m_TS_cellAt.2.1 27 = .ok (.invokevirtual 173, 3) := by decide +kernel
theorem c_TS_cellAt_27 : mx_cv m_TS_cellAt m_TS_cellsNow 173 0 [605, 607, 10, 81, 608] = true := by decide +kernel
theorem d_TS_cellAt_36 : decode m_TS_cellAt.2.1 36 = .ok (.goto 11, 3) := by decide +kernel
theorem d_TS_cellAt_40 : decode m_TS_cellAt.2.1 40 = .ok (.invokevirtual 173, 3) := by decide +kernel
theorem c_TS_cellAt_40 : mx_cv m_TS_cellAt m_TS_cellsNow 173 0 [605, 607, 10, 81, 608] = true := by decide +kernel
theorem d_TS_cellAt_44 : decode m_TS_cellAt.2.1 44 = .ok (.invokevirtual 206, 3) := by decide +kernel
theorem c_TS_cellAt_44 : mx_cv m_TS_cellAt m_Cells_inOrder 206 1 [713, 714, 715, 87, 716] = true := by decide +kernel
theorem d_TS_cellAt_47 : decode m_TS_cellAt.2.1 47 = .ok (.ireturn, 1) := by decide +kernel
theorem b_TS_cellsNow_0 : mx_ck m_TS_cellsNow 0 [(.aload_n 0, [], 0), (.getfield 291, [9, 11, 0, 388], 0)] = some 4 := by decide +kernel
theorem b_TS_cellsNow_7 : mx_ck m_TS_cellsNow 7 [(.aload_n 0, [], 0), (.getfield 49, [9, 7, 29, 384], 0), (.aload_n 0, [], 0), (.getfield 26, [9, 2, 8, 379], 0)] = some 15 := by decide +kernel
theorem b_TS_cellsNow_18 : mx_ck m_TS_cellsNow 18 [(.aload_n 0, [], 0), (.iconst 1, [], nI 1), (.putfield 291, [9, 11, 1, 388], 0)] = some 23 := by decide +kernel
theorem b_TS_cellsNow_23 : mx_ck m_TS_cellsNow 23 [(.aload_n 0, [], 0), (.getfield 49, [9, 7, 29, 384], 0)] = some 27 := by decide +kernel
theorem d_TS_cellsNow_4 : decode m_TS_cellsNow.2.1 4 = .ok (.ifCond .ne 19, 3) := by decide +kernel
theorem d_TS_cellsNow_15 : decode m_TS_cellsNow.2.1 15 = .ok (.invokevirtual 250, 3) := by decide +kernel
theorem c_TS_cellsNow_15 : mx_cv m_TS_cellsNow m_Cells_measure 250 1 [609, 610, 611, 87, 612] = true := by decide +kernel
theorem d_TS_cellsNow_27 : decode m_TS_cellsNow.2.1 27 = .ok (.areturn, 1) := by decide +kernel
theorem b_TS_copy_0 : mx_ck m_TS_copy 0 [(.iload_n 1, [], 0)] = some 1 := by decide +kernel
theorem b_TS_copy_7 : mx_ck m_TS_copy 7 [(.iload_n 3, [], 0)] = some 8 := by decide +kernel
theorem b_TS_copy_14 : mx_ck m_TS_copy 14 [(.ldc 77, [430], (-1000001))] = some 16 := by decide +kernel
theorem b_TS_copy_17 : mx_ck m_TS_copy 17 [(.aload_n 0, [], 0), (.aload_n 0, [], 0), (.getfield 10, [9, 0, 2, 377], 0), (.iload_n 1, [], 0), (.iload_n 2, [], 0), (.iload_n 3, [], 0), (.iload 4, [], 0), (.iload 5, [], 0)] = some 29 := by decide +kernel
theorem b_TS_copy_32 : mx_ck m_TS_copy 32 [(.putfield 78, [9, 13, 0, 390], 0), (.aload_n 0, [], 0), (.getfield 78, [9, 13, 0, 390], 0)] = some 39 := by decide +kernel
theorem b_TS_copy_42 : mx_ck m_TS_copy 42 [(.ldc 82, [431], (-1000010)), (.aload_n 0, [], 0), (.getfield 78, [9, 13, 0, 390], 0), (.isub, [], 0)] = some 49 := by decide +kernel
theorem b_TS_copy_50 : mx_ck m_TS_copy 50 [(.aload_n 0, [], 0), (.getfield 10, [9, 0, 2, 377], 0), (.iload_n 1, [], 0), (.iload_n 2, [], 0), (.iload_n 3, [], 0), (.iload 4, [], 0), (.iload 5, [], 0)] = some 61 := by decide +kernel
theorem b_TS_copy_64 : mx_ck m_TS_copy 64 [(.iload 5, [], 0)] = some 66 := by decide +kernel
theorem d_TS_copy_1 : decode m_TS_copy.2.1 1 = .ok (.invokestatic 70, 3) := by decide +kernel
theorem c_TS_copy_1 : mx_cs m_TS_copy m_Rows_isNumber 70 1 [424, 425, 82, 426] = true := by decide +kernel
theorem d_TS_copy_4 : decode m_TS_copy.2.1 4 = .ok (.ifCond .eq 10, 3) := by decide +kernel
theorem d_TS_copy_8 : decode m_TS_copy.2.1 8 = .ok (.invokestatic 70, 3) := by decide +kernel
theorem c_TS_copy_8 : mx_cs m_TS_copy m_Rows_isNumber 70 1 [424, 425, 82, 426] = true := by decide +kernel
theorem d_TS_copy_11 : decode m_TS_copy.2.1 11 = .ok (.ifCond .ne 6, 3) := by decide +kernel
theorem d_TS_copy_16 : decode m_TS_copy.2.1 16 = .ok (.ireturn, 1) := by decide +kernel
theorem d_TS_copy_29 : decode m_TS_copy.2.1 29 = .ok (.invokevirtual 94, 3) := by decide +kernel
theorem c_TS_copy_29 : mx_cv m_TS_copy m_Rows_findingOfMove 94 5 [456, 457, 458, 82, 459] = true := by decide +kernel
theorem d_TS_copy_39 : decode m_TS_copy.2.1 39 = .ok (.ifCond .eq 11, 3) := by decide +kernel
theorem d_TS_copy_49 : decode m_TS_copy.2.1 49 = .ok (.ireturn, 1) := by decide +kernel
theorem d_TS_copy_61 : decode m_TS_copy.2.1 61 = .ok (.invokevirtual 98, 3) := by decide +kernel
theorem c_TS_copy_61 : mx_cv m_TS_copy m_Rows_move 98 5 [460, 461, 462, 82, 463] = true := by decide +kernel
theorem d_TS_copy_66 : decode m_TS_copy.2.1 66 = .ok (.ireturn, 1) := by decide +kernel
theorem b_TS_count_0 : mx_ck m_TS_count 0 [(.iload_n 1, [], 0)] = some 1 := by decide +kernel
theorem b_TS_count_40 : mx_ck m_TS_count 40 [(.aload_n 0, [], 0), (.getfield 10, [9, 0, 2, 377], 0)] = some 44 := by decide +kernel
theorem b_TS_count_48 : mx_ck m_TS_count 48 [(.aload_n 0, [], 0), (.getfield 26, [9, 2, 8, 379], 0), (.getfield 125, [3, 3, 0, 174], 0)] = some 55 := by decide +kernel
theorem b_TS_count_56 : mx_ck m_TS_count 56 [(.aload_n 0, [], 0), (.getfield 26, [9, 2, 8, 379], 0), (.getfield 288, [3, 4, 0, 180], 0)] = some 63 := by decide +kernel
theorem b_TS_count_64 : mx_ck m_TS_count 64 [(.aload_n 0, [], 0)] = some 65 := by decide +kernel
theorem b_TS_count_75 : mx_ck m_TS_count 75 [(.aload_n 0, [], 0), (.getfield 42, [9, 6, 24, 383], 0), (.getfield 131, [0, 4, 0, 203], 0)] = some 82 := by decide +kernel
theorem b_TS_count_83 : mx_ck m_TS_count 83 [(.aload_n 0, [], 0), (.getfield 19, [9, 1, 6, 378], 0), (.getfield 109, [8, 1, 0, 131], 0)] = some 90 := by decide +kernel
theorem b_TS_count_91 : mx_ck m_TS_count 91 [(.ldc 77, [430], (-1000001))] = some 93 := by decide +kernel
theorem d_TS_count_1 : decode m_TS_count.2.1 1 = .ok (.tableswitch 90 0 5 #[39, 47, 55, 63, 74, 82], 39) := by decide +kernel
theorem d_TS_count_44 : decode m_TS_count.2.1 44 = .ok (.invokevirtual 285, 3) := by decide +kernel
theorem c_TS_count_44 : mx_cv m_TS_count m_Rows_present 285 0 [937, 938, 939, 82, 940] = true := by decide +kernel
theorem d_TS_count_47 : decode m_TS_count.2.1 47 = .ok (.ireturn, 1) := by decide +kernel
theorem d_TS_count_55 : decode m_TS_count.2.1 55 = .ok (.ireturn, 1) := by decide +kernel
theorem d_TS_count_63 : decode m_TS_count.2.1 63 = .ok (.ireturn, 1) := by decide +kernel
theorem d_TS_count_65 : decode m_TS_count.2.1 65 = .ok (.invokevirtual 173, 3) := by decide +kernel
theorem c_TS_count_65 : mx_cv m_TS_count m_TS_cellsNow 173 0 [605, 607, 10, 81, 608] = true := by decide +kernel
theorem d_TS_count_68 : decode m_TS_count.2.1 68 = .ok (.invokevirtual 194, 3) := by decide +kernel
theorem c_TS_count_68 : mx_cv m_TS_count m_Cells_withoutValue 194 0 [705, 706, 707, 87, 708] = true := by decide +kernel
theorem d_TS_count_71 : decode m_TS_count.2.1 71 = .ok (.invokestatic 253, 3) := by decide +kernel
theorem c_TS_count_71 : mx_cs m_TS_count m_bitCount 253 1 [826, 827, 94, 828] = true := by decide +kernel
theorem d_TS_count_74 : decode m_TS_count.2.1 74 = .ok (.ireturn, 1) := by decide +kernel
theorem d_TS_count_82 : decode m_TS_count.2.1 82 = .ok (.ireturn, 1) := by decide +kernel
theorem d_TS_count_90 : decode m_TS_count.2.1 90 = .ok (.ireturn, 1) := by decide +kernel
theorem d_TS_count_93 : decode m_TS_count.2.1 93 = .ok (.ireturn, 1) := by decide +kernel
theorem b_TS_drawEquation_0 : mx_ck m_TS_drawEquation 0 [(.aload_n 0, [], 0), (.getfield 30, [9, 3, 12, 380], 0), (.getfield 125, [3, 3, 0, 174], 0), (.iconst 1, [], nI 1)] = some 8 := by decide +kernel
theorem b_TS_drawEquation_12 : mx_ck m_TS_drawEquation 12 [(.lload_n 1, [], 0), (.aload_n 0, [], 0), (.getfield 30, [9, 3, 12, 380], 0), (.getfield 125, [3, 3, 0, 174], 0), (.i2l, [], 0), (.lrem, [], 0), (.l2i, [], 0), (.istore_n 3, [], 0), (.lload_n 1, [], 0), (.ldc2_w 299, [8, 822], 0), (.ldiv, [], 0), (.ldc2_w 301, [6, 823], 0), (.lrem, [], 0), (.l2i, [], 0), (.istore 4, [], 0), (.lload_n 1, [], 0), (.ldc2_w 303, [64, 824], 0), (.ldiv, [], 0), (.ldc2_w 299, [8, 822], 0), (.lrem, [], 0), (.l2i, [], 0), (.istore 5, [], 0), (.lload_n 1, [], 0), (.ldc2_w 305, [512, 825], 0), (.ldiv, [], 0), (.ldc2_w 299, [8, 822], 0), (.lrem, [], 0), (.l2i, [], 0), (.istore 6, [], 0), (.aload_n 0, [], 0), (.getfield 30, [9, 3, 12, 380], 0), (.iload_n 3, [], 0), (.iload 4, [], 0), (.iload 5, [], 0), (.iload 6, [], 0)] = some 71 := by decide +kernel
theorem b_TS_drawEquation_77 : mx_ck m_TS_drawEquation 77 [(.aload_n 0, [], 0), (.getfield 30, [9, 3, 12, 380], 0), (.iload_n 3, [], 0), (.iload 4, [], 0), (.iload 5, [], 0), (.iload 6, [], 0)] = some 88 := by decide +kernel
theorem d_TS_drawEquation_8 : decode m_TS_drawEquation.2.1 8 = .ok (.if_icmp .ge 4, 3) := by decide +kernel
theorem d_TS_drawEquation_11 : decode m_TS_drawEquation.2.1 11 = .ok (.return_, 1) := by decide +kernel
theorem d_TS_drawEquation_71 : decode m_TS_drawEquation.2.1 71 = .ok (.invokevirtual 141, 3) := by decide +kernel
theorem c_TS_drawEquation_71 : mx_cv m_TS_drawEquation m_House_mayStand 141 4 [573, 520, 521, 85, 522] = true := by decide +kernel
theorem d_TS_drawEquation_74 : decode m_TS_drawEquation.2.1 74 = .ok (.ifCond .eq 17, 3) := by decide +kernel
theorem d_TS_drawEquation_88 : decode m_TS_drawEquation.2.1 88 = .ok (.invokevirtual 153, 3) := by decide +kernel
theorem c_TS_drawEquation_88 : mx_cv m_TS_drawEquation m_House_tell 153 4 [583, 538, 539, 85, 540] = true := by decide +kernel
theorem d_TS_drawEquation_91 : decode m_TS_drawEquation.2.1 91 = .ok (.return_, 1) := by decide +kernel
theorem b_TS_drawn_0 : mx_ck m_TS_drawn 0 [(.aload_n 0, [], 0), (.getfield 26, [9, 2, 8, 379], 0)] = some 4 := by decide +kernel
theorem b_TS_drawn_10 : mx_ck m_TS_drawn 10 [(.ldc 134, [563], (-1000002))] = some 12 := by decide +kernel
theorem b_TS_drawn_13 : mx_ck m_TS_drawn 13 [(.iload_n 1, [], 0)] = some 14 := by decide +kernel
theorem b_TS_drawn_17 : mx_ck m_TS_drawn 17 [(.iload_n 1, [], 0), (.bipush 20, [], nI 20)] = some 20 := by decide +kernel
theorem b_TS_drawn_23 : mx_ck m_TS_drawn 23 [(.iload_n 2, [], 0), (.iconst 1, [], nI 1)] = some 25 := by decide +kernel
theorem b_TS_drawn_28 : mx_ck m_TS_drawn 28 [(.iload_n 2, [], 0), (.ldc 238, [815], nI 999999)] = some 31 := by decide +kernel
theorem b_TS_drawn_34 : mx_ck m_TS_drawn 34 [(.iload_n 3, [], 0)] = some 35 := by decide +kernel
theorem b_TS_drawn_38 : mx_ck m_TS_drawn 38 [(.iload_n 3, [], 0), (.iconst 1, [], nI 1)] = some 40 := by decide +kernel
theorem b_TS_drawn_43 : mx_ck m_TS_drawn 43 [(.ldc 77, [430], (-1000001))] = some 45 := by decide +kernel
theorem b_TS_drawn_46 : mx_ck m_TS_drawn 46 [(.aload_n 0, [], 0), (.getfield 30, [9, 3, 12, 380], 0), (.aload_n 0, [], 0), (.getfield 26, [9, 2, 8, 379], 0)] = some 54 := by decide +kernel
theorem b_TS_drawn_57 : mx_ck m_TS_drawn 57 [(.iload_n 2, [], 0), (.i2l, [], 0), (.lstore 4, [], 0), (.iconst 0, [], nI 0), (.istore 6, [], 0)] = some 64 := by decide +kernel
theorem b_TS_drawn_64 : mx_ck m_TS_drawn 64 [(.iload 6, [], 0), (.iload_n 1, [], 0)] = some 67 := by decide +kernel
theorem b_TS_drawn_70 : mx_ck m_TS_drawn 70 [(.lload 4, [], 0), (.ldc2_w 242, [16807, 816], 0), (.lmul, [], 0), (.ldc2_w 244, [2147483647, 817], 0), (.lrem, [], 0), (.lstore 4, [], 0), (.aload_n 0, [], 0), (.lload 4, [], 0)] = some 85 := by decide +kernel
theorem b_TS_drawn_88 : mx_ck m_TS_drawn 88 [(.iinc 6 1, [], nI 1)] = some 91 := by decide +kernel
theorem b_TS_drawn_94 : mx_ck m_TS_drawn 94 [(.aload_n 0, [], 0), (.getfield 53, [9, 8, 66, 385], 0), (.aload_n 0, [], 0), (.getfield 30, [9, 3, 12, 380], 0)] = some 102 := by decide +kernel
theorem b_TS_drawn_105 : mx_ck m_TS_drawn 105 [(.iload_n 3, [], 0)] = some 106 := by decide +kernel
theorem b_TS_drawn_109 : mx_ck m_TS_drawn 109 [(.aload_n 0, [], 0), (.getfield 30, [9, 3, 12, 380], 0), (.getfield 125, [3, 3, 0, 174], 0), (.aload_n 0, [], 0), (.getfield 53, [9, 8, 66, 385], 0)] = some 120 := by decide +kernel
theorem b_TS_drawn_126 : mx_ck m_TS_drawn 126 [(.isub, [], 0)] = some 127 := by decide +kernel
theorem b_TS_drawn_130 : mx_ck m_TS_drawn 130 [(.aload_n 0, [], 0), (.getfield 53, [9, 8, 66, 385], 0), (.getfield 197, [2, 6, 6, 278], 0), (.getfield 201, [6, 2, 0, 238], 0)] = some 140 := by decide +kernel
theorem d_TS_drawn_4 : decode m_TS_drawn.2.1 4 = .ok (.invokevirtual 166, 3) := by decide +kernel
theorem c_TS_drawn_4 : mx_cv m_TS_drawn m_House_isNone 166 0 [593, 594, 595, 85, 596] = true := by decide +kernel
theorem d_TS_drawn_7 : decode m_TS_drawn.2.1 7 = .ok (.ifCond .eq 6, 3) := by decide +kernel
theorem d_TS_drawn_12 : decode m_TS_drawn.2.1 12 = .ok (.ireturn, 1) := by decide +kernel
theorem d_TS_drawn_14 : decode m_TS_drawn.2.1 14 = .ok (.ifCond .lt 29, 3) := by decide +kernel
theorem d_TS_drawn_20 : decode m_TS_drawn.2.1 20 = .ok (.if_icmp .gt 23, 3) := by decide +kernel
theorem d_TS_drawn_25 : decode m_TS_drawn.2.1 25 = .ok (.if_icmp .lt 18, 3) := by decide +kernel
theorem d_TS_drawn_31 : decode m_TS_drawn.2.1 31 = .ok (.if_icmp .gt 12, 3) := by decide +kernel
theorem d_TS_drawn_35 : decode m_TS_drawn.2.1 35 = .ok (.ifCond .lt 8, 3) := by decide +kernel
theorem d_TS_drawn_40 : decode m_TS_drawn.2.1 40 = .ok (.if_icmp .le 6, 3) := by decide +kernel
theorem d_TS_drawn_45 : decode m_TS_drawn.2.1 45 = .ok (.ireturn, 1) := by decide +kernel
theorem d_TS_drawn_54 : decode m_TS_drawn.2.1 54 = .ok (.invokevirtual 239, 3) := by decide +kernel
theorem c_TS_drawn_54 : mx_cv m_TS_drawn m_House_takeFrom 239 1 [546, 547, 548, 85, 549] = true := by decide +kernel
theorem d_TS_drawn_67 : decode m_TS_drawn.2.1 67 = .ok (.if_icmp .ge 27, 3) := by decide +kernel
theorem d_TS_drawn_85 : decode m_TS_drawn.2.1 85 = .ok (.invokevirtual 246, 3) := by decide +kernel
theorem c_TS_drawn_85 : mx_cv m_TS_drawn m_TS_drawEquation 246 1 [818, 820, 25, 81, 821] = true := by decide +kernel
theorem d_TS_drawn_91 : decode m_TS_drawn.2.1 91 = .ok (.goto (-27), 3) := by decide +kernel
theorem d_TS_drawn_102 : decode m_TS_drawn.2.1 102 = .ok (.invokevirtual 250, 3) := by decide +kernel
theorem c_TS_drawn_102 : mx_cv m_TS_drawn m_Cells_measure 250 1 [609, 610, 611, 87, 612] = true := by decide +kernel
theorem d_TS_drawn_106 : decode m_TS_drawn.2.1 106 = .ok (.ifCond .ne 24, 3) := by decide +kernel
theorem d_TS_drawn_120 : decode m_TS_drawn.2.1 120 = .ok (.invokevirtual 194, 3) := by decide +kernel
theorem c_TS_drawn_120 : mx_cv m_TS_drawn m_Cells_withoutValue 194 0 [705, 706, 707, 87, 708] = true := by decide +kernel
theorem d_TS_drawn_123 : decode m_TS_drawn.2.1 123 = .ok (.invokestatic 253, 3) := by decide +kernel
theorem c_TS_drawn_123 : mx_cs m_TS_drawn m_bitCount 253 1 [826, 827, 94, 828] = true := by decide +kernel
theorem d_TS_drawn_127 : decode m_TS_drawn.2.1 127 = .ok (.goto 13, 3) := by decide +kernel
theorem d_TS_drawn_140 : decode m_TS_drawn.2.1 140 = .ok (.ireturn, 1) := by decide +kernel
theorem b_TS_drop_0 : mx_ck m_TS_drop 0 [(.iload_n 1, [], 0)] = some 1 := by decide +kernel
theorem b_TS_drop_7 : mx_ck m_TS_drop 7 [(.ldc 77, [430], (-1000001))] = some 9 := by decide +kernel
theorem b_TS_drop_10 : mx_ck m_TS_drop 10 [(.aload_n 0, [], 0), (.aload_n 0, [], 0), (.getfield 10, [9, 0, 2, 377], 0), (.iload_n 1, [], 0), (.iconst 0, [], nI 0), (.iconst 0, [], nI 0)] = some 18 := by decide +kernel
theorem b_TS_drop_21 : mx_ck m_TS_drop 21 [(.putfield 78, [9, 13, 0, 390], 0), (.aload_n 0, [], 0), (.getfield 78, [9, 13, 0, 390], 0)] = some 28 := by decide +kernel
theorem b_TS_drop_31 : mx_ck m_TS_drop 31 [(.ldc 82, [431], (-1000010)), (.aload_n 0, [], 0), (.getfield 78, [9, 13, 0, 390], 0), (.isub, [], 0)] = some 38 := by decide +kernel
theorem b_TS_drop_41 : mx_ck m_TS_drop 41 [(.aload_n 0, [], 0), (.getfield 10, [9, 0, 2, 377], 0), (.iload_n 1, [], 0)] = some 46 := by decide +kernel
theorem d_TS_drop_1 : decode m_TS_drop.2.1 1 = .ok (.invokestatic 70, 3) := by decide +kernel
theorem c_TS_drop_1 : mx_cs m_TS_drop m_Rows_isNumber 70 1 [424, 425, 82, 426] = true := by decide +kernel
theorem d_TS_drop_4 : decode m_TS_drop.2.1 4 = .ok (.ifCond .ne 6, 3) := by decide +kernel
theorem d_TS_drop_9 : decode m_TS_drop.2.1 9 = .ok (.ireturn, 1) := by decide +kernel
theorem d_TS_drop_18 : decode m_TS_drop.2.1 18 = .ok (.invokevirtual 87, 3) := by decide +kernel
theorem c_TS_drop_18 : mx_cv m_TS_drop m_Rows_findingAt 87 3 [440, 441, 442, 82, 443] = true := by decide +kernel
theorem d_TS_drop_28 : decode m_TS_drop.2.1 28 = .ok (.ifCond .eq 13, 3) := by decide +kernel
theorem d_TS_drop_38 : decode m_TS_drop.2.1 38 = .ok (.goto 11, 3) := by decide +kernel
theorem d_TS_drop_46 : decode m_TS_drop.2.1 46 = .ok (.invokevirtual 102, 3) := by decide +kernel
theorem c_TS_drop_46 : mx_cv m_TS_drop m_Rows_lose 102 1 [471, 472, 473, 82, 474] = true := by decide +kernel
theorem d_TS_drop_49 : decode m_TS_drop.2.1 49 = .ok (.ireturn, 1) := by decide +kernel
theorem b_TS_empties_0 : mx_ck m_TS_empties 0 [(.aload_n 0, [], 0), (.getfield 26, [9, 2, 8, 379], 0)] = some 4 := by decide +kernel
theorem b_TS_empties_10 : mx_ck m_TS_empties 10 [(.ldc 134, [563], (-1000002))] = some 12 := by decide +kernel
theorem b_TS_empties_15 : mx_ck m_TS_empties 15 [(.aload_n 0, [], 0)] = some 16 := by decide +kernel
theorem d_TS_empties_4 : decode m_TS_empties.2.1 4 = .ok (.invokevirtual 166, 3) := by decide +kernel
theorem c_TS_empties_4 : mx_cv m_TS_empties m_House_isNone 166 0 [593, 594, 595, 85, 596] = true := by decide +kernel
theorem d_TS_empties_7 : decode m_TS_empties.2.1 7 = .ok (.ifCond .eq 8, 3) := by decide +kernel
theorem d_TS_empties_12 : decode m_TS_empties.2.1 12 = .ok (.goto 10, 3) := by decide +kernel
theorem d_TS_empties_16 : decode m_TS_empties.2.1 16 = .ok (.invokevirtual 173, 3) := by decide +kernel
theorem c_TS_empties_16 : mx_cv m_TS_empties m_TS_cellsNow 173 0 [605, 607, 10, 81, 608] = true := by decide +kernel
theorem d_TS_empties_19 : decode m_TS_empties.2.1 19 = .ok (.invokevirtual 194, 3) := by decide +kernel
theorem c_TS_empties_19 : mx_cv m_TS_empties m_Cells_withoutValue 194 0 [705, 706, 707, 87, 708] = true := by decide +kernel
theorem d_TS_empties_22 : decode m_TS_empties.2.1 22 = .ok (.ireturn, 1) := by decide +kernel
theorem b_TS_ends_0 : mx_ck m_TS_ends 0 [(.aload_n 0, [], 0), (.getfield 26, [9, 2, 8, 379], 0), (.iload_n 1, [], 0)] = some 5 := by decide +kernel
theorem b_TS_ends_11 : mx_ck m_TS_ends 11 [(.iload_n 2, [], 0)] = some 12 := by decide +kernel
theorem b_TS_ends_15 : mx_ck m_TS_ends 15 [(.iload_n 2, [], 0), (.iconst 1, [], nI 1)] = some 17 := by decide +kernel
theorem b_TS_ends_20 : mx_ck m_TS_ends 20 [(.ldc 77, [430], (-1000001))] = some 22 := by decide +kernel
theorem b_TS_ends_23 : mx_ck m_TS_ends 23 [(.aload_n 0, [], 0)] = some 24 := by decide +kernel
theorem b_TS_ends_27 : mx_ck m_TS_ends 27 [(.iload_n 1, [], 0), (.iload_n 2, [], 0)] = some 29 := by decide +kernel
theorem d_TS_ends_5 : decode m_TS_ends.2.1 5 = .ok (.invokevirtual 157, 3) := by decide +kernel
theorem c_TS_ends_5 : mx_cv m_TS_ends m_House_has 157 1 [588, 524, 525, 85, 526] = true := by decide +kernel
theorem d_TS_ends_8 : decode m_TS_ends.2.1 8 = .ok (.ifCond .eq 12, 3) := by decide +kernel
theorem d_TS_ends_12 : decode m_TS_ends.2.1 12 = .ok (.ifCond .lt 8, 3) := by decide +kernel
theorem d_TS_ends_17 : decode m_TS_ends.2.1 17 = .ok (.if_icmp .le 6, 3) := by decide +kernel
theorem d_TS_ends_22 : decode m_TS_ends.2.1 22 = .ok (.ireturn, 1) := by decide +kernel
theorem d_TS_ends_24 : decode m_TS_ends.2.1 24 = .ok (.invokevirtual 173, 3) := by decide +kernel
theorem c_TS_ends_24 : mx_cv m_TS_ends m_TS_cellsNow 173 0 [605, 607, 10, 81, 608] = true := by decide +kernel
theorem d_TS_ends_29 : decode m_TS_ends.2.1 29 = .ok (.invokevirtual 215, 3) := by decide +kernel
theorem c_TS_ends_29 : mx_cv m_TS_ends m_Cells_holdingSide 215 2 [745, 746, 747, 87, 748] = true := by decide +kernel
theorem d_TS_ends_32 : decode m_TS_ends.2.1 32 = .ok (.ireturn, 1) := by decide +kernel
theorem b_TS_fault_0 : mx_ck m_TS_fault 0 [(.aload_n 0, [], 0), (.getfield 19, [9, 1, 6, 378], 0), (.getfield 128, [8, 6, 0, 137], 0)] = some 7 := by decide +kernel
theorem d_TS_fault_7 : decode m_TS_fault.2.1 7 = .ok (.ireturn, 1) := by decide +kernel
theorem b_TS_feed_0 : mx_ck m_TS_feed 0 [(.iload_n 1, [], 0)] = some 1 := by decide +kernel
theorem b_TS_feed_4 : mx_ck m_TS_feed 4 [(.iload_n 1, [], 0), (.sipush 255, [], nI 255)] = some 8 := by decide +kernel
theorem b_TS_feed_11 : mx_ck m_TS_feed 11 [(.ldc 77, [430], (-1000001))] = some 13 := by decide +kernel
theorem b_TS_feed_14 : mx_ck m_TS_feed 14 [(.aload_n 0, [], 0), (.getfield 19, [9, 1, 6, 378], 0), (.iload_n 1, [], 0)] = some 19 := by decide +kernel
theorem b_TS_feed_25 : mx_ck m_TS_feed 25 [(.aload_n 0, [], 0), (.getfield 19, [9, 1, 6, 378], 0), (.getfield 109, [8, 1, 0, 131], 0)] = some 32 := by decide +kernel
theorem b_TS_feed_35 : mx_ck m_TS_feed 35 [(.ldc 112, [483], (-1000003))] = some 37 := by decide +kernel
theorem d_TS_feed_1 : decode m_TS_feed.2.1 1 = .ok (.ifCond .lt 10, 3) := by decide +kernel
theorem d_TS_feed_8 : decode m_TS_feed.2.1 8 = .ok (.if_icmp .le 6, 3) := by decide +kernel
theorem d_TS_feed_13 : decode m_TS_feed.2.1 13 = .ok (.ireturn, 1) := by decide +kernel
theorem d_TS_feed_19 : decode m_TS_feed.2.1 19 = .ok (.invokevirtual 106, 3) := by decide +kernel
theorem c_TS_feed_19 : mx_cv m_TS_feed m_Tape_add 106 1 [479, 480, 481, 84, 482] = true := by decide +kernel
theorem d_TS_feed_22 : decode m_TS_feed.2.1 22 = .ok (.ifCond .eq 13, 3) := by decide +kernel
theorem d_TS_feed_32 : decode m_TS_feed.2.1 32 = .ok (.goto 5, 3) := by decide +kernel
theorem d_TS_feed_37 : decode m_TS_feed.2.1 37 = .ok (.ireturn, 1) := by decide +kernel
theorem b_TS_fits_0 : mx_ck m_TS_fits 0 [(.iload_n 2, [], 0)] = some 1 := by decide +kernel
theorem b_TS_fits_4 : mx_ck m_TS_fits 4 [(.iload_n 3, [], 0)] = some 5 := by decide +kernel
theorem b_TS_fits_8 : mx_ck m_TS_fits 8 [(.aload_n 0, [], 0), (.getfield 26, [9, 2, 8, 379], 0), (.getfield 145, [3, 0, 2, 163], 0), (.iload_n 1, [], 0), (.iaload, [], 0)] = some 17 := by decide +kernel
theorem b_TS_fits_17 : mx_ck m_TS_fits 17 [(.istore 6, [], 0), (.iload_n 2, [], 0), (.iconst 1, [], nI 1)] = some 21 := by decide +kernel
theorem b_TS_fits_24 : mx_ck m_TS_fits 24 [(.iload_n 3, [], 0)] = some 25 := by decide +kernel
theorem b_TS_fits_28 : mx_ck m_TS_fits 28 [(.aload_n 0, [], 0), (.getfield 26, [9, 2, 8, 379], 0), (.getfield 160, [3, 1, 3, 167], 0), (.iload_n 1, [], 0), (.iaload, [], 0)] = some 37 := by decide +kernel
theorem b_TS_fits_37 : mx_ck m_TS_fits 37 [(.istore 7, [], 0), (.iload_n 2, [], 0), (.iconst 2, [], nI 2)] = some 41 := by decide +kernel
theorem b_TS_fits_44 : mx_ck m_TS_fits 44 [(.iload_n 3, [], 0)] = some 45 := by decide +kernel
theorem b_TS_fits_48 : mx_ck m_TS_fits 48 [(.aload_n 0, [], 0), (.getfield 26, [9, 2, 8, 379], 0), (.getfield 163, [3, 2, 4, 171], 0), (.iload_n 1, [], 0), (.iaload, [], 0)] = some 57 := by decide +kernel
theorem b_TS_fits_57 : mx_ck m_TS_fits 57 [(.istore 8, [], 0), (.aload_n 0, [], 0), (.getfield 26, [9, 2, 8, 379], 0), (.iload_n 1, [], 0), (.iload 6, [], 0), (.iload 7, [], 0), (.iload 8, [], 0)] = some 70 := by decide +kernel
theorem b_TS_fits_76 : mx_ck m_TS_fits 76 [(.iconst 0, [], nI 0)] = some 77 := by decide +kernel
theorem b_TS_fits_78 : mx_ck m_TS_fits 78 [(.aload_n 0, [], 0), (.getfield 30, [9, 3, 12, 380], 0), (.aload_n 0, [], 0), (.getfield 26, [9, 2, 8, 379], 0)] = some 86 := by decide +kernel
theorem b_TS_fits_89 : mx_ck m_TS_fits 89 [(.aload_n 0, [], 0), (.getfield 30, [9, 3, 12, 380], 0), (.iload_n 1, [], 0), (.iload 6, [], 0), (.iload 7, [], 0), (.iload 8, [], 0)] = some 100 := by decide +kernel
theorem b_TS_fits_103 : mx_ck m_TS_fits 103 [(.aload_n 0, [], 0), (.getfield 53, [9, 8, 66, 385], 0), (.aload_n 0, [], 0), (.getfield 30, [9, 3, 12, 380], 0)] = some 111 := by decide +kernel
theorem b_TS_fits_114 : mx_ck m_TS_fits 114 [(.aload_n 0, [], 0), (.getfield 53, [9, 8, 66, 385], 0), (.iload_n 1, [], 0)] = some 119 := by decide +kernel
theorem b_TS_fits_122 : mx_ck m_TS_fits 122 [(.iconst 1, [], nI 1), (.iload 5, [], 0), (.ishl, [], 0), (.iconst 1, [], nI 1), (.isub, [], 0), (.iand, [], 0), (.iload 4, [], 0)] = some 131 := by decide +kernel
theorem b_TS_fits_134 : mx_ck m_TS_fits 134 [(.iconst 1, [], nI 1)] = some 135 := by decide +kernel
theorem b_TS_fits_138 : mx_ck m_TS_fits 138 [(.iconst 0, [], nI 0)] = some 139 := by decide +kernel
theorem d_TS_fits_1 : decode m_TS_fits.2.1 1 = .ok (.ifCond .ne 7, 3) := by decide +kernel
theorem d_TS_fits_5 : decode m_TS_fits.2.1 5 = .ok (.goto 12, 3) := by decide +kernel
theorem d_TS_fits_21 : decode m_TS_fits.2.1 21 = .ok (.if_icmp .ne 7, 3) := by decide +kernel
theorem d_TS_fits_25 : decode m_TS_fits.2.1 25 = .ok (.goto 12, 3) := by decide +kernel
theorem d_TS_fits_41 : decode m_TS_fits.2.1 41 = .ok (.if_icmp .ne 7, 3) := by decide +kernel
theorem d_TS_fits_45 : decode m_TS_fits.2.1 45 = .ok (.goto 12, 3) := by decide +kernel
theorem d_TS_fits_70 : decode m_TS_fits.2.1 70 = .ok (.invokevirtual 141, 3) := by decide +kernel
theorem c_TS_fits_70 : mx_cv m_TS_fits m_House_mayStand 141 4 [573, 520, 521, 85, 522] = true := by decide +kernel
theorem d_TS_fits_73 : decode m_TS_fits.2.1 73 = .ok (.ifCond .ne 5, 3) := by decide +kernel
theorem d_TS_fits_77 : decode m_TS_fits.2.1 77 = .ok (.ireturn, 1) := by decide +kernel
theorem d_TS_fits_86 : decode m_TS_fits.2.1 86 = .ok (.invokevirtual 239, 3) := by decide +kernel
theorem c_TS_fits_86 : mx_cv m_TS_fits m_House_takeFrom 239 1 [546, 547, 548, 85, 549] = true := by decide +kernel
theorem d_TS_fits_100 : decode m_TS_fits.2.1 100 = .ok (.invokevirtual 153, 3) := by decide +kernel
theorem c_TS_fits_100 : mx_cv m_TS_fits m_House_tell 153 4 [583, 538, 539, 85, 540] = true := by decide +kernel
theorem d_TS_fits_111 : decode m_TS_fits.2.1 111 = .ok (.invokevirtual 250, 3) := by decide +kernel
theorem c_TS_fits_111 : mx_cv m_TS_fits m_Cells_measure 250 1 [609, 610, 611, 87, 612] = true := by decide +kernel
theorem d_TS_fits_119 : decode m_TS_fits.2.1 119 = .ok (.invokevirtual 184, 3) := by decide +kernel
theorem c_TS_fits_119 : mx_cv m_TS_fits m_Cells_lyingIn 184 1 [696, 697, 698, 87, 699] = true := by decide +kernel
theorem d_TS_fits_131 : decode m_TS_fits.2.1 131 = .ok (.if_icmp .ne 7, 3) := by decide +kernel
theorem d_TS_fits_135 : decode m_TS_fits.2.1 135 = .ok (.goto 4, 3) := by decide +kernel
theorem d_TS_fits_139 : decode m_TS_fits.2.1 139 = .ok (.ireturn, 1) := by decide +kernel
theorem b_TS_forgetWhatStood_0 : mx_ck m_TS_forgetWhatStood 0 [(.aload_n 0, [], 0), (.iconst 0, [], nI 0), (.putfield 291, [9, 11, 1, 388], 0), (.aload_n 0, [], 0), (.iconst 0, [], nI 0), (.putfield 295, [9, 12, 1, 389], 0)] = some 10 := by decide +kernel
theorem d_TS_forgetWhatStood_10 : decode m_TS_forgetWhatStood.2.1 10 = .ok (.return_, 1) := by decide +kernel
theorem b_TS_greatestDivisor_0 : mx_ck m_TS_greatestDivisor 0 [(.iload_n 0, [], 0), (.istore_n 2, [], 0), (.iload_n 1, [], 0), (.istore_n 3, [], 0), (.iconst 0, [], nI 0), (.istore 4, [], 0)] = some 7 := by decide +kernel
theorem b_TS_greatestDivisor_7 : mx_ck m_TS_greatestDivisor 7 [(.iload 4, [], 0), (.bipush 64, [], nI 64)] = some 11 := by decide +kernel
theorem b_TS_greatestDivisor_14 : mx_ck m_TS_greatestDivisor 14 [(.iload_n 3, [], 0)] = some 15 := by decide +kernel
theorem b_TS_greatestDivisor_18 : mx_ck m_TS_greatestDivisor 18 [(.iload_n 2, [], 0), (.iload_n 3, [], 0), (.irem, [], 0), (.istore 5, [], 0), (.iload_n 3, [], 0), (.istore_n 2, [], 0), (.iload 5, [], 0), (.istore_n 3, [], 0), (.iinc 4 1, [], nI 1)] = some 31 := by decide +kernel
theorem b_TS_greatestDivisor_34 : mx_ck m_TS_greatestDivisor 34 [(.iload_n 2, [], 0)] = some 35 := by decide +kernel
theorem d_TS_greatestDivisor_11 : decode m_TS_greatestDivisor.2.1 11 = .ok (.if_icmp .ge 23, 3) := by decide +kernel
theorem d_TS_greatestDivisor_15 : decode m_TS_greatestDivisor.2.1 15 = .ok (.ifCond .eq 19, 3) := by decide +kernel
theorem d_TS_greatestDivisor_31 : decode m_TS_greatestDivisor.2.1 31 = .ok (.goto (-24), 3) := by decide +kernel
theorem d_TS_greatestDivisor_35 : decode m_TS_greatestDivisor.2.1 35 = .ok (.ireturn, 1) := by decide +kernel
theorem b_TS_house_0 : mx_ck m_TS_house 0 [(.aload_n 0, [], 0), (.getfield 19, [9, 1, 6, 378], 0), (.aload_n 0, [], 0), (.getfield 30, [9, 3, 12, 380], 0)] = some 8 := by decide +kernel
theorem b_TS_house_11 : mx_ck m_TS_house 11 [(.istore_n 1, [], 0), (.aload_n 0, [], 0), (.getfield 19, [9, 1, 6, 378], 0), (.iconst 0, [], nI 0), (.putfield 109, [8, 1, 0, 131], 0), (.iload_n 1, [], 0)] = some 21 := by decide +kernel
theorem b_TS_house_24 : mx_ck m_TS_house 24 [(.ldc 117, [541], (-1000100)), (.aload_n 0, [], 0), (.getfield 19, [9, 1, 6, 378], 0), (.getfield 118, [8, 5, 0, 135], 0), (.isub, [], 0)] = some 34 := by decide +kernel
theorem b_TS_house_35 : mx_ck m_TS_house 35 [(.aload_n 0, [], 0), (.aload_n 0, [], 0), (.getfield 30, [9, 3, 12, 380], 0)] = some 40 := by decide +kernel
theorem b_TS_house_43 : mx_ck m_TS_house 43 [(.aload_n 0, [], 0), (.getfield 26, [9, 2, 8, 379], 0), (.getfield 125, [3, 3, 0, 174], 0)] = some 50 := by decide +kernel
theorem d_TS_house_8 : decode m_TS_house.2.1 8 = .ok (.invokevirtual 113, 3) := by decide +kernel
theorem c_TS_house_8 : mx_cv m_TS_house m_Tape_read 113 1 [488, 489, 490, 84, 491] = true := by decide +kernel
theorem d_TS_house_21 : decode m_TS_house.2.1 21 = .ok (.ifCond .ne 14, 3) := by decide +kernel
theorem d_TS_house_34 : decode m_TS_house.2.1 34 = .ok (.ireturn, 1) := by decide +kernel
theorem d_TS_house_40 : decode m_TS_house.2.1 40 = .ok (.invokevirtual 121, 3) := by decide +kernel
theorem c_TS_house_40 : mx_cv m_TS_house m_TS_standIn 121 1 [542, 544, 7, 81, 545] = true := by decide +kernel
theorem d_TS_house_50 : decode m_TS_house.2.1 50 = .ok (.ireturn, 1) := by decide +kernel
theorem b_TS_image_0 : mx_ck m_TS_image 0 [(.iload_n 1, [], 0)] = some 1 := by decide +kernel
theorem b_TS_image_4 : mx_ck m_TS_image 4 [(.iload_n 1, [], 0), (.iconst 2, [], nI 2)] = some 6 := by decide +kernel
theorem b_TS_image_9 : mx_ck m_TS_image 9 [(.ldc 77, [430], (-1000001))] = some 11 := by decide +kernel
theorem b_TS_image_12 : mx_ck m_TS_image 12 [(.aload_n 0, [], 0), (.getfield 26, [9, 2, 8, 379], 0)] = some 16 := by decide +kernel
theorem b_TS_image_22 : mx_ck m_TS_image 22 [(.ldc 134, [563], (-1000002))] = some 24 := by decide +kernel
theorem b_TS_image_25 : mx_ck m_TS_image 25 [(.aload_n 0, [], 0), (.iload_n 1, [], 0)] = some 27 := by decide +kernel
theorem b_TS_image_30 : mx_ck m_TS_image 30 [(.aload_n 0, [], 0), (.getfield 26, [9, 2, 8, 379], 0)] = some 34 := by decide +kernel
theorem b_TS_image_37 : mx_ck m_TS_image 37 [(.iconst 1, [], nI 1)] = some 38 := by decide +kernel
theorem d_TS_image_1 : decode m_TS_image.2.1 1 = .ok (.ifCond .lt 8, 3) := by decide +kernel
theorem d_TS_image_6 : decode m_TS_image.2.1 6 = .ok (.if_icmp .lt 6, 3) := by decide +kernel
theorem d_TS_image_11 : decode m_TS_image.2.1 11 = .ok (.ireturn, 1) := by decide +kernel
theorem d_TS_image_16 : decode m_TS_image.2.1 16 = .ok (.invokevirtual 166, 3) := by decide +kernel
theorem c_TS_image_16 : mx_cv m_TS_image m_House_isNone 166 0 [593, 594, 595, 85, 596] = true := by decide +kernel
theorem d_TS_image_19 : decode m_TS_image.2.1 19 = .ok (.ifCond .eq 6, 3) := by decide +kernel
theorem d_TS_image_24 : decode m_TS_image.2.1 24 = .ok (.ireturn, 1) := by decide +kernel
theorem d_TS_image_27 : decode m_TS_image.2.1 27 = .ok (.invokevirtual 258, 3) := by decide +kernel
theorem c_TS_image_27 : mx_cv m_TS_image m_TS_imageOf 258 1 [836, 838, 26, 81, 839] = true := by decide +kernel
theorem d_TS_image_34 : decode m_TS_image.2.1 34 = .ok (.invokevirtual 239, 3) := by decide +kernel
theorem c_TS_image_34 : mx_cv m_TS_image m_House_takeFrom 239 1 [546, 547, 548, 85, 549] = true := by decide +kernel
theorem d_TS_image_38 : decode m_TS_image.2.1 38 = .ok (.ireturn, 1) := by decide +kernel
theorem b_TS_imageOf_0 : mx_ck m_TS_imageOf 0 [(.iload_n 1, [], 0)] = some 1 := by decide +kernel
theorem b_TS_imageOf_4 : mx_ck m_TS_imageOf 4 [(.aload_n 0, [], 0), (.getfield 33, [9, 4, 16, 381], 0)] = some 8 := by decide +kernel
theorem b_TS_imageOf_11 : mx_ck m_TS_imageOf 11 [(.aload_n 0, [], 0), (.getfield 36, [9, 5, 20, 382], 0)] = some 15 := by decide +kernel
theorem d_TS_imageOf_1 : decode m_TS_imageOf.2.1 1 = .ok (.ifCond .ne 10, 3) := by decide +kernel
theorem d_TS_imageOf_8 : decode m_TS_imageOf.2.1 8 = .ok (.goto 7, 3) := by decide +kernel
theorem d_TS_imageOf_15 : decode m_TS_imageOf.2.1 15 = .ok (.areturn, 1) := by decide +kernel
theorem b_TS_init_0 : mx_ck m_TS_init 0 [(.aload_n 0, [], 0)] = some 1 := by decide +kernel
theorem b_TS_init_4 : mx_ck m_TS_init 4 [(.aload_n 0, [], 0)] = some 5 := by decide +kernel
theorem b_TS_init_8 : mx_ck m_TS_init 8 [(.dup, [], 0)] = some 9 := by decide +kernel
theorem b_TS_init_15 : mx_ck m_TS_init 15 [(.aload_n 0, [], 0)] = some 16 := by decide +kernel
theorem b_TS_init_19 : mx_ck m_TS_init 19 [(.dup, [], 0)] = some 20 := by decide +kernel
theorem b_TS_init_26 : mx_ck m_TS_init 26 [(.aload_n 0, [], 0)] = some 27 := by decide +kernel
theorem b_TS_init_30 : mx_ck m_TS_init 30 [(.dup, [], 0)] = some 31 := by decide +kernel
theorem b_TS_init_37 : mx_ck m_TS_init 37 [(.aload_n 0, [], 0)] = some 38 := by decide +kernel
theorem b_TS_init_41 : mx_ck m_TS_init 41 [(.dup, [], 0)] = some 42 := by decide +kernel
theorem b_TS_init_48 : mx_ck m_TS_init 48 [(.aload_n 0, [], 0)] = some 49 := by decide +kernel
theorem b_TS_init_52 : mx_ck m_TS_init 52 [(.dup, [], 0)] = some 53 := by decide +kernel
theorem b_TS_init_59 : mx_ck m_TS_init 59 [(.aload_n 0, [], 0)] = some 60 := by decide +kernel
theorem b_TS_init_63 : mx_ck m_TS_init 63 [(.dup, [], 0)] = some 64 := by decide +kernel
theorem b_TS_init_70 : mx_ck m_TS_init 70 [(.aload_n 0, [], 0)] = some 71 := by decide +kernel
theorem b_TS_init_74 : mx_ck m_TS_init 74 [(.dup, [], 0)] = some 75 := by decide +kernel
theorem b_TS_init_81 : mx_ck m_TS_init 81 [(.aload_n 0, [], 0)] = some 82 := by decide +kernel
theorem b_TS_init_85 : mx_ck m_TS_init 85 [(.dup, [], 0)] = some 86 := by decide +kernel
theorem b_TS_init_92 : mx_ck m_TS_init 92 [(.aload_n 0, [], 0)] = some 93 := by decide +kernel
theorem b_TS_init_96 : mx_ck m_TS_init 96 [(.dup, [], 0)] = some 97 := by decide +kernel
theorem b_TS_init_103 : mx_ck m_TS_init 103 [(.aload_n 0, [], 0)] = some 104 := by decide +kernel
theorem b_TS_init_107 : mx_ck m_TS_init 107 [(.dup, [], 0)] = some 108 := by decide +kernel
theorem b_TS_init_114 : mx_ck m_TS_init 114 [(.aload_n 0, [], 0)] = some 115 := by decide +kernel
theorem b_TS_init_118 : mx_ck m_TS_init 118 [(.dup, [], 0)] = some 119 := by decide +kernel
theorem d_TS_init_1 : decode m_TS_init.2.1 1 = .ok (.invokespecial 1, 3) := by decide +kernel
theorem d_TS_init_5 : decode m_TS_init.2.1 5 = .ok (.new 7, 3) := by decide +kernel
theorem d_TS_init_9 : decode m_TS_init.2.1 9 = .ok (.invokespecial 9, 3) := by decide +kernel
theorem d_TS_init_12 : decode m_TS_init.2.1 12 = .ok (.putfield 10, 3) := by decide +kernel
theorem d_TS_init_16 : decode m_TS_init.2.1 16 = .ok (.new 16, 3) := by decide +kernel
theorem d_TS_init_20 : decode m_TS_init.2.1 20 = .ok (.invokespecial 18, 3) := by decide +kernel
theorem d_TS_init_23 : decode m_TS_init.2.1 23 = .ok (.putfield 19, 3) := by decide +kernel
theorem d_TS_init_27 : decode m_TS_init.2.1 27 = .ok (.new 23, 3) := by decide +kernel
theorem d_TS_init_31 : decode m_TS_init.2.1 31 = .ok (.invokespecial 25, 3) := by decide +kernel
theorem d_TS_init_34 : decode m_TS_init.2.1 34 = .ok (.putfield 26, 3) := by decide +kernel
theorem d_TS_init_38 : decode m_TS_init.2.1 38 = .ok (.new 23, 3) := by decide +kernel
theorem d_TS_init_42 : decode m_TS_init.2.1 42 = .ok (.invokespecial 25, 3) := by decide +kernel
theorem d_TS_init_45 : decode m_TS_init.2.1 45 = .ok (.putfield 30, 3) := by decide +kernel
theorem d_TS_init_49 : decode m_TS_init.2.1 49 = .ok (.new 23, 3) := by decide +kernel
theorem d_TS_init_53 : decode m_TS_init.2.1 53 = .ok (.invokespecial 25, 3) := by decide +kernel
theorem d_TS_init_56 : decode m_TS_init.2.1 56 = .ok (.putfield 33, 3) := by decide +kernel
theorem d_TS_init_60 : decode m_TS_init.2.1 60 = .ok (.new 23, 3) := by decide +kernel
theorem d_TS_init_64 : decode m_TS_init.2.1 64 = .ok (.invokespecial 25, 3) := by decide +kernel
theorem d_TS_init_67 : decode m_TS_init.2.1 67 = .ok (.putfield 36, 3) := by decide +kernel
theorem d_TS_init_71 : decode m_TS_init.2.1 71 = .ok (.new 39, 3) := by decide +kernel
theorem d_TS_init_75 : decode m_TS_init.2.1 75 = .ok (.invokespecial 41, 3) := by decide +kernel
theorem d_TS_init_78 : decode m_TS_init.2.1 78 = .ok (.putfield 42, 3) := by decide +kernel
theorem d_TS_init_82 : decode m_TS_init.2.1 82 = .ok (.new 46, 3) := by decide +kernel
theorem d_TS_init_86 : decode m_TS_init.2.1 86 = .ok (.invokespecial 48, 3) := by decide +kernel
theorem d_TS_init_89 : decode m_TS_init.2.1 89 = .ok (.putfield 49, 3) := by decide +kernel
theorem d_TS_init_93 : decode m_TS_init.2.1 93 = .ok (.new 46, 3) := by decide +kernel
theorem d_TS_init_97 : decode m_TS_init.2.1 97 = .ok (.invokespecial 48, 3) := by decide +kernel
theorem d_TS_init_100 : decode m_TS_init.2.1 100 = .ok (.putfield 53, 3) := by decide +kernel
theorem d_TS_init_104 : decode m_TS_init.2.1 104 = .ok (.new 56, 3) := by decide +kernel
theorem d_TS_init_108 : decode m_TS_init.2.1 108 = .ok (.invokespecial 58, 3) := by decide +kernel
theorem d_TS_init_111 : decode m_TS_init.2.1 111 = .ok (.putfield 59, 3) := by decide +kernel
theorem d_TS_init_115 : decode m_TS_init.2.1 115 = .ok (.new 63, 3) := by decide +kernel
theorem d_TS_init_119 : decode m_TS_init.2.1 119 = .ok (.invokespecial 65, 3) := by decide +kernel
theorem d_TS_init_122 : decode m_TS_init.2.1 122 = .ok (.putfield 66, 3) := by decide +kernel
theorem d_TS_init_125 : decode m_TS_init.2.1 125 = .ok (.return_, 1) := by decide +kernel
theorem b_TS_kind_0 : mx_ck m_TS_kind 0 [(.aload_n 0, [], 0), (.getfield 26, [9, 2, 8, 379], 0), (.iload_n 1, [], 0)] = some 5 := by decide +kernel
theorem b_TS_kind_11 : mx_ck m_TS_kind 11 [(.aload_n 0, [], 0), (.getfield 26, [9, 2, 8, 379], 0), (.getfield 145, [3, 0, 2, 163], 0), (.iload_n 1, [], 0), (.iaload, [], 0)] = some 20 := by decide +kernel
theorem b_TS_kind_26 : mx_ck m_TS_kind 26 [(.ldc 77, [430], (-1000001))] = some 28 := by decide +kernel
theorem d_TS_kind_5 : decode m_TS_kind.2.1 5 = .ok (.invokevirtual 157, 3) := by decide +kernel
theorem c_TS_kind_5 : mx_cv m_TS_kind m_House_has 157 1 [588, 524, 525, 85, 526] = true := by decide +kernel
theorem d_TS_kind_8 : decode m_TS_kind.2.1 8 = .ok (.ifCond .eq 18, 3) := by decide +kernel
theorem d_TS_kind_20 : decode m_TS_kind.2.1 20 = .ok (.invokestatic 262, 3) := by decide +kernel
theorem c_TS_kind_20 : mx_cs m_TS_kind m_Asks_kindOf 262 1 [848, 849, 91, 850] = true := by decide +kernel
theorem d_TS_kind_23 : decode m_TS_kind.2.1 23 = .ok (.goto 5, 3) := by decide +kernel
theorem d_TS_kind_28 : decode m_TS_kind.2.1 28 = .ok (.ireturn, 1) := by decide +kernel
theorem b_TS_lies_0 : mx_ck m_TS_lies 0 [(.aload_n 0, [], 0), (.getfield 26, [9, 2, 8, 379], 0), (.iload_n 1, [], 0)] = some 5 := by decide +kernel
theorem b_TS_lies_11 : mx_ck m_TS_lies 11 [(.aload_n 0, [], 0), (.getfield 26, [9, 2, 8, 379], 0), (.iload_n 2, [], 0)] = some 16 := by decide +kernel
theorem b_TS_lies_22 : mx_ck m_TS_lies 22 [(.ldc 77, [430], (-1000001))] = some 24 := by decide +kernel
theorem b_TS_lies_25 : mx_ck m_TS_lies 25 [(.aload_n 0, [], 0)] = some 26 := by decide +kernel
theorem b_TS_lies_29 : mx_ck m_TS_lies 29 [(.getfield 181, [2, 14, 36, 287], 0), (.iload_n 1, [], 0), (.iaload, [], 0), (.iload_n 2, [], 0), (.ishr, [], 0), (.iconst 1, [], nI 1), (.iand, [], 0)] = some 38 := by decide +kernel
theorem d_TS_lies_5 : decode m_TS_lies.2.1 5 = .ok (.invokevirtual 157, 3) := by decide +kernel
theorem c_TS_lies_5 : mx_cv m_TS_lies m_House_has 157 1 [588, 524, 525, 85, 526] = true := by decide +kernel
theorem d_TS_lies_8 : decode m_TS_lies.2.1 8 = .ok (.ifCond .eq 14, 3) := by decide +kernel
theorem d_TS_lies_16 : decode m_TS_lies.2.1 16 = .ok (.invokevirtual 157, 3) := by decide +kernel
theorem c_TS_lies_16 : mx_cv m_TS_lies m_House_has 157 1 [588, 524, 525, 85, 526] = true := by decide +kernel
theorem d_TS_lies_19 : decode m_TS_lies.2.1 19 = .ok (.ifCond .ne 6, 3) := by decide +kernel
theorem d_TS_lies_24 : decode m_TS_lies.2.1 24 = .ok (.ireturn, 1) := by decide +kernel
theorem d_TS_lies_26 : decode m_TS_lies.2.1 26 = .ok (.invokevirtual 173, 3) := by decide +kernel
theorem c_TS_lies_26 : mx_cv m_TS_lies m_TS_cellsNow 173 0 [605, 607, 10, 81, 608] = true := by decide +kernel
theorem d_TS_lies_38 : decode m_TS_lies.2.1 38 = .ok (.ireturn, 1) := by decide +kernel
theorem b_TS_lowest_0 : mx_ck m_TS_lowest 0 [(.aload_n 0, [], 0), (.getfield 26, [9, 2, 8, 379], 0)] = some 4 := by decide +kernel
theorem b_TS_lowest_10 : mx_ck m_TS_lowest 10 [(.ldc 134, [563], (-1000002))] = some 12 := by decide +kernel
theorem b_TS_lowest_13 : mx_ck m_TS_lowest 13 [(.aload_n 0, [], 0), (.getfield 26, [9, 2, 8, 379], 0), (.iload_n 1, [], 0)] = some 18 := by decide +kernel
theorem b_TS_lowest_24 : mx_ck m_TS_lowest 24 [(.aload_n 0, [], 0), (.getfield 26, [9, 2, 8, 379], 0), (.iload_n 2, [], 0)] = some 29 := by decide +kernel
theorem b_TS_lowest_35 : mx_ck m_TS_lowest 35 [(.ldc 77, [430], (-1000001))] = some 37 := by decide +kernel
theorem b_TS_lowest_38 : mx_ck m_TS_lowest 38 [(.aload_n 0, [], 0)] = some 39 := by decide +kernel
theorem b_TS_lowest_42 : mx_ck m_TS_lowest 42 [(.iload_n 1, [], 0), (.iload_n 2, [], 0)] = some 44 := by decide +kernel
theorem d_TS_lowest_4 : decode m_TS_lowest.2.1 4 = .ok (.invokevirtual 166, 3) := by decide +kernel
theorem c_TS_lowest_4 : mx_cv m_TS_lowest m_House_isNone 166 0 [593, 594, 595, 85, 596] = true := by decide +kernel
theorem d_TS_lowest_7 : decode m_TS_lowest.2.1 7 = .ok (.ifCond .eq 6, 3) := by decide +kernel
theorem d_TS_lowest_12 : decode m_TS_lowest.2.1 12 = .ok (.ireturn, 1) := by decide +kernel
theorem d_TS_lowest_18 : decode m_TS_lowest.2.1 18 = .ok (.invokevirtual 170, 3) := by decide +kernel
theorem c_TS_lowest_18 : mx_cv m_TS_lowest m_House_isSet 170 1 [597, 598, 599, 85, 600] = true := by decide +kernel
theorem d_TS_lowest_21 : decode m_TS_lowest.2.1 21 = .ok (.ifCond .eq 14, 3) := by decide +kernel
theorem d_TS_lowest_29 : decode m_TS_lowest.2.1 29 = .ok (.invokevirtual 170, 3) := by decide +kernel
theorem c_TS_lowest_29 : mx_cv m_TS_lowest m_House_isSet 170 1 [597, 598, 599, 85, 600] = true := by decide +kernel
theorem d_TS_lowest_32 : decode m_TS_lowest.2.1 32 = .ok (.ifCond .ne 6, 3) := by decide +kernel
theorem d_TS_lowest_37 : decode m_TS_lowest.2.1 37 = .ok (.ireturn, 1) := by decide +kernel
theorem d_TS_lowest_39 : decode m_TS_lowest.2.1 39 = .ok (.invokevirtual 173, 3) := by decide +kernel
theorem c_TS_lowest_39 : mx_cv m_TS_lowest m_TS_cellsNow 173 0 [605, 607, 10, 81, 608] = true := by decide +kernel
theorem d_TS_lowest_44 : decode m_TS_lowest.2.1 44 = .ok (.invokevirtual 177, 3) := by decide +kernel
theorem c_TS_lowest_44 : mx_cv m_TS_lowest m_Cells_leastHeight 177 2 [683, 684, 685, 87, 686] = true := by decide +kernel
theorem d_TS_lowest_47 : decode m_TS_lowest.2.1 47 = .ok (.ireturn, 1) := by decide +kernel
theorem b_TS_others_0 : mx_ck m_TS_others 0 [(.aload_n 0, [], 0), (.getfield 26, [9, 2, 8, 379], 0), (.iload_n 1, [], 0)] = some 5 := by decide +kernel
theorem b_TS_others_11 : mx_ck m_TS_others 11 [(.ldc 77, [430], (-1000001))] = some 13 := by decide +kernel
theorem b_TS_others_14 : mx_ck m_TS_others 14 [(.iload_n 2, [], 0)] = some 15 := by decide +kernel
theorem b_TS_others_40 : mx_ck m_TS_others 40 [(.aload_n 0, [], 0)] = some 41 := by decide +kernel
theorem b_TS_others_44 : mx_ck m_TS_others 44 [(.getfield 181, [2, 14, 36, 287], 0), (.iload_n 1, [], 0), (.iaload, [], 0)] = some 49 := by decide +kernel
theorem b_TS_others_50 : mx_ck m_TS_others 50 [(.aload_n 0, [], 0)] = some 51 := by decide +kernel
theorem b_TS_others_54 : mx_ck m_TS_others 54 [(.getfield 181, [2, 14, 36, 287], 0), (.iload_n 1, [], 0), (.iaload, [], 0), (.aload_n 0, [], 0)] = some 60 := by decide +kernel
theorem b_TS_others_63 : mx_ck m_TS_others 63 [(.iload_n 1, [], 0)] = some 64 := by decide +kernel
theorem b_TS_others_67 : mx_ck m_TS_others 67 [(.iand, [], 0)] = some 68 := by decide +kernel
theorem b_TS_others_69 : mx_ck m_TS_others 69 [(.aload_n 0, [], 0), (.getfield 26, [9, 2, 8, 379], 0)] = some 73 := by decide +kernel
theorem b_TS_others_76 : mx_ck m_TS_others 76 [(.aload_n 0, [], 0)] = some 77 := by decide +kernel
theorem b_TS_others_80 : mx_ck m_TS_others 80 [(.getfield 191, [2, 15, 37, 289], 0), (.iload_n 1, [], 0), (.iaload, [], 0), (.iconst (-1), [], (-1)), (.ixor, [], 0), (.iand, [], 0)] = some 88 := by decide +kernel
theorem b_TS_others_89 : mx_ck m_TS_others 89 [(.ldc 77, [430], (-1000001))] = some 91 := by decide +kernel
theorem d_TS_others_5 : decode m_TS_others.2.1 5 = .ok (.invokevirtual 157, 3) := by decide +kernel
theorem c_TS_others_5 : mx_cv m_TS_others m_House_has 157 1 [588, 524, 525, 85, 526] = true := by decide +kernel
theorem d_TS_others_8 : decode m_TS_others.2.1 8 = .ok (.ifCond .ne 6, 3) := by decide +kernel
theorem d_TS_others_13 : decode m_TS_others.2.1 13 = .ok (.ireturn, 1) := by decide +kernel
theorem d_TS_others_15 : decode m_TS_others.2.1 15 = .ok (.tableswitch 74 0 2 #[25, 35, 54], 25) := by decide +kernel
theorem d_TS_others_41 : decode m_TS_others.2.1 41 = .ok (.invokevirtual 173, 3) := by decide +kernel
theorem c_TS_others_41 : mx_cv m_TS_others m_TS_cellsNow 173 0 [605, 607, 10, 81, 608] = true := by decide +kernel
theorem d_TS_others_49 : decode m_TS_others.2.1 49 = .ok (.ireturn, 1) := by decide +kernel
theorem d_TS_others_51 : decode m_TS_others.2.1 51 = .ok (.invokevirtual 173, 3) := by decide +kernel
theorem c_TS_others_51 : mx_cv m_TS_others m_TS_cellsNow 173 0 [605, 607, 10, 81, 608] = true := by decide +kernel
theorem d_TS_others_60 : decode m_TS_others.2.1 60 = .ok (.invokevirtual 173, 3) := by decide +kernel
theorem c_TS_others_60 : mx_cv m_TS_others m_TS_cellsNow 173 0 [605, 607, 10, 81, 608] = true := by decide +kernel
theorem d_TS_others_64 : decode m_TS_others.2.1 64 = .ok (.invokevirtual 184, 3) := by decide +kernel
theorem c_TS_others_64 : mx_cv m_TS_others m_Cells_lyingIn 184 1 [696, 697, 698, 87, 699] = true := by decide +kernel
theorem d_TS_others_68 : decode m_TS_others.2.1 68 = .ok (.ireturn, 1) := by decide +kernel
theorem d_TS_others_73 : decode m_TS_others.2.1 73 = .ok (.invokevirtual 187, 3) := by decide +kernel
theorem c_TS_others_73 : mx_cv m_TS_others m_House_all 187 0 [700, 602, 603, 85, 604] = true := by decide +kernel
theorem d_TS_others_77 : decode m_TS_others.2.1 77 = .ok (.invokevirtual 173, 3) := by decide +kernel
theorem c_TS_others_77 : mx_cv m_TS_others m_TS_cellsNow 173 0 [605, 607, 10, 81, 608] = true := by decide +kernel
theorem d_TS_others_88 : decode m_TS_others.2.1 88 = .ok (.ireturn, 1) := by decide +kernel
theorem d_TS_others_91 : decode m_TS_others.2.1 91 = .ok (.ireturn, 1) := by decide +kernel
theorem b_TS_pick_0 : mx_ck m_TS_pick 0 [(.aload_n 0, [], 0), (.getfield 26, [9, 2, 8, 379], 0), (.iload_n 1, [], 0)] = some 5 := by decide +kernel
theorem b_TS_pick_11 : mx_ck m_TS_pick 11 [(.iload_n 2, [], 0), (.iconst 1, [], nI 1)] = some 13 := by decide +kernel
theorem b_TS_pick_16 : mx_ck m_TS_pick 16 [(.iload_n 2, [], 0), (.iconst 4, [], nI 4)] = some 18 := by decide +kernel
theorem b_TS_pick_21 : mx_ck m_TS_pick 21 [(.iload_n 3, [], 0)] = some 22 := by decide +kernel
theorem b_TS_pick_25 : mx_ck m_TS_pick 25 [(.iload_n 3, [], 0), (.iconst 1, [], nI 1)] = some 27 := by decide +kernel
theorem b_TS_pick_30 : mx_ck m_TS_pick 30 [(.ldc 77, [430], (-1000001))] = some 32 := by decide +kernel
theorem b_TS_pick_33 : mx_ck m_TS_pick 33 [(.aload_n 0, [], 0)] = some 34 := by decide +kernel
theorem b_TS_pick_37 : mx_ck m_TS_pick 37 [(.iload_n 1, [], 0), (.iload_n 2, [], 0)] = some 39 := by decide +kernel
theorem b_TS_pick_42 : mx_ck m_TS_pick 42 [(.istore 4, [], 0), (.aload_n 0, [], 0)] = some 45 := by decide +kernel
theorem b_TS_pick_48 : mx_ck m_TS_pick 48 [(.iload_n 2, [], 0)] = some 49 := by decide +kernel
theorem b_TS_pick_52 : mx_ck m_TS_pick 52 [(.istore 5, [], 0), (.iload 4, [], 0), (.iload 5, [], 0)] = some 58 := by decide +kernel
theorem b_TS_pick_61 : mx_ck m_TS_pick 61 [(.istore 6, [], 0), (.iload 6, [], 0), (.iconst 1, [], nI 1)] = some 66 := by decide +kernel
theorem b_TS_pick_69 : mx_ck m_TS_pick 69 [(.ldc 77, [430], (-1000001))] = some 71 := by decide +kernel
theorem b_TS_pick_72 : mx_ck m_TS_pick 72 [(.iload_n 3, [], 0)] = some 73 := by decide +kernel
theorem b_TS_pick_76 : mx_ck m_TS_pick 76 [(.iload 4, [], 0)] = some 78 := by decide +kernel
theorem b_TS_pick_81 : mx_ck m_TS_pick 81 [(.iload 5, [], 0)] = some 83 := by decide +kernel
theorem b_TS_pick_83 : mx_ck m_TS_pick 83 [(.iload 6, [], 0), (.idiv, [], 0)] = some 86 := by decide +kernel
theorem d_TS_pick_5 : decode m_TS_pick.2.1 5 = .ok (.invokevirtual 157, 3) := by decide +kernel
theorem c_TS_pick_5 : mx_cv m_TS_pick m_House_has 157 1 [588, 524, 525, 85, 526] = true := by decide +kernel
theorem d_TS_pick_8 : decode m_TS_pick.2.1 8 = .ok (.ifCond .eq 22, 3) := by decide +kernel
theorem d_TS_pick_13 : decode m_TS_pick.2.1 13 = .ok (.if_icmp .lt 17, 3) := by decide +kernel
theorem d_TS_pick_18 : decode m_TS_pick.2.1 18 = .ok (.if_icmp .gt 12, 3) := by decide +kernel
theorem d_TS_pick_22 : decode m_TS_pick.2.1 22 = .ok (.ifCond .lt 8, 3) := by decide +kernel
theorem d_TS_pick_27 : decode m_TS_pick.2.1 27 = .ok (.if_icmp .le 6, 3) := by decide +kernel
theorem d_TS_pick_32 : decode m_TS_pick.2.1 32 = .ok (.ireturn, 1) := by decide +kernel
theorem d_TS_pick_34 : decode m_TS_pick.2.1 34 = .ok (.invokevirtual 218, 3) := by decide +kernel
theorem c_TS_pick_34 : mx_cv m_TS_pick m_TS_plainNow 218 0 [757, 759, 21, 81, 760] = true := by decide +kernel
theorem d_TS_pick_39 : decode m_TS_pick.2.1 39 = .ok (.invokevirtual 222, 3) := by decide +kernel
theorem c_TS_pick_39 : mx_cv m_TS_pick m_Plain_howMany 222 2 [784, 785, 786, 90, 787] = true := by decide +kernel
theorem d_TS_pick_45 : decode m_TS_pick.2.1 45 = .ok (.invokevirtual 218, 3) := by decide +kernel
theorem c_TS_pick_45 : mx_cv m_TS_pick m_TS_plainNow 218 0 [757, 759, 21, 81, 760] = true := by decide +kernel
theorem d_TS_pick_49 : decode m_TS_pick.2.1 49 = .ok (.invokevirtual 225, 3) := by decide +kernel
theorem c_TS_pick_49 : mx_cv m_TS_pick m_Plain_ofAny 225 1 [792, 793, 794, 90, 795] = true := by decide +kernel
theorem d_TS_pick_58 : decode m_TS_pick.2.1 58 = .ok (.invokestatic 228, 3) := by decide +kernel
theorem c_TS_pick_58 : mx_cs m_TS_pick m_TS_greatestDivisor 228 2 [796, 797, 81, 798] = true := by decide +kernel
theorem d_TS_pick_66 : decode m_TS_pick.2.1 66 = .ok (.if_icmp .ge 6, 3) := by decide +kernel
theorem d_TS_pick_71 : decode m_TS_pick.2.1 71 = .ok (.ireturn, 1) := by decide +kernel
theorem d_TS_pick_73 : decode m_TS_pick.2.1 73 = .ok (.ifCond .ne 8, 3) := by decide +kernel
theorem d_TS_pick_78 : decode m_TS_pick.2.1 78 = .ok (.goto 5, 3) := by decide +kernel
theorem d_TS_pick_86 : decode m_TS_pick.2.1 86 = .ok (.ireturn, 1) := by decide +kernel
theorem b_TS_plain_0 : mx_ck m_TS_plain 0 [(.aload_n 0, [], 0), (.getfield 26, [9, 2, 8, 379], 0), (.iload_n 1, [], 0)] = some 5 := by decide +kernel
theorem b_TS_plain_11 : mx_ck m_TS_plain 11 [(.iload_n 2, [], 0), (.iconst 1, [], nI 1)] = some 13 := by decide +kernel
theorem b_TS_plain_16 : mx_ck m_TS_plain 16 [(.iload_n 2, [], 0), (.iconst 4, [], nI 4)] = some 18 := by decide +kernel
theorem b_TS_plain_21 : mx_ck m_TS_plain 21 [(.ldc 77, [430], (-1000001))] = some 23 := by decide +kernel
theorem b_TS_plain_24 : mx_ck m_TS_plain 24 [(.aload_n 0, [], 0)] = some 25 := by decide +kernel
theorem b_TS_plain_28 : mx_ck m_TS_plain 28 [(.iload_n 1, [], 0), (.iload_n 2, [], 0)] = some 30 := by decide +kernel
theorem d_TS_plain_5 : decode m_TS_plain.2.1 5 = .ok (.invokevirtual 157, 3) := by decide +kernel
theorem c_TS_plain_5 : mx_cv m_TS_plain m_House_has 157 1 [588, 524, 525, 85, 526] = true := by decide +kernel
theorem d_TS_plain_8 : decode m_TS_plain.2.1 8 = .ok (.ifCond .eq 13, 3) := by decide +kernel
theorem d_TS_plain_13 : decode m_TS_plain.2.1 13 = .ok (.if_icmp .lt 8, 3) := by decide +kernel
theorem d_TS_plain_18 : decode m_TS_plain.2.1 18 = .ok (.if_icmp .le 6, 3) := by decide +kernel
theorem d_TS_plain_23 : decode m_TS_plain.2.1 23 = .ok (.ireturn, 1) := by decide +kernel
theorem d_TS_plain_25 : decode m_TS_plain.2.1 25 = .ok (.invokevirtual 218, 3) := by decide +kernel
theorem c_TS_plain_25 : mx_cv m_TS_plain m_TS_plainNow 218 0 [757, 759, 21, 81, 760] = true := by decide +kernel
theorem d_TS_plain_30 : decode m_TS_plain.2.1 30 = .ok (.invokevirtual 222, 3) := by decide +kernel
theorem c_TS_plain_30 : mx_cv m_TS_plain m_Plain_howMany 222 2 [784, 785, 786, 90, 787] = true := by decide +kernel
theorem d_TS_plain_33 : decode m_TS_plain.2.1 33 = .ok (.ireturn, 1) := by decide +kernel
theorem b_TS_plainNow_0 : mx_ck m_TS_plainNow 0 [(.aload_n 0, [], 0), (.getfield 295, [9, 12, 0, 389], 0)] = some 4 := by decide +kernel
theorem b_TS_plainNow_7 : mx_ck m_TS_plainNow 7 [(.aload_n 0, [], 0), (.getfield 59, [9, 9, 103, 386], 0), (.aload_n 0, [], 0), (.getfield 26, [9, 2, 8, 379], 0)] = some 15 := by decide +kernel
theorem b_TS_plainNow_18 : mx_ck m_TS_plainNow 18 [(.aload_n 0, [], 0), (.iconst 1, [], nI 1), (.putfield 295, [9, 12, 1, 389], 0)] = some 23 := by decide +kernel
theorem b_TS_plainNow_23 : mx_ck m_TS_plainNow 23 [(.aload_n 0, [], 0), (.getfield 59, [9, 9, 103, 386], 0)] = some 27 := by decide +kernel
theorem d_TS_plainNow_4 : decode m_TS_plainNow.2.1 4 = .ok (.ifCond .ne 19, 3) := by decide +kernel
theorem d_TS_plainNow_15 : decode m_TS_plainNow.2.1 15 = .ok (.invokevirtual 298, 3) := by decide +kernel
theorem c_TS_plainNow_15 : mx_cv m_TS_plainNow m_Plain_measure 298 1 [761, 762, 763, 90, 764] = true := by decide +kernel
theorem d_TS_plainNow_27 : decode m_TS_plainNow.2.1 27 = .ok (.areturn, 1) := by decide +kernel
theorem b_TS_restore_0 : mx_ck m_TS_restore 0 [(.iload_n 1, [], 0)] = some 1 := by decide +kernel
theorem b_TS_restore_4 : mx_ck m_TS_restore 4 [(.iload_n 1, [], 0), (.iconst 2, [], nI 2)] = some 6 := by decide +kernel
theorem b_TS_restore_9 : mx_ck m_TS_restore 9 [(.ldc 77, [430], (-1000001))] = some 11 := by decide +kernel
theorem b_TS_restore_12 : mx_ck m_TS_restore 12 [(.aload_n 0, [], 0), (.iload_n 1, [], 0)] = some 14 := by decide +kernel
theorem b_TS_restore_23 : mx_ck m_TS_restore 23 [(.ldc 134, [563], (-1000002))] = some 25 := by decide +kernel
theorem b_TS_restore_26 : mx_ck m_TS_restore 26 [(.aload_n 0, [], 0), (.aload_n 0, [], 0), (.iload_n 1, [], 0)] = some 29 := by decide +kernel
theorem b_TS_restore_35 : mx_ck m_TS_restore 35 [(.iconst 1, [], nI 1)] = some 36 := by decide +kernel
theorem d_TS_restore_1 : decode m_TS_restore.2.1 1 = .ok (.ifCond .lt 8, 3) := by decide +kernel
theorem d_TS_restore_6 : decode m_TS_restore.2.1 6 = .ok (.if_icmp .lt 6, 3) := by decide +kernel
theorem d_TS_restore_11 : decode m_TS_restore.2.1 11 = .ok (.ireturn, 1) := by decide +kernel
theorem d_TS_restore_14 : decode m_TS_restore.2.1 14 = .ok (.invokevirtual 258, 3) := by decide +kernel
theorem c_TS_restore_14 : mx_cv m_TS_restore m_TS_imageOf 258 1 [836, 838, 26, 81, 839] = true := by decide +kernel
theorem d_TS_restore_17 : decode m_TS_restore.2.1 17 = .ok (.invokevirtual 166, 3) := by decide +kernel
theorem c_TS_restore_17 : mx_cv m_TS_restore m_House_isNone 166 0 [593, 594, 595, 85, 596] = true := by decide +kernel
theorem d_TS_restore_20 : decode m_TS_restore.2.1 20 = .ok (.ifCond .eq 6, 3) := by decide +kernel
theorem d_TS_restore_25 : decode m_TS_restore.2.1 25 = .ok (.ireturn, 1) := by decide +kernel
theorem d_TS_restore_29 : decode m_TS_restore.2.1 29 = .ok (.invokevirtual 258, 3) := by decide +kernel
theorem c_TS_restore_29 : mx_cv m_TS_restore m_TS_imageOf 258 1 [836, 838, 26, 81, 839] = true := by decide +kernel
theorem d_TS_restore_32 : decode m_TS_restore.2.1 32 = .ok (.invokevirtual 121, 3) := by decide +kernel
theorem c_TS_restore_32 : mx_cv m_TS_restore m_TS_standIn 121 1 [542, 544, 7, 81, 545] = true := by decide +kernel
theorem d_TS_restore_36 : decode m_TS_restore.2.1 36 = .ok (.ireturn, 1) := by decide +kernel
theorem b_TS_row_0 : mx_ck m_TS_row 0 [(.iload_n 1, [], 0)] = some 1 := by decide +kernel
theorem b_TS_row_7 : mx_ck m_TS_row 7 [(.iload_n 2, [], 0)] = some 8 := by decide +kernel
theorem b_TS_row_14 : mx_ck m_TS_row 14 [(.iload_n 3, [], 0), (.bipush 40, [], nI 40)] = some 17 := by decide +kernel
theorem b_TS_row_20 : mx_ck m_TS_row 20 [(.ldc 77, [430], (-1000001))] = some 22 := by decide +kernel
theorem b_TS_row_23 : mx_ck m_TS_row 23 [(.aload_n 0, [], 0), (.iload_n 3, [], 0)] = some 25 := by decide +kernel
theorem b_TS_row_28 : mx_ck m_TS_row 28 [(.iconst 4, [], nI 4)] = some 29 := by decide +kernel
theorem b_TS_row_32 : mx_ck m_TS_row 32 [(.iconst 0, [], nI 0)] = some 33 := by decide +kernel
theorem b_TS_row_33 : mx_ck m_TS_row 33 [(.putfield 78, [9, 13, 0, 390], 0), (.aload_n 0, [], 0), (.getfield 78, [9, 13, 0, 390], 0)] = some 40 := by decide +kernel
theorem b_TS_row_43 : mx_ck m_TS_row 43 [(.ldc 82, [431], (-1000010)), (.aload_n 0, [], 0), (.getfield 78, [9, 13, 0, 390], 0), (.isub, [], 0)] = some 50 := by decide +kernel
theorem b_TS_row_51 : mx_ck m_TS_row 51 [(.aload_n 0, [], 0), (.getfield 10, [9, 0, 2, 377], 0), (.iload_n 1, [], 0), (.iload_n 2, [], 0), (.iload_n 3, [], 0)] = some 58 := by decide +kernel
theorem b_TS_row_61 : mx_ck m_TS_row 61 [(.iload_n 3, [], 0)] = some 62 := by decide +kernel
theorem d_TS_row_1 : decode m_TS_row.2.1 1 = .ok (.invokestatic 70, 3) := by decide +kernel
theorem c_TS_row_1 : mx_cs m_TS_row m_Rows_isNumber 70 1 [424, 425, 82, 426] = true := by decide +kernel
theorem d_TS_row_4 : decode m_TS_row.2.1 4 = .ok (.ifCond .eq 16, 3) := by decide +kernel
theorem d_TS_row_8 : decode m_TS_row.2.1 8 = .ok (.invokestatic 74, 3) := by decide +kernel
theorem c_TS_row_8 : mx_cs m_TS_row m_Rows_isLane 74 1 [427, 428, 82, 429] = true := by decide +kernel
theorem d_TS_row_11 : decode m_TS_row.2.1 11 = .ok (.ifCond .eq 9, 3) := by decide +kernel
theorem d_TS_row_17 : decode m_TS_row.2.1 17 = .ok (.if_icmp .le 6, 3) := by decide +kernel
theorem d_TS_row_22 : decode m_TS_row.2.1 22 = .ok (.ireturn, 1) := by decide +kernel
theorem d_TS_row_25 : decode m_TS_row.2.1 25 = .ok (.ifCond .ge 7, 3) := by decide +kernel
theorem d_TS_row_29 : decode m_TS_row.2.1 29 = .ok (.goto 4, 3) := by decide +kernel
theorem d_TS_row_40 : decode m_TS_row.2.1 40 = .ok (.ifCond .eq 11, 3) := by decide +kernel
theorem d_TS_row_50 : decode m_TS_row.2.1 50 = .ok (.ireturn, 1) := by decide +kernel
theorem d_TS_row_58 : decode m_TS_row.2.1 58 = .ok (.invokevirtual 83, 3) := by decide +kernel
theorem c_TS_row_58 : mx_cv m_TS_row m_Rows_make 83 3 [432, 433, 434, 82, 435] = true := by decide +kernel
theorem d_TS_row_62 : decode m_TS_row.2.1 62 = .ok (.ireturn, 1) := by decide +kernel
theorem b_TS_set_0 : mx_ck m_TS_set 0 [(.iload_n 1, [], 0)] = some 1 := by decide +kernel
theorem b_TS_set_7 : mx_ck m_TS_set 7 [(.ldc 77, [430], (-1000001))] = some 9 := by decide +kernel
theorem b_TS_set_10 : mx_ck m_TS_set 10 [(.aload_n 0, [], 0), (.aload_n 0, [], 0), (.getfield 10, [9, 0, 2, 377], 0), (.iload_n 1, [], 0), (.iload_n 2, [], 0), (.iconst 1, [], nI 1)] = some 18 := by decide +kernel
theorem b_TS_set_21 : mx_ck m_TS_set 21 [(.putfield 78, [9, 13, 0, 390], 0), (.aload_n 0, [], 0), (.getfield 78, [9, 13, 0, 390], 0)] = some 28 := by decide +kernel
theorem b_TS_set_31 : mx_ck m_TS_set 31 [(.ldc 82, [431], (-1000010)), (.aload_n 0, [], 0), (.getfield 78, [9, 13, 0, 390], 0), (.isub, [], 0)] = some 38 := by decide +kernel
theorem b_TS_set_41 : mx_ck m_TS_set 41 [(.aload_n 0, [], 0), (.getfield 10, [9, 0, 2, 377], 0), (.iload_n 1, [], 0), (.iload_n 2, [], 0), (.iload_n 3, [], 0)] = some 48 := by decide +kernel
theorem d_TS_set_1 : decode m_TS_set.2.1 1 = .ok (.invokestatic 70, 3) := by decide +kernel
theorem c_TS_set_1 : mx_cs m_TS_set m_Rows_isNumber 70 1 [424, 425, 82, 426] = true := by decide +kernel
theorem d_TS_set_4 : decode m_TS_set.2.1 4 = .ok (.ifCond .ne 6, 3) := by decide +kernel
theorem d_TS_set_9 : decode m_TS_set.2.1 9 = .ok (.ireturn, 1) := by decide +kernel
theorem d_TS_set_18 : decode m_TS_set.2.1 18 = .ok (.invokevirtual 87, 3) := by decide +kernel
theorem c_TS_set_18 : mx_cv m_TS_set m_Rows_findingAt 87 3 [440, 441, 442, 82, 443] = true := by decide +kernel
theorem d_TS_set_28 : decode m_TS_set.2.1 28 = .ok (.ifCond .eq 13, 3) := by decide +kernel
theorem d_TS_set_38 : decode m_TS_set.2.1 38 = .ok (.goto 13, 3) := by decide +kernel
theorem d_TS_set_48 : decode m_TS_set.2.1 48 = .ok (.invokevirtual 91, 3) := by decide +kernel
theorem c_TS_set_48 : mx_cv m_TS_set m_Rows_put 91 3 [448, 449, 450, 82, 451] = true := by decide +kernel
theorem d_TS_set_51 : decode m_TS_set.2.1 51 = .ok (.ireturn, 1) := by decide +kernel
theorem b_TS_standIn_0 : mx_ck m_TS_standIn 0 [(.aload_n 0, [], 0), (.getfield 26, [9, 2, 8, 379], 0), (.aload_n 1, [], 0)] = some 5 := by decide +kernel
theorem b_TS_standIn_8 : mx_ck m_TS_standIn 8 [(.aload_n 0, [], 0), (.getfield 42, [9, 6, 24, 383], 0), (.iconst 0, [], nI 0), (.putfield 131, [0, 4, 0, 203], 0), (.aload_n 0, [], 0)] = some 17 := by decide +kernel
theorem d_TS_standIn_5 : decode m_TS_standIn.2.1 5 = .ok (.invokevirtual 239, 3) := by decide +kernel
theorem c_TS_standIn_5 : mx_cv m_TS_standIn m_House_takeFrom 239 1 [546, 547, 548, 85, 549] = true := by decide +kernel
theorem d_TS_standIn_17 : decode m_TS_standIn.2.1 17 = .ok (.invokevirtual 138, 3) := by decide +kernel
theorem c_TS_standIn_17 : mx_cv m_TS_standIn m_TS_forgetWhatStood 138 0 [551, 553, 8, 81, 554] = true := by decide +kernel
theorem d_TS_standIn_20 : decode m_TS_standIn.2.1 20 = .ok (.return_, 1) := by decide +kernel
theorem b_TS_status_0 : mx_ck m_TS_status 0 [(.aload_n 0, [], 0), (.getfield 78, [9, 13, 0, 390], 0)] = some 4 := by decide +kernel
theorem d_TS_status_4 : decode m_TS_status.2.1 4 = .ok (.ireturn, 1) := by decide +kernel
theorem b_TS_trace_0 : mx_ck m_TS_trace 0 [(.iload_n 1, [], 0)] = some 1 := by decide +kernel
theorem b_TS_trace_4 : mx_ck m_TS_trace 4 [(.iload_n 1, [], 0), (.aload_n 0, [], 0), (.getfield 66, [9, 10, 118, 387], 0), (.getfield 278, [1, 1, 0, 359], 0)] = some 12 := by decide +kernel
theorem b_TS_trace_15 : mx_ck m_TS_trace 15 [(.ldc_w 281, [932], (-1000000))] = some 18 := by decide +kernel
theorem b_TS_trace_21 : mx_ck m_TS_trace 21 [(.aload_n 0, [], 0), (.getfield 66, [9, 10, 118, 387], 0), (.getfield 282, [1, 0, 2, 357], 0), (.iload_n 1, [], 0), (.iaload, [], 0)] = some 30 := by decide +kernel
theorem d_TS_trace_1 : decode m_TS_trace.2.1 1 = .ok (.ifCond .lt 14, 3) := by decide +kernel
theorem d_TS_trace_12 : decode m_TS_trace.2.1 12 = .ok (.if_icmp .lt 9, 3) := by decide +kernel
theorem d_TS_trace_18 : decode m_TS_trace.2.1 18 = .ok (.goto 12, 3) := by decide +kernel
theorem d_TS_trace_30 : decode m_TS_trace.2.1 30 = .ok (.ireturn, 1) := by decide +kernel
theorem b_TS_type_0 : mx_ck m_TS_type 0 [(.aload_n 0, [], 0), (.getfield 26, [9, 2, 8, 379], 0), (.iload_n 1, [], 0)] = some 5 := by decide +kernel
theorem b_TS_type_11 : mx_ck m_TS_type 11 [(.ldc 77, [430], (-1000001))] = some 13 := by decide +kernel
theorem b_TS_type_14 : mx_ck m_TS_type 14 [(.iload_n 2, [], 0)] = some 15 := by decide +kernel
theorem b_TS_type_40 : mx_ck m_TS_type 40 [(.aload_n 0, [], 0), (.getfield 26, [9, 2, 8, 379], 0), (.getfield 145, [3, 0, 2, 163], 0), (.iload_n 1, [], 0), (.iaload, [], 0)] = some 49 := by decide +kernel
theorem b_TS_type_50 : mx_ck m_TS_type 50 [(.aload_n 0, [], 0), (.getfield 26, [9, 2, 8, 379], 0), (.getfield 160, [3, 1, 3, 167], 0), (.iload_n 1, [], 0), (.iaload, [], 0)] = some 59 := by decide +kernel
theorem b_TS_type_60 : mx_ck m_TS_type 60 [(.aload_n 0, [], 0), (.getfield 26, [9, 2, 8, 379], 0), (.getfield 163, [3, 2, 4, 171], 0), (.iload_n 1, [], 0), (.iaload, [], 0)] = some 69 := by decide +kernel
theorem b_TS_type_70 : mx_ck m_TS_type 70 [(.ldc 77, [430], (-1000001))] = some 72 := by decide +kernel
theorem d_TS_type_5 : decode m_TS_type.2.1 5 = .ok (.invokevirtual 157, 3) := by decide +kernel
theorem c_TS_type_5 : mx_cv m_TS_type m_House_has 157 1 [588, 524, 525, 85, 526] = true := by decide +kernel
theorem d_TS_type_8 : decode m_TS_type.2.1 8 = .ok (.ifCond .ne 6, 3) := by decide +kernel
theorem d_TS_type_13 : decode m_TS_type.2.1 13 = .ok (.ireturn, 1) := by decide +kernel
theorem d_TS_type_15 : decode m_TS_type.2.1 15 = .ok (.tableswitch 55 0 2 #[25, 35, 45], 25) := by decide +kernel
theorem d_TS_type_49 : decode m_TS_type.2.1 49 = .ok (.ireturn, 1) := by decide +kernel
theorem d_TS_type_59 : decode m_TS_type.2.1 59 = .ok (.ireturn, 1) := by decide +kernel
theorem d_TS_type_69 : decode m_TS_type.2.1 69 = .ok (.ireturn, 1) := by decide +kernel
theorem d_TS_type_72 : decode m_TS_type.2.1 72 = .ok (.ireturn, 1) := by decide +kernel
theorem b_TS_undo_0 : mx_ck m_TS_undo 0 [(.aload_n 0, [], 0), (.getfield 42, [9, 6, 24, 383], 0), (.getfield 131, [0, 4, 0, 203], 0)] = some 7 := by decide +kernel
theorem b_TS_undo_10 : mx_ck m_TS_undo 10 [(.ldc 134, [563], (-1000002))] = some 12 := by decide +kernel
theorem b_TS_undo_13 : mx_ck m_TS_undo 13 [(.aload_n 0, [], 0), (.getfield 42, [9, 6, 24, 383], 0), (.aload_n 0, [], 0), (.getfield 26, [9, 2, 8, 379], 0)] = some 21 := by decide +kernel
theorem b_TS_undo_24 : mx_ck m_TS_undo 24 [(.aload_n 0, [], 0)] = some 25 := by decide +kernel
theorem b_TS_undo_28 : mx_ck m_TS_undo 28 [(.aload_n 0, [], 0), (.getfield 42, [9, 6, 24, 383], 0), (.getfield 131, [0, 4, 0, 203], 0)] = some 35 := by decide +kernel
theorem d_TS_undo_7 : decode m_TS_undo.2.1 7 = .ok (.ifCond .ne 6, 3) := by decide +kernel
theorem d_TS_undo_12 : decode m_TS_undo.2.1 12 = .ok (.ireturn, 1) := by decide +kernel
theorem d_TS_undo_21 : decode m_TS_undo.2.1 21 = .ok (.invokevirtual 135, 3) := by decide +kernel
theorem c_TS_undo_21 : mx_cv m_TS_undo m_Acts_takeBack 135 1 [564, 565, 566, 86, 567] = true := by decide +kernel
theorem d_TS_undo_25 : decode m_TS_undo.2.1 25 = .ok (.invokevirtual 138, 3) := by decide +kernel
theorem c_TS_undo_25 : mx_cv m_TS_undo m_TS_forgetWhatStood 138 0 [551, 553, 8, 81, 554] = true := by decide +kernel
theorem d_TS_undo_35 : decode m_TS_undo.2.1 35 = .ok (.ireturn, 1) := by decide +kernel
theorem b_TS_who_0 : mx_ck m_TS_who 0 [(.aload_n 0, [], 0), (.getfield 26, [9, 2, 8, 379], 0), (.iload_n 1, [], 0)] = some 5 := by decide +kernel
theorem b_TS_who_11 : mx_ck m_TS_who 11 [(.iload_n 2, [], 0)] = some 12 := by decide +kernel
theorem b_TS_who_15 : mx_ck m_TS_who 15 [(.iload_n 2, [], 0), (.iconst 2, [], nI 2)] = some 17 := by decide +kernel
theorem b_TS_who_20 : mx_ck m_TS_who 20 [(.iload_n 3, [], 0)] = some 21 := by decide +kernel
theorem b_TS_who_27 : mx_ck m_TS_who 27 [(.iload 5, [], 0), (.iconst 1, [], nI 1)] = some 30 := by decide +kernel
theorem b_TS_who_33 : mx_ck m_TS_who 33 [(.iload 5, [], 0), (.aload_n 0, [], 0), (.getfield 26, [9, 2, 8, 379], 0), (.getfield 125, [3, 3, 0, 174], 0)] = some 42 := by decide +kernel
theorem b_TS_who_45 : mx_ck m_TS_who 45 [(.ldc 77, [430], (-1000001))] = some 47 := by decide +kernel
theorem b_TS_who_48 : mx_ck m_TS_who 48 [(.aload_n 0, [], 0), (.aload_n 0, [], 0), (.getfield 10, [9, 0, 2, 377], 0), (.iload_n 3, [], 0), (.iload 4, [], 0), (.iload 5, [], 0)] = some 58 := by decide +kernel
theorem b_TS_who_61 : mx_ck m_TS_who 61 [(.putfield 78, [9, 13, 0, 390], 0), (.aload_n 0, [], 0), (.getfield 78, [9, 13, 0, 390], 0)] = some 68 := by decide +kernel
theorem b_TS_who_71 : mx_ck m_TS_who 71 [(.ldc 82, [431], (-1000010)), (.aload_n 0, [], 0), (.getfield 78, [9, 13, 0, 390], 0), (.isub, [], 0)] = some 78 := by decide +kernel
theorem b_TS_who_79 : mx_ck m_TS_who 79 [(.aload_n 0, [], 0), (.getfield 10, [9, 0, 2, 377], 0), (.iload_n 3, [], 0), (.iload 4, [], 0), (.iload 5, [], 0)] = some 88 := by decide +kernel
theorem b_TS_who_91 : mx_ck m_TS_who 91 [(.istore 6, [], 0), (.iload_n 2, [], 0)] = some 94 := by decide +kernel
theorem b_TS_who_97 : mx_ck m_TS_who 97 [(.bipush 6, [], nI 6)] = some 99 := by decide +kernel
theorem b_TS_who_102 : mx_ck m_TS_who 102 [(.bipush 8, [], nI 8)] = some 104 := by decide +kernel
theorem b_TS_who_104 : mx_ck m_TS_who 104 [(.istore 7, [], 0), (.iconst 0, [], nI 0), (.istore 8, [], 0), (.iconst 0, [], nI 0), (.istore 9, [], 0)] = some 112 := by decide +kernel
theorem b_TS_who_112 : mx_ck m_TS_who 112 [(.iload 9, [], 0), (.iload 7, [], 0)] = some 116 := by decide +kernel
theorem b_TS_who_119 : mx_ck m_TS_who 119 [(.aload_n 0, [], 0), (.iload_n 1, [], 0), (.iload_n 2, [], 0), (.iload 9, [], 0), (.iload 6, [], 0), (.iload 5, [], 0)] = some 128 := by decide +kernel
theorem b_TS_who_134 : mx_ck m_TS_who 134 [(.iload 8, [], 0), (.iconst 1, [], nI 1), (.iload 9, [], 0), (.ishl, [], 0), (.ior, [], 0), (.istore 8, [], 0)] = some 143 := by decide +kernel
theorem b_TS_who_143 : mx_ck m_TS_who 143 [(.iinc 9 1, [], nI 1)] = some 146 := by decide +kernel
theorem b_TS_who_149 : mx_ck m_TS_who 149 [(.iload 8, [], 0)] = some 151 := by decide +kernel
theorem d_TS_who_5 : decode m_TS_who.2.1 5 = .ok (.invokevirtual 157, 3) := by decide +kernel
theorem c_TS_who_5 : mx_cv m_TS_who m_House_has 157 1 [588, 524, 525, 85, 526] = true := by decide +kernel
theorem d_TS_who_8 : decode m_TS_who.2.1 8 = .ok (.ifCond .eq 37, 3) := by decide +kernel
theorem d_TS_who_12 : decode m_TS_who.2.1 12 = .ok (.ifCond .lt 33, 3) := by decide +kernel
theorem d_TS_who_17 : decode m_TS_who.2.1 17 = .ok (.if_icmp .gt 28, 3) := by decide +kernel
theorem d_TS_who_21 : decode m_TS_who.2.1 21 = .ok (.invokestatic 70, 3) := by decide +kernel
theorem c_TS_who_21 : mx_cs m_TS_who m_Rows_isNumber 70 1 [424, 425, 82, 426] = true := by decide +kernel
theorem d_TS_who_24 : decode m_TS_who.2.1 24 = .ok (.ifCond .eq 21, 3) := by decide +kernel
theorem d_TS_who_30 : decode m_TS_who.2.1 30 = .ok (.if_icmp .lt 15, 3) := by decide +kernel
theorem d_TS_who_42 : decode m_TS_who.2.1 42 = .ok (.if_icmp .le 6, 3) := by decide +kernel
theorem d_TS_who_47 : decode m_TS_who.2.1 47 = .ok (.ireturn, 1) := by decide +kernel
theorem d_TS_who_58 : decode m_TS_who.2.1 58 = .ok (.invokevirtual 87, 3) := by decide +kernel
theorem c_TS_who_58 : mx_cv m_TS_who m_Rows_findingAt 87 3 [440, 441, 442, 82, 443] = true := by decide +kernel
theorem d_TS_who_68 : decode m_TS_who.2.1 68 = .ok (.ifCond .eq 11, 3) := by decide +kernel
theorem d_TS_who_78 : decode m_TS_who.2.1 78 = .ok (.ireturn, 1) := by decide +kernel
theorem d_TS_who_88 : decode m_TS_who.2.1 88 = .ok (.invokevirtual 231, 3) := by decide +kernel
theorem c_TS_who_88 : mx_cv m_TS_who m_Rows_bits 231 3 [803, 804, 805, 82, 806] = true := by decide +kernel
theorem d_TS_who_94 : decode m_TS_who.2.1 94 = .ok (.ifCond .ne 8, 3) := by decide +kernel
theorem d_TS_who_99 : decode m_TS_who.2.1 99 = .ok (.goto 5, 3) := by decide +kernel
theorem d_TS_who_116 : decode m_TS_who.2.1 116 = .ok (.if_icmp .ge 33, 3) := by decide +kernel
theorem d_TS_who_128 : decode m_TS_who.2.1 128 = .ok (.invokevirtual 234, 3) := by decide +kernel
theorem c_TS_who_128 : mx_cv m_TS_who m_TS_fits 234 5 [807, 809, 24, 81, 810] = true := by decide +kernel
theorem d_TS_who_131 : decode m_TS_who.2.1 131 = .ok (.ifCond .eq 12, 3) := by decide +kernel
theorem d_TS_who_146 : decode m_TS_who.2.1 146 = .ok (.goto (-34), 3) := by decide +kernel
theorem d_TS_who_151 : decode m_TS_who.2.1 151 = .ok (.ireturn, 1) := by decide +kernel
end
section
theorem b_Mo_anew_0 : mx_ck m_Mo_anew 0 [(.aload_n 0, [], 0), (.iconst 0, [], nI 0), (.putfield 68, [10, 0, 0, 951], 0), (.aload_n 0, [], 0), (.iload_n 1, [], 0)] = some 7 := by decide +kernel
theorem b_Mo_anew_13 : mx_ck m_Mo_anew 13 [(.iload_n 2, [], 0), (.i2l, [], 0), (.lconst 0, [0], 0), (.ldc2_w 224, [5, 1154], 0)] = some 19 := by decide +kernel
theorem b_Mo_anew_25 : mx_ck m_Mo_anew 25 [(.aload_n 0, [], 0), (.getfield 19, [10, 5, 5, 956], 0), (.iconst 0, [], nI 0), (.iaload, [], 0), (.iload_n 1, [], 0), (.iload_n 2, [], 0), (.iload_n 3, [], 0), (.iload 4, [], 0)] = some 36 := by decide +kernel
theorem b_Mo_anew_42 : mx_ck m_Mo_anew 42 [(.ldc 88, [1061], (-1000001))] = some 44 := by decide +kernel
theorem b_Mo_anew_45 : mx_ck m_Mo_anew 45 [(.aload_n 0, [], 0)] = some 46 := by decide +kernel
theorem b_Mo_anew_49 : mx_ck m_Mo_anew 49 [(.iconst 2, [], nI 2), (.iconst 3, [], nI 3), (.iload_n 1, [], 0), (.imul, [], 0), (.iadd, [], 0), (.istore 5, [], 0), (.aload_n 0, [], 0), (.getfield 19, [10, 5, 5, 956], 0), (.iload 5, [], 0), (.iaload, [], 0), (.istore 6, [], 0), (.aload_n 0, [], 0), (.getfield 19, [10, 5, 5, 956], 0), (.iload 5, [], 0), (.iload_n 2, [], 0), (.iastore, [], 0), (.aload_n 0, [], 0), (.getfield 19, [10, 5, 5, 956], 0), (.iload 5, [], 0), (.iconst 1, [], nI 1), (.iadd, [], 0), (.iload_n 3, [], 0), (.iastore, [], 0), (.aload_n 0, [], 0), (.getfield 19, [10, 5, 5, 956], 0), (.iload 5, [], 0), (.iconst 2, [], nI 2), (.iadd, [], 0), (.iload 4, [], 0), (.iastore, [], 0), (.iload 6, [], 0)] = some 96 := by decide +kernel
theorem d_Mo_anew_7 : decode m_Mo_anew.2.1 7 = .ok (.invokevirtual 221, 3) := by decide +kernel
theorem c_Mo_anew_7 : mx_cv m_Mo_anew m_Mo_isType 221 1 [1150, 1152, 52, 92, 1153] = true := by decide +kernel
theorem d_Mo_anew_10 : decode m_Mo_anew.2.1 10 = .ok (.ifCond .eq 32, 3) := by decide +kernel
theorem d_Mo_anew_19 : decode m_Mo_anew.2.1 19 = .ok (.invokestatic 78, 3) := by decide +kernel
theorem c_Mo_anew_19 : mx_cs m_Mo_anew m_Mo_in 78 3 [1057, 1058, 92, 1059] = true := by decide +kernel
theorem d_Mo_anew_22 : decode m_Mo_anew.2.1 22 = .ok (.ifCond .eq 20, 3) := by decide +kernel
theorem d_Mo_anew_36 : decode m_Mo_anew.2.1 36 = .ok (.invokestatic 226, 3) := by decide +kernel
theorem c_Mo_anew_36 : mx_cs m_Mo_anew m_Mo_may 226 5 [1155, 1156, 92, 1157] = true := by decide +kernel
theorem d_Mo_anew_39 : decode m_Mo_anew.2.1 39 = .ok (.ifCond .ne 6, 3) := by decide +kernel
theorem d_Mo_anew_44 : decode m_Mo_anew.2.1 44 = .ok (.ireturn, 1) := by decide +kernel
theorem d_Mo_anew_46 : decode m_Mo_anew.2.1 46 = .ok (.invokevirtual 230, 3) := by decide +kernel
theorem c_Mo_anew_46 : mx_cv m_Mo_anew m_Mo_keep 230 0 [1158, 1160, 53, 92, 1161] = true := by decide +kernel
theorem d_Mo_anew_96 : decode m_Mo_anew.2.1 96 = .ok (.ireturn, 1) := by decide +kernel
theorem b_Mo_answers_0 : mx_ck m_Mo_answers 0 [(.aload_n 0, [], 0), (.iconst 0, [], nI 0), (.putfield 68, [10, 0, 0, 951], 0), (.aload_n 0, [], 0), (.iload_n 1, [], 0)] = some 7 := by decide +kernel
theorem b_Mo_answers_13 : mx_ck m_Mo_answers 13 [(.aload_n 0, [], 0), (.iload_n 2, [], 0)] = some 15 := by decide +kernel
theorem b_Mo_answers_21 : mx_ck m_Mo_answers 21 [(.ldc 88, [1061], (-1000001))] = some 23 := by decide +kernel
theorem b_Mo_answers_24 : mx_ck m_Mo_answers 24 [(.aload_n 0, [], 0), (.aload_n 0, [], 0), (.getfield 19, [10, 5, 5, 956], 0)] = some 29 := by decide +kernel
theorem b_Mo_answers_32 : mx_ck m_Mo_answers 32 [(.aload_n 0, [], 0), (.iload_n 1, [], 0)] = some 34 := by decide +kernel
theorem b_Mo_answers_40 : mx_ck m_Mo_answers 40 [(.aload_n 0, [], 0)] = some 41 := by decide +kernel
theorem b_Mo_answers_45 : mx_ck m_Mo_answers 45 [(.iconst 0, [], nI 0), (.istore_n 3, [], 0), (.iconst 0, [], nI 0), (.istore 4, [], 0)] = some 50 := by decide +kernel
theorem b_Mo_answers_50 : mx_ck m_Mo_answers 50 [(.iload 4, [], 0), (.aload_n 0, [], 0), (.getfield 19, [10, 5, 5, 956], 0), (.iconst 0, [], nI 0), (.iaload, [], 0)] = some 58 := by decide +kernel
theorem b_Mo_answers_61 : mx_ck m_Mo_answers 61 [(.aload_n 0, [], 0), (.iload_n 1, [], 0)] = some 63 := by decide +kernel
theorem b_Mo_answers_66 : mx_ck m_Mo_answers 66 [(.iconst 4, [], nI 4)] = some 67 := by decide +kernel
theorem b_Mo_answers_70 : mx_ck m_Mo_answers 70 [(.aload_n 0, [], 0), (.aload_n 0, [], 0), (.getfield 19, [10, 5, 5, 956], 0), (.iload_n 2, [], 0), (.iload 4, [], 0)] = some 78 := by decide +kernel
theorem b_Mo_answers_81 : mx_ck m_Mo_answers 81 [(.iload_n 3, [], 0), (.aload_n 0, [], 0), (.iload_n 1, [], 0)] = some 84 := by decide +kernel
theorem b_Mo_answers_90 : mx_ck m_Mo_answers 90 [(.iconst 0, [], nI 0)] = some 91 := by decide +kernel
theorem b_Mo_answers_94 : mx_ck m_Mo_answers 94 [(.iconst 1, [], nI 1), (.iload 4, [], 0), (.ishl, [], 0)] = some 98 := by decide +kernel
theorem b_Mo_answers_98 : mx_ck m_Mo_answers 98 [(.ior, [], 0), (.istore_n 3, [], 0), (.iinc 4 1, [], nI 1)] = some 103 := by decide +kernel
theorem b_Mo_answers_106 : mx_ck m_Mo_answers 106 [(.iload_n 3, [], 0)] = some 107 := by decide +kernel
theorem d_Mo_answers_7 : decode m_Mo_answers.2.1 7 = .ok (.invokevirtual 221, 3) := by decide +kernel
theorem c_Mo_answers_7 : mx_cv m_Mo_answers m_Mo_isType 221 1 [1150, 1152, 52, 92, 1153] = true := by decide +kernel
theorem d_Mo_answers_10 : decode m_Mo_answers.2.1 10 = .ok (.ifCond .eq 11, 3) := by decide +kernel
theorem d_Mo_answers_15 : decode m_Mo_answers.2.1 15 = .ok (.invokevirtual 221, 3) := by decide +kernel
theorem c_Mo_answers_15 : mx_cv m_Mo_answers m_Mo_isType 221 1 [1150, 1152, 52, 92, 1153] = true := by decide +kernel
theorem d_Mo_answers_18 : decode m_Mo_answers.2.1 18 = .ok (.ifCond .ne 6, 3) := by decide +kernel
theorem d_Mo_answers_23 : decode m_Mo_answers.2.1 23 = .ok (.ireturn, 1) := by decide +kernel
theorem d_Mo_answers_29 : decode m_Mo_answers.2.1 29 = .ok (.invokevirtual 240, 3) := by decide +kernel
theorem c_Mo_answers_29 : mx_cv m_Mo_answers m_Mo_reckon 240 1 [1186, 1188, 56, 92, 1189] = true := by decide +kernel
theorem d_Mo_answers_34 : decode m_Mo_answers.2.1 34 = .ok (.invokevirtual 250, 3) := by decide +kernel
theorem c_Mo_answers_34 : mx_cv m_Mo_answers m_Mo_isEmpty 250 1 [1252, 1254, 65, 92, 1255] = true := by decide +kernel
theorem d_Mo_answers_37 : decode m_Mo_answers.2.1 37 = .ok (.ifCond .eq 8, 3) := by decide +kernel
theorem d_Mo_answers_41 : decode m_Mo_answers.2.1 41 = .ok (.invokevirtual 257, 3) := by decide +kernel
theorem c_Mo_answers_41 : mx_cv m_Mo_answers m_Mo_everyType 257 0 [1268, 1270, 67, 92, 1271] = true := by decide +kernel
theorem d_Mo_answers_44 : decode m_Mo_answers.2.1 44 = .ok (.ireturn, 1) := by decide +kernel
theorem d_Mo_answers_58 : decode m_Mo_answers.2.1 58 = .ok (.if_icmp .ge 48, 3) := by decide +kernel
theorem d_Mo_answers_63 : decode m_Mo_answers.2.1 63 = .ok (.invokevirtual 218, 3) := by decide +kernel
theorem c_Mo_answers_63 : mx_cv m_Mo_answers m_Mo_sortsOf 218 1 [1256, 1258, 66, 92, 1259] = true := by decide +kernel
theorem d_Mo_answers_67 : decode m_Mo_answers.2.1 67 = .ok (.if_icmp .ne 39, 3) := by decide +kernel
theorem d_Mo_answers_78 : decode m_Mo_answers.2.1 78 = .ok (.invokevirtual 261, 3) := by decide +kernel
theorem c_Mo_answers_78 : mx_cv m_Mo_answers m_Mo_layCases 261 3 [1272, 1274, 68, 92, 1275] = true := by decide +kernel
theorem d_Mo_answers_84 : decode m_Mo_answers.2.1 84 = .ok (.invokevirtual 264, 3) := by decide +kernel
theorem c_Mo_answers_84 : mx_cv m_Mo_answers m_Mo_isMarked 264 1 [1276, 1278, 69, 92, 1279] = true := by decide +kernel
theorem d_Mo_answers_87 : decode m_Mo_answers.2.1 87 = .ok (.ifCond .eq 7, 3) := by decide +kernel
theorem d_Mo_answers_91 : decode m_Mo_answers.2.1 91 = .ok (.goto 7, 3) := by decide +kernel
theorem d_Mo_answers_103 : decode m_Mo_answers.2.1 103 = .ok (.goto (-53), 3) := by decide +kernel
theorem d_Mo_answers_107 : decode m_Mo_answers.2.1 107 = .ok (.ireturn, 1) := by decide +kernel
theorem b_Mo_areApart_0 : mx_ck m_Mo_areApart 0 [(.iconst 0, [], nI 0), (.istore_n 3, [], 0)] = some 2 := by decide +kernel
theorem b_Mo_areApart_2 : mx_ck m_Mo_areApart 2 [(.iload_n 3, [], 0), (.aload_n 0, [], 0), (.getfield 185, [10, 22, 0, 973], 0)] = some 7 := by decide +kernel
theorem b_Mo_areApart_10 : mx_ck m_Mo_areApart 10 [(.aload_n 0, [], 0), (.getfield 40, [10, 21, 12, 972], 0), (.iload_n 3, [], 0), (.iaload, [], 0), (.iload_n 1, [], 0)] = some 17 := by decide +kernel
theorem b_Mo_areApart_23 : mx_ck m_Mo_areApart 23 [(.aload_n 0, [], 0), (.getfield 40, [10, 21, 12, 972], 0), (.iload_n 3, [], 0), (.iaload, [], 0), (.iload_n 2, [], 0)] = some 30 := by decide +kernel
theorem b_Mo_areApart_36 : mx_ck m_Mo_areApart 36 [(.iconst 0, [], nI 0)] = some 37 := by decide +kernel
theorem b_Mo_areApart_38 : mx_ck m_Mo_areApart 38 [(.iinc 3 1, [], nI 1)] = some 41 := by decide +kernel
theorem b_Mo_areApart_44 : mx_ck m_Mo_areApart 44 [(.iconst 1, [], nI 1)] = some 45 := by decide +kernel
theorem d_Mo_areApart_7 : decode m_Mo_areApart.2.1 7 = .ok (.if_icmp .ge 37, 3) := by decide +kernel
theorem d_Mo_areApart_17 : decode m_Mo_areApart.2.1 17 = .ok (.invokestatic 177, 3) := by decide +kernel
theorem c_Mo_areApart_17 : mx_cs m_Mo_areApart m_Mo_has 177 2 [1200, 1201, 92, 1202] = true := by decide +kernel
theorem d_Mo_areApart_20 : decode m_Mo_areApart.2.1 20 = .ok (.ifCond .eq 18, 3) := by decide +kernel
theorem d_Mo_areApart_30 : decode m_Mo_areApart.2.1 30 = .ok (.invokestatic 177, 3) := by decide +kernel
theorem c_Mo_areApart_30 : mx_cs m_Mo_areApart m_Mo_has 177 2 [1200, 1201, 92, 1202] = true := by decide +kernel
theorem d_Mo_areApart_33 : decode m_Mo_areApart.2.1 33 = .ok (.ifCond .eq 5, 3) := by decide +kernel
theorem d_Mo_areApart_37 : decode m_Mo_areApart.2.1 37 = .ok (.ireturn, 1) := by decide +kernel
theorem d_Mo_areApart_41 : decode m_Mo_areApart.2.1 41 = .ok (.goto (-39), 3) := by decide +kernel
theorem d_Mo_areApart_45 : decode m_Mo_areApart.2.1 45 = .ok (.ireturn, 1) := by decide +kernel
theorem b_Mo_areNamed_0 : mx_ck m_Mo_areNamed 0 [(.iconst 0, [], nI 0), (.istore_n 1, [], 0)] = some 2 := by decide +kernel
theorem b_Mo_areNamed_2 : mx_ck m_Mo_areNamed 2 [(.iload_n 1, [], 0), (.aload_n 0, [], 0), (.getfield 22, [10, 6, 6, 957], 0), (.iconst 0, [], nI 0), (.iaload, [], 0)] = some 9 := by decide +kernel
theorem b_Mo_areNamed_12 : mx_ck m_Mo_areNamed 12 [(.iconst 2, [], nI 2), (.iconst 3, [], nI 3), (.iload_n 1, [], 0), (.imul, [], 0), (.iadd, [], 0), (.istore_n 2, [], 0), (.aload_n 0, [], 0), (.getfield 22, [10, 6, 6, 957], 0), (.iload_n 2, [], 0), (.iaload, [], 0), (.iconst 1, [], nI 1)] = some 25 := by decide +kernel
theorem b_Mo_areNamed_28 : mx_ck m_Mo_areNamed 28 [(.aload_n 0, [], 0), (.getfield 22, [10, 6, 6, 957], 0), (.iload_n 2, [], 0), (.iaload, [], 0), (.iconst 2, [], nI 2)] = some 35 := by decide +kernel
theorem b_Mo_areNamed_38 : mx_ck m_Mo_areNamed 38 [(.iconst 1, [], nI 1)] = some 39 := by decide +kernel
theorem b_Mo_areNamed_42 : mx_ck m_Mo_areNamed 42 [(.iconst 0, [], nI 0)] = some 43 := by decide +kernel
theorem b_Mo_areNamed_43 : mx_ck m_Mo_areNamed 43 [(.istore_n 3, [], 0), (.iload_n 3, [], 0)] = some 45 := by decide +kernel
theorem b_Mo_areNamed_48 : mx_ck m_Mo_areNamed 48 [(.aload_n 0, [], 0), (.getfield 22, [10, 6, 6, 957], 0), (.iload_n 2, [], 0), (.iconst 1, [], nI 1), (.iadd, [], 0), (.iaload, [], 0), (.aload_n 0, [], 0), (.getfield 22, [10, 6, 6, 957], 0), (.iconst 0, [], nI 0), (.iaload, [], 0)] = some 62 := by decide +kernel
theorem b_Mo_areNamed_65 : mx_ck m_Mo_areNamed 65 [(.aload_n 0, [], 0), (.getfield 22, [10, 6, 6, 957], 0), (.iload_n 2, [], 0), (.iconst 2, [], nI 2), (.iadd, [], 0), (.iaload, [], 0), (.aload_n 0, [], 0), (.getfield 22, [10, 6, 6, 957], 0), (.iconst 0, [], nI 0), (.iaload, [], 0)] = some 79 := by decide +kernel
theorem b_Mo_areNamed_82 : mx_ck m_Mo_areNamed 82 [(.iconst 0, [], nI 0)] = some 83 := by decide +kernel
theorem b_Mo_areNamed_84 : mx_ck m_Mo_areNamed 84 [(.iinc 1 1, [], nI 1)] = some 87 := by decide +kernel
theorem b_Mo_areNamed_90 : mx_ck m_Mo_areNamed 90 [(.iconst 1, [], nI 1)] = some 91 := by decide +kernel
theorem d_Mo_areNamed_9 : decode m_Mo_areNamed.2.1 9 = .ok (.if_icmp .ge 81, 3) := by decide +kernel
theorem d_Mo_areNamed_25 : decode m_Mo_areNamed.2.1 25 = .ok (.if_icmp .eq 13, 3) := by decide +kernel
theorem d_Mo_areNamed_35 : decode m_Mo_areNamed.2.1 35 = .ok (.if_icmp .ne 7, 3) := by decide +kernel
theorem d_Mo_areNamed_39 : decode m_Mo_areNamed.2.1 39 = .ok (.goto 4, 3) := by decide +kernel
theorem d_Mo_areNamed_45 : decode m_Mo_areNamed.2.1 45 = .ok (.ifCond .eq 39, 3) := by decide +kernel
theorem d_Mo_areNamed_62 : decode m_Mo_areNamed.2.1 62 = .ok (.if_icmp .ge 20, 3) := by decide +kernel
theorem d_Mo_areNamed_79 : decode m_Mo_areNamed.2.1 79 = .ok (.if_icmp .lt 5, 3) := by decide +kernel
theorem d_Mo_areNamed_83 : decode m_Mo_areNamed.2.1 83 = .ok (.ireturn, 1) := by decide +kernel
theorem d_Mo_areNamed_87 : decode m_Mo_areNamed.2.1 87 = .ok (.goto (-85), 3) := by decide +kernel
theorem d_Mo_areNamed_91 : decode m_Mo_areNamed.2.1 91 = .ok (.ireturn, 1) := by decide +kernel
theorem b_Mo_as_0 : mx_ck m_Mo_as 0 [(.aload_n 0, [], 0), (.iconst 0, [], nI 0), (.putfield 68, [10, 0, 0, 951], 0), (.aload_n 0, [], 0), (.iload_n 1, [], 0)] = some 7 := by decide +kernel
theorem b_Mo_as_13 : mx_ck m_Mo_as 13 [(.iload_n 2, [], 0), (.i2l, [], 0), (.lconst 0, [0], 0), (.ldc2_w 224, [5, 1154], 0)] = some 19 := by decide +kernel
theorem b_Mo_as_25 : mx_ck m_Mo_as 25 [(.ldc 88, [1061], (-1000001))] = some 27 := by decide +kernel
theorem b_Mo_as_28 : mx_ck m_Mo_as 28 [(.aload_n 0, [], 0), (.iconst 0, [], nI 0), (.putfield 72, [10, 1, 0, 952], 0), (.aload_n 0, [], 0), (.iload_n 1, [], 0)] = some 35 := by decide +kernel
theorem b_Mo_as_38 : mx_ck m_Mo_as 38 [(.iload_n 2, [], 0)] = some 39 := by decide +kernel
theorem b_Mo_as_45 : mx_ck m_Mo_as 45 [(.iload_n 1, [], 0)] = some 46 := by decide +kernel
theorem b_Mo_as_49 : mx_ck m_Mo_as 49 [(.aload_n 0, [], 0), (.iconst 3, [], nI 3)] = some 51 := by decide +kernel
theorem d_Mo_as_7 : decode m_Mo_as.2.1 7 = .ok (.invokevirtual 221, 3) := by decide +kernel
theorem c_Mo_as_7 : mx_cv m_Mo_as m_Mo_isType 221 1 [1150, 1152, 52, 92, 1153] = true := by decide +kernel
theorem d_Mo_as_10 : decode m_Mo_as.2.1 10 = .ok (.ifCond .eq 15, 3) := by decide +kernel
theorem d_Mo_as_19 : decode m_Mo_as.2.1 19 = .ok (.invokestatic 78, 3) := by decide +kernel
theorem c_Mo_as_19 : mx_cs m_Mo_as m_Mo_in 78 3 [1057, 1058, 92, 1059] = true := by decide +kernel
theorem d_Mo_as_22 : decode m_Mo_as.2.1 22 = .ok (.ifCond .ne 6, 3) := by decide +kernel
theorem d_Mo_as_27 : decode m_Mo_as.2.1 27 = .ok (.ireturn, 1) := by decide +kernel
theorem d_Mo_as_35 : decode m_Mo_as.2.1 35 = .ok (.invokevirtual 301, 3) := by decide +kernel
theorem c_Mo_as_35 : mx_cv m_Mo_as m_Mo_kindOf 301 1 [1344, 1346, 74, 92, 1347] = true := by decide +kernel
theorem d_Mo_as_39 : decode m_Mo_as.2.1 39 = .ok (.invokestatic 304, 3) := by decide +kernel
theorem c_Mo_as_39 : mx_cs m_Mo_as m_Mo_isOf 304 2 [1352, 1353, 92, 1354] = true := by decide +kernel
theorem d_Mo_as_42 : decode m_Mo_as.2.1 42 = .ok (.ifCond .eq 7, 3) := by decide +kernel
theorem d_Mo_as_46 : decode m_Mo_as.2.1 46 = .ok (.goto 8, 3) := by decide +kernel
theorem d_Mo_as_51 : decode m_Mo_as.2.1 51 = .ok (.invokevirtual 89, 3) := by decide +kernel
theorem c_Mo_as_51 : mx_cv m_Mo_as m_Mo_finding 89 1 [1062, 1064, 40, 92, 1065] = true := by decide +kernel
theorem d_Mo_as_54 : decode m_Mo_as.2.1 54 = .ok (.ireturn, 1) := by decide +kernel
theorem b_Mo_ask_0 : mx_ck m_Mo_ask 0 [(.aload_n 0, [], 0), (.iconst 0, [], nI 0), (.putfield 68, [10, 0, 0, 951], 0), (.aload_n 0, [], 0), (.iload_n 1, [], 0)] = some 7 := by decide +kernel
theorem b_Mo_ask_13 : mx_ck m_Mo_ask 13 [(.iload_n 2, [], 0), (.i2l, [], 0), (.lconst 0, [0], 0), (.lconst 1, [1], 0)] = some 17 := by decide +kernel
theorem b_Mo_ask_23 : mx_ck m_Mo_ask 23 [(.ldc 88, [1061], (-1000001))] = some 25 := by decide +kernel
theorem b_Mo_ask_26 : mx_ck m_Mo_ask 26 [(.aload_n 0, [], 0), (.iconst 0, [], nI 0), (.putfield 307, [10, 31, 0, 982], 0), (.iload_n 2, [], 0)] = some 32 := by decide +kernel
theorem b_Mo_ask_35 : mx_ck m_Mo_ask 35 [(.aload_n 0, [], 0), (.iload_n 1, [], 0)] = some 37 := by decide +kernel
theorem b_Mo_ask_43 : mx_ck m_Mo_ask 43 [(.aload_n 0, [], 0), (.iload_n 1, [], 0)] = some 45 := by decide +kernel
theorem d_Mo_ask_7 : decode m_Mo_ask.2.1 7 = .ok (.invokevirtual 221, 3) := by decide +kernel
theorem c_Mo_ask_7 : mx_cv m_Mo_ask m_Mo_isType 221 1 [1150, 1152, 52, 92, 1153] = true := by decide +kernel
theorem d_Mo_ask_10 : decode m_Mo_ask.2.1 10 = .ok (.ifCond .eq 13, 3) := by decide +kernel
theorem d_Mo_ask_17 : decode m_Mo_ask.2.1 17 = .ok (.invokestatic 78, 3) := by decide +kernel
theorem c_Mo_ask_17 : mx_cs m_Mo_ask m_Mo_in 78 3 [1057, 1058, 92, 1059] = true := by decide +kernel
theorem d_Mo_ask_20 : decode m_Mo_ask.2.1 20 = .ok (.ifCond .ne 6, 3) := by decide +kernel
theorem d_Mo_ask_25 : decode m_Mo_ask.2.1 25 = .ok (.ireturn, 1) := by decide +kernel
theorem d_Mo_ask_32 : decode m_Mo_ask.2.1 32 = .ok (.ifCond .ne 11, 3) := by decide +kernel
theorem d_Mo_ask_37 : decode m_Mo_ask.2.1 37 = .ok (.invokevirtual 322, 3) := by decide +kernel
theorem c_Mo_ask_37 : mx_cv m_Mo_ask m_Mo_sizeOf 322 1 [1359, 1361, 75, 92, 1362] = true := by decide +kernel
theorem d_Mo_ask_40 : decode m_Mo_ask.2.1 40 = .ok (.goto 8, 3) := by decide +kernel
theorem d_Mo_ask_45 : decode m_Mo_ask.2.1 45 = .ok (.invokevirtual 319, 3) := by decide +kernel
theorem c_Mo_ask_45 : mx_cv m_Mo_ask m_Mo_markOf 319 1 [1375, 1377, 79, 92, 1378] = true := by decide +kernel
theorem d_Mo_ask_48 : decode m_Mo_ask.2.1 48 = .ok (.ireturn, 1) := by decide +kernel
theorem b_Mo_askable_0 : mx_ck m_Mo_askable 0 [(.aload_n 0, [], 0), (.iconst 0, [], nI 0), (.putfield 68, [10, 0, 0, 951], 0), (.aload_n 0, [], 0), (.iload_n 1, [], 0)] = some 7 := by decide +kernel
theorem b_Mo_askable_13 : mx_ck m_Mo_askable 13 [(.ldc 88, [1061], (-1000001))] = some 15 := by decide +kernel
theorem b_Mo_askable_16 : mx_ck m_Mo_askable 16 [(.aload_n 0, [], 0), (.aload_n 0, [], 0), (.getfield 19, [10, 5, 5, 956], 0)] = some 21 := by decide +kernel
theorem b_Mo_askable_24 : mx_ck m_Mo_askable 24 [(.aload_n 0, [], 0), (.iload_n 1, [], 0)] = some 26 := by decide +kernel
theorem b_Mo_askable_32 : mx_ck m_Mo_askable 32 [(.aload_n 0, [], 0)] = some 33 := by decide +kernel
theorem b_Mo_askable_37 : mx_ck m_Mo_askable 37 [(.iconst 0, [], nI 0), (.istore_n 2, [], 0), (.iconst 0, [], nI 0), (.istore_n 3, [], 0)] = some 41 := by decide +kernel
theorem b_Mo_askable_41 : mx_ck m_Mo_askable 41 [(.iload_n 3, [], 0), (.aload_n 0, [], 0), (.getfield 19, [10, 5, 5, 956], 0), (.iconst 0, [], nI 0), (.iaload, [], 0)] = some 48 := by decide +kernel
theorem b_Mo_askable_51 : mx_ck m_Mo_askable 51 [(.aload_n 0, [], 0), (.iload_n 1, [], 0)] = some 53 := by decide +kernel
theorem b_Mo_askable_56 : mx_ck m_Mo_askable 56 [(.iconst 4, [], nI 4)] = some 57 := by decide +kernel
theorem b_Mo_askable_60 : mx_ck m_Mo_askable 60 [(.aload_n 0, [], 0), (.aload_n 0, [], 0), (.getfield 19, [10, 5, 5, 956], 0), (.iload_n 3, [], 0), (.iconst (-1), [], (-1))] = some 67 := by decide +kernel
theorem b_Mo_askable_70 : mx_ck m_Mo_askable 70 [(.iload_n 2, [], 0), (.aload_n 0, [], 0), (.iload_n 1, [], 0)] = some 73 := by decide +kernel
theorem b_Mo_askable_79 : mx_ck m_Mo_askable 79 [(.iconst 0, [], nI 0)] = some 80 := by decide +kernel
theorem b_Mo_askable_83 : mx_ck m_Mo_askable 83 [(.iconst 1, [], nI 1), (.iload_n 3, [], 0), (.ishl, [], 0)] = some 86 := by decide +kernel
theorem b_Mo_askable_86 : mx_ck m_Mo_askable 86 [(.ior, [], 0), (.istore_n 2, [], 0), (.iinc 3 1, [], nI 1)] = some 91 := by decide +kernel
theorem b_Mo_askable_94 : mx_ck m_Mo_askable 94 [(.iload_n 2, [], 0)] = some 95 := by decide +kernel
theorem d_Mo_askable_7 : decode m_Mo_askable.2.1 7 = .ok (.invokevirtual 221, 3) := by decide +kernel
theorem c_Mo_askable_7 : mx_cv m_Mo_askable m_Mo_isType 221 1 [1150, 1152, 52, 92, 1153] = true := by decide +kernel
theorem d_Mo_askable_10 : decode m_Mo_askable.2.1 10 = .ok (.ifCond .ne 6, 3) := by decide +kernel
theorem d_Mo_askable_15 : decode m_Mo_askable.2.1 15 = .ok (.ireturn, 1) := by decide +kernel
theorem d_Mo_askable_21 : decode m_Mo_askable.2.1 21 = .ok (.invokevirtual 240, 3) := by decide +kernel
theorem c_Mo_askable_21 : mx_cv m_Mo_askable m_Mo_reckon 240 1 [1186, 1188, 56, 92, 1189] = true := by decide +kernel
theorem d_Mo_askable_26 : decode m_Mo_askable.2.1 26 = .ok (.invokevirtual 250, 3) := by decide +kernel
theorem c_Mo_askable_26 : mx_cv m_Mo_askable m_Mo_isEmpty 250 1 [1252, 1254, 65, 92, 1255] = true := by decide +kernel
theorem d_Mo_askable_29 : decode m_Mo_askable.2.1 29 = .ok (.ifCond .eq 8, 3) := by decide +kernel
theorem d_Mo_askable_33 : decode m_Mo_askable.2.1 33 = .ok (.invokevirtual 257, 3) := by decide +kernel
theorem c_Mo_askable_33 : mx_cv m_Mo_askable m_Mo_everyType 257 0 [1268, 1270, 67, 92, 1271] = true := by decide +kernel
theorem d_Mo_askable_36 : decode m_Mo_askable.2.1 36 = .ok (.ireturn, 1) := by decide +kernel
theorem d_Mo_askable_48 : decode m_Mo_askable.2.1 48 = .ok (.if_icmp .ge 46, 3) := by decide +kernel
theorem d_Mo_askable_53 : decode m_Mo_askable.2.1 53 = .ok (.invokevirtual 218, 3) := by decide +kernel
theorem c_Mo_askable_53 : mx_cv m_Mo_askable m_Mo_sortsOf 218 1 [1256, 1258, 66, 92, 1259] = true := by decide +kernel
theorem d_Mo_askable_57 : decode m_Mo_askable.2.1 57 = .ok (.if_icmp .ne 37, 3) := by decide +kernel
theorem d_Mo_askable_67 : decode m_Mo_askable.2.1 67 = .ok (.invokevirtual 261, 3) := by decide +kernel
theorem c_Mo_askable_67 : mx_cv m_Mo_askable m_Mo_layCases 261 3 [1272, 1274, 68, 92, 1275] = true := by decide +kernel
theorem d_Mo_askable_73 : decode m_Mo_askable.2.1 73 = .ok (.invokevirtual 264, 3) := by decide +kernel
theorem c_Mo_askable_73 : mx_cv m_Mo_askable m_Mo_isMarked 264 1 [1276, 1278, 69, 92, 1279] = true := by decide +kernel
theorem d_Mo_askable_76 : decode m_Mo_askable.2.1 76 = .ok (.ifCond .eq 7, 3) := by decide +kernel
theorem d_Mo_askable_80 : decode m_Mo_askable.2.1 80 = .ok (.goto 6, 3) := by decide +kernel
theorem d_Mo_askable_91 : decode m_Mo_askable.2.1 91 = .ok (.goto (-50), 3) := by decide +kernel
theorem d_Mo_askable_95 : decode m_Mo_askable.2.1 95 = .ok (.ireturn, 1) := by decide +kernel
theorem b_Mo_bad_0 : mx_ck m_Mo_bad 0 [(.aload_n 0, [], 0), (.getfield 99, [10, 16, 0, 967], 0)] = some 4 := by decide +kernel
theorem b_Mo_bad_7 : mx_ck m_Mo_bad 7 [(.aload_n 0, [], 0), (.iload_n 1, [], 0), (.putfield 99, [10, 16, 0, 967], 0), (.aload_n 0, [], 0), (.aload_n 0, [], 0), (.getfield 102, [10, 13, 0, 964], 0), (.putfield 105, [10, 17, 0, 968], 0)] = some 20 := by decide +kernel
theorem d_Mo_bad_4 : decode m_Mo_bad.2.1 4 = .ok (.ifCond .ne 16, 3) := by decide +kernel
theorem d_Mo_bad_20 : decode m_Mo_bad.2.1 20 = .ok (.return_, 1) := by decide +kernel
theorem b_Mo_began_0 : mx_ck m_Mo_began 0 [(.aload_n 0, [], 0), (.getfield 307, [10, 31, 0, 982], 0), (.bipush 16, [], nI 16)] = some 6 := by decide +kernel
theorem b_Mo_began_9 : mx_ck m_Mo_began 9 [(.aload_n 0, [], 0), (.getfield 65, [10, 30, 20, 981], 0), (.aload_n 0, [], 0), (.getfield 307, [10, 31, 0, 982], 0), (.iload_n 1, [], 0), (.iastore, [], 0), (.aload_n 0, [], 0), (.dup, [], 0), (.getfield 307, [10, 31, 0, 982], 0), (.iconst 1, [], nI 1), (.iadd, [], 0), (.putfield 307, [10, 31, 0, 982], 0)] = some 29 := by decide +kernel
theorem d_Mo_began_6 : decode m_Mo_began.2.1 6 = .ok (.if_icmp .ge 23, 3) := by decide +kernel
theorem d_Mo_began_29 : decode m_Mo_began.2.1 29 = .ok (.return_, 1) := by decide +kernel
theorem b_Mo_begin_0 : mx_ck m_Mo_begin 0 [(.aload_n 0, [], 0), (.iconst 0, [], nI 0), (.putfield 108, [10, 12, 0, 963], 0), (.aload_n 0, [], 0), (.iconst 0, [], nI 0), (.putfield 99, [10, 16, 0, 967], 0), (.aload_n 0, [], 0)] = some 11 := by decide +kernel
theorem d_Mo_begin_11 : decode m_Mo_begin.2.1 11 = .ok (.invokevirtual 130, 3) := by decide +kernel
theorem c_Mo_begin_11 : mx_cv m_Mo_begin m_Mo_nextToken 130 0 [1097, 1099, 42, 92, 1100] = true := by decide +kernel
theorem d_Mo_begin_14 : decode m_Mo_begin.2.1 14 = .ok (.return_, 1) := by decide +kernel
theorem b_Mo_bits_0 : mx_ck m_Mo_bits 0 [(.iconst 0, [], nI 0), (.istore_n 1, [], 0), (.iconst 0, [], nI 0), (.istore_n 2, [], 0)] = some 4 := by decide +kernel
theorem b_Mo_bits_4 : mx_ck m_Mo_bits 4 [(.iload_n 2, [], 0), (.bipush 8, [], nI 8)] = some 7 := by decide +kernel
theorem b_Mo_bits_10 : mx_ck m_Mo_bits 10 [(.iload_n 1, [], 0), (.iload_n 0, [], 0), (.iload_n 2, [], 0), (.ishr, [], 0), (.iconst 1, [], nI 1), (.iand, [], 0), (.iadd, [], 0), (.istore_n 1, [], 0), (.iinc 2 1, [], nI 1)] = some 21 := by decide +kernel
theorem b_Mo_bits_24 : mx_ck m_Mo_bits 24 [(.iload_n 1, [], 0)] = some 25 := by decide +kernel
theorem d_Mo_bits_7 : decode m_Mo_bits.2.1 7 = .ok (.if_icmp .ge 17, 3) := by decide +kernel
theorem d_Mo_bits_21 : decode m_Mo_bits.2.1 21 = .ok (.goto (-17), 3) := by decide +kernel
theorem d_Mo_bits_25 : decode m_Mo_bits.2.1 25 = .ok (.ireturn, 1) := by decide +kernel
theorem b_Mo_breaks_0 : mx_ck m_Mo_breaks 0 [(.iconst 0, [], nI 0), (.istore_n 3, [], 0), (.iconst 0, [], nI 0), (.istore 4, [], 0)] = some 5 := by decide +kernel
theorem b_Mo_breaks_5 : mx_ck m_Mo_breaks 5 [(.iload 4, [], 0), (.aload_n 0, [], 0), (.iconst 0, [], nI 0), (.iaload, [], 0)] = some 10 := by decide +kernel
theorem b_Mo_breaks_13 : mx_ck m_Mo_breaks 13 [(.aload_n 0, [], 0), (.iload 4, [], 0), (.iconst 0, [], nI 0)] = some 17 := by decide +kernel
theorem b_Mo_breaks_20 : mx_ck m_Mo_breaks 20 [(.iconst 2, [], nI 2)] = some 21 := by decide +kernel
theorem b_Mo_breaks_24 : mx_ck m_Mo_breaks 24 [(.iload_n 1, [], 0), (.aload_n 0, [], 0), (.iload 4, [], 0), (.iconst 1, [], nI 1)] = some 29 := by decide +kernel
theorem b_Mo_breaks_38 : mx_ck m_Mo_breaks 38 [(.iload_n 2, [], 0)] = some 39 := by decide +kernel
theorem b_Mo_breaks_42 : mx_ck m_Mo_breaks 42 [(.iload_n 2, [], 0), (.aload_n 0, [], 0), (.iload 4, [], 0), (.iconst 2, [], nI 2)] = some 47 := by decide +kernel
theorem b_Mo_breaks_56 : mx_ck m_Mo_breaks 56 [(.iconst 1, [], nI 1)] = some 57 := by decide +kernel
theorem b_Mo_breaks_60 : mx_ck m_Mo_breaks 60 [(.iconst 0, [], nI 0)] = some 61 := by decide +kernel
theorem b_Mo_breaks_61 : mx_ck m_Mo_breaks 61 [(.istore 5, [], 0), (.iload_n 3, [], 0), (.iload 5, [], 0)] = some 66 := by decide +kernel
theorem b_Mo_breaks_69 : mx_ck m_Mo_breaks 69 [(.iconst 1, [], nI 1), (.iload 4, [], 0), (.ishl, [], 0)] = some 73 := by decide +kernel
theorem b_Mo_breaks_76 : mx_ck m_Mo_breaks 76 [(.iconst 0, [], nI 0)] = some 77 := by decide +kernel
theorem b_Mo_breaks_77 : mx_ck m_Mo_breaks 77 [(.ior, [], 0), (.istore_n 3, [], 0), (.iinc 4 1, [], nI 1)] = some 82 := by decide +kernel
theorem b_Mo_breaks_85 : mx_ck m_Mo_breaks 85 [(.iload_n 3, [], 0)] = some 86 := by decide +kernel
theorem d_Mo_breaks_10 : decode m_Mo_breaks.2.1 10 = .ok (.if_icmp .ge 75, 3) := by decide +kernel
theorem d_Mo_breaks_17 : decode m_Mo_breaks.2.1 17 = .ok (.invokestatic 173, 3) := by decide +kernel
theorem c_Mo_breaks_17 : mx_cs m_Mo_breaks m_Mo_of 173 3 [1171, 1172, 92, 1173] = true := by decide +kernel
theorem d_Mo_breaks_21 : decode m_Mo_breaks.2.1 21 = .ok (.if_icmp .ne 39, 3) := by decide +kernel
theorem d_Mo_breaks_29 : decode m_Mo_breaks.2.1 29 = .ok (.invokestatic 173, 3) := by decide +kernel
theorem c_Mo_breaks_29 : mx_cs m_Mo_breaks m_Mo_of 173 3 [1171, 1172, 92, 1173] = true := by decide +kernel
theorem d_Mo_breaks_32 : decode m_Mo_breaks.2.1 32 = .ok (.invokestatic 177, 3) := by decide +kernel
theorem c_Mo_breaks_32 : mx_cs m_Mo_breaks m_Mo_has 177 2 [1200, 1201, 92, 1202] = true := by decide +kernel
theorem d_Mo_breaks_35 : decode m_Mo_breaks.2.1 35 = .ok (.ifCond .eq 25, 3) := by decide +kernel
theorem d_Mo_breaks_39 : decode m_Mo_breaks.2.1 39 = .ok (.ifCond .lt 17, 3) := by decide +kernel
theorem d_Mo_breaks_47 : decode m_Mo_breaks.2.1 47 = .ok (.invokestatic 173, 3) := by decide +kernel
theorem c_Mo_breaks_47 : mx_cs m_Mo_breaks m_Mo_of 173 3 [1171, 1172, 92, 1173] = true := by decide +kernel
theorem d_Mo_breaks_50 : decode m_Mo_breaks.2.1 50 = .ok (.invokestatic 177, 3) := by decide +kernel
theorem c_Mo_breaks_50 : mx_cs m_Mo_breaks m_Mo_has 177 2 [1200, 1201, 92, 1202] = true := by decide +kernel
theorem d_Mo_breaks_53 : decode m_Mo_breaks.2.1 53 = .ok (.ifCond .ne 7, 3) := by decide +kernel
theorem d_Mo_breaks_57 : decode m_Mo_breaks.2.1 57 = .ok (.goto 4, 3) := by decide +kernel
theorem d_Mo_breaks_66 : decode m_Mo_breaks.2.1 66 = .ok (.ifCond .eq 10, 3) := by decide +kernel
theorem d_Mo_breaks_73 : decode m_Mo_breaks.2.1 73 = .ok (.goto 4, 3) := by decide +kernel
theorem d_Mo_breaks_82 : decode m_Mo_breaks.2.1 82 = .ok (.goto (-77), 3) := by decide +kernel
theorem d_Mo_breaks_86 : decode m_Mo_breaks.2.1 86 = .ok (.ireturn, 1) := by decide +kernel
theorem b_Mo_cellAt_0 : mx_ck m_Mo_cellAt 0 [(.aload_n 0, [], 0), (.iconst 0, [], nI 0), (.putfield 68, [10, 0, 0, 951], 0), (.aload_n 0, [], 0)] = some 6 := by decide +kernel
theorem b_Mo_cellAt_12 : mx_ck m_Mo_cellAt 12 [(.ldc 233, [1166], (-1000002))] = some 14 := by decide +kernel
theorem b_Mo_cellAt_15 : mx_ck m_Mo_cellAt 15 [(.iload_n 1, [], 0), (.iconst (-1), [], (-1))] = some 17 := by decide +kernel
theorem b_Mo_cellAt_20 : mx_ck m_Mo_cellAt 20 [(.ldc 88, [1061], (-1000001))] = some 22 := by decide +kernel
theorem b_Mo_cellAt_23 : mx_ck m_Mo_cellAt 23 [(.aload_n 0, [], 0), (.aload_n 0, [], 0), (.getfield 19, [10, 5, 5, 956], 0)] = some 28 := by decide +kernel
theorem b_Mo_cellAt_31 : mx_ck m_Mo_cellAt 31 [(.iload_n 1, [], 0), (.iconst (-1), [], (-1))] = some 33 := by decide +kernel
theorem b_Mo_cellAt_36 : mx_ck m_Mo_cellAt 36 [(.aload_n 0, [], 0), (.getfield 185, [10, 22, 0, 973], 0)] = some 40 := by decide +kernel
theorem b_Mo_cellAt_43 : mx_ck m_Mo_cellAt 43 [(.iload_n 1, [], 0), (.aload_n 0, [], 0), (.getfield 185, [10, 22, 0, 973], 0)] = some 48 := by decide +kernel
theorem b_Mo_cellAt_51 : mx_ck m_Mo_cellAt 51 [(.aload_n 0, [], 0), (.getfield 40, [10, 21, 12, 972], 0), (.iload_n 1, [], 0), (.iaload, [], 0)] = some 57 := by decide +kernel
theorem b_Mo_cellAt_60 : mx_ck m_Mo_cellAt 60 [(.ldc 111, [1101], (-1000000))] = some 62 := by decide +kernel
theorem d_Mo_cellAt_6 : decode m_Mo_cellAt.2.1 6 = .ok (.invokevirtual 234, 3) := by decide +kernel
theorem c_Mo_cellAt_6 : mx_cv m_Mo_cellAt m_Mo_isThere 234 0 [1178, 1180, 54, 92, 1181] = true := by decide +kernel
theorem d_Mo_cellAt_9 : decode m_Mo_cellAt.2.1 9 = .ok (.ifCond .ne 6, 3) := by decide +kernel
theorem d_Mo_cellAt_14 : decode m_Mo_cellAt.2.1 14 = .ok (.ireturn, 1) := by decide +kernel
theorem d_Mo_cellAt_17 : decode m_Mo_cellAt.2.1 17 = .ok (.if_icmp .ge 6, 3) := by decide +kernel
theorem d_Mo_cellAt_22 : decode m_Mo_cellAt.2.1 22 = .ok (.ireturn, 1) := by decide +kernel
theorem d_Mo_cellAt_28 : decode m_Mo_cellAt.2.1 28 = .ok (.invokevirtual 240, 3) := by decide +kernel
theorem c_Mo_cellAt_28 : mx_cv m_Mo_cellAt m_Mo_reckon 240 1 [1186, 1188, 56, 92, 1189] = true := by decide +kernel
theorem d_Mo_cellAt_33 : decode m_Mo_cellAt.2.1 33 = .ok (.if_icmp .ne 10, 3) := by decide +kernel
theorem d_Mo_cellAt_40 : decode m_Mo_cellAt.2.1 40 = .ok (.goto 22, 3) := by decide +kernel
theorem d_Mo_cellAt_48 : decode m_Mo_cellAt.2.1 48 = .ok (.if_icmp .ge 12, 3) := by decide +kernel
theorem d_Mo_cellAt_57 : decode m_Mo_cellAt.2.1 57 = .ok (.goto 5, 3) := by decide +kernel
theorem d_Mo_cellAt_62 : decode m_Mo_cellAt.2.1 62 = .ok (.ireturn, 1) := by decide +kernel
theorem b_Mo_cellOf_0 : mx_ck m_Mo_cellOf 0 [(.iload_n 1, [], 0), (.istore_n 2, [], 0), (.iconst 0, [], nI 0), (.istore_n 3, [], 0)] = some 4 := by decide +kernel
theorem b_Mo_cellOf_4 : mx_ck m_Mo_cellOf 4 [(.iload_n 3, [], 0), (.aload_n 0, [], 0), (.iconst 0, [], nI 0), (.iaload, [], 0)] = some 8 := by decide +kernel
theorem b_Mo_cellOf_11 : mx_ck m_Mo_cellOf 11 [(.iload_n 2, [], 0), (.aload_n 0, [], 0), (.iload_n 3, [], 0), (.iconst 1, [], nI 1)] = some 15 := by decide +kernel
theorem b_Mo_cellOf_21 : mx_ck m_Mo_cellOf 21 [(.istore 4, [], 0), (.iload_n 2, [], 0), (.aload_n 0, [], 0), (.iload_n 3, [], 0), (.iconst 2, [], nI 2)] = some 27 := by decide +kernel
theorem b_Mo_cellOf_33 : mx_ck m_Mo_cellOf 33 [(.istore 5, [], 0), (.aload_n 0, [], 0), (.iload_n 3, [], 0), (.iconst 0, [], nI 0)] = some 38 := by decide +kernel
theorem b_Mo_cellOf_41 : mx_ck m_Mo_cellOf 41 [(.istore 6, [], 0), (.iload 6, [], 0), (.iconst 3, [], nI 3)] = some 46 := by decide +kernel
theorem b_Mo_cellOf_49 : mx_ck m_Mo_cellOf 49 [(.iload 4, [], 0)] = some 51 := by decide +kernel
theorem b_Mo_cellOf_54 : mx_ck m_Mo_cellOf 54 [(.iload 5, [], 0)] = some 56 := by decide +kernel
theorem b_Mo_cellOf_59 : mx_ck m_Mo_cellOf 59 [(.iload 6, [], 0), (.iconst 4, [], nI 4)] = some 62 := by decide +kernel
theorem b_Mo_cellOf_65 : mx_ck m_Mo_cellOf 65 [(.iload 4, [], 0)] = some 67 := by decide +kernel
theorem b_Mo_cellOf_70 : mx_ck m_Mo_cellOf 70 [(.iload 5, [], 0)] = some 72 := by decide +kernel
theorem b_Mo_cellOf_75 : mx_ck m_Mo_cellOf 75 [(.iload 6, [], 0), (.iconst 5, [], nI 5)] = some 78 := by decide +kernel
theorem b_Mo_cellOf_81 : mx_ck m_Mo_cellOf 81 [(.iload 4, [], 0)] = some 83 := by decide +kernel
theorem b_Mo_cellOf_86 : mx_ck m_Mo_cellOf 86 [(.iload 5, [], 0)] = some 88 := by decide +kernel
theorem b_Mo_cellOf_91 : mx_ck m_Mo_cellOf 91 [(.iconst 1, [], nI 1)] = some 92 := by decide +kernel
theorem b_Mo_cellOf_95 : mx_ck m_Mo_cellOf 95 [(.iconst 0, [], nI 0)] = some 96 := by decide +kernel
theorem b_Mo_cellOf_96 : mx_ck m_Mo_cellOf 96 [(.istore 7, [], 0), (.iload_n 2, [], 0), (.iload 7, [], 0)] = some 101 := by decide +kernel
theorem b_Mo_cellOf_104 : mx_ck m_Mo_cellOf 104 [(.iconst 1, [], nI 1), (.iload_n 3, [], 0), (.ishl, [], 0)] = some 107 := by decide +kernel
theorem b_Mo_cellOf_110 : mx_ck m_Mo_cellOf 110 [(.iconst 0, [], nI 0)] = some 111 := by decide +kernel
theorem b_Mo_cellOf_111 : mx_ck m_Mo_cellOf 111 [(.ior, [], 0), (.istore_n 2, [], 0), (.iinc 3 1, [], nI 1)] = some 116 := by decide +kernel
theorem b_Mo_cellOf_119 : mx_ck m_Mo_cellOf 119 [(.iload_n 2, [], 0)] = some 120 := by decide +kernel
theorem d_Mo_cellOf_8 : decode m_Mo_cellOf.2.1 8 = .ok (.if_icmp .ge 111, 3) := by decide +kernel
theorem d_Mo_cellOf_15 : decode m_Mo_cellOf.2.1 15 = .ok (.invokestatic 173, 3) := by decide +kernel
theorem c_Mo_cellOf_15 : mx_cs m_Mo_cellOf m_Mo_of 173 3 [1171, 1172, 92, 1173] = true := by decide +kernel
theorem d_Mo_cellOf_18 : decode m_Mo_cellOf.2.1 18 = .ok (.invokestatic 177, 3) := by decide +kernel
theorem c_Mo_cellOf_18 : mx_cs m_Mo_cellOf m_Mo_has 177 2 [1200, 1201, 92, 1202] = true := by decide +kernel
theorem d_Mo_cellOf_27 : decode m_Mo_cellOf.2.1 27 = .ok (.invokestatic 173, 3) := by decide +kernel
theorem c_Mo_cellOf_27 : mx_cs m_Mo_cellOf m_Mo_of 173 3 [1171, 1172, 92, 1173] = true := by decide +kernel
theorem d_Mo_cellOf_30 : decode m_Mo_cellOf.2.1 30 = .ok (.invokestatic 177, 3) := by decide +kernel
theorem c_Mo_cellOf_30 : mx_cs m_Mo_cellOf m_Mo_has 177 2 [1200, 1201, 92, 1202] = true := by decide +kernel
theorem d_Mo_cellOf_38 : decode m_Mo_cellOf.2.1 38 = .ok (.invokestatic 173, 3) := by decide +kernel
theorem c_Mo_cellOf_38 : mx_cs m_Mo_cellOf m_Mo_of 173 3 [1171, 1172, 92, 1173] = true := by decide +kernel
theorem d_Mo_cellOf_46 : decode m_Mo_cellOf.2.1 46 = .ok (.if_icmp .ne 13, 3) := by decide +kernel
theorem d_Mo_cellOf_51 : decode m_Mo_cellOf.2.1 51 = .ok (.ifCond .ne 40, 3) := by decide +kernel
theorem d_Mo_cellOf_56 : decode m_Mo_cellOf.2.1 56 = .ok (.ifCond .ne 35, 3) := by decide +kernel
theorem d_Mo_cellOf_62 : decode m_Mo_cellOf.2.1 62 = .ok (.if_icmp .ne 13, 3) := by decide +kernel
theorem d_Mo_cellOf_67 : decode m_Mo_cellOf.2.1 67 = .ok (.ifCond .eq 8, 3) := by decide +kernel
theorem d_Mo_cellOf_72 : decode m_Mo_cellOf.2.1 72 = .ok (.ifCond .ne 19, 3) := by decide +kernel
theorem d_Mo_cellOf_78 : decode m_Mo_cellOf.2.1 78 = .ok (.if_icmp .ne 17, 3) := by decide +kernel
theorem d_Mo_cellOf_83 : decode m_Mo_cellOf.2.1 83 = .ok (.ifCond .eq 12, 3) := by decide +kernel
theorem d_Mo_cellOf_88 : decode m_Mo_cellOf.2.1 88 = .ok (.ifCond .ne 7, 3) := by decide +kernel
theorem d_Mo_cellOf_92 : decode m_Mo_cellOf.2.1 92 = .ok (.goto 4, 3) := by decide +kernel
theorem d_Mo_cellOf_101 : decode m_Mo_cellOf.2.1 101 = .ok (.ifCond .eq 9, 3) := by decide +kernel
theorem d_Mo_cellOf_107 : decode m_Mo_cellOf.2.1 107 = .ok (.goto 4, 3) := by decide +kernel
theorem d_Mo_cellOf_116 : decode m_Mo_cellOf.2.1 116 = .ok (.goto (-112), 3) := by decide +kernel
theorem d_Mo_cellOf_120 : decode m_Mo_cellOf.2.1 120 = .ok (.ireturn, 1) := by decide +kernel
theorem b_Mo_comes_0 : mx_ck m_Mo_comes 0 [(.aload_n 0, [], 0), (.getfield 37, [10, 20, 11, 971], 0), (.iload_n 1, [], 0), (.dup2, [], 0), (.iaload, [], 0), (.iload_n 2, [], 0), (.ior, [], 0), (.iastore, [], 0), (.aload_n 0, [], 0), (.getfield 34, [10, 19, 10, 970], 0), (.iload_n 1, [], 0), (.iaload, [], 0)] = some 16 := by decide +kernel
theorem b_Mo_comes_19 : mx_ck m_Mo_comes 19 [(.aload_n 0, [], 0), (.getfield 34, [10, 19, 10, 970], 0), (.iload_n 1, [], 0), (.iload_n 3, [], 0), (.iastore, [], 0)] = some 26 := by decide +kernel
theorem d_Mo_comes_16 : decode m_Mo_comes.2.1 16 = .ok (.ifCond .ne 10, 3) := by decide +kernel
theorem d_Mo_comes_26 : decode m_Mo_comes.2.1 26 = .ok (.return_, 1) := by decide +kernel
theorem b_Mo_constantCell_0 : mx_ck m_Mo_constantCell 0 [(.iconst 0, [], nI 0), (.istore_n 2, [], 0), (.iconst 0, [], nI 0), (.istore_n 3, [], 0)] = some 4 := by decide +kernel
theorem b_Mo_constantCell_4 : mx_ck m_Mo_constantCell 4 [(.iload_n 3, [], 0), (.aload_n 0, [], 0), (.iconst 0, [], nI 0), (.iaload, [], 0)] = some 8 := by decide +kernel
theorem b_Mo_constantCell_11 : mx_ck m_Mo_constantCell 11 [(.iload_n 2, [], 0), (.aload_n 0, [], 0), (.iload_n 3, [], 0), (.iconst 0, [], nI 0)] = some 15 := by decide +kernel
theorem b_Mo_constantCell_21 : mx_ck m_Mo_constantCell 21 [(.iload_n 1, [], 0), (.i2l, [], 0), (.aload_n 0, [], 0), (.iload_n 3, [], 0), (.iconst 1, [], nI 1)] = some 26 := by decide +kernel
theorem b_Mo_constantCell_29 : mx_ck m_Mo_constantCell 29 [(.i2l, [], 0), (.aload_n 0, [], 0), (.iload_n 3, [], 0), (.iconst 2, [], nI 2)] = some 33 := by decide +kernel
theorem b_Mo_constantCell_36 : mx_ck m_Mo_constantCell 36 [(.i2l, [], 0)] = some 37 := by decide +kernel
theorem b_Mo_constantCell_43 : mx_ck m_Mo_constantCell 43 [(.iconst 1, [], nI 1), (.iload_n 3, [], 0), (.ishl, [], 0)] = some 46 := by decide +kernel
theorem b_Mo_constantCell_49 : mx_ck m_Mo_constantCell 49 [(.iconst 0, [], nI 0)] = some 50 := by decide +kernel
theorem b_Mo_constantCell_50 : mx_ck m_Mo_constantCell 50 [(.ior, [], 0), (.istore_n 2, [], 0), (.iinc 3 1, [], nI 1)] = some 55 := by decide +kernel
theorem b_Mo_constantCell_58 : mx_ck m_Mo_constantCell 58 [(.aload_n 0, [], 0), (.iload_n 2, [], 0)] = some 60 := by decide +kernel
theorem d_Mo_constantCell_8 : decode m_Mo_constantCell.2.1 8 = .ok (.if_icmp .ge 50, 3) := by decide +kernel
theorem d_Mo_constantCell_15 : decode m_Mo_constantCell.2.1 15 = .ok (.invokestatic 173, 3) := by decide +kernel
theorem c_Mo_constantCell_15 : mx_cs m_Mo_constantCell m_Mo_of 173 3 [1171, 1172, 92, 1173] = true := by decide +kernel
theorem d_Mo_constantCell_18 : decode m_Mo_constantCell.2.1 18 = .ok (.ifCond .ne 31, 3) := by decide +kernel
theorem d_Mo_constantCell_26 : decode m_Mo_constantCell.2.1 26 = .ok (.invokestatic 173, 3) := by decide +kernel
theorem c_Mo_constantCell_26 : mx_cs m_Mo_constantCell m_Mo_of 173 3 [1171, 1172, 92, 1173] = true := by decide +kernel
theorem d_Mo_constantCell_33 : decode m_Mo_constantCell.2.1 33 = .ok (.invokestatic 173, 3) := by decide +kernel
theorem c_Mo_constantCell_33 : mx_cs m_Mo_constantCell m_Mo_of 173 3 [1171, 1172, 92, 1173] = true := by decide +kernel
theorem d_Mo_constantCell_37 : decode m_Mo_constantCell.2.1 37 = .ok (.invokestatic 78, 3) := by decide +kernel
theorem c_Mo_constantCell_37 : mx_cs m_Mo_constantCell m_Mo_in 78 3 [1057, 1058, 92, 1059] = true := by decide +kernel
theorem d_Mo_constantCell_40 : decode m_Mo_constantCell.2.1 40 = .ok (.ifCond .eq 9, 3) := by decide +kernel
theorem d_Mo_constantCell_46 : decode m_Mo_constantCell.2.1 46 = .ok (.goto 4, 3) := by decide +kernel
theorem d_Mo_constantCell_55 : decode m_Mo_constantCell.2.1 55 = .ok (.goto (-51), 3) := by decide +kernel
theorem d_Mo_constantCell_60 : decode m_Mo_constantCell.2.1 60 = .ok (.invokestatic 181, 3) := by decide +kernel
theorem c_Mo_constantCell_60 : mx_cs m_Mo_constantCell m_Mo_cellOf 181 2 [1197, 1198, 92, 1199] = true := by decide +kernel
theorem d_Mo_constantCell_63 : decode m_Mo_constantCell.2.1 63 = .ok (.ireturn, 1) := by decide +kernel
theorem b_Mo_copy_0 : mx_ck m_Mo_copy 0 [(.aload_n 0, [], 0), (.iconst 0, [], nI 0), (.putfield 68, [10, 0, 0, 951], 0), (.iload_n 1, [], 0)] = some 6 := by decide +kernel
theorem b_Mo_copy_12 : mx_ck m_Mo_copy 12 [(.iload_n 3, [], 0)] = some 13 := by decide +kernel
theorem b_Mo_copy_19 : mx_ck m_Mo_copy 19 [(.ldc 88, [1061], (-1000001))] = some 21 := by decide +kernel
theorem b_Mo_copy_22 : mx_ck m_Mo_copy 22 [(.aload_n 0, [], 0), (.iconst 0, [], nI 0), (.putfield 72, [10, 1, 0, 952], 0), (.aload_n 0, [], 0), (.getfield 7, [10, 2, 2, 953], 0), (.iload_n 1, [], 0), (.iaload, [], 0)] = some 33 := by decide +kernel
theorem b_Mo_copy_36 : mx_ck m_Mo_copy 36 [(.aload_n 0, [], 0), (.getfield 7, [10, 2, 2, 953], 0), (.iload_n 3, [], 0), (.iaload, [], 0)] = some 42 := by decide +kernel
theorem b_Mo_copy_45 : mx_ck m_Mo_copy 45 [(.aload_n 0, [], 0), (.iconst 1, [], nI 1)] = some 47 := by decide +kernel
theorem b_Mo_copy_51 : mx_ck m_Mo_copy 51 [(.aload_n 0, [], 0), (.getfield 7, [10, 2, 2, 953], 0), (.iload_n 1, [], 0), (.iaload, [], 0), (.aload_n 0, [], 0), (.getfield 7, [10, 2, 2, 953], 0), (.iload_n 3, [], 0), (.iaload, [], 0)] = some 63 := by decide +kernel
theorem b_Mo_copy_66 : mx_ck m_Mo_copy 66 [(.aload_n 0, [], 0), (.iconst 5, [], nI 5)] = some 68 := by decide +kernel
theorem b_Mo_copy_72 : mx_ck m_Mo_copy 72 [(.iload_n 2, [], 0)] = some 73 := by decide +kernel
theorem b_Mo_copy_76 : mx_ck m_Mo_copy 76 [(.iload 4, [], 0)] = some 78 := by decide +kernel
theorem b_Mo_copy_81 : mx_ck m_Mo_copy 81 [(.iload 5, [], 0)] = some 83 := by decide +kernel
theorem b_Mo_copy_86 : mx_ck m_Mo_copy 86 [(.iload_n 2, [], 0), (.i2l, [], 0), (.iload 5, [], 0), (.i2l, [], 0), (.ladd, [], 0), (.aload_n 0, [], 0), (.getfield 13, [10, 3, 3, 954], 0), (.iload_n 1, [], 0), (.iaload, [], 0), (.i2l, [], 0), (.lcmp, [], 0)] = some 100 := by decide +kernel
theorem b_Mo_copy_103 : mx_ck m_Mo_copy 103 [(.iload 4, [], 0), (.i2l, [], 0), (.iload 5, [], 0), (.i2l, [], 0), (.ladd, [], 0), (.aload_n 0, [], 0), (.getfield 13, [10, 3, 3, 954], 0), (.iload_n 3, [], 0), (.iaload, [], 0), (.i2l, [], 0), (.lcmp, [], 0)] = some 118 := by decide +kernel
theorem b_Mo_copy_121 : mx_ck m_Mo_copy 121 [(.aload_n 0, [], 0), (.iconst 2, [], nI 2)] = some 123 := by decide +kernel
theorem b_Mo_copy_127 : mx_ck m_Mo_copy 127 [(.iload_n 2, [], 0), (.iload 4, [], 0)] = some 130 := by decide +kernel
theorem b_Mo_copy_133 : mx_ck m_Mo_copy 133 [(.iconst 1, [], nI 1)] = some 134 := by decide +kernel
theorem b_Mo_copy_137 : mx_ck m_Mo_copy 137 [(.iconst 0, [], nI 0)] = some 138 := by decide +kernel
theorem b_Mo_copy_138 : mx_ck m_Mo_copy 138 [(.istore 6, [], 0), (.iconst 0, [], nI 0), (.istore 7, [], 0)] = some 143 := by decide +kernel
theorem b_Mo_copy_143 : mx_ck m_Mo_copy 143 [(.iload 7, [], 0), (.iload 5, [], 0)] = some 147 := by decide +kernel
theorem b_Mo_copy_150 : mx_ck m_Mo_copy 150 [(.iload 6, [], 0)] = some 152 := by decide +kernel
theorem b_Mo_copy_155 : mx_ck m_Mo_copy 155 [(.iload 7, [], 0)] = some 157 := by decide +kernel
theorem b_Mo_copy_160 : mx_ck m_Mo_copy 160 [(.iload 5, [], 0), (.iconst 1, [], nI 1), (.isub, [], 0), (.iload 7, [], 0), (.isub, [], 0)] = some 167 := by decide +kernel
theorem b_Mo_copy_167 : mx_ck m_Mo_copy 167 [(.istore 8, [], 0), (.aload_n 0, [], 0), (.getfield 16, [10, 4, 4, 955], 0), (.bipush 40, [], nI 40), (.iload_n 3, [], 0), (.imul, [], 0), (.iload 4, [], 0), (.iadd, [], 0), (.iload 8, [], 0), (.iadd, [], 0), (.aload_n 0, [], 0), (.getfield 16, [10, 4, 4, 955], 0), (.bipush 40, [], nI 40), (.iload_n 1, [], 0), (.imul, [], 0), (.iload_n 2, [], 0), (.iadd, [], 0), (.iload 8, [], 0), (.iadd, [], 0), (.iaload, [], 0), (.iastore, [], 0), (.iinc 7 1, [], nI 1)] = some 201 := by decide +kernel
theorem b_Mo_copy_204 : mx_ck m_Mo_copy 204 [(.iload 5, [], 0)] = some 206 := by decide +kernel
theorem d_Mo_copy_6 : decode m_Mo_copy.2.1 6 = .ok (.invokestatic 82, 3) := by decide +kernel
theorem c_Mo_copy_6 : mx_cs m_Mo_copy m_Mo_isRow 82 1 [1053, 1054, 92, 1055] = true := by decide +kernel
theorem d_Mo_copy_9 : decode m_Mo_copy.2.1 9 = .ok (.ifCond .eq 10, 3) := by decide +kernel
theorem d_Mo_copy_13 : decode m_Mo_copy.2.1 13 = .ok (.invokestatic 82, 3) := by decide +kernel
theorem c_Mo_copy_13 : mx_cs m_Mo_copy m_Mo_isRow 82 1 [1053, 1054, 92, 1055] = true := by decide +kernel
theorem d_Mo_copy_16 : decode m_Mo_copy.2.1 16 = .ok (.ifCond .ne 6, 3) := by decide +kernel
theorem d_Mo_copy_21 : decode m_Mo_copy.2.1 21 = .ok (.ireturn, 1) := by decide +kernel
theorem d_Mo_copy_33 : decode m_Mo_copy.2.1 33 = .ok (.ifCond .lt 12, 3) := by decide +kernel
theorem d_Mo_copy_42 : decode m_Mo_copy.2.1 42 = .ok (.ifCond .ge 9, 3) := by decide +kernel
theorem d_Mo_copy_47 : decode m_Mo_copy.2.1 47 = .ok (.invokevirtual 89, 3) := by decide +kernel
theorem c_Mo_copy_47 : mx_cv m_Mo_copy m_Mo_finding 89 1 [1062, 1064, 40, 92, 1065] = true := by decide +kernel
theorem d_Mo_copy_50 : decode m_Mo_copy.2.1 50 = .ok (.ireturn, 1) := by decide +kernel
theorem d_Mo_copy_63 : decode m_Mo_copy.2.1 63 = .ok (.if_icmp .eq 9, 3) := by decide +kernel
theorem d_Mo_copy_68 : decode m_Mo_copy.2.1 68 = .ok (.invokevirtual 89, 3) := by decide +kernel
theorem c_Mo_copy_68 : mx_cv m_Mo_copy m_Mo_finding 89 1 [1062, 1064, 40, 92, 1065] = true := by decide +kernel
theorem d_Mo_copy_71 : decode m_Mo_copy.2.1 71 = .ok (.ireturn, 1) := by decide +kernel
theorem d_Mo_copy_73 : decode m_Mo_copy.2.1 73 = .ok (.ifCond .lt 48, 3) := by decide +kernel
theorem d_Mo_copy_78 : decode m_Mo_copy.2.1 78 = .ok (.ifCond .lt 43, 3) := by decide +kernel
theorem d_Mo_copy_83 : decode m_Mo_copy.2.1 83 = .ok (.ifCond .lt 38, 3) := by decide +kernel
theorem d_Mo_copy_100 : decode m_Mo_copy.2.1 100 = .ok (.ifCond .gt 21, 3) := by decide +kernel
theorem d_Mo_copy_118 : decode m_Mo_copy.2.1 118 = .ok (.ifCond .le 9, 3) := by decide +kernel
theorem d_Mo_copy_123 : decode m_Mo_copy.2.1 123 = .ok (.invokevirtual 89, 3) := by decide +kernel
theorem c_Mo_copy_123 : mx_cv m_Mo_copy m_Mo_finding 89 1 [1062, 1064, 40, 92, 1065] = true := by decide +kernel
theorem d_Mo_copy_126 : decode m_Mo_copy.2.1 126 = .ok (.ireturn, 1) := by decide +kernel
theorem d_Mo_copy_130 : decode m_Mo_copy.2.1 130 = .ok (.if_icmp .lt 7, 3) := by decide +kernel
theorem d_Mo_copy_134 : decode m_Mo_copy.2.1 134 = .ok (.goto 4, 3) := by decide +kernel
theorem d_Mo_copy_147 : decode m_Mo_copy.2.1 147 = .ok (.if_icmp .ge 57, 3) := by decide +kernel
theorem d_Mo_copy_152 : decode m_Mo_copy.2.1 152 = .ok (.ifCond .eq 8, 3) := by decide +kernel
theorem d_Mo_copy_157 : decode m_Mo_copy.2.1 157 = .ok (.goto 10, 3) := by decide +kernel
theorem d_Mo_copy_201 : decode m_Mo_copy.2.1 201 = .ok (.goto (-58), 3) := by decide +kernel
theorem d_Mo_copy_206 : decode m_Mo_copy.2.1 206 = .ok (.ireturn, 1) := by decide +kernel
theorem b_Mo_count_0 : mx_ck m_Mo_count 0 [(.aload_n 0, [], 0), (.iconst 0, [], nI 0), (.putfield 68, [10, 0, 0, 951], 0), (.iconst 0, [], nI 0), (.istore_n 2, [], 0), (.iload_n 1, [], 0)] = some 8 := by decide +kernel
theorem b_Mo_count_48 : mx_ck m_Mo_count 48 [(.iconst 0, [], nI 0), (.istore_n 3, [], 0)] = some 50 := by decide +kernel
theorem b_Mo_count_50 : mx_ck m_Mo_count 50 [(.iload_n 3, [], 0), (.bipush 8, [], nI 8)] = some 53 := by decide +kernel
theorem b_Mo_count_56 : mx_ck m_Mo_count 56 [(.iload_n 2, [], 0), (.aload_n 0, [], 0), (.getfield 7, [10, 2, 2, 953], 0), (.iload_n 3, [], 0), (.iaload, [], 0)] = some 63 := by decide +kernel
theorem b_Mo_count_66 : mx_ck m_Mo_count 66 [(.iconst 1, [], nI 1)] = some 67 := by decide +kernel
theorem b_Mo_count_70 : mx_ck m_Mo_count 70 [(.iconst 0, [], nI 0)] = some 71 := by decide +kernel
theorem b_Mo_count_71 : mx_ck m_Mo_count 71 [(.iadd, [], 0), (.istore_n 2, [], 0), (.iinc 3 1, [], nI 1)] = some 76 := by decide +kernel
theorem b_Mo_count_79 : mx_ck m_Mo_count 79 [(.iload_n 2, [], 0)] = some 80 := by decide +kernel
theorem b_Mo_count_81 : mx_ck m_Mo_count 81 [(.aload_n 0, [], 0), (.getfield 19, [10, 5, 5, 956], 0), (.iconst 0, [], nI 0), (.iaload, [], 0)] = some 87 := by decide +kernel
theorem b_Mo_count_88 : mx_ck m_Mo_count 88 [(.aload_n 0, [], 0), (.getfield 19, [10, 5, 5, 956], 0), (.iconst 1, [], nI 1), (.iaload, [], 0)] = some 94 := by decide +kernel
theorem b_Mo_count_95 : mx_ck m_Mo_count 95 [(.aload_n 0, [], 0), (.aload_n 0, [], 0), (.getfield 19, [10, 5, 5, 956], 0)] = some 100 := by decide +kernel
theorem b_Mo_count_103 : mx_ck m_Mo_count 103 [(.aload_n 0, [], 0), (.aload_n 0, [], 0), (.getfield 19, [10, 5, 5, 956], 0)] = some 108 := by decide +kernel
theorem b_Mo_count_115 : mx_ck m_Mo_count 115 [(.aload_n 0, [], 0), (.getfield 170, [10, 9, 0, 960], 0)] = some 119 := by decide +kernel
theorem b_Mo_count_120 : mx_ck m_Mo_count 120 [(.aload_n 0, [], 0), (.getfield 95, [10, 11, 0, 962], 0)] = some 124 := by decide +kernel
theorem b_Mo_count_125 : mx_ck m_Mo_count 125 [(.ldc 88, [1061], (-1000001))] = some 127 := by decide +kernel
theorem d_Mo_count_8 : decode m_Mo_count.2.1 8 = .ok (.tableswitch 117 0 5 #[40, 73, 80, 87, 107, 112], 40) := by decide +kernel
theorem d_Mo_count_53 : decode m_Mo_count.2.1 53 = .ok (.if_icmp .ge 26, 3) := by decide +kernel
theorem d_Mo_count_63 : decode m_Mo_count.2.1 63 = .ok (.ifCond .lt 7, 3) := by decide +kernel
theorem d_Mo_count_67 : decode m_Mo_count.2.1 67 = .ok (.goto 4, 3) := by decide +kernel
theorem d_Mo_count_76 : decode m_Mo_count.2.1 76 = .ok (.goto (-26), 3) := by decide +kernel
theorem d_Mo_count_80 : decode m_Mo_count.2.1 80 = .ok (.ireturn, 1) := by decide +kernel
theorem d_Mo_count_87 : decode m_Mo_count.2.1 87 = .ok (.ireturn, 1) := by decide +kernel
theorem d_Mo_count_94 : decode m_Mo_count.2.1 94 = .ok (.ireturn, 1) := by decide +kernel
theorem d_Mo_count_100 : decode m_Mo_count.2.1 100 = .ok (.invokevirtual 240, 3) := by decide +kernel
theorem c_Mo_count_100 : mx_cv m_Mo_count m_Mo_reckon 240 1 [1186, 1188, 56, 92, 1189] = true := by decide +kernel
theorem d_Mo_count_108 : decode m_Mo_count.2.1 108 = .ok (.invokevirtual 253, 3) := by decide +kernel
theorem c_Mo_count_108 : mx_cv m_Mo_count m_Mo_emptySet 253 1 [1248, 1250, 64, 92, 1251] = true := by decide +kernel
theorem d_Mo_count_111 : decode m_Mo_count.2.1 111 = .ok (.invokestatic 298, 3) := by decide +kernel
theorem c_Mo_count_111 : mx_cs m_Mo_count m_Mo_bits 298 1 [1329, 1330, 92, 1331] = true := by decide +kernel
theorem d_Mo_count_114 : decode m_Mo_count.2.1 114 = .ok (.ireturn, 1) := by decide +kernel
theorem d_Mo_count_119 : decode m_Mo_count.2.1 119 = .ok (.ireturn, 1) := by decide +kernel
theorem d_Mo_count_124 : decode m_Mo_count.2.1 124 = .ok (.ireturn, 1) := by decide +kernel
theorem d_Mo_count_127 : decode m_Mo_count.2.1 127 = .ok (.ireturn, 1) := by decide +kernel
theorem b_Mo_drawn_0 : mx_ck m_Mo_drawn 0 [(.aload_n 0, [], 0), (.iconst 0, [], nI 0), (.putfield 68, [10, 0, 0, 951], 0), (.aload_n 0, [], 0)] = some 6 := by decide +kernel
theorem b_Mo_drawn_12 : mx_ck m_Mo_drawn 12 [(.ldc 233, [1166], (-1000002))] = some 14 := by decide +kernel
theorem b_Mo_drawn_15 : mx_ck m_Mo_drawn 15 [(.iload_n 1, [], 0), (.i2l, [], 0), (.lconst 0, [0], 0), (.ldc2_w 282, [20, 1321], 0)] = some 21 := by decide +kernel
theorem b_Mo_drawn_27 : mx_ck m_Mo_drawn 27 [(.iload_n 2, [], 0), (.i2l, [], 0), (.lconst 1, [1], 0), (.ldc2_w 284, [999999, 1322], 0)] = some 33 := by decide +kernel
theorem b_Mo_drawn_39 : mx_ck m_Mo_drawn 39 [(.iload_n 3, [], 0), (.i2l, [], 0), (.lconst 0, [0], 0), (.lconst 1, [1], 0)] = some 43 := by decide +kernel
theorem b_Mo_drawn_49 : mx_ck m_Mo_drawn 49 [(.ldc 88, [1061], (-1000001))] = some 51 := by decide +kernel
theorem b_Mo_drawn_52 : mx_ck m_Mo_drawn 52 [(.aload_n 0, [], 0)] = some 53 := by decide +kernel
theorem b_Mo_drawn_56 : mx_ck m_Mo_drawn 56 [(.iload_n 2, [], 0), (.i2l, [], 0), (.lstore 4, [], 0), (.iconst 0, [], nI 0), (.istore 6, [], 0)] = some 63 := by decide +kernel
theorem b_Mo_drawn_63 : mx_ck m_Mo_drawn 63 [(.iload 6, [], 0), (.iload_n 1, [], 0)] = some 66 := by decide +kernel
theorem b_Mo_drawn_69 : mx_ck m_Mo_drawn 69 [(.lload 4, [], 0), (.ldc2_w 286, [16807, 1323], 0), (.lmul, [], 0), (.ldc2_w 288, [2147483647, 1324], 0), (.lrem, [], 0), (.lstore 4, [], 0), (.lload 4, [], 0), (.aload_n 0, [], 0), (.getfield 25, [10, 7, 7, 958], 0), (.iconst 0, [], nI 0), (.iaload, [], 0), (.i2l, [], 0), (.lrem, [], 0), (.l2i, [], 0), (.istore 7, [], 0), (.lload 4, [], 0), (.ldc2_w 290, [8, 1325], 0), (.ldiv, [], 0), (.ldc2_w 292, [6, 1326], 0), (.lrem, [], 0), (.l2i, [], 0), (.istore 8, [], 0), (.lload 4, [], 0), (.ldc2_w 294, [64, 1327], 0), (.ldiv, [], 0), (.ldc2_w 290, [8, 1325], 0), (.lrem, [], 0), (.l2i, [], 0), (.istore 9, [], 0), (.lload 4, [], 0), (.ldc2_w 296, [512, 1328], 0), (.ldiv, [], 0), (.ldc2_w 290, [8, 1325], 0), (.lrem, [], 0), (.l2i, [], 0), (.istore 10, [], 0), (.aload_n 0, [], 0), (.getfield 25, [10, 7, 7, 958], 0), (.iconst 0, [], nI 0), (.iaload, [], 0), (.iload 7, [], 0), (.iload 8, [], 0), (.iload 9, [], 0), (.iload 10, [], 0)] = some 147 := by decide +kernel
theorem b_Mo_drawn_153 : mx_ck m_Mo_drawn 153 [(.aload_n 0, [], 0), (.getfield 25, [10, 7, 7, 958], 0), (.iconst 2, [], nI 2), (.iconst 3, [], nI 3), (.iload 7, [], 0), (.imul, [], 0), (.iadd, [], 0), (.iload 8, [], 0), (.iastore, [], 0), (.aload_n 0, [], 0), (.getfield 25, [10, 7, 7, 958], 0), (.iconst 2, [], nI 2), (.iconst 3, [], nI 3), (.iload 7, [], 0), (.imul, [], 0), (.iadd, [], 0), (.iconst 1, [], nI 1), (.iadd, [], 0), (.iload 9, [], 0), (.iastore, [], 0), (.aload_n 0, [], 0), (.getfield 25, [10, 7, 7, 958], 0), (.iconst 2, [], nI 2), (.iconst 3, [], nI 3), (.iload 7, [], 0), (.imul, [], 0), (.iadd, [], 0), (.iconst 2, [], nI 2), (.iadd, [], 0), (.iload 10, [], 0), (.iastore, [], 0)] = some 196 := by decide +kernel
theorem b_Mo_drawn_196 : mx_ck m_Mo_drawn 196 [(.iinc 6 1, [], nI 1)] = some 199 := by decide +kernel
theorem b_Mo_drawn_202 : mx_ck m_Mo_drawn 202 [(.aload_n 0, [], 0), (.aload_n 0, [], 0), (.getfield 25, [10, 7, 7, 958], 0)] = some 207 := by decide +kernel
theorem b_Mo_drawn_210 : mx_ck m_Mo_drawn 210 [(.iload_n 3, [], 0)] = some 211 := by decide +kernel
theorem b_Mo_drawn_214 : mx_ck m_Mo_drawn 214 [(.aload_n 0, [], 0), (.getfield 25, [10, 7, 7, 958], 0), (.iconst 0, [], nI 0), (.iaload, [], 0), (.aload_n 0, [], 0), (.aload_n 0, [], 0), (.getfield 25, [10, 7, 7, 958], 0)] = some 225 := by decide +kernel
theorem b_Mo_drawn_231 : mx_ck m_Mo_drawn 231 [(.isub, [], 0)] = some 232 := by decide +kernel
theorem b_Mo_drawn_235 : mx_ck m_Mo_drawn 235 [(.aload_n 0, [], 0), (.getfield 185, [10, 22, 0, 973], 0)] = some 239 := by decide +kernel
theorem d_Mo_drawn_6 : decode m_Mo_drawn.2.1 6 = .ok (.invokevirtual 234, 3) := by decide +kernel
theorem c_Mo_drawn_6 : mx_cv m_Mo_drawn m_Mo_isThere 234 0 [1178, 1180, 54, 92, 1181] = true := by decide +kernel
theorem d_Mo_drawn_9 : decode m_Mo_drawn.2.1 9 = .ok (.ifCond .ne 6, 3) := by decide +kernel
theorem d_Mo_drawn_14 : decode m_Mo_drawn.2.1 14 = .ok (.ireturn, 1) := by decide +kernel
theorem d_Mo_drawn_21 : decode m_Mo_drawn.2.1 21 = .ok (.invokestatic 78, 3) := by decide +kernel
theorem c_Mo_drawn_21 : mx_cs m_Mo_drawn m_Mo_in 78 3 [1057, 1058, 92, 1059] = true := by decide +kernel
theorem d_Mo_drawn_24 : decode m_Mo_drawn.2.1 24 = .ok (.ifCond .eq 25, 3) := by decide +kernel
theorem d_Mo_drawn_33 : decode m_Mo_drawn.2.1 33 = .ok (.invokestatic 78, 3) := by decide +kernel
theorem c_Mo_drawn_33 : mx_cs m_Mo_drawn m_Mo_in 78 3 [1057, 1058, 92, 1059] = true := by decide +kernel
theorem d_Mo_drawn_36 : decode m_Mo_drawn.2.1 36 = .ok (.ifCond .eq 13, 3) := by decide +kernel
theorem d_Mo_drawn_43 : decode m_Mo_drawn.2.1 43 = .ok (.invokestatic 78, 3) := by decide +kernel
theorem c_Mo_drawn_43 : mx_cs m_Mo_drawn m_Mo_in 78 3 [1057, 1058, 92, 1059] = true := by decide +kernel
theorem d_Mo_drawn_46 : decode m_Mo_drawn.2.1 46 = .ok (.ifCond .ne 6, 3) := by decide +kernel
theorem d_Mo_drawn_51 : decode m_Mo_drawn.2.1 51 = .ok (.ireturn, 1) := by decide +kernel
theorem d_Mo_drawn_53 : decode m_Mo_drawn.2.1 53 = .ok (.invokevirtual 279, 3) := by decide +kernel
theorem c_Mo_drawn_53 : mx_cv m_Mo_drawn m_Mo_layThen 279 0 [1313, 1315, 73, 92, 1316] = true := by decide +kernel
theorem d_Mo_drawn_66 : decode m_Mo_drawn.2.1 66 = .ok (.if_icmp .ge 136, 3) := by decide +kernel
theorem d_Mo_drawn_147 : decode m_Mo_drawn.2.1 147 = .ok (.invokestatic 226, 3) := by decide +kernel
theorem c_Mo_drawn_147 : mx_cs m_Mo_drawn m_Mo_may 226 5 [1155, 1156, 92, 1157] = true := by decide +kernel
theorem d_Mo_drawn_150 : decode m_Mo_drawn.2.1 150 = .ok (.ifCond .eq 46, 3) := by decide +kernel
theorem d_Mo_drawn_199 : decode m_Mo_drawn.2.1 199 = .ok (.goto (-136), 3) := by decide +kernel
theorem d_Mo_drawn_207 : decode m_Mo_drawn.2.1 207 = .ok (.invokevirtual 240, 3) := by decide +kernel
theorem c_Mo_drawn_207 : mx_cv m_Mo_drawn m_Mo_reckon 240 1 [1186, 1188, 56, 92, 1189] = true := by decide +kernel
theorem d_Mo_drawn_211 : decode m_Mo_drawn.2.1 211 = .ok (.ifCond .ne 24, 3) := by decide +kernel
theorem d_Mo_drawn_225 : decode m_Mo_drawn.2.1 225 = .ok (.invokevirtual 253, 3) := by decide +kernel
theorem c_Mo_drawn_225 : mx_cv m_Mo_drawn m_Mo_emptySet 253 1 [1248, 1250, 64, 92, 1251] = true := by decide +kernel
theorem d_Mo_drawn_228 : decode m_Mo_drawn.2.1 228 = .ok (.invokestatic 298, 3) := by decide +kernel
theorem c_Mo_drawn_228 : mx_cs m_Mo_drawn m_Mo_bits 298 1 [1329, 1330, 92, 1331] = true := by decide +kernel
theorem d_Mo_drawn_232 : decode m_Mo_drawn.2.1 232 = .ok (.goto 7, 3) := by decide +kernel
theorem d_Mo_drawn_239 : decode m_Mo_drawn.2.1 239 = .ok (.ireturn, 1) := by decide +kernel
theorem b_Mo_drop_0 : mx_ck m_Mo_drop 0 [(.aload_n 0, [], 0), (.iconst 0, [], nI 0), (.putfield 68, [10, 0, 0, 951], 0), (.iload_n 1, [], 0)] = some 6 := by decide +kernel
theorem b_Mo_drop_12 : mx_ck m_Mo_drop 12 [(.ldc 88, [1061], (-1000001))] = some 14 := by decide +kernel
theorem b_Mo_drop_15 : mx_ck m_Mo_drop 15 [(.aload_n 0, [], 0), (.iconst 0, [], nI 0), (.putfield 72, [10, 1, 0, 952], 0), (.aload_n 0, [], 0), (.getfield 7, [10, 2, 2, 953], 0), (.iload_n 1, [], 0), (.iaload, [], 0)] = some 26 := by decide +kernel
theorem b_Mo_drop_29 : mx_ck m_Mo_drop 29 [(.aload_n 0, [], 0), (.iconst 1, [], nI 1)] = some 31 := by decide +kernel
theorem b_Mo_drop_35 : mx_ck m_Mo_drop 35 [(.aload_n 0, [], 0), (.getfield 7, [10, 2, 2, 953], 0), (.iload_n 1, [], 0), (.iconst (-1), [], (-1)), (.iastore, [], 0), (.aload_n 0, [], 0), (.getfield 13, [10, 3, 3, 954], 0), (.iload_n 1, [], 0), (.iaload, [], 0)] = some 48 := by decide +kernel
theorem d_Mo_drop_6 : decode m_Mo_drop.2.1 6 = .ok (.invokestatic 82, 3) := by decide +kernel
theorem c_Mo_drop_6 : mx_cs m_Mo_drop m_Mo_isRow 82 1 [1053, 1054, 92, 1055] = true := by decide +kernel
theorem d_Mo_drop_9 : decode m_Mo_drop.2.1 9 = .ok (.ifCond .ne 6, 3) := by decide +kernel
theorem d_Mo_drop_14 : decode m_Mo_drop.2.1 14 = .ok (.ireturn, 1) := by decide +kernel
theorem d_Mo_drop_26 : decode m_Mo_drop.2.1 26 = .ok (.ifCond .ge 9, 3) := by decide +kernel
theorem d_Mo_drop_31 : decode m_Mo_drop.2.1 31 = .ok (.invokevirtual 89, 3) := by decide +kernel
theorem c_Mo_drop_31 : mx_cv m_Mo_drop m_Mo_finding 89 1 [1062, 1064, 40, 92, 1065] = true := by decide +kernel
theorem d_Mo_drop_34 : decode m_Mo_drop.2.1 34 = .ok (.ireturn, 1) := by decide +kernel
theorem d_Mo_drop_48 : decode m_Mo_drop.2.1 48 = .ok (.ireturn, 1) := by decide +kernel
theorem b_Mo_empties_0 : mx_ck m_Mo_empties 0 [(.aload_n 0, [], 0), (.iconst 0, [], nI 0), (.putfield 68, [10, 0, 0, 951], 0), (.aload_n 0, [], 0)] = some 6 := by decide +kernel
theorem b_Mo_empties_12 : mx_ck m_Mo_empties 12 [(.ldc 233, [1166], (-1000002))] = some 14 := by decide +kernel
theorem b_Mo_empties_15 : mx_ck m_Mo_empties 15 [(.aload_n 0, [], 0), (.aload_n 0, [], 0), (.getfield 19, [10, 5, 5, 956], 0)] = some 20 := by decide +kernel
theorem b_Mo_empties_23 : mx_ck m_Mo_empties 23 [(.aload_n 0, [], 0), (.aload_n 0, [], 0), (.getfield 19, [10, 5, 5, 956], 0)] = some 28 := by decide +kernel
theorem d_Mo_empties_6 : decode m_Mo_empties.2.1 6 = .ok (.invokevirtual 234, 3) := by decide +kernel
theorem c_Mo_empties_6 : mx_cv m_Mo_empties m_Mo_isThere 234 0 [1178, 1180, 54, 92, 1181] = true := by decide +kernel
theorem d_Mo_empties_9 : decode m_Mo_empties.2.1 9 = .ok (.ifCond .ne 6, 3) := by decide +kernel
theorem d_Mo_empties_14 : decode m_Mo_empties.2.1 14 = .ok (.ireturn, 1) := by decide +kernel
theorem d_Mo_empties_20 : decode m_Mo_empties.2.1 20 = .ok (.invokevirtual 240, 3) := by decide +kernel
theorem c_Mo_empties_20 : mx_cv m_Mo_empties m_Mo_reckon 240 1 [1186, 1188, 56, 92, 1189] = true := by decide +kernel
theorem d_Mo_empties_28 : decode m_Mo_empties.2.1 28 = .ok (.invokevirtual 253, 3) := by decide +kernel
theorem c_Mo_empties_28 : mx_cv m_Mo_empties m_Mo_emptySet 253 1 [1248, 1250, 64, 92, 1251] = true := by decide +kernel
theorem d_Mo_empties_31 : decode m_Mo_empties.2.1 31 = .ok (.ireturn, 1) := by decide +kernel
theorem b_Mo_emptySet_0 : mx_ck m_Mo_emptySet 0 [(.iconst 0, [], nI 0), (.istore_n 2, [], 0), (.iconst 0, [], nI 0), (.istore_n 3, [], 0)] = some 4 := by decide +kernel
theorem b_Mo_emptySet_4 : mx_ck m_Mo_emptySet 4 [(.iload_n 3, [], 0), (.aload_n 1, [], 0), (.iconst 0, [], nI 0), (.iaload, [], 0)] = some 8 := by decide +kernel
theorem b_Mo_emptySet_11 : mx_ck m_Mo_emptySet 11 [(.iload_n 2, [], 0), (.aload_n 0, [], 0), (.iload_n 3, [], 0)] = some 14 := by decide +kernel
theorem b_Mo_emptySet_20 : mx_ck m_Mo_emptySet 20 [(.iconst 1, [], nI 1), (.iload_n 3, [], 0), (.ishl, [], 0)] = some 23 := by decide +kernel
theorem b_Mo_emptySet_26 : mx_ck m_Mo_emptySet 26 [(.iconst 0, [], nI 0)] = some 27 := by decide +kernel
theorem b_Mo_emptySet_27 : mx_ck m_Mo_emptySet 27 [(.ior, [], 0), (.istore_n 2, [], 0), (.iinc 3 1, [], nI 1)] = some 32 := by decide +kernel
theorem b_Mo_emptySet_35 : mx_ck m_Mo_emptySet 35 [(.iload_n 2, [], 0)] = some 36 := by decide +kernel
theorem d_Mo_emptySet_8 : decode m_Mo_emptySet.2.1 8 = .ok (.if_icmp .ge 27, 3) := by decide +kernel
theorem d_Mo_emptySet_14 : decode m_Mo_emptySet.2.1 14 = .ok (.invokevirtual 250, 3) := by decide +kernel
theorem c_Mo_emptySet_14 : mx_cv m_Mo_emptySet m_Mo_isEmpty 250 1 [1252, 1254, 65, 92, 1255] = true := by decide +kernel
theorem d_Mo_emptySet_17 : decode m_Mo_emptySet.2.1 17 = .ok (.ifCond .eq 9, 3) := by decide +kernel
theorem d_Mo_emptySet_23 : decode m_Mo_emptySet.2.1 23 = .ok (.goto 4, 3) := by decide +kernel
theorem d_Mo_emptySet_32 : decode m_Mo_emptySet.2.1 32 = .ok (.goto (-28), 3) := by decide +kernel
theorem d_Mo_emptySet_36 : decode m_Mo_emptySet.2.1 36 = .ok (.ireturn, 1) := by decide +kernel
theorem b_Mo_ends_0 : mx_ck m_Mo_ends 0 [(.aload_n 0, [], 0), (.iconst 0, [], nI 0), (.putfield 68, [10, 0, 0, 951], 0), (.aload_n 0, [], 0), (.iload_n 1, [], 0)] = some 7 := by decide +kernel
theorem b_Mo_ends_13 : mx_ck m_Mo_ends 13 [(.iload_n 2, [], 0), (.i2l, [], 0), (.lconst 0, [0], 0), (.lconst 1, [1], 0)] = some 17 := by decide +kernel
theorem b_Mo_ends_23 : mx_ck m_Mo_ends 23 [(.ldc 88, [1061], (-1000001))] = some 25 := by decide +kernel
theorem b_Mo_ends_26 : mx_ck m_Mo_ends 26 [(.aload_n 0, [], 0), (.aload_n 0, [], 0), (.getfield 19, [10, 5, 5, 956], 0)] = some 31 := by decide +kernel
theorem b_Mo_ends_34 : mx_ck m_Mo_ends 34 [(.aload_n 0, [], 0), (.iload_n 1, [], 0)] = some 36 := by decide +kernel
theorem b_Mo_ends_42 : mx_ck m_Mo_ends 42 [(.aload_n 0, [], 0)] = some 43 := by decide +kernel
theorem b_Mo_ends_47 : mx_ck m_Mo_ends 47 [(.aload_n 0, [], 0), (.iload_n 1, [], 0)] = some 49 := by decide +kernel
theorem b_Mo_ends_52 : mx_ck m_Mo_ends 52 [(.iconst 2, [], nI 2)] = some 53 := by decide +kernel
theorem b_Mo_ends_56 : mx_ck m_Mo_ends 56 [(.iconst 0, [], nI 0)] = some 57 := by decide +kernel
theorem b_Mo_ends_58 : mx_ck m_Mo_ends 58 [(.aload_n 0, [], 0)] = some 59 := by decide +kernel
theorem b_Mo_ends_62 : mx_ck m_Mo_ends 62 [(.istore_n 3, [], 0), (.iconst 0, [], nI 0), (.istore 4, [], 0)] = some 66 := by decide +kernel
theorem b_Mo_ends_66 : mx_ck m_Mo_ends 66 [(.iload 4, [], 0), (.aload_n 0, [], 0), (.getfield 185, [10, 22, 0, 973], 0)] = some 72 := by decide +kernel
theorem b_Mo_ends_75 : mx_ck m_Mo_ends 75 [(.iconst 0, [], nI 0), (.istore 5, [], 0)] = some 78 := by decide +kernel
theorem b_Mo_ends_78 : mx_ck m_Mo_ends 78 [(.iload 5, [], 0), (.aload_n 0, [], 0), (.getfield 185, [10, 22, 0, 973], 0)] = some 84 := by decide +kernel
theorem b_Mo_ends_87 : mx_ck m_Mo_ends 87 [(.aload_n 0, [], 0), (.getfield 19, [10, 5, 5, 956], 0), (.aload_n 0, [], 0), (.getfield 40, [10, 21, 12, 972], 0), (.iload 4, [], 0), (.iaload, [], 0), (.aload_n 0, [], 0), (.getfield 40, [10, 21, 12, 972], 0), (.iload 5, [], 0), (.iaload, [], 0)] = some 105 := by decide +kernel
theorem b_Mo_ends_108 : mx_ck m_Mo_ends 108 [(.iload_n 1, [], 0)] = some 109 := by decide +kernel
theorem b_Mo_ends_115 : mx_ck m_Mo_ends 115 [(.iload_n 3, [], 0), (.aload_n 0, [], 0), (.getfield 40, [10, 21, 12, 972], 0), (.iload_n 2, [], 0)] = some 121 := by decide +kernel
theorem b_Mo_ends_124 : mx_ck m_Mo_ends 124 [(.iload 4, [], 0)] = some 126 := by decide +kernel
theorem b_Mo_ends_129 : mx_ck m_Mo_ends 129 [(.iload 5, [], 0)] = some 131 := by decide +kernel
theorem b_Mo_ends_131 : mx_ck m_Mo_ends 131 [(.iaload, [], 0), (.iand, [], 0), (.istore_n 3, [], 0)] = some 134 := by decide +kernel
theorem b_Mo_ends_134 : mx_ck m_Mo_ends 134 [(.iinc 5 1, [], nI 1)] = some 137 := by decide +kernel
theorem b_Mo_ends_140 : mx_ck m_Mo_ends 140 [(.iinc 4 1, [], nI 1)] = some 143 := by decide +kernel
theorem b_Mo_ends_146 : mx_ck m_Mo_ends 146 [(.iload_n 3, [], 0)] = some 147 := by decide +kernel
theorem d_Mo_ends_7 : decode m_Mo_ends.2.1 7 = .ok (.invokevirtual 221, 3) := by decide +kernel
theorem c_Mo_ends_7 : mx_cv m_Mo_ends m_Mo_isType 221 1 [1150, 1152, 52, 92, 1153] = true := by decide +kernel
theorem d_Mo_ends_10 : decode m_Mo_ends.2.1 10 = .ok (.ifCond .eq 13, 3) := by decide +kernel
theorem d_Mo_ends_17 : decode m_Mo_ends.2.1 17 = .ok (.invokestatic 78, 3) := by decide +kernel
theorem c_Mo_ends_17 : mx_cs m_Mo_ends m_Mo_in 78 3 [1057, 1058, 92, 1059] = true := by decide +kernel
theorem d_Mo_ends_20 : decode m_Mo_ends.2.1 20 = .ok (.ifCond .ne 6, 3) := by decide +kernel
theorem d_Mo_ends_25 : decode m_Mo_ends.2.1 25 = .ok (.ireturn, 1) := by decide +kernel
theorem d_Mo_ends_31 : decode m_Mo_ends.2.1 31 = .ok (.invokevirtual 240, 3) := by decide +kernel
theorem c_Mo_ends_31 : mx_cv m_Mo_ends m_Mo_reckon 240 1 [1186, 1188, 56, 92, 1189] = true := by decide +kernel
theorem d_Mo_ends_36 : decode m_Mo_ends.2.1 36 = .ok (.invokevirtual 250, 3) := by decide +kernel
theorem c_Mo_ends_36 : mx_cv m_Mo_ends m_Mo_isEmpty 250 1 [1252, 1254, 65, 92, 1255] = true := by decide +kernel
theorem d_Mo_ends_39 : decode m_Mo_ends.2.1 39 = .ok (.ifCond .eq 8, 3) := by decide +kernel
theorem d_Mo_ends_43 : decode m_Mo_ends.2.1 43 = .ok (.invokevirtual 257, 3) := by decide +kernel
theorem c_Mo_ends_43 : mx_cv m_Mo_ends m_Mo_everyType 257 0 [1268, 1270, 67, 92, 1271] = true := by decide +kernel
theorem d_Mo_ends_46 : decode m_Mo_ends.2.1 46 = .ok (.ireturn, 1) := by decide +kernel
theorem d_Mo_ends_49 : decode m_Mo_ends.2.1 49 = .ok (.invokevirtual 218, 3) := by decide +kernel
theorem c_Mo_ends_49 : mx_cv m_Mo_ends m_Mo_sortsOf 218 1 [1256, 1258, 66, 92, 1259] = true := by decide +kernel
theorem d_Mo_ends_53 : decode m_Mo_ends.2.1 53 = .ok (.if_icmp .eq 5, 3) := by decide +kernel
theorem d_Mo_ends_57 : decode m_Mo_ends.2.1 57 = .ok (.ireturn, 1) := by decide +kernel
theorem d_Mo_ends_59 : decode m_Mo_ends.2.1 59 = .ok (.invokevirtual 257, 3) := by decide +kernel
theorem c_Mo_ends_59 : mx_cv m_Mo_ends m_Mo_everyType 257 0 [1268, 1270, 67, 92, 1271] = true := by decide +kernel
theorem d_Mo_ends_72 : decode m_Mo_ends.2.1 72 = .ok (.if_icmp .ge 74, 3) := by decide +kernel
theorem d_Mo_ends_84 : decode m_Mo_ends.2.1 84 = .ok (.if_icmp .ge 56, 3) := by decide +kernel
theorem d_Mo_ends_105 : decode m_Mo_ends.2.1 105 = .ok (.invokestatic 215, 3) := by decide +kernel
theorem c_Mo_ends_105 : mx_cs m_Mo_ends m_Mo_pairCell 215 3 [1221, 1222, 92, 1223] = true := by decide +kernel
theorem d_Mo_ends_109 : decode m_Mo_ends.2.1 109 = .ok (.invokestatic 177, 3) := by decide +kernel
theorem c_Mo_ends_109 : mx_cs m_Mo_ends m_Mo_has 177 2 [1200, 1201, 92, 1202] = true := by decide +kernel
theorem d_Mo_ends_112 : decode m_Mo_ends.2.1 112 = .ok (.ifCond .eq 22, 3) := by decide +kernel
theorem d_Mo_ends_121 : decode m_Mo_ends.2.1 121 = .ok (.ifCond .ne 8, 3) := by decide +kernel
theorem d_Mo_ends_126 : decode m_Mo_ends.2.1 126 = .ok (.goto 5, 3) := by decide +kernel
theorem d_Mo_ends_137 : decode m_Mo_ends.2.1 137 = .ok (.goto (-59), 3) := by decide +kernel
theorem d_Mo_ends_143 : decode m_Mo_ends.2.1 143 = .ok (.goto (-77), 3) := by decide +kernel
theorem d_Mo_ends_147 : decode m_Mo_ends.2.1 147 = .ok (.ireturn, 1) := by decide +kernel
theorem b_Mo_everyType_0 : mx_ck m_Mo_everyType 0 [(.iconst 1, [], nI 1), (.aload_n 0, [], 0), (.getfield 19, [10, 5, 5, 956], 0), (.iconst 0, [], nI 0), (.iaload, [], 0), (.ishl, [], 0), (.iconst 1, [], nI 1), (.isub, [], 0)] = some 10 := by decide +kernel
theorem d_Mo_everyType_10 : decode m_Mo_everyType.2.1 10 = .ok (.ireturn, 1) := by decide +kernel
theorem b_Mo_failed_0 : mx_ck m_Mo_failed 0 [(.aload_n 0, [], 0), (.getfield 99, [10, 16, 0, 967], 0)] = some 4 := by decide +kernel
theorem b_Mo_failed_7 : mx_ck m_Mo_failed 7 [(.aload_n 0, [], 0), (.getfield 123, [10, 14, 0, 965], 0), (.iconst 1, [], nI 1)] = some 12 := by decide +kernel
theorem b_Mo_failed_15 : mx_ck m_Mo_failed 15 [(.aload_n 0, [], 0), (.iconst 1, [], nI 1)] = some 17 := by decide +kernel
theorem b_Mo_failed_20 : mx_ck m_Mo_failed 20 [(.aload_n 0, [], 0), (.iconst 0, [], nI 0), (.putfield 95, [10, 11, 0, 962], 0), (.aload_n 0, [], 0), (.aload_n 0, [], 0), (.getfield 99, [10, 16, 0, 967], 0)] = some 30 := by decide +kernel
theorem b_Mo_failed_33 : mx_ck m_Mo_failed 33 [(.aload_n 0, [], 0), (.getfield 99, [10, 16, 0, 967], 0)] = some 37 := by decide +kernel
theorem b_Mo_failed_40 : mx_ck m_Mo_failed 40 [(.aload_n 0, [], 0), (.getfield 137, [10, 18, 0, 969], 0)] = some 44 := by decide +kernel
theorem b_Mo_failed_44 : mx_ck m_Mo_failed 44 [(.putfield 137, [10, 18, 0, 969], 0), (.aload_n 0, [], 0), (.getfield 99, [10, 16, 0, 967], 0)] = some 51 := by decide +kernel
theorem b_Mo_failed_54 : mx_ck m_Mo_failed 54 [(.iconst 1, [], nI 1)] = some 55 := by decide +kernel
theorem b_Mo_failed_58 : mx_ck m_Mo_failed 58 [(.iconst 0, [], nI 0)] = some 59 := by decide +kernel
theorem d_Mo_failed_4 : decode m_Mo_failed.2.1 4 = .ok (.ifCond .ne 16, 3) := by decide +kernel
theorem d_Mo_failed_12 : decode m_Mo_failed.2.1 12 = .ok (.if_icmp .eq 8, 3) := by decide +kernel
theorem d_Mo_failed_17 : decode m_Mo_failed.2.1 17 = .ok (.invokevirtual 126, 3) := by decide +kernel
theorem c_Mo_failed_17 : mx_cv m_Mo_failed m_Mo_bad 126 1 [1114, 1116, 45, 92, 1117] = true := by decide +kernel
theorem d_Mo_failed_30 : decode m_Mo_failed.2.1 30 = .ok (.ifCond .le 10, 3) := by decide +kernel
theorem d_Mo_failed_37 : decode m_Mo_failed.2.1 37 = .ok (.goto 7, 3) := by decide +kernel
theorem d_Mo_failed_51 : decode m_Mo_failed.2.1 51 = .ok (.ifCond .le 7, 3) := by decide +kernel
theorem d_Mo_failed_55 : decode m_Mo_failed.2.1 55 = .ok (.goto 4, 3) := by decide +kernel
theorem d_Mo_failed_59 : decode m_Mo_failed.2.1 59 = .ok (.ireturn, 1) := by decide +kernel
theorem b_Mo_fault_0 : mx_ck m_Mo_fault 0 [(.aload_n 0, [], 0), (.iconst 0, [], nI 0), (.putfield 68, [10, 0, 0, 951], 0), (.aload_n 0, [], 0), (.getfield 137, [10, 18, 0, 969], 0)] = some 9 := by decide +kernel
theorem d_Mo_fault_9 : decode m_Mo_fault.2.1 9 = .ok (.ireturn, 1) := by decide +kernel
theorem b_Mo_feed_0 : mx_ck m_Mo_feed 0 [(.aload_n 0, [], 0), (.iconst 0, [], nI 0), (.putfield 68, [10, 0, 0, 951], 0), (.iload_n 1, [], 0), (.i2l, [], 0), (.lconst 0, [0], 0), (.ldc2_w 93, [255, 1083], 0)] = some 11 := by decide +kernel
theorem b_Mo_feed_17 : mx_ck m_Mo_feed 17 [(.ldc 88, [1061], (-1000001))] = some 19 := by decide +kernel
theorem b_Mo_feed_20 : mx_ck m_Mo_feed 20 [(.aload_n 0, [], 0), (.getfield 95, [10, 11, 0, 962], 0), (.bipush 80, [], nI 80)] = some 26 := by decide +kernel
theorem b_Mo_feed_29 : mx_ck m_Mo_feed 29 [(.ldc 98, [1084], (-1000003))] = some 31 := by decide +kernel
theorem b_Mo_feed_32 : mx_ck m_Mo_feed 32 [(.aload_n 0, [], 0), (.getfield 31, [10, 10, 9, 961], 0), (.aload_n 0, [], 0), (.getfield 95, [10, 11, 0, 962], 0), (.iload_n 1, [], 0), (.iastore, [], 0), (.aload_n 0, [], 0), (.dup, [], 0), (.getfield 95, [10, 11, 0, 962], 0), (.iconst 1, [], nI 1), (.iadd, [], 0), (.putfield 95, [10, 11, 0, 962], 0), (.aload_n 0, [], 0), (.getfield 95, [10, 11, 0, 962], 0)] = some 56 := by decide +kernel
theorem d_Mo_feed_11 : decode m_Mo_feed.2.1 11 = .ok (.invokestatic 78, 3) := by decide +kernel
theorem c_Mo_feed_11 : mx_cs m_Mo_feed m_Mo_in 78 3 [1057, 1058, 92, 1059] = true := by decide +kernel
theorem d_Mo_feed_14 : decode m_Mo_feed.2.1 14 = .ok (.ifCond .ne 6, 3) := by decide +kernel
theorem d_Mo_feed_19 : decode m_Mo_feed.2.1 19 = .ok (.ireturn, 1) := by decide +kernel
theorem d_Mo_feed_26 : decode m_Mo_feed.2.1 26 = .ok (.if_icmp .ne 6, 3) := by decide +kernel
theorem d_Mo_feed_31 : decode m_Mo_feed.2.1 31 = .ok (.ireturn, 1) := by decide +kernel
theorem d_Mo_feed_56 : decode m_Mo_feed.2.1 56 = .ok (.ireturn, 1) := by decide +kernel
theorem b_Mo_finding_0 : mx_ck m_Mo_finding 0 [(.aload_n 0, [], 0), (.iload_n 1, [], 0), (.putfield 72, [10, 1, 0, 952], 0), (.ldc 75, [1066], (-1000010)), (.iload_n 1, [], 0), (.isub, [], 0)] = some 9 := by decide +kernel
theorem d_Mo_finding_9 : decode m_Mo_finding.2.1 9 = .ok (.ireturn, 1) := by decide +kernel
theorem b_Mo_functionCell_0 : mx_ck m_Mo_functionCell 0 [(.iconst 0, [], nI 0), (.istore_n 2, [], 0), (.iconst 0, [], nI 0), (.istore_n 3, [], 0)] = some 4 := by decide +kernel
theorem b_Mo_functionCell_4 : mx_ck m_Mo_functionCell 4 [(.iload_n 3, [], 0), (.aload_n 0, [], 0), (.iconst 0, [], nI 0), (.iaload, [], 0)] = some 8 := by decide +kernel
theorem b_Mo_functionCell_11 : mx_ck m_Mo_functionCell 11 [(.iload_n 2, [], 0), (.aload_n 0, [], 0), (.iload_n 3, [], 0), (.iconst 0, [], nI 0)] = some 15 := by decide +kernel
theorem b_Mo_functionCell_18 : mx_ck m_Mo_functionCell 18 [(.iconst 2, [], nI 2)] = some 19 := by decide +kernel
theorem b_Mo_functionCell_22 : mx_ck m_Mo_functionCell 22 [(.iload_n 1, [], 0), (.iload_n 3, [], 0)] = some 24 := by decide +kernel
theorem b_Mo_functionCell_30 : mx_ck m_Mo_functionCell 30 [(.iconst 1, [], nI 1), (.iload_n 3, [], 0), (.ishl, [], 0)] = some 33 := by decide +kernel
theorem b_Mo_functionCell_36 : mx_ck m_Mo_functionCell 36 [(.iconst 0, [], nI 0)] = some 37 := by decide +kernel
theorem b_Mo_functionCell_37 : mx_ck m_Mo_functionCell 37 [(.ior, [], 0), (.istore_n 2, [], 0), (.iinc 3 1, [], nI 1)] = some 42 := by decide +kernel
theorem b_Mo_functionCell_45 : mx_ck m_Mo_functionCell 45 [(.aload_n 0, [], 0), (.iload_n 2, [], 0)] = some 47 := by decide +kernel
theorem d_Mo_functionCell_8 : decode m_Mo_functionCell.2.1 8 = .ok (.if_icmp .ge 37, 3) := by decide +kernel
theorem d_Mo_functionCell_15 : decode m_Mo_functionCell.2.1 15 = .ok (.invokestatic 173, 3) := by decide +kernel
theorem c_Mo_functionCell_15 : mx_cs m_Mo_functionCell m_Mo_of 173 3 [1171, 1172, 92, 1173] = true := by decide +kernel
theorem d_Mo_functionCell_19 : decode m_Mo_functionCell.2.1 19 = .ok (.if_icmp .ne 17, 3) := by decide +kernel
theorem d_Mo_functionCell_24 : decode m_Mo_functionCell.2.1 24 = .ok (.invokestatic 177, 3) := by decide +kernel
theorem c_Mo_functionCell_24 : mx_cs m_Mo_functionCell m_Mo_has 177 2 [1200, 1201, 92, 1202] = true := by decide +kernel
theorem d_Mo_functionCell_27 : decode m_Mo_functionCell.2.1 27 = .ok (.ifCond .ne 9, 3) := by decide +kernel
theorem d_Mo_functionCell_33 : decode m_Mo_functionCell.2.1 33 = .ok (.goto 4, 3) := by decide +kernel
theorem d_Mo_functionCell_42 : decode m_Mo_functionCell.2.1 42 = .ok (.goto (-38), 3) := by decide +kernel
theorem d_Mo_functionCell_47 : decode m_Mo_functionCell.2.1 47 = .ok (.invokestatic 181, 3) := by decide +kernel
theorem c_Mo_functionCell_47 : mx_cs m_Mo_functionCell m_Mo_cellOf 181 2 [1197, 1198, 92, 1199] = true := by decide +kernel
theorem d_Mo_functionCell_50 : decode m_Mo_functionCell.2.1 50 = .ok (.ireturn, 1) := by decide +kernel
theorem b_Mo_gather_0 : mx_ck m_Mo_gather 0 [(.aload_n 0, [], 0), (.iconst 0, [], nI 0), (.putfield 185, [10, 22, 0, 973], 0), (.iconst 0, [], nI 0), (.istore_n 1, [], 0)] = some 7 := by decide +kernel
theorem b_Mo_gather_7 : mx_ck m_Mo_gather 7 [(.iload_n 1, [], 0), (.sipush 256, [], nI 256)] = some 11 := by decide +kernel
theorem b_Mo_gather_14 : mx_ck m_Mo_gather 14 [(.aload_n 0, [], 0), (.getfield 34, [10, 19, 10, 970], 0), (.iload_n 1, [], 0), (.iaload, [], 0)] = some 20 := by decide +kernel
theorem b_Mo_gather_23 : mx_ck m_Mo_gather 23 [(.aload_n 0, [], 0), (.getfield 40, [10, 21, 12, 972], 0), (.aload_n 0, [], 0), (.getfield 185, [10, 22, 0, 973], 0), (.iload_n 1, [], 0), (.iastore, [], 0), (.aload_n 0, [], 0), (.dup, [], 0), (.getfield 185, [10, 22, 0, 973], 0), (.iconst 1, [], nI 1), (.iadd, [], 0), (.putfield 185, [10, 22, 0, 973], 0)] = some 43 := by decide +kernel
theorem b_Mo_gather_43 : mx_ck m_Mo_gather 43 [(.iinc 1 1, [], nI 1)] = some 46 := by decide +kernel
theorem d_Mo_gather_11 : decode m_Mo_gather.2.1 11 = .ok (.if_icmp .ge 38, 3) := by decide +kernel
theorem d_Mo_gather_20 : decode m_Mo_gather.2.1 20 = .ok (.ifCond .le 23, 3) := by decide +kernel
theorem d_Mo_gather_46 : decode m_Mo_gather.2.1 46 = .ok (.goto (-39), 3) := by decide +kernel
theorem d_Mo_gather_49 : decode m_Mo_gather.2.1 49 = .ok (.return_, 1) := by decide +kernel
theorem b_Mo_goOn_0 : mx_ck m_Mo_goOn 0 [(.aload_n 0, [], 0), (.getfield 34, [10, 19, 10, 970], 0), (.iload_n 2, [], 0), (.iaload, [], 0), (.iload_n 3, [], 0), (.iconst 1, [], nI 1), (.isub, [], 0)] = some 9 := by decide +kernel
theorem b_Mo_goOn_12 : mx_ck m_Mo_goOn 12 [(.iconst 1, [], nI 1)] = some 13 := by decide +kernel
theorem b_Mo_goOn_16 : mx_ck m_Mo_goOn 16 [(.iconst 0, [], nI 0)] = some 17 := by decide +kernel
theorem b_Mo_goOn_17 : mx_ck m_Mo_goOn 17 [(.istore 4, [], 0), (.iload 4, [], 0)] = some 21 := by decide +kernel
theorem b_Mo_goOn_24 : mx_ck m_Mo_goOn 24 [(.aload_n 0, [], 0), (.getfield 43, [10, 23, 13, 974], 0), (.aload_n 1, [], 0), (.iload_n 2, [], 0), (.iconst (-1), [], (-1))] = some 31 := by decide +kernel
theorem b_Mo_goOn_34 : mx_ck m_Mo_goOn 34 [(.iconst 1, [], nI 1), (.bastore, [], 0)] = some 36 := by decide +kernel
theorem b_Mo_goOn_36 : mx_ck m_Mo_goOn 36 [(.iconst 0, [], nI 0), (.istore 5, [], 0)] = some 39 := by decide +kernel
theorem b_Mo_goOn_39 : mx_ck m_Mo_goOn 39 [(.iload 5, [], 0), (.aload_n 0, [], 0), (.getfield 185, [10, 22, 0, 973], 0)] = some 45 := by decide +kernel
theorem b_Mo_goOn_48 : mx_ck m_Mo_goOn 48 [(.aload_n 0, [], 0), (.getfield 40, [10, 21, 12, 972], 0), (.iload 5, [], 0), (.iaload, [], 0), (.istore 6, [], 0), (.iload 4, [], 0)] = some 59 := by decide +kernel
theorem b_Mo_goOn_62 : mx_ck m_Mo_goOn 62 [(.aload_n 0, [], 0), (.getfield 34, [10, 19, 10, 970], 0), (.iload 6, [], 0), (.iaload, [], 0), (.iload_n 3, [], 0), (.iconst 1, [], nI 1), (.isub, [], 0)] = some 72 := by decide +kernel
theorem b_Mo_goOn_75 : mx_ck m_Mo_goOn 75 [(.aload_n 0, [], 0), (.aload_n 1, [], 0), (.iload_n 2, [], 0), (.iload 6, [], 0)] = some 80 := by decide +kernel
theorem b_Mo_goOn_83 : mx_ck m_Mo_goOn 83 [(.iconst 2, [], nI 2), (.iload_n 3, [], 0)] = some 85 := by decide +kernel
theorem b_Mo_goOn_88 : mx_ck m_Mo_goOn 88 [(.aload_n 0, [], 0), (.getfield 43, [10, 23, 13, 974], 0), (.aload_n 1, [], 0), (.iload_n 2, [], 0), (.iload 6, [], 0)] = some 96 := by decide +kernel
theorem b_Mo_goOn_99 : mx_ck m_Mo_goOn 99 [(.iconst 1, [], nI 1), (.bastore, [], 0)] = some 101 := by decide +kernel
theorem b_Mo_goOn_101 : mx_ck m_Mo_goOn 101 [(.iinc 5 1, [], nI 1)] = some 104 := by decide +kernel
theorem d_Mo_goOn_9 : decode m_Mo_goOn.2.1 9 = .ok (.if_icmp .ne 7, 3) := by decide +kernel
theorem d_Mo_goOn_13 : decode m_Mo_goOn.2.1 13 = .ok (.goto 4, 3) := by decide +kernel
theorem d_Mo_goOn_21 : decode m_Mo_goOn.2.1 21 = .ok (.ifCond .eq 15, 3) := by decide +kernel
theorem d_Mo_goOn_31 : decode m_Mo_goOn.2.1 31 = .ok (.invokestatic 188, 3) := by decide +kernel
theorem c_Mo_goOn_31 : mx_cs m_Mo_goOn m_Mo_breaks 188 3 [1218, 1219, 92, 1220] = true := by decide +kernel
theorem d_Mo_goOn_45 : decode m_Mo_goOn.2.1 45 = .ok (.if_icmp .ge 62, 3) := by decide +kernel
theorem d_Mo_goOn_59 : decode m_Mo_goOn.2.1 59 = .ok (.ifCond .ne 16, 3) := by decide +kernel
theorem d_Mo_goOn_72 : decode m_Mo_goOn.2.1 72 = .ok (.if_icmp .ne 29, 3) := by decide +kernel
theorem d_Mo_goOn_80 : decode m_Mo_goOn.2.1 80 = .ok (.invokestatic 215, 3) := by decide +kernel
theorem c_Mo_goOn_80 : mx_cs m_Mo_goOn m_Mo_pairCell 215 3 [1221, 1222, 92, 1223] = true := by decide +kernel
theorem d_Mo_goOn_85 : decode m_Mo_goOn.2.1 85 = .ok (.invokevirtual 201, 3) := by decide +kernel
theorem c_Mo_goOn_85 : mx_cv m_Mo_goOn m_Mo_comes 201 3 [1203, 1205, 58, 92, 1206] = true := by decide +kernel
theorem d_Mo_goOn_96 : decode m_Mo_goOn.2.1 96 = .ok (.invokestatic 188, 3) := by decide +kernel
theorem c_Mo_goOn_96 : mx_cs m_Mo_goOn m_Mo_breaks 188 3 [1218, 1219, 92, 1220] = true := by decide +kernel
theorem d_Mo_goOn_104 : decode m_Mo_goOn.2.1 104 = .ok (.goto (-65), 3) := by decide +kernel
theorem d_Mo_goOn_107 : decode m_Mo_goOn.2.1 107 = .ok (.return_, 1) := by decide +kernel
theorem b_Mo_has_0 : mx_ck m_Mo_has 0 [(.iload_n 0, [], 0), (.iload_n 1, [], 0), (.ishr, [], 0), (.iconst 1, [], nI 1), (.iand, [], 0), (.iconst 1, [], nI 1)] = some 6 := by decide +kernel
theorem b_Mo_has_9 : mx_ck m_Mo_has 9 [(.iconst 1, [], nI 1)] = some 10 := by decide +kernel
theorem b_Mo_has_13 : mx_ck m_Mo_has 13 [(.iconst 0, [], nI 0)] = some 14 := by decide +kernel
theorem d_Mo_has_6 : decode m_Mo_has.2.1 6 = .ok (.if_icmp .ne 7, 3) := by decide +kernel
theorem d_Mo_has_10 : decode m_Mo_has.2.1 10 = .ok (.goto 4, 3) := by decide +kernel
theorem d_Mo_has_14 : decode m_Mo_has.2.1 14 = .ok (.ireturn, 1) := by decide +kernel
theorem b_Mo_house_0 : mx_ck m_Mo_house 0 [(.aload_n 0, [], 0), (.iconst 0, [], nI 0), (.putfield 68, [10, 0, 0, 951], 0), (.aload_n 0, [], 0)] = some 6 := by decide +kernel
theorem b_Mo_house_9 : mx_ck m_Mo_house 9 [(.iconst 0, [], nI 0), (.istore_n 1, [], 0)] = some 11 := by decide +kernel
theorem b_Mo_house_11 : mx_ck m_Mo_house 11 [(.iload_n 1, [], 0), (.bipush 26, [], nI 26)] = some 14 := by decide +kernel
theorem b_Mo_house_17 : mx_ck m_Mo_house 17 [(.aload_n 0, [], 0), (.getfield 22, [10, 6, 6, 957], 0), (.iload_n 1, [], 0), (.iconst 0, [], nI 0), (.iastore, [], 0), (.iinc 1 1, [], nI 1)] = some 27 := by decide +kernel
theorem b_Mo_house_30 : mx_ck m_Mo_house 30 [(.aload_n 0, [], 0), (.aload_n 0, [], 0), (.bipush 115, [], nI 115)] = some 34 := by decide +kernel
theorem b_Mo_house_40 : mx_ck m_Mo_house 40 [(.aload_n 0, [], 0), (.getfield 22, [10, 6, 6, 957], 0), (.iconst 1, [], nI 1), (.aload_n 0, [], 0), (.iconst 1, [], nI 1), (.iconst 4, [], nI 4)] = some 48 := by decide +kernel
theorem b_Mo_house_51 : mx_ck m_Mo_house 51 [(.iastore, [], 0), (.aload_n 0, [], 0), (.bipush 59, [], nI 59)] = some 55 := by decide +kernel
theorem b_Mo_house_58 : mx_ck m_Mo_house 58 [(.aload_n 0, [], 0)] = some 59 := by decide +kernel
theorem b_Mo_house_65 : mx_ck m_Mo_house 65 [(.aload_n 0, [], 0), (.iconst 1, [], nI 1)] = some 67 := by decide +kernel
theorem b_Mo_house_70 : mx_ck m_Mo_house 70 [(.aload_n 0, [], 0)] = some 71 := by decide +kernel
theorem b_Mo_house_77 : mx_ck m_Mo_house 77 [(.aload_n 0, [], 0)] = some 78 := by decide +kernel
theorem b_Mo_house_84 : mx_ck m_Mo_house 84 [(.aload_n 0, [], 0), (.getfield 99, [10, 16, 0, 967], 0)] = some 88 := by decide +kernel
theorem b_Mo_house_91 : mx_ck m_Mo_house 91 [(.aload_n 0, [], 0), (.getfield 123, [10, 14, 0, 965], 0), (.iconst 1, [], nI 1)] = some 96 := by decide +kernel
theorem b_Mo_house_99 : mx_ck m_Mo_house 99 [(.aload_n 0, [], 0)] = some 100 := by decide +kernel
theorem b_Mo_house_106 : mx_ck m_Mo_house 106 [(.aload_n 0, [], 0), (.iconst 4, [], nI 4)] = some 108 := by decide +kernel
theorem b_Mo_house_111 : mx_ck m_Mo_house 111 [(.aload_n 0, [], 0)] = some 112 := by decide +kernel
theorem b_Mo_house_118 : mx_ck m_Mo_house 118 [(.ldc 169, [1145], (-1000100)), (.aload_n 0, [], 0), (.getfield 105, [10, 17, 0, 968], 0), (.isub, [], 0)] = some 125 := by decide +kernel
theorem b_Mo_house_126 : mx_ck m_Mo_house 126 [(.aload_n 0, [], 0), (.iconst 0, [], nI 0), (.putfield 170, [10, 9, 0, 960], 0), (.iconst 0, [], nI 0), (.istore_n 1, [], 0)] = some 133 := by decide +kernel
theorem b_Mo_house_133 : mx_ck m_Mo_house 133 [(.iload_n 1, [], 0), (.bipush 26, [], nI 26)] = some 136 := by decide +kernel
theorem b_Mo_house_139 : mx_ck m_Mo_house 139 [(.aload_n 0, [], 0), (.getfield 19, [10, 5, 5, 956], 0), (.iload_n 1, [], 0), (.aload_n 0, [], 0), (.getfield 22, [10, 6, 6, 957], 0), (.iload_n 1, [], 0), (.iaload, [], 0), (.iastore, [], 0), (.iinc 1 1, [], nI 1)] = some 154 := by decide +kernel
theorem b_Mo_house_157 : mx_ck m_Mo_house 157 [(.aload_n 0, [], 0), (.getfield 19, [10, 5, 5, 956], 0), (.iconst 0, [], nI 0), (.iaload, [], 0)] = some 163 := by decide +kernel
theorem d_Mo_house_6 : decode m_Mo_house.2.1 6 = .ok (.invokevirtual 150, 3) := by decide +kernel
theorem c_Mo_house_6 : mx_cv m_Mo_house m_Mo_begin 150 0 [1093, 1095, 41, 92, 1096] = true := by decide +kernel
theorem d_Mo_house_14 : decode m_Mo_house.2.1 14 = .ok (.if_icmp .ge 16, 3) := by decide +kernel
theorem d_Mo_house_27 : decode m_Mo_house.2.1 27 = .ok (.goto (-16), 3) := by decide +kernel
theorem d_Mo_house_34 : decode m_Mo_house.2.1 34 = .ok (.invokevirtual 153, 3) := by decide +kernel
theorem c_Mo_house_34 : mx_cv m_Mo_house m_Mo_isLetter 153 1 [1106, 1108, 43, 92, 1109] = true := by decide +kernel
theorem d_Mo_house_37 : decode m_Mo_house.2.1 37 = .ok (.invokevirtual 133, 3) := by decide +kernel
theorem c_Mo_house_37 : mx_cv m_Mo_house m_Mo_must 133 1 [1110, 1112, 44, 92, 1113] = true := by decide +kernel
theorem d_Mo_house_48 : decode m_Mo_house.2.1 48 = .ok (.invokevirtual 143, 3) := by decide +kernel
theorem c_Mo_house_48 : mx_cv m_Mo_house m_Mo_number 143 2 [1118, 1120, 46, 92, 1121] = true := by decide +kernel
theorem d_Mo_house_55 : decode m_Mo_house.2.1 55 = .ok (.invokevirtual 147, 3) := by decide +kernel
theorem c_Mo_house_55 : mx_cv m_Mo_house m_Mo_mustSign 147 1 [1122, 1124, 47, 92, 1125] = true := by decide +kernel
theorem d_Mo_house_59 : decode m_Mo_house.2.1 59 = .ok (.invokevirtual 156, 3) := by decide +kernel
theorem c_Mo_house_59 : mx_cv m_Mo_house m_Mo_isSort 156 0 [1126, 1128, 48, 92, 1129] = true := by decide +kernel
theorem d_Mo_house_62 : decode m_Mo_house.2.1 62 = .ok (.ifCond .ne 8, 3) := by decide +kernel
theorem d_Mo_house_67 : decode m_Mo_house.2.1 67 = .ok (.invokevirtual 126, 3) := by decide +kernel
theorem c_Mo_house_67 : mx_cv m_Mo_house m_Mo_bad 126 1 [1114, 1116, 45, 92, 1117] = true := by decide +kernel
theorem d_Mo_house_71 : decode m_Mo_house.2.1 71 = .ok (.invokevirtual 156, 3) := by decide +kernel
theorem c_Mo_house_71 : mx_cv m_Mo_house m_Mo_isSort 156 0 [1126, 1128, 48, 92, 1129] = true := by decide +kernel
theorem d_Mo_house_74 : decode m_Mo_house.2.1 74 = .ok (.ifCond .eq 10, 3) := by decide +kernel
theorem d_Mo_house_78 : decode m_Mo_house.2.1 78 = .ok (.invokevirtual 160, 3) := by decide +kernel
theorem c_Mo_house_78 : mx_cv m_Mo_house m_Mo_readType 160 0 [1133, 1135, 49, 92, 1136] = true := by decide +kernel
theorem d_Mo_house_81 : decode m_Mo_house.2.1 81 = .ok (.goto (-11), 3) := by decide +kernel
theorem d_Mo_house_88 : decode m_Mo_house.2.1 88 = .ok (.ifCond .ne 23, 3) := by decide +kernel
theorem d_Mo_house_96 : decode m_Mo_house.2.1 96 = .ok (.if_icmp .ne 15, 3) := by decide +kernel
theorem d_Mo_house_100 : decode m_Mo_house.2.1 100 = .ok (.invokevirtual 163, 3) := by decide +kernel
theorem c_Mo_house_100 : mx_cv m_Mo_house m_Mo_areNamed 163 0 [1137, 1139, 50, 92, 1140] = true := by decide +kernel
theorem d_Mo_house_103 : decode m_Mo_house.2.1 103 = .ok (.ifCond .ne 8, 3) := by decide +kernel
theorem d_Mo_house_108 : decode m_Mo_house.2.1 108 = .ok (.invokevirtual 126, 3) := by decide +kernel
theorem c_Mo_house_108 : mx_cv m_Mo_house m_Mo_bad 126 1 [1114, 1116, 45, 92, 1117] = true := by decide +kernel
theorem d_Mo_house_112 : decode m_Mo_house.2.1 112 = .ok (.invokevirtual 166, 3) := by decide +kernel
theorem c_Mo_house_112 : mx_cv m_Mo_house m_Mo_failed 166 0 [1141, 1143, 51, 92, 1144] = true := by decide +kernel
theorem d_Mo_house_115 : decode m_Mo_house.2.1 115 = .ok (.ifCond .eq 11, 3) := by decide +kernel
theorem d_Mo_house_125 : decode m_Mo_house.2.1 125 = .ok (.ireturn, 1) := by decide +kernel
theorem d_Mo_house_136 : decode m_Mo_house.2.1 136 = .ok (.if_icmp .ge 21, 3) := by decide +kernel
theorem d_Mo_house_154 : decode m_Mo_house.2.1 154 = .ok (.goto (-21), 3) := by decide +kernel
theorem d_Mo_house_163 : decode m_Mo_house.2.1 163 = .ok (.ireturn, 1) := by decide +kernel
theorem b_Mo_image_0 : mx_ck m_Mo_image 0 [(.aload_n 0, [], 0), (.iconst 0, [], nI 0), (.putfield 68, [10, 0, 0, 951], 0), (.iload_n 1, [], 0), (.i2l, [], 0), (.lconst 0, [0], 0), (.lconst 1, [1], 0)] = some 9 := by decide +kernel
theorem b_Mo_image_15 : mx_ck m_Mo_image 15 [(.ldc 88, [1061], (-1000001))] = some 17 := by decide +kernel
theorem b_Mo_image_18 : mx_ck m_Mo_image 18 [(.aload_n 0, [], 0)] = some 19 := by decide +kernel
theorem b_Mo_image_25 : mx_ck m_Mo_image 25 [(.ldc 233, [1166], (-1000002))] = some 27 := by decide +kernel
theorem b_Mo_image_28 : mx_ck m_Mo_image 28 [(.iconst 0, [], nI 0), (.istore_n 2, [], 0)] = some 30 := by decide +kernel
theorem b_Mo_image_30 : mx_ck m_Mo_image 30 [(.iload_n 2, [], 0), (.bipush 26, [], nI 26)] = some 33 := by decide +kernel
theorem b_Mo_image_36 : mx_ck m_Mo_image 36 [(.aload_n 0, [], 0), (.getfield 62, [10, 29, 19, 980], 0), (.bipush 26, [], nI 26), (.iload_n 1, [], 0), (.imul, [], 0), (.iload_n 2, [], 0), (.iadd, [], 0), (.aload_n 0, [], 0), (.getfield 19, [10, 5, 5, 956], 0), (.iload_n 2, [], 0), (.iaload, [], 0), (.iastore, [], 0), (.iinc 2 1, [], nI 1)] = some 56 := by decide +kernel
theorem b_Mo_image_59 : mx_ck m_Mo_image 59 [(.aload_n 0, [], 0), (.getfield 59, [10, 28, 18, 979], 0), (.iload_n 1, [], 0), (.iconst 1, [], nI 1), (.bastore, [], 0), (.iconst 1, [], nI 1)] = some 67 := by decide +kernel
theorem d_Mo_image_9 : decode m_Mo_image.2.1 9 = .ok (.invokestatic 78, 3) := by decide +kernel
theorem c_Mo_image_9 : mx_cs m_Mo_image m_Mo_in 78 3 [1057, 1058, 92, 1059] = true := by decide +kernel
theorem d_Mo_image_12 : decode m_Mo_image.2.1 12 = .ok (.ifCond .ne 6, 3) := by decide +kernel
theorem d_Mo_image_17 : decode m_Mo_image.2.1 17 = .ok (.ireturn, 1) := by decide +kernel
theorem d_Mo_image_19 : decode m_Mo_image.2.1 19 = .ok (.invokevirtual 234, 3) := by decide +kernel
theorem c_Mo_image_19 : mx_cv m_Mo_image m_Mo_isThere 234 0 [1178, 1180, 54, 92, 1181] = true := by decide +kernel
theorem d_Mo_image_22 : decode m_Mo_image.2.1 22 = .ok (.ifCond .ne 6, 3) := by decide +kernel
theorem d_Mo_image_27 : decode m_Mo_image.2.1 27 = .ok (.ireturn, 1) := by decide +kernel
theorem d_Mo_image_33 : decode m_Mo_image.2.1 33 = .ok (.if_icmp .ge 26, 3) := by decide +kernel
theorem d_Mo_image_56 : decode m_Mo_image.2.1 56 = .ok (.goto (-26), 3) := by decide +kernel
theorem d_Mo_image_67 : decode m_Mo_image.2.1 67 = .ok (.ireturn, 1) := by decide +kernel
theorem b_Mo_in_0 : mx_ck m_Mo_in 0 [(.lload_n 0, [], 0), (.lload_n 2, [], 0), (.lcmp, [], 0)] = some 3 := by decide +kernel
theorem b_Mo_in_6 : mx_ck m_Mo_in 6 [(.lload_n 0, [], 0), (.lload 4, [], 0), (.lcmp, [], 0)] = some 10 := by decide +kernel
theorem b_Mo_in_13 : mx_ck m_Mo_in 13 [(.iconst 1, [], nI 1)] = some 14 := by decide +kernel
theorem b_Mo_in_17 : mx_ck m_Mo_in 17 [(.iconst 0, [], nI 0)] = some 18 := by decide +kernel
theorem d_Mo_in_3 : decode m_Mo_in.2.1 3 = .ok (.ifCond .lt 14, 3) := by decide +kernel
theorem d_Mo_in_10 : decode m_Mo_in.2.1 10 = .ok (.ifCond .gt 7, 3) := by decide +kernel
theorem d_Mo_in_14 : decode m_Mo_in.2.1 14 = .ok (.goto 4, 3) := by decide +kernel
theorem d_Mo_in_18 : decode m_Mo_in.2.1 18 = .ok (.ireturn, 1) := by decide +kernel
theorem b_Mo_init_0 : mx_ck m_Mo_init 0 [(.aload_n 0, [], 0)] = some 1 := by decide +kernel
theorem b_Mo_init_4 : mx_ck m_Mo_init 4 [(.aload_n 0, [], 0), (.bipush 8, [], nI 8)] = some 7 := by decide +kernel
theorem b_Mo_init_9 : mx_ck m_Mo_init 9 [(.dup, [], 0), (.iconst 0, [], nI 0), (.iconst (-1), [], (-1)), (.iastore, [], 0), (.dup, [], 0), (.iconst 1, [], nI 1), (.iconst (-1), [], (-1)), (.iastore, [], 0), (.dup, [], 0), (.iconst 2, [], nI 2), (.iconst (-1), [], (-1)), (.iastore, [], 0), (.dup, [], 0), (.iconst 3, [], nI 3), (.iconst (-1), [], (-1)), (.iastore, [], 0), (.dup, [], 0), (.iconst 4, [], nI 4), (.iconst (-1), [], (-1)), (.iastore, [], 0), (.dup, [], 0), (.iconst 5, [], nI 5), (.iconst (-1), [], (-1)), (.iastore, [], 0), (.dup, [], 0), (.bipush 6, [], nI 6), (.iconst (-1), [], (-1)), (.iastore, [], 0), (.dup, [], 0), (.bipush 7, [], nI 7), (.iconst (-1), [], (-1)), (.iastore, [], 0)] = some 43 := by decide +kernel
theorem b_Mo_init_46 : mx_ck m_Mo_init 46 [(.aload_n 0, [], 0), (.bipush 8, [], nI 8)] = some 49 := by decide +kernel
theorem b_Mo_init_54 : mx_ck m_Mo_init 54 [(.aload_n 0, [], 0), (.sipush 320, [], nI 320)] = some 58 := by decide +kernel
theorem b_Mo_init_63 : mx_ck m_Mo_init 63 [(.aload_n 0, [], 0), (.bipush 26, [], nI 26)] = some 66 := by decide +kernel
theorem b_Mo_init_71 : mx_ck m_Mo_init 71 [(.aload_n 0, [], 0), (.bipush 26, [], nI 26)] = some 74 := by decide +kernel
theorem b_Mo_init_79 : mx_ck m_Mo_init 79 [(.aload_n 0, [], 0), (.bipush 26, [], nI 26)] = some 82 := by decide +kernel
theorem b_Mo_init_87 : mx_ck m_Mo_init 87 [(.aload_n 0, [], 0), (.sipush 624, [], nI 624)] = some 91 := by decide +kernel
theorem b_Mo_init_96 : mx_ck m_Mo_init 96 [(.aload_n 0, [], 0), (.bipush 80, [], nI 80)] = some 99 := by decide +kernel
theorem b_Mo_init_104 : mx_ck m_Mo_init 104 [(.aload_n 0, [], 0), (.sipush 256, [], nI 256)] = some 108 := by decide +kernel
theorem b_Mo_init_113 : mx_ck m_Mo_init 113 [(.aload_n 0, [], 0), (.sipush 256, [], nI 256)] = some 117 := by decide +kernel
theorem b_Mo_init_122 : mx_ck m_Mo_init 122 [(.aload_n 0, [], 0), (.sipush 256, [], nI 256)] = some 126 := by decide +kernel
theorem b_Mo_init_131 : mx_ck m_Mo_init 131 [(.aload_n 0, [], 0), (.sipush 512, [], nI 512)] = some 135 := by decide +kernel
theorem b_Mo_init_140 : mx_ck m_Mo_init 140 [(.aload_n 0, [], 0), (.sipush 512, [], nI 512)] = some 144 := by decide +kernel
theorem b_Mo_init_149 : mx_ck m_Mo_init 149 [(.aload_n 0, [], 0), (.bipush 26, [], nI 26)] = some 152 := by decide +kernel
theorem b_Mo_init_157 : mx_ck m_Mo_init 157 [(.aload_n 0, [], 0), (.sipush 256, [], nI 256)] = some 161 := by decide +kernel
theorem b_Mo_init_166 : mx_ck m_Mo_init 166 [(.aload_n 0, [], 0), (.sipush 256, [], nI 256)] = some 170 := by decide +kernel
theorem b_Mo_init_175 : mx_ck m_Mo_init 175 [(.aload_n 0, [], 0), (.iconst 2, [], nI 2)] = some 177 := by decide +kernel
theorem b_Mo_init_182 : mx_ck m_Mo_init 182 [(.aload_n 0, [], 0), (.bipush 52, [], nI 52)] = some 185 := by decide +kernel
theorem b_Mo_init_190 : mx_ck m_Mo_init 190 [(.aload_n 0, [], 0), (.bipush 16, [], nI 16)] = some 193 := by decide +kernel
theorem d_Mo_init_1 : decode m_Mo_init.2.1 1 = .ok (.invokespecial 1, 3) := by decide +kernel
theorem d_Mo_init_7 : decode m_Mo_init.2.1 7 = .ok (.newarray .int, 2) := by decide +kernel
theorem d_Mo_init_43 : decode m_Mo_init.2.1 43 = .ok (.putfield 7, 3) := by decide +kernel
theorem d_Mo_init_49 : decode m_Mo_init.2.1 49 = .ok (.newarray .int, 2) := by decide +kernel
theorem d_Mo_init_51 : decode m_Mo_init.2.1 51 = .ok (.putfield 13, 3) := by decide +kernel
theorem d_Mo_init_58 : decode m_Mo_init.2.1 58 = .ok (.newarray .int, 2) := by decide +kernel
theorem d_Mo_init_60 : decode m_Mo_init.2.1 60 = .ok (.putfield 16, 3) := by decide +kernel
theorem d_Mo_init_66 : decode m_Mo_init.2.1 66 = .ok (.newarray .int, 2) := by decide +kernel
theorem d_Mo_init_68 : decode m_Mo_init.2.1 68 = .ok (.putfield 19, 3) := by decide +kernel
theorem d_Mo_init_74 : decode m_Mo_init.2.1 74 = .ok (.newarray .int, 2) := by decide +kernel
theorem d_Mo_init_76 : decode m_Mo_init.2.1 76 = .ok (.putfield 22, 3) := by decide +kernel
theorem d_Mo_init_82 : decode m_Mo_init.2.1 82 = .ok (.newarray .int, 2) := by decide +kernel
theorem d_Mo_init_84 : decode m_Mo_init.2.1 84 = .ok (.putfield 25, 3) := by decide +kernel
theorem d_Mo_init_91 : decode m_Mo_init.2.1 91 = .ok (.newarray .int, 2) := by decide +kernel
theorem d_Mo_init_93 : decode m_Mo_init.2.1 93 = .ok (.putfield 28, 3) := by decide +kernel
theorem d_Mo_init_99 : decode m_Mo_init.2.1 99 = .ok (.newarray .int, 2) := by decide +kernel
theorem d_Mo_init_101 : decode m_Mo_init.2.1 101 = .ok (.putfield 31, 3) := by decide +kernel
theorem d_Mo_init_108 : decode m_Mo_init.2.1 108 = .ok (.newarray .int, 2) := by decide +kernel
theorem d_Mo_init_110 : decode m_Mo_init.2.1 110 = .ok (.putfield 34, 3) := by decide +kernel
theorem d_Mo_init_117 : decode m_Mo_init.2.1 117 = .ok (.newarray .int, 2) := by decide +kernel
theorem d_Mo_init_119 : decode m_Mo_init.2.1 119 = .ok (.putfield 37, 3) := by decide +kernel
theorem d_Mo_init_126 : decode m_Mo_init.2.1 126 = .ok (.newarray .int, 2) := by decide +kernel
theorem d_Mo_init_128 : decode m_Mo_init.2.1 128 = .ok (.putfield 40, 3) := by decide +kernel
theorem d_Mo_init_135 : decode m_Mo_init.2.1 135 = .ok (.newarray .boolean, 2) := by decide +kernel
theorem d_Mo_init_137 : decode m_Mo_init.2.1 137 = .ok (.putfield 43, 3) := by decide +kernel
theorem d_Mo_init_144 : decode m_Mo_init.2.1 144 = .ok (.newarray .boolean, 2) := by decide +kernel
theorem d_Mo_init_146 : decode m_Mo_init.2.1 146 = .ok (.putfield 47, 3) := by decide +kernel
theorem d_Mo_init_152 : decode m_Mo_init.2.1 152 = .ok (.newarray .int, 2) := by decide +kernel
theorem d_Mo_init_154 : decode m_Mo_init.2.1 154 = .ok (.putfield 50, 3) := by decide +kernel
theorem d_Mo_init_161 : decode m_Mo_init.2.1 161 = .ok (.newarray .int, 2) := by decide +kernel
theorem d_Mo_init_163 : decode m_Mo_init.2.1 163 = .ok (.putfield 53, 3) := by decide +kernel
theorem d_Mo_init_170 : decode m_Mo_init.2.1 170 = .ok (.newarray .int, 2) := by decide +kernel
theorem d_Mo_init_172 : decode m_Mo_init.2.1 172 = .ok (.putfield 56, 3) := by decide +kernel
theorem d_Mo_init_177 : decode m_Mo_init.2.1 177 = .ok (.newarray .boolean, 2) := by decide +kernel
theorem d_Mo_init_179 : decode m_Mo_init.2.1 179 = .ok (.putfield 59, 3) := by decide +kernel
theorem d_Mo_init_185 : decode m_Mo_init.2.1 185 = .ok (.newarray .int, 2) := by decide +kernel
theorem d_Mo_init_187 : decode m_Mo_init.2.1 187 = .ok (.putfield 62, 3) := by decide +kernel
theorem d_Mo_init_193 : decode m_Mo_init.2.1 193 = .ok (.newarray .int, 2) := by decide +kernel
theorem d_Mo_init_195 : decode m_Mo_init.2.1 195 = .ok (.putfield 65, 3) := by decide +kernel
theorem d_Mo_init_198 : decode m_Mo_init.2.1 198 = .ok (.return_, 1) := by decide +kernel
theorem b_Mo_isEmpty_0 : mx_ck m_Mo_isEmpty 0 [(.aload_n 0, [], 0), (.iload_n 1, [], 0)] = some 2 := by decide +kernel
theorem b_Mo_isEmpty_8 : mx_ck m_Mo_isEmpty 8 [(.iconst 1, [], nI 1)] = some 9 := by decide +kernel
theorem b_Mo_isEmpty_12 : mx_ck m_Mo_isEmpty 12 [(.iconst 0, [], nI 0)] = some 13 := by decide +kernel
theorem d_Mo_isEmpty_2 : decode m_Mo_isEmpty.2.1 2 = .ok (.invokevirtual 218, 3) := by decide +kernel
theorem c_Mo_isEmpty_2 : mx_cv m_Mo_isEmpty m_Mo_sortsOf 218 1 [1256, 1258, 66, 92, 1259] = true := by decide +kernel
theorem d_Mo_isEmpty_5 : decode m_Mo_isEmpty.2.1 5 = .ok (.ifCond .ne 7, 3) := by decide +kernel
theorem d_Mo_isEmpty_9 : decode m_Mo_isEmpty.2.1 9 = .ok (.goto 4, 3) := by decide +kernel
theorem d_Mo_isEmpty_13 : decode m_Mo_isEmpty.2.1 13 = .ok (.ireturn, 1) := by decide +kernel
theorem b_Mo_isKnown_0 : mx_ck m_Mo_isKnown 0 [(.iconst 1, [], nI 1), (.istore_n 2, [], 0), (.iconst 0, [], nI 0), (.istore_n 3, [], 0)] = some 4 := by decide +kernel
theorem b_Mo_isKnown_4 : mx_ck m_Mo_isKnown 4 [(.iload_n 3, [], 0), (.bipush 26, [], nI 26)] = some 7 := by decide +kernel
theorem b_Mo_isKnown_10 : mx_ck m_Mo_isKnown 10 [(.iload_n 2, [], 0)] = some 11 := by decide +kernel
theorem b_Mo_isKnown_14 : mx_ck m_Mo_isKnown 14 [(.aload_n 0, [], 0), (.getfield 50, [10, 25, 15, 976], 0), (.iload_n 3, [], 0), (.iaload, [], 0), (.aload_n 1, [], 0), (.iload_n 3, [], 0), (.iaload, [], 0)] = some 23 := by decide +kernel
theorem b_Mo_isKnown_26 : mx_ck m_Mo_isKnown 26 [(.iconst 1, [], nI 1)] = some 27 := by decide +kernel
theorem b_Mo_isKnown_30 : mx_ck m_Mo_isKnown 30 [(.iconst 0, [], nI 0)] = some 31 := by decide +kernel
theorem b_Mo_isKnown_31 : mx_ck m_Mo_isKnown 31 [(.istore_n 2, [], 0), (.aload_n 0, [], 0), (.getfield 50, [10, 25, 15, 976], 0), (.iload_n 3, [], 0), (.aload_n 1, [], 0), (.iload_n 3, [], 0), (.iaload, [], 0), (.iastore, [], 0), (.iinc 3 1, [], nI 1)] = some 44 := by decide +kernel
theorem b_Mo_isKnown_47 : mx_ck m_Mo_isKnown 47 [(.iload_n 2, [], 0)] = some 48 := by decide +kernel
theorem d_Mo_isKnown_7 : decode m_Mo_isKnown.2.1 7 = .ok (.if_icmp .ge 40, 3) := by decide +kernel
theorem d_Mo_isKnown_11 : decode m_Mo_isKnown.2.1 11 = .ok (.ifCond .eq 19, 3) := by decide +kernel
theorem d_Mo_isKnown_23 : decode m_Mo_isKnown.2.1 23 = .ok (.if_icmp .ne 7, 3) := by decide +kernel
theorem d_Mo_isKnown_27 : decode m_Mo_isKnown.2.1 27 = .ok (.goto 4, 3) := by decide +kernel
theorem d_Mo_isKnown_44 : decode m_Mo_isKnown.2.1 44 = .ok (.goto (-40), 3) := by decide +kernel
theorem d_Mo_isKnown_48 : decode m_Mo_isKnown.2.1 48 = .ok (.ireturn, 1) := by decide +kernel
theorem b_Mo_isLetter_0 : mx_ck m_Mo_isLetter 0 [(.aload_n 0, [], 0), (.getfield 99, [10, 16, 0, 967], 0)] = some 4 := by decide +kernel
theorem b_Mo_isLetter_7 : mx_ck m_Mo_isLetter 7 [(.aload_n 0, [], 0), (.getfield 123, [10, 14, 0, 965], 0), (.iconst 2, [], nI 2)] = some 12 := by decide +kernel
theorem b_Mo_isLetter_15 : mx_ck m_Mo_isLetter 15 [(.aload_n 0, [], 0), (.getfield 112, [10, 15, 0, 966], 0), (.iload_n 1, [], 0)] = some 20 := by decide +kernel
theorem b_Mo_isLetter_23 : mx_ck m_Mo_isLetter 23 [(.iconst 1, [], nI 1)] = some 24 := by decide +kernel
theorem b_Mo_isLetter_27 : mx_ck m_Mo_isLetter 27 [(.iconst 0, [], nI 0)] = some 28 := by decide +kernel
theorem d_Mo_isLetter_4 : decode m_Mo_isLetter.2.1 4 = .ok (.ifCond .ne 23, 3) := by decide +kernel
theorem d_Mo_isLetter_12 : decode m_Mo_isLetter.2.1 12 = .ok (.if_icmp .ne 15, 3) := by decide +kernel
theorem d_Mo_isLetter_20 : decode m_Mo_isLetter.2.1 20 = .ok (.if_icmp .ne 7, 3) := by decide +kernel
theorem d_Mo_isLetter_24 : decode m_Mo_isLetter.2.1 24 = .ok (.goto 4, 3) := by decide +kernel
theorem d_Mo_isLetter_28 : decode m_Mo_isLetter.2.1 28 = .ok (.ireturn, 1) := by decide +kernel
theorem b_Mo_isMarked_0 : mx_ck m_Mo_isMarked 0 [(.iconst 0, [], nI 0), (.istore_n 2, [], 0)] = some 2 := by decide +kernel
theorem b_Mo_isMarked_2 : mx_ck m_Mo_isMarked 2 [(.iload_n 2, [], 0), (.sipush 256, [], nI 256)] = some 6 := by decide +kernel
theorem b_Mo_isMarked_9 : mx_ck m_Mo_isMarked 9 [(.aload_n 0, [], 0), (.getfield 47, [10, 24, 14, 975], 0), (.iload_n 2, [], 0), (.sipush 256, [], nI 256), (.iadd, [], 0), (.baload, [], 0)] = some 19 := by decide +kernel
theorem b_Mo_isMarked_22 : mx_ck m_Mo_isMarked 22 [(.aload_n 0, [], 0), (.getfield 19, [10, 5, 5, 956], 0), (.iload_n 2, [], 0)] = some 27 := by decide +kernel
theorem b_Mo_isMarked_30 : mx_ck m_Mo_isMarked 30 [(.iload_n 1, [], 0)] = some 31 := by decide +kernel
theorem b_Mo_isMarked_37 : mx_ck m_Mo_isMarked 37 [(.iconst 1, [], nI 1)] = some 38 := by decide +kernel
theorem b_Mo_isMarked_39 : mx_ck m_Mo_isMarked 39 [(.iinc 2 1, [], nI 1)] = some 42 := by decide +kernel
theorem b_Mo_isMarked_45 : mx_ck m_Mo_isMarked 45 [(.iconst 0, [], nI 0)] = some 46 := by decide +kernel
theorem d_Mo_isMarked_6 : decode m_Mo_isMarked.2.1 6 = .ok (.if_icmp .ge 39, 3) := by decide +kernel
theorem d_Mo_isMarked_19 : decode m_Mo_isMarked.2.1 19 = .ok (.ifCond .eq 20, 3) := by decide +kernel
theorem d_Mo_isMarked_27 : decode m_Mo_isMarked.2.1 27 = .ok (.invokestatic 205, 3) := by decide +kernel
theorem c_Mo_isMarked_27 : mx_cs m_Mo_isMarked m_Mo_functionCell 205 2 [1207, 1208, 92, 1209] = true := by decide +kernel
theorem d_Mo_isMarked_31 : decode m_Mo_isMarked.2.1 31 = .ok (.invokestatic 177, 3) := by decide +kernel
theorem c_Mo_isMarked_31 : mx_cs m_Mo_isMarked m_Mo_has 177 2 [1200, 1201, 92, 1202] = true := by decide +kernel
theorem d_Mo_isMarked_34 : decode m_Mo_isMarked.2.1 34 = .ok (.ifCond .eq 5, 3) := by decide +kernel
theorem d_Mo_isMarked_38 : decode m_Mo_isMarked.2.1 38 = .ok (.ireturn, 1) := by decide +kernel
theorem d_Mo_isMarked_42 : decode m_Mo_isMarked.2.1 42 = .ok (.goto (-40), 3) := by decide +kernel
theorem d_Mo_isMarked_46 : decode m_Mo_isMarked.2.1 46 = .ok (.ireturn, 1) := by decide +kernel
theorem b_Mo_isOf_0 : mx_ck m_Mo_isOf 0 [(.iload_n 1, [], 0)] = some 1 := by decide +kernel
theorem b_Mo_isOf_4 : mx_ck m_Mo_isOf 4 [(.iload_n 0, [], 0), (.iload_n 1, [], 0)] = some 6 := by decide +kernel
theorem b_Mo_isOf_9 : mx_ck m_Mo_isOf 9 [(.iload_n 1, [], 0), (.iconst 1, [], nI 1)] = some 11 := by decide +kernel
theorem b_Mo_isOf_14 : mx_ck m_Mo_isOf 14 [(.iload_n 0, [], 0), (.iconst 2, [], nI 2)] = some 16 := by decide +kernel
theorem b_Mo_isOf_19 : mx_ck m_Mo_isOf 19 [(.iload_n 0, [], 0), (.iconst 3, [], nI 3)] = some 21 := by decide +kernel
theorem b_Mo_isOf_24 : mx_ck m_Mo_isOf 24 [(.iload_n 1, [], 0), (.iconst 4, [], nI 4)] = some 26 := by decide +kernel
theorem b_Mo_isOf_29 : mx_ck m_Mo_isOf 29 [(.iload_n 0, [], 0), (.iconst 5, [], nI 5)] = some 31 := by decide +kernel
theorem b_Mo_isOf_34 : mx_ck m_Mo_isOf 34 [(.iconst 1, [], nI 1)] = some 35 := by decide +kernel
theorem b_Mo_isOf_38 : mx_ck m_Mo_isOf 38 [(.iconst 0, [], nI 0)] = some 39 := by decide +kernel
theorem d_Mo_isOf_1 : decode m_Mo_isOf.2.1 1 = .ok (.ifCond .eq 33, 3) := by decide +kernel
theorem d_Mo_isOf_6 : decode m_Mo_isOf.2.1 6 = .ok (.if_icmp .eq 28, 3) := by decide +kernel
theorem d_Mo_isOf_11 : decode m_Mo_isOf.2.1 11 = .ok (.if_icmp .ne 13, 3) := by decide +kernel
theorem d_Mo_isOf_16 : decode m_Mo_isOf.2.1 16 = .ok (.if_icmp .eq 18, 3) := by decide +kernel
theorem d_Mo_isOf_21 : decode m_Mo_isOf.2.1 21 = .ok (.if_icmp .eq 13, 3) := by decide +kernel
theorem d_Mo_isOf_26 : decode m_Mo_isOf.2.1 26 = .ok (.if_icmp .ne 12, 3) := by decide +kernel
theorem d_Mo_isOf_31 : decode m_Mo_isOf.2.1 31 = .ok (.if_icmp .ne 7, 3) := by decide +kernel
theorem d_Mo_isOf_35 : decode m_Mo_isOf.2.1 35 = .ok (.goto 4, 3) := by decide +kernel
theorem d_Mo_isOf_39 : decode m_Mo_isOf.2.1 39 = .ok (.ireturn, 1) := by decide +kernel
theorem b_Mo_isRow_0 : mx_ck m_Mo_isRow 0 [(.iload_n 0, [], 0), (.i2l, [], 0), (.lconst 0, [0], 0), (.ldc2_w 76, [7, 1056], 0)] = some 6 := by decide +kernel
theorem d_Mo_isRow_6 : decode m_Mo_isRow.2.1 6 = .ok (.invokestatic 78, 3) := by decide +kernel
theorem c_Mo_isRow_6 : mx_cs m_Mo_isRow m_Mo_in 78 3 [1057, 1058, 92, 1059] = true := by decide +kernel
theorem d_Mo_isRow_9 : decode m_Mo_isRow.2.1 9 = .ok (.ireturn, 1) := by decide +kernel
theorem b_Mo_isSet_0 : mx_ck m_Mo_isSet 0 [(.iload_n 1, [], 0), (.i2l, [], 0), (.lconst 0, [0], 0), (.iconst 1, [], nI 1), (.aload_n 0, [], 0), (.getfield 19, [10, 5, 5, 956], 0), (.iconst 0, [], nI 0), (.iaload, [], 0), (.ishl, [], 0), (.iconst 1, [], nI 1), (.isub, [], 0), (.i2l, [], 0)] = some 14 := by decide +kernel
theorem d_Mo_isSet_14 : decode m_Mo_isSet.2.1 14 = .ok (.invokestatic 78, 3) := by decide +kernel
theorem c_Mo_isSet_14 : mx_cs m_Mo_isSet m_Mo_in 78 3 [1057, 1058, 92, 1059] = true := by decide +kernel
theorem d_Mo_isSet_17 : decode m_Mo_isSet.2.1 17 = .ok (.ireturn, 1) := by decide +kernel
theorem b_Mo_isSort_0 : mx_ck m_Mo_isSort 0 [(.aload_n 0, [], 0), (.getfield 99, [10, 16, 0, 967], 0)] = some 4 := by decide +kernel
theorem b_Mo_isSort_7 : mx_ck m_Mo_isSort 7 [(.aload_n 0, [], 0), (.getfield 123, [10, 14, 0, 965], 0), (.iconst 2, [], nI 2)] = some 12 := by decide +kernel
theorem b_Mo_isSort_15 : mx_ck m_Mo_isSort 15 [(.aload_n 0, [], 0), (.getfield 112, [10, 15, 0, 966], 0)] = some 19 := by decide +kernel
theorem b_Mo_isSort_22 : mx_ck m_Mo_isSort 22 [(.ldc 111, [1101], (-1000000))] = some 24 := by decide +kernel
theorem b_Mo_isSort_27 : mx_ck m_Mo_isSort 27 [(.iconst 1, [], nI 1)] = some 28 := by decide +kernel
theorem b_Mo_isSort_31 : mx_ck m_Mo_isSort 31 [(.iconst 0, [], nI 0)] = some 32 := by decide +kernel
theorem d_Mo_isSort_4 : decode m_Mo_isSort.2.1 4 = .ok (.ifCond .ne 27, 3) := by decide +kernel
theorem d_Mo_isSort_12 : decode m_Mo_isSort.2.1 12 = .ok (.if_icmp .ne 19, 3) := by decide +kernel
theorem d_Mo_isSort_19 : decode m_Mo_isSort.2.1 19 = .ok (.invokestatic 140, 3) := by decide +kernel
theorem c_Mo_isSort_19 : mx_cs m_Mo_isSort m_Mo_sortBy 140 1 [1130, 1131, 92, 1132] = true := by decide +kernel
theorem d_Mo_isSort_24 : decode m_Mo_isSort.2.1 24 = .ok (.if_icmp .eq 7, 3) := by decide +kernel
theorem d_Mo_isSort_28 : decode m_Mo_isSort.2.1 28 = .ok (.goto 4, 3) := by decide +kernel
theorem d_Mo_isSort_32 : decode m_Mo_isSort.2.1 32 = .ok (.ireturn, 1) := by decide +kernel
theorem b_Mo_isThere_0 : mx_ck m_Mo_isThere 0 [(.aload_n 0, [], 0), (.getfield 19, [10, 5, 5, 956], 0), (.iconst 0, [], nI 0), (.iaload, [], 0)] = some 6 := by decide +kernel
theorem b_Mo_isThere_9 : mx_ck m_Mo_isThere 9 [(.iconst 1, [], nI 1)] = some 10 := by decide +kernel
theorem b_Mo_isThere_13 : mx_ck m_Mo_isThere 13 [(.iconst 0, [], nI 0)] = some 14 := by decide +kernel
theorem d_Mo_isThere_6 : decode m_Mo_isThere.2.1 6 = .ok (.ifCond .le 7, 3) := by decide +kernel
theorem d_Mo_isThere_10 : decode m_Mo_isThere.2.1 10 = .ok (.goto 4, 3) := by decide +kernel
theorem d_Mo_isThere_14 : decode m_Mo_isThere.2.1 14 = .ok (.ireturn, 1) := by decide +kernel
theorem b_Mo_isType_0 : mx_ck m_Mo_isType 0 [(.iload_n 1, [], 0), (.i2l, [], 0), (.lconst 0, [0], 0), (.aload_n 0, [], 0), (.getfield 19, [10, 5, 5, 956], 0), (.iconst 0, [], nI 0), (.iaload, [], 0), (.iconst 1, [], nI 1), (.isub, [], 0), (.i2l, [], 0)] = some 12 := by decide +kernel
theorem d_Mo_isType_12 : decode m_Mo_isType.2.1 12 = .ok (.invokestatic 78, 3) := by decide +kernel
theorem c_Mo_isType_12 : mx_cs m_Mo_isType m_Mo_in 78 3 [1057, 1058, 92, 1059] = true := by decide +kernel
theorem d_Mo_isType_15 : decode m_Mo_isType.2.1 15 = .ok (.ireturn, 1) := by decide +kernel
theorem b_Mo_join_0 : mx_ck m_Mo_join 0 [(.iconst 0, [], nI 0), (.istore_n 1, [], 0)] = some 2 := by decide +kernel
theorem b_Mo_join_2 : mx_ck m_Mo_join 2 [(.iload_n 1, [], 0), (.sipush 512, [], nI 512)] = some 6 := by decide +kernel
theorem b_Mo_join_9 : mx_ck m_Mo_join 9 [(.aload_n 0, [], 0), (.getfield 47, [10, 24, 14, 975], 0), (.iload_n 1, [], 0), (.iload_n 1, [], 0)] = some 15 := by decide +kernel
theorem b_Mo_join_18 : mx_ck m_Mo_join 18 [(.iconst 1, [], nI 1)] = some 19 := by decide +kernel
theorem b_Mo_join_22 : mx_ck m_Mo_join 22 [(.iconst 0, [], nI 0)] = some 23 := by decide +kernel
theorem b_Mo_join_23 : mx_ck m_Mo_join 23 [(.bastore, [], 0), (.iinc 1 1, [], nI 1)] = some 27 := by decide +kernel
theorem b_Mo_join_30 : mx_ck m_Mo_join 30 [(.iconst 0, [], nI 0), (.istore_n 1, [], 0)] = some 32 := by decide +kernel
theorem b_Mo_join_32 : mx_ck m_Mo_join 32 [(.iload_n 1, [], 0), (.sipush 512, [], nI 512)] = some 36 := by decide +kernel
theorem b_Mo_join_39 : mx_ck m_Mo_join 39 [(.aload_n 0, [], 0), (.getfield 43, [10, 23, 13, 974], 0), (.iload_n 1, [], 0), (.baload, [], 0)] = some 45 := by decide +kernel
theorem b_Mo_join_48 : mx_ck m_Mo_join 48 [(.iconst 0, [], nI 0), (.istore_n 2, [], 0)] = some 50 := by decide +kernel
theorem b_Mo_join_50 : mx_ck m_Mo_join 50 [(.iload_n 2, [], 0), (.sipush 512, [], nI 512)] = some 54 := by decide +kernel
theorem b_Mo_join_57 : mx_ck m_Mo_join 57 [(.aload_n 0, [], 0), (.getfield 47, [10, 24, 14, 975], 0), (.iload_n 2, [], 0), (.baload, [], 0)] = some 63 := by decide +kernel
theorem b_Mo_join_66 : mx_ck m_Mo_join 66 [(.aload_n 0, [], 0), (.getfield 47, [10, 24, 14, 975], 0), (.iload_n 2, [], 0), (.iload_n 1, [], 0), (.ior, [], 0), (.iconst 1, [], nI 1), (.bastore, [], 0)] = some 75 := by decide +kernel
theorem b_Mo_join_75 : mx_ck m_Mo_join 75 [(.iinc 2 1, [], nI 1)] = some 78 := by decide +kernel
theorem b_Mo_join_81 : mx_ck m_Mo_join 81 [(.iinc 1 1, [], nI 1)] = some 84 := by decide +kernel
theorem d_Mo_join_6 : decode m_Mo_join.2.1 6 = .ok (.if_icmp .ge 24, 3) := by decide +kernel
theorem d_Mo_join_15 : decode m_Mo_join.2.1 15 = .ok (.ifCond .ne 7, 3) := by decide +kernel
theorem d_Mo_join_19 : decode m_Mo_join.2.1 19 = .ok (.goto 4, 3) := by decide +kernel
theorem d_Mo_join_27 : decode m_Mo_join.2.1 27 = .ok (.goto (-25), 3) := by decide +kernel
theorem d_Mo_join_36 : decode m_Mo_join.2.1 36 = .ok (.if_icmp .ge 51, 3) := by decide +kernel
theorem d_Mo_join_45 : decode m_Mo_join.2.1 45 = .ok (.ifCond .eq 36, 3) := by decide +kernel
theorem d_Mo_join_54 : decode m_Mo_join.2.1 54 = .ok (.if_icmp .ge 27, 3) := by decide +kernel
theorem d_Mo_join_63 : decode m_Mo_join.2.1 63 = .ok (.ifCond .eq 12, 3) := by decide +kernel
theorem d_Mo_join_78 : decode m_Mo_join.2.1 78 = .ok (.goto (-28), 3) := by decide +kernel
theorem d_Mo_join_84 : decode m_Mo_join.2.1 84 = .ok (.goto (-52), 3) := by decide +kernel
theorem d_Mo_join_87 : decode m_Mo_join.2.1 87 = .ok (.return_, 1) := by decide +kernel
theorem b_Mo_keep_0 : mx_ck m_Mo_keep 0 [(.aload_n 0, [], 0), (.getfield 170, [10, 9, 0, 960], 0), (.bipush 24, [], nI 24)] = some 6 := by decide +kernel
theorem b_Mo_keep_9 : mx_ck m_Mo_keep 9 [(.iconst 0, [], nI 0), (.istore_n 1, [], 0)] = some 11 := by decide +kernel
theorem b_Mo_keep_11 : mx_ck m_Mo_keep 11 [(.iload_n 1, [], 0), (.sipush 598, [], nI 598)] = some 15 := by decide +kernel
theorem b_Mo_keep_18 : mx_ck m_Mo_keep 18 [(.aload_n 0, [], 0), (.getfield 28, [10, 8, 8, 959], 0), (.iload_n 1, [], 0), (.aload_n 0, [], 0), (.getfield 28, [10, 8, 8, 959], 0), (.iload_n 1, [], 0), (.bipush 26, [], nI 26), (.iadd, [], 0), (.iaload, [], 0), (.iastore, [], 0), (.iinc 1 1, [], nI 1)] = some 36 := by decide +kernel
theorem b_Mo_keep_39 : mx_ck m_Mo_keep 39 [(.aload_n 0, [], 0), (.dup, [], 0), (.getfield 170, [10, 9, 0, 960], 0), (.iconst 1, [], nI 1), (.isub, [], 0), (.putfield 170, [10, 9, 0, 960], 0)] = some 49 := by decide +kernel
theorem b_Mo_keep_49 : mx_ck m_Mo_keep 49 [(.iconst 0, [], nI 0), (.istore_n 1, [], 0)] = some 51 := by decide +kernel
theorem b_Mo_keep_51 : mx_ck m_Mo_keep 51 [(.iload_n 1, [], 0), (.bipush 26, [], nI 26)] = some 54 := by decide +kernel
theorem b_Mo_keep_57 : mx_ck m_Mo_keep 57 [(.aload_n 0, [], 0), (.getfield 28, [10, 8, 8, 959], 0), (.bipush 26, [], nI 26), (.aload_n 0, [], 0), (.getfield 170, [10, 9, 0, 960], 0), (.imul, [], 0), (.iload_n 1, [], 0), (.iadd, [], 0), (.aload_n 0, [], 0), (.getfield 19, [10, 5, 5, 956], 0), (.iload_n 1, [], 0), (.iaload, [], 0), (.iastore, [], 0), (.iinc 1 1, [], nI 1)] = some 80 := by decide +kernel
theorem b_Mo_keep_83 : mx_ck m_Mo_keep 83 [(.aload_n 0, [], 0), (.dup, [], 0), (.getfield 170, [10, 9, 0, 960], 0), (.iconst 1, [], nI 1), (.iadd, [], 0), (.putfield 170, [10, 9, 0, 960], 0)] = some 93 := by decide +kernel
theorem d_Mo_keep_6 : decode m_Mo_keep.2.1 6 = .ok (.if_icmp .ne 43, 3) := by decide +kernel
theorem d_Mo_keep_15 : decode m_Mo_keep.2.1 15 = .ok (.if_icmp .ge 24, 3) := by decide +kernel
theorem d_Mo_keep_36 : decode m_Mo_keep.2.1 36 = .ok (.goto (-25), 3) := by decide +kernel
theorem d_Mo_keep_54 : decode m_Mo_keep.2.1 54 = .ok (.if_icmp .ge 29, 3) := by decide +kernel
theorem d_Mo_keep_80 : decode m_Mo_keep.2.1 80 = .ok (.goto (-29), 3) := by decide +kernel
theorem d_Mo_keep_93 : decode m_Mo_keep.2.1 93 = .ok (.return_, 1) := by decide +kernel
theorem b_Mo_kind_0 : mx_ck m_Mo_kind 0 [(.aload_n 0, [], 0), (.iconst 0, [], nI 0), (.putfield 68, [10, 0, 0, 951], 0), (.aload_n 0, [], 0), (.iload_n 1, [], 0)] = some 7 := by decide +kernel
theorem b_Mo_kind_13 : mx_ck m_Mo_kind 13 [(.aload_n 0, [], 0), (.iload_n 1, [], 0)] = some 15 := by decide +kernel
theorem b_Mo_kind_21 : mx_ck m_Mo_kind 21 [(.ldc 88, [1061], (-1000001))] = some 23 := by decide +kernel
theorem d_Mo_kind_7 : decode m_Mo_kind.2.1 7 = .ok (.invokevirtual 221, 3) := by decide +kernel
theorem c_Mo_kind_7 : mx_cv m_Mo_kind m_Mo_isType 221 1 [1150, 1152, 52, 92, 1153] = true := by decide +kernel
theorem d_Mo_kind_10 : decode m_Mo_kind.2.1 10 = .ok (.ifCond .eq 11, 3) := by decide +kernel
theorem d_Mo_kind_15 : decode m_Mo_kind.2.1 15 = .ok (.invokevirtual 301, 3) := by decide +kernel
theorem c_Mo_kind_15 : mx_cv m_Mo_kind m_Mo_kindOf 301 1 [1344, 1346, 74, 92, 1347] = true := by decide +kernel
theorem d_Mo_kind_18 : decode m_Mo_kind.2.1 18 = .ok (.goto 5, 3) := by decide +kernel
theorem d_Mo_kind_23 : decode m_Mo_kind.2.1 23 = .ok (.ireturn, 1) := by decide +kernel
theorem b_Mo_kindOf_0 : mx_ck m_Mo_kindOf 0 [(.aload_n 0, [], 0), (.getfield 19, [10, 5, 5, 956], 0), (.iload_n 1, [], 0), (.iconst 0, [], nI 0)] = some 6 := by decide +kernel
theorem b_Mo_kindOf_9 : mx_ck m_Mo_kindOf 9 [(.istore_n 2, [], 0), (.iload_n 2, [], 0)] = some 11 := by decide +kernel
theorem b_Mo_kindOf_14 : mx_ck m_Mo_kindOf 14 [(.iconst 0, [], nI 0)] = some 15 := by decide +kernel
theorem b_Mo_kindOf_18 : mx_ck m_Mo_kindOf 18 [(.iload_n 2, [], 0), (.iconst 1, [], nI 1)] = some 20 := by decide +kernel
theorem b_Mo_kindOf_23 : mx_ck m_Mo_kindOf 23 [(.iconst 4, [], nI 4)] = some 24 := by decide +kernel
theorem b_Mo_kindOf_27 : mx_ck m_Mo_kindOf 27 [(.iload_n 2, [], 0), (.iconst 2, [], nI 2)] = some 29 := by decide +kernel
theorem b_Mo_kindOf_32 : mx_ck m_Mo_kindOf 32 [(.iconst 5, [], nI 5)] = some 33 := by decide +kernel
theorem b_Mo_kindOf_36 : mx_ck m_Mo_kindOf 36 [(.iload_n 2, [], 0), (.iconst 2, [], nI 2), (.isub, [], 0)] = some 39 := by decide +kernel
theorem d_Mo_kindOf_6 : decode m_Mo_kindOf.2.1 6 = .ok (.invokestatic 173, 3) := by decide +kernel
theorem c_Mo_kindOf_6 : mx_cs m_Mo_kindOf m_Mo_of 173 3 [1171, 1172, 92, 1173] = true := by decide +kernel
theorem d_Mo_kindOf_11 : decode m_Mo_kindOf.2.1 11 = .ok (.ifCond .ne 7, 3) := by decide +kernel
theorem d_Mo_kindOf_15 : decode m_Mo_kindOf.2.1 15 = .ok (.goto 24, 3) := by decide +kernel
theorem d_Mo_kindOf_20 : decode m_Mo_kindOf.2.1 20 = .ok (.if_icmp .ne 7, 3) := by decide +kernel
theorem d_Mo_kindOf_24 : decode m_Mo_kindOf.2.1 24 = .ok (.goto 15, 3) := by decide +kernel
theorem d_Mo_kindOf_29 : decode m_Mo_kindOf.2.1 29 = .ok (.if_icmp .ne 7, 3) := by decide +kernel
theorem d_Mo_kindOf_33 : decode m_Mo_kindOf.2.1 33 = .ok (.goto 6, 3) := by decide +kernel
theorem d_Mo_kindOf_39 : decode m_Mo_kindOf.2.1 39 = .ok (.ireturn, 1) := by decide +kernel
theorem b_Mo_layCases_0 : mx_ck m_Mo_layCases 0 [(.iconst 0, [], nI 0), (.istore 4, [], 0)] = some 3 := by decide +kernel
theorem b_Mo_layCases_3 : mx_ck m_Mo_layCases 3 [(.iload 4, [], 0), (.sipush 512, [], nI 512)] = some 8 := by decide +kernel
theorem b_Mo_layCases_11 : mx_ck m_Mo_layCases 11 [(.aload_n 0, [], 0), (.getfield 43, [10, 23, 13, 974], 0), (.iload 4, [], 0), (.iconst 0, [], nI 0), (.bastore, [], 0), (.iinc 4 1, [], nI 1)] = some 22 := by decide +kernel
theorem b_Mo_layCases_25 : mx_ck m_Mo_layCases 25 [(.iconst 0, [], nI 0), (.istore 4, [], 0)] = some 28 := by decide +kernel
theorem b_Mo_layCases_28 : mx_ck m_Mo_layCases 28 [(.iload 4, [], 0), (.aload_n 0, [], 0), (.getfield 185, [10, 22, 0, 973], 0)] = some 34 := by decide +kernel
theorem b_Mo_layCases_37 : mx_ck m_Mo_layCases 37 [(.aload_n 0, [], 0), (.getfield 40, [10, 21, 12, 972], 0), (.iload 4, [], 0), (.iaload, [], 0), (.istore 5, [], 0), (.iload_n 2, [], 0)] = some 47 := by decide +kernel
theorem b_Mo_layCases_50 : mx_ck m_Mo_layCases 50 [(.iload 5, [], 0), (.iload_n 2, [], 0)] = some 53 := by decide +kernel
theorem b_Mo_layCases_59 : mx_ck m_Mo_layCases 59 [(.iconst 1, [], nI 1)] = some 60 := by decide +kernel
theorem b_Mo_layCases_63 : mx_ck m_Mo_layCases 63 [(.iconst 0, [], nI 0)] = some 64 := by decide +kernel
theorem b_Mo_layCases_64 : mx_ck m_Mo_layCases 64 [(.istore 6, [], 0), (.aload_n 0, [], 0), (.getfield 43, [10, 23, 13, 974], 0), (.aload_n 1, [], 0), (.iload 5, [], 0), (.iconst (-1), [], (-1))] = some 74 := by decide +kernel
theorem b_Mo_layCases_77 : mx_ck m_Mo_layCases 77 [(.iload 6, [], 0)] = some 79 := by decide +kernel
theorem b_Mo_layCases_82 : mx_ck m_Mo_layCases 82 [(.sipush 256, [], nI 256)] = some 85 := by decide +kernel
theorem b_Mo_layCases_88 : mx_ck m_Mo_layCases 88 [(.iconst 0, [], nI 0)] = some 89 := by decide +kernel
theorem b_Mo_layCases_89 : mx_ck m_Mo_layCases 89 [(.iadd, [], 0), (.iconst 1, [], nI 1), (.bastore, [], 0), (.iconst 0, [], nI 0), (.istore 7, [], 0)] = some 95 := by decide +kernel
theorem b_Mo_layCases_95 : mx_ck m_Mo_layCases 95 [(.iload 7, [], 0), (.aload_n 0, [], 0), (.getfield 185, [10, 22, 0, 973], 0)] = some 101 := by decide +kernel
theorem b_Mo_layCases_104 : mx_ck m_Mo_layCases 104 [(.aload_n 0, [], 0), (.getfield 40, [10, 21, 12, 972], 0), (.iload 7, [], 0), (.iaload, [], 0), (.istore 8, [], 0), (.aload_n 0, [], 0), (.getfield 43, [10, 23, 13, 974], 0), (.aload_n 1, [], 0), (.iload 5, [], 0), (.iload 8, [], 0)] = some 122 := by decide +kernel
theorem b_Mo_layCases_125 : mx_ck m_Mo_layCases 125 [(.iload 6, [], 0)] = some 127 := by decide +kernel
theorem b_Mo_layCases_130 : mx_ck m_Mo_layCases 130 [(.iload_n 3, [], 0)] = some 131 := by decide +kernel
theorem b_Mo_layCases_134 : mx_ck m_Mo_layCases 134 [(.iload 8, [], 0), (.iload_n 3, [], 0)] = some 137 := by decide +kernel
theorem b_Mo_layCases_143 : mx_ck m_Mo_layCases 143 [(.sipush 256, [], nI 256)] = some 146 := by decide +kernel
theorem b_Mo_layCases_149 : mx_ck m_Mo_layCases 149 [(.iconst 0, [], nI 0)] = some 150 := by decide +kernel
theorem b_Mo_layCases_150 : mx_ck m_Mo_layCases 150 [(.iadd, [], 0), (.iconst 1, [], nI 1), (.bastore, [], 0), (.iinc 7 1, [], nI 1)] = some 156 := by decide +kernel
theorem b_Mo_layCases_159 : mx_ck m_Mo_layCases 159 [(.iinc 4 1, [], nI 1)] = some 162 := by decide +kernel
theorem b_Mo_layCases_165 : mx_ck m_Mo_layCases 165 [(.aload_n 0, [], 0)] = some 166 := by decide +kernel
theorem d_Mo_layCases_8 : decode m_Mo_layCases.2.1 8 = .ok (.if_icmp .ge 17, 3) := by decide +kernel
theorem d_Mo_layCases_22 : decode m_Mo_layCases.2.1 22 = .ok (.goto (-19), 3) := by decide +kernel
theorem d_Mo_layCases_34 : decode m_Mo_layCases.2.1 34 = .ok (.if_icmp .ge 131, 3) := by decide +kernel
theorem d_Mo_layCases_47 : decode m_Mo_layCases.2.1 47 = .ok (.ifCond .lt 16, 3) := by decide +kernel
theorem d_Mo_layCases_53 : decode m_Mo_layCases.2.1 53 = .ok (.invokestatic 177, 3) := by decide +kernel
theorem c_Mo_layCases_53 : mx_cs m_Mo_layCases m_Mo_has 177 2 [1200, 1201, 92, 1202] = true := by decide +kernel
theorem d_Mo_layCases_56 : decode m_Mo_layCases.2.1 56 = .ok (.ifCond .eq 7, 3) := by decide +kernel
theorem d_Mo_layCases_60 : decode m_Mo_layCases.2.1 60 = .ok (.goto 4, 3) := by decide +kernel
theorem d_Mo_layCases_74 : decode m_Mo_layCases.2.1 74 = .ok (.invokestatic 188, 3) := by decide +kernel
theorem c_Mo_layCases_74 : mx_cs m_Mo_layCases m_Mo_breaks 188 3 [1218, 1219, 92, 1220] = true := by decide +kernel
theorem d_Mo_layCases_79 : decode m_Mo_layCases.2.1 79 = .ok (.ifCond .eq 9, 3) := by decide +kernel
theorem d_Mo_layCases_85 : decode m_Mo_layCases.2.1 85 = .ok (.goto 4, 3) := by decide +kernel
theorem d_Mo_layCases_101 : decode m_Mo_layCases.2.1 101 = .ok (.if_icmp .ge 58, 3) := by decide +kernel
theorem d_Mo_layCases_122 : decode m_Mo_layCases.2.1 122 = .ok (.invokestatic 188, 3) := by decide +kernel
theorem c_Mo_layCases_122 : mx_cs m_Mo_layCases m_Mo_breaks 188 3 [1218, 1219, 92, 1220] = true := by decide +kernel
theorem d_Mo_layCases_127 : decode m_Mo_layCases.2.1 127 = .ok (.ifCond .eq 22, 3) := by decide +kernel
theorem d_Mo_layCases_131 : decode m_Mo_layCases.2.1 131 = .ok (.ifCond .lt 18, 3) := by decide +kernel
theorem d_Mo_layCases_137 : decode m_Mo_layCases.2.1 137 = .ok (.invokestatic 177, 3) := by decide +kernel
theorem c_Mo_layCases_137 : mx_cs m_Mo_layCases m_Mo_has 177 2 [1200, 1201, 92, 1202] = true := by decide +kernel
theorem d_Mo_layCases_140 : decode m_Mo_layCases.2.1 140 = .ok (.ifCond .ne 9, 3) := by decide +kernel
theorem d_Mo_layCases_146 : decode m_Mo_layCases.2.1 146 = .ok (.goto 4, 3) := by decide +kernel
theorem d_Mo_layCases_156 : decode m_Mo_layCases.2.1 156 = .ok (.goto (-61), 3) := by decide +kernel
theorem d_Mo_layCases_162 : decode m_Mo_layCases.2.1 162 = .ok (.goto (-134), 3) := by decide +kernel
theorem d_Mo_layCases_166 : decode m_Mo_layCases.2.1 166 = .ok (.invokevirtual 191, 3) := by decide +kernel
theorem c_Mo_layCases_166 : mx_cv m_Mo_layCases m_Mo_join 191 0 [1224, 1226, 61, 92, 1227] = true := by decide +kernel
theorem d_Mo_layCases_169 : decode m_Mo_layCases.2.1 169 = .ok (.return_, 1) := by decide +kernel
theorem b_Mo_layPlain_0 : mx_ck m_Mo_layPlain 0 [(.iconst 0, [], nI 0), (.istore_n 2, [], 0)] = some 2 := by decide +kernel
theorem b_Mo_layPlain_2 : mx_ck m_Mo_layPlain 2 [(.iload_n 2, [], 0), (.sipush 256, [], nI 256)] = some 6 := by decide +kernel
theorem b_Mo_layPlain_9 : mx_ck m_Mo_layPlain 9 [(.aload_n 0, [], 0), (.getfield 53, [10, 26, 16, 977], 0), (.iload_n 2, [], 0), (.iconst 0, [], nI 0), (.iastore, [], 0), (.iinc 2 1, [], nI 1)] = some 19 := by decide +kernel
theorem b_Mo_layPlain_22 : mx_ck m_Mo_layPlain 22 [(.iconst 0, [], nI 0), (.istore_n 2, [], 0)] = some 24 := by decide +kernel
theorem b_Mo_layPlain_24 : mx_ck m_Mo_layPlain 24 [(.iload_n 2, [], 0), (.iload_n 1, [], 0)] = some 26 := by decide +kernel
theorem b_Mo_layPlain_29 : mx_ck m_Mo_layPlain 29 [(.iconst 0, [], nI 0), (.istore_n 3, [], 0)] = some 31 := by decide +kernel
theorem b_Mo_layPlain_31 : mx_ck m_Mo_layPlain 31 [(.iload_n 3, [], 0), (.sipush 256, [], nI 256)] = some 35 := by decide +kernel
theorem b_Mo_layPlain_38 : mx_ck m_Mo_layPlain 38 [(.aload_n 0, [], 0), (.getfield 56, [10, 27, 17, 978], 0), (.iload_n 3, [], 0), (.iconst 0, [], nI 0), (.iastore, [], 0), (.iinc 3 1, [], nI 1)] = some 48 := by decide +kernel
theorem b_Mo_layPlain_51 : mx_ck m_Mo_layPlain 51 [(.iconst 0, [], nI 0), (.istore_n 3, [], 0)] = some 53 := by decide +kernel
theorem b_Mo_layPlain_53 : mx_ck m_Mo_layPlain 53 [(.iload_n 3, [], 0), (.aload_n 0, [], 0), (.getfield 19, [10, 5, 5, 956], 0), (.iconst 1, [], nI 1), (.iaload, [], 0)] = some 60 := by decide +kernel
theorem b_Mo_layPlain_63 : mx_ck m_Mo_layPlain 63 [(.aload_n 0, [], 0), (.getfield 56, [10, 27, 17, 978], 0), (.aload_n 0, [], 0), (.getfield 19, [10, 5, 5, 956], 0), (.iload_n 3, [], 0)] = some 72 := by decide +kernel
theorem b_Mo_layPlain_75 : mx_ck m_Mo_layPlain 75 [(.dup2, [], 0), (.iaload, [], 0), (.iconst 1, [], nI 1), (.iadd, [], 0), (.iastore, [], 0), (.iinc 3 1, [], nI 1)] = some 83 := by decide +kernel
theorem b_Mo_layPlain_86 : mx_ck m_Mo_layPlain 86 [(.iconst 0, [], nI 0), (.istore_n 3, [], 0)] = some 88 := by decide +kernel
theorem b_Mo_layPlain_88 : mx_ck m_Mo_layPlain 88 [(.iload_n 3, [], 0), (.sipush 256, [], nI 256)] = some 92 := by decide +kernel
theorem b_Mo_layPlain_95 : mx_ck m_Mo_layPlain 95 [(.iconst 0, [], nI 0), (.istore 4, [], 0)] = some 98 := by decide +kernel
theorem b_Mo_layPlain_98 : mx_ck m_Mo_layPlain 98 [(.iload 4, [], 0), (.sipush 256, [], nI 256)] = some 103 := by decide +kernel
theorem b_Mo_layPlain_106 : mx_ck m_Mo_layPlain 106 [(.aload_n 0, [], 0), (.getfield 53, [10, 26, 16, 977], 0), (.iload_n 3, [], 0), (.iaload, [], 0)] = some 112 := by decide +kernel
theorem b_Mo_layPlain_115 : mx_ck m_Mo_layPlain 115 [(.aload_n 0, [], 0), (.getfield 53, [10, 26, 16, 977], 0), (.iload 4, [], 0), (.iaload, [], 0)] = some 122 := by decide +kernel
theorem b_Mo_layPlain_125 : mx_ck m_Mo_layPlain 125 [(.aload_n 0, [], 0), (.getfield 56, [10, 27, 17, 978], 0), (.aload_n 0, [], 0), (.getfield 19, [10, 5, 5, 956], 0), (.iload_n 3, [], 0), (.iload 4, [], 0)] = some 136 := by decide +kernel
theorem b_Mo_layPlain_139 : mx_ck m_Mo_layPlain 139 [(.dup2, [], 0), (.iaload, [], 0), (.aload_n 0, [], 0), (.getfield 53, [10, 26, 16, 977], 0), (.iload_n 3, [], 0), (.iaload, [], 0), (.aload_n 0, [], 0), (.getfield 53, [10, 26, 16, 977], 0), (.iload 4, [], 0), (.iaload, [], 0), (.imul, [], 0), (.iadd, [], 0), (.iastore, [], 0)] = some 157 := by decide +kernel
theorem b_Mo_layPlain_157 : mx_ck m_Mo_layPlain 157 [(.iinc 4 1, [], nI 1)] = some 160 := by decide +kernel
theorem b_Mo_layPlain_163 : mx_ck m_Mo_layPlain 163 [(.iinc 3 1, [], nI 1)] = some 166 := by decide +kernel
theorem b_Mo_layPlain_169 : mx_ck m_Mo_layPlain 169 [(.iconst 0, [], nI 0), (.istore_n 3, [], 0)] = some 171 := by decide +kernel
theorem b_Mo_layPlain_171 : mx_ck m_Mo_layPlain 171 [(.iload_n 3, [], 0), (.sipush 256, [], nI 256)] = some 175 := by decide +kernel
theorem b_Mo_layPlain_178 : mx_ck m_Mo_layPlain 178 [(.aload_n 0, [], 0), (.getfield 53, [10, 26, 16, 977], 0), (.iload_n 3, [], 0), (.aload_n 0, [], 0), (.getfield 56, [10, 27, 17, 978], 0), (.iload_n 3, [], 0), (.iaload, [], 0), (.iastore, [], 0), (.iinc 3 1, [], nI 1)] = some 193 := by decide +kernel
theorem b_Mo_layPlain_196 : mx_ck m_Mo_layPlain 196 [(.iinc 2 1, [], nI 1)] = some 199 := by decide +kernel
theorem d_Mo_layPlain_6 : decode m_Mo_layPlain.2.1 6 = .ok (.if_icmp .ge 16, 3) := by decide +kernel
theorem d_Mo_layPlain_19 : decode m_Mo_layPlain.2.1 19 = .ok (.goto (-17), 3) := by decide +kernel
theorem d_Mo_layPlain_26 : decode m_Mo_layPlain.2.1 26 = .ok (.if_icmp .ge 176, 3) := by decide +kernel
theorem d_Mo_layPlain_35 : decode m_Mo_layPlain.2.1 35 = .ok (.if_icmp .ge 16, 3) := by decide +kernel
theorem d_Mo_layPlain_48 : decode m_Mo_layPlain.2.1 48 = .ok (.goto (-17), 3) := by decide +kernel
theorem d_Mo_layPlain_60 : decode m_Mo_layPlain.2.1 60 = .ok (.if_icmp .ge 26, 3) := by decide +kernel
theorem d_Mo_layPlain_72 : decode m_Mo_layPlain.2.1 72 = .ok (.invokestatic 198, 3) := by decide +kernel
theorem c_Mo_layPlain_72 : mx_cs m_Mo_layPlain m_Mo_constantCell 198 2 [1194, 1195, 92, 1196] = true := by decide +kernel
theorem d_Mo_layPlain_83 : decode m_Mo_layPlain.2.1 83 = .ok (.goto (-30), 3) := by decide +kernel
theorem d_Mo_layPlain_92 : decode m_Mo_layPlain.2.1 92 = .ok (.if_icmp .ge 77, 3) := by decide +kernel
theorem d_Mo_layPlain_103 : decode m_Mo_layPlain.2.1 103 = .ok (.if_icmp .ge 60, 3) := by decide +kernel
theorem d_Mo_layPlain_112 : decode m_Mo_layPlain.2.1 112 = .ok (.ifCond .le 51, 3) := by decide +kernel
theorem d_Mo_layPlain_122 : decode m_Mo_layPlain.2.1 122 = .ok (.ifCond .le 35, 3) := by decide +kernel
theorem d_Mo_layPlain_136 : decode m_Mo_layPlain.2.1 136 = .ok (.invokestatic 215, 3) := by decide +kernel
theorem c_Mo_layPlain_136 : mx_cs m_Mo_layPlain m_Mo_pairCell 215 3 [1221, 1222, 92, 1223] = true := by decide +kernel
theorem d_Mo_layPlain_160 : decode m_Mo_layPlain.2.1 160 = .ok (.goto (-62), 3) := by decide +kernel
theorem d_Mo_layPlain_166 : decode m_Mo_layPlain.2.1 166 = .ok (.goto (-78), 3) := by decide +kernel
theorem d_Mo_layPlain_175 : decode m_Mo_layPlain.2.1 175 = .ok (.if_icmp .ge 21, 3) := by decide +kernel
theorem d_Mo_layPlain_193 : decode m_Mo_layPlain.2.1 193 = .ok (.goto (-22), 3) := by decide +kernel
theorem d_Mo_layPlain_199 : decode m_Mo_layPlain.2.1 199 = .ok (.goto (-175), 3) := by decide +kernel
theorem d_Mo_layPlain_202 : decode m_Mo_layPlain.2.1 202 = .ok (.return_, 1) := by decide +kernel
theorem b_Mo_layThen_0 : mx_ck m_Mo_layThen 0 [(.iconst 0, [], nI 0), (.istore_n 1, [], 0)] = some 2 := by decide +kernel
theorem b_Mo_layThen_2 : mx_ck m_Mo_layThen 2 [(.iload_n 1, [], 0), (.bipush 26, [], nI 26)] = some 5 := by decide +kernel
theorem b_Mo_layThen_8 : mx_ck m_Mo_layThen 8 [(.aload_n 0, [], 0), (.getfield 25, [10, 7, 7, 958], 0), (.iload_n 1, [], 0), (.aload_n 0, [], 0), (.getfield 19, [10, 5, 5, 956], 0), (.iload_n 1, [], 0), (.iaload, [], 0), (.iastore, [], 0), (.iinc 1 1, [], nI 1)] = some 23 := by decide +kernel
theorem d_Mo_layThen_5 : decode m_Mo_layThen.2.1 5 = .ok (.if_icmp .ge 21, 3) := by decide +kernel
theorem d_Mo_layThen_23 : decode m_Mo_layThen.2.1 23 = .ok (.goto (-21), 3) := by decide +kernel
theorem d_Mo_layThen_26 : decode m_Mo_layThen.2.1 26 = .ok (.return_, 1) := by decide +kernel
theorem b_Mo_lies_0 : mx_ck m_Mo_lies 0 [(.aload_n 0, [], 0), (.iconst 0, [], nI 0), (.putfield 68, [10, 0, 0, 951], 0), (.aload_n 0, [], 0), (.iload_n 1, [], 0)] = some 7 := by decide +kernel
theorem b_Mo_lies_13 : mx_ck m_Mo_lies 13 [(.aload_n 0, [], 0), (.iload_n 2, [], 0)] = some 15 := by decide +kernel
theorem b_Mo_lies_21 : mx_ck m_Mo_lies 21 [(.ldc 88, [1061], (-1000001))] = some 23 := by decide +kernel
theorem b_Mo_lies_24 : mx_ck m_Mo_lies 24 [(.aload_n 0, [], 0), (.aload_n 0, [], 0), (.getfield 19, [10, 5, 5, 956], 0)] = some 29 := by decide +kernel
theorem b_Mo_lies_32 : mx_ck m_Mo_lies 32 [(.aload_n 0, [], 0), (.iload_n 1, [], 0), (.iload_n 2, [], 0)] = some 35 := by decide +kernel
theorem b_Mo_lies_41 : mx_ck m_Mo_lies 41 [(.iconst 1, [], nI 1)] = some 42 := by decide +kernel
theorem b_Mo_lies_45 : mx_ck m_Mo_lies 45 [(.iconst 0, [], nI 0)] = some 46 := by decide +kernel
theorem d_Mo_lies_7 : decode m_Mo_lies.2.1 7 = .ok (.invokevirtual 221, 3) := by decide +kernel
theorem c_Mo_lies_7 : mx_cv m_Mo_lies m_Mo_isType 221 1 [1150, 1152, 52, 92, 1153] = true := by decide +kernel
theorem d_Mo_lies_10 : decode m_Mo_lies.2.1 10 = .ok (.ifCond .eq 11, 3) := by decide +kernel
theorem d_Mo_lies_15 : decode m_Mo_lies.2.1 15 = .ok (.invokevirtual 221, 3) := by decide +kernel
theorem c_Mo_lies_15 : mx_cv m_Mo_lies m_Mo_isType 221 1 [1150, 1152, 52, 92, 1153] = true := by decide +kernel
theorem d_Mo_lies_18 : decode m_Mo_lies.2.1 18 = .ok (.ifCond .ne 6, 3) := by decide +kernel
theorem d_Mo_lies_23 : decode m_Mo_lies.2.1 23 = .ok (.ireturn, 1) := by decide +kernel
theorem d_Mo_lies_29 : decode m_Mo_lies.2.1 29 = .ok (.invokevirtual 240, 3) := by decide +kernel
theorem c_Mo_lies_29 : mx_cv m_Mo_lies m_Mo_reckon 240 1 [1186, 1188, 56, 92, 1189] = true := by decide +kernel
theorem d_Mo_lies_35 : decode m_Mo_lies.2.1 35 = .ok (.invokevirtual 244, 3) := by decide +kernel
theorem c_Mo_lies_35 : mx_cv m_Mo_lies m_Mo_liesIn 244 2 [1232, 1234, 62, 92, 1235] = true := by decide +kernel
theorem d_Mo_lies_38 : decode m_Mo_lies.2.1 38 = .ok (.ifCond .eq 7, 3) := by decide +kernel
theorem d_Mo_lies_42 : decode m_Mo_lies.2.1 42 = .ok (.goto 4, 3) := by decide +kernel
theorem d_Mo_lies_46 : decode m_Mo_lies.2.1 46 = .ok (.ireturn, 1) := by decide +kernel
theorem b_Mo_liesIn_0 : mx_ck m_Mo_liesIn 0 [(.iconst 0, [], nI 0), (.istore_n 3, [], 0)] = some 2 := by decide +kernel
theorem b_Mo_liesIn_2 : mx_ck m_Mo_liesIn 2 [(.iload_n 3, [], 0), (.aload_n 0, [], 0), (.getfield 185, [10, 22, 0, 973], 0)] = some 7 := by decide +kernel
theorem b_Mo_liesIn_10 : mx_ck m_Mo_liesIn 10 [(.aload_n 0, [], 0), (.getfield 40, [10, 21, 12, 972], 0), (.iload_n 3, [], 0), (.iaload, [], 0), (.iload_n 1, [], 0)] = some 17 := by decide +kernel
theorem b_Mo_liesIn_23 : mx_ck m_Mo_liesIn 23 [(.aload_n 0, [], 0), (.getfield 40, [10, 21, 12, 972], 0), (.iload_n 3, [], 0), (.iaload, [], 0), (.iload_n 2, [], 0)] = some 30 := by decide +kernel
theorem b_Mo_liesIn_36 : mx_ck m_Mo_liesIn 36 [(.iconst 0, [], nI 0)] = some 37 := by decide +kernel
theorem b_Mo_liesIn_38 : mx_ck m_Mo_liesIn 38 [(.iinc 3 1, [], nI 1)] = some 41 := by decide +kernel
theorem b_Mo_liesIn_44 : mx_ck m_Mo_liesIn 44 [(.iconst 1, [], nI 1)] = some 45 := by decide +kernel
theorem d_Mo_liesIn_7 : decode m_Mo_liesIn.2.1 7 = .ok (.if_icmp .ge 37, 3) := by decide +kernel
theorem d_Mo_liesIn_17 : decode m_Mo_liesIn.2.1 17 = .ok (.invokestatic 177, 3) := by decide +kernel
theorem c_Mo_liesIn_17 : mx_cs m_Mo_liesIn m_Mo_has 177 2 [1200, 1201, 92, 1202] = true := by decide +kernel
theorem d_Mo_liesIn_20 : decode m_Mo_liesIn.2.1 20 = .ok (.ifCond .eq 18, 3) := by decide +kernel
theorem d_Mo_liesIn_30 : decode m_Mo_liesIn.2.1 30 = .ok (.invokestatic 177, 3) := by decide +kernel
theorem c_Mo_liesIn_30 : mx_cs m_Mo_liesIn m_Mo_has 177 2 [1200, 1201, 92, 1202] = true := by decide +kernel
theorem d_Mo_liesIn_33 : decode m_Mo_liesIn.2.1 33 = .ok (.ifCond .ne 5, 3) := by decide +kernel
theorem d_Mo_liesIn_37 : decode m_Mo_liesIn.2.1 37 = .ok (.ireturn, 1) := by decide +kernel
theorem d_Mo_liesIn_41 : decode m_Mo_liesIn.2.1 41 = .ok (.goto (-39), 3) := by decide +kernel
theorem d_Mo_liesIn_45 : decode m_Mo_liesIn.2.1 45 = .ok (.ireturn, 1) := by decide +kernel
theorem b_Mo_lowest_0 : mx_ck m_Mo_lowest 0 [(.aload_n 0, [], 0), (.iconst 0, [], nI 0), (.putfield 68, [10, 0, 0, 951], 0), (.aload_n 0, [], 0)] = some 6 := by decide +kernel
theorem b_Mo_lowest_12 : mx_ck m_Mo_lowest 12 [(.ldc 233, [1166], (-1000002))] = some 14 := by decide +kernel
theorem b_Mo_lowest_15 : mx_ck m_Mo_lowest 15 [(.aload_n 0, [], 0), (.iload_n 1, [], 0)] = some 17 := by decide +kernel
theorem b_Mo_lowest_23 : mx_ck m_Mo_lowest 23 [(.aload_n 0, [], 0), (.iload_n 2, [], 0)] = some 25 := by decide +kernel
theorem b_Mo_lowest_31 : mx_ck m_Mo_lowest 31 [(.ldc 88, [1061], (-1000001))] = some 33 := by decide +kernel
theorem b_Mo_lowest_34 : mx_ck m_Mo_lowest 34 [(.aload_n 0, [], 0), (.aload_n 0, [], 0), (.getfield 19, [10, 5, 5, 956], 0)] = some 39 := by decide +kernel
theorem b_Mo_lowest_42 : mx_ck m_Mo_lowest 42 [(.ldc 111, [1101], (-1000000)), (.istore_n 3, [], 0), (.iconst 0, [], nI 0), (.istore 4, [], 0)] = some 48 := by decide +kernel
theorem b_Mo_lowest_48 : mx_ck m_Mo_lowest 48 [(.iload 4, [], 0), (.aload_n 0, [], 0), (.getfield 185, [10, 22, 0, 973], 0)] = some 54 := by decide +kernel
theorem b_Mo_lowest_57 : mx_ck m_Mo_lowest 57 [(.aload_n 0, [], 0), (.getfield 40, [10, 21, 12, 972], 0), (.iload 4, [], 0), (.iaload, [], 0), (.istore 5, [], 0), (.iload 5, [], 0), (.iload_n 1, [], 0), (.iand, [], 0), (.iload_n 1, [], 0)] = some 71 := by decide +kernel
theorem b_Mo_lowest_74 : mx_ck m_Mo_lowest 74 [(.iload 5, [], 0), (.iload_n 2, [], 0), (.iand, [], 0)] = some 78 := by decide +kernel
theorem b_Mo_lowest_81 : mx_ck m_Mo_lowest 81 [(.iconst 1, [], nI 1)] = some 82 := by decide +kernel
theorem b_Mo_lowest_85 : mx_ck m_Mo_lowest 85 [(.iconst 0, [], nI 0)] = some 86 := by decide +kernel
theorem b_Mo_lowest_86 : mx_ck m_Mo_lowest 86 [(.istore 6, [], 0), (.iload 6, [], 0)] = some 90 := by decide +kernel
theorem b_Mo_lowest_93 : mx_ck m_Mo_lowest 93 [(.iload_n 3, [], 0), (.ldc 111, [1101], (-1000000))] = some 96 := by decide +kernel
theorem b_Mo_lowest_99 : mx_ck m_Mo_lowest 99 [(.aload_n 0, [], 0), (.getfield 34, [10, 19, 10, 970], 0), (.iload 5, [], 0), (.iaload, [], 0), (.iload_n 3, [], 0)] = some 107 := by decide +kernel
theorem b_Mo_lowest_110 : mx_ck m_Mo_lowest 110 [(.aload_n 0, [], 0), (.getfield 34, [10, 19, 10, 970], 0), (.iload 5, [], 0), (.iaload, [], 0)] = some 117 := by decide +kernel
theorem b_Mo_lowest_120 : mx_ck m_Mo_lowest 120 [(.iload_n 3, [], 0)] = some 121 := by decide +kernel
theorem b_Mo_lowest_121 : mx_ck m_Mo_lowest 121 [(.istore_n 3, [], 0), (.iinc 4 1, [], nI 1)] = some 125 := by decide +kernel
theorem b_Mo_lowest_128 : mx_ck m_Mo_lowest 128 [(.iload_n 3, [], 0)] = some 129 := by decide +kernel
theorem d_Mo_lowest_6 : decode m_Mo_lowest.2.1 6 = .ok (.invokevirtual 234, 3) := by decide +kernel
theorem c_Mo_lowest_6 : mx_cv m_Mo_lowest m_Mo_isThere 234 0 [1178, 1180, 54, 92, 1181] = true := by decide +kernel
theorem d_Mo_lowest_9 : decode m_Mo_lowest.2.1 9 = .ok (.ifCond .ne 6, 3) := by decide +kernel
theorem d_Mo_lowest_14 : decode m_Mo_lowest.2.1 14 = .ok (.ireturn, 1) := by decide +kernel
theorem d_Mo_lowest_17 : decode m_Mo_lowest.2.1 17 = .ok (.invokevirtual 237, 3) := by decide +kernel
theorem c_Mo_lowest_17 : mx_cv m_Mo_lowest m_Mo_isSet 237 1 [1182, 1184, 55, 92, 1185] = true := by decide +kernel
theorem d_Mo_lowest_20 : decode m_Mo_lowest.2.1 20 = .ok (.ifCond .eq 11, 3) := by decide +kernel
theorem d_Mo_lowest_25 : decode m_Mo_lowest.2.1 25 = .ok (.invokevirtual 237, 3) := by decide +kernel
theorem c_Mo_lowest_25 : mx_cv m_Mo_lowest m_Mo_isSet 237 1 [1182, 1184, 55, 92, 1185] = true := by decide +kernel
theorem d_Mo_lowest_28 : decode m_Mo_lowest.2.1 28 = .ok (.ifCond .ne 6, 3) := by decide +kernel
theorem d_Mo_lowest_33 : decode m_Mo_lowest.2.1 33 = .ok (.ireturn, 1) := by decide +kernel
theorem d_Mo_lowest_39 : decode m_Mo_lowest.2.1 39 = .ok (.invokevirtual 240, 3) := by decide +kernel
theorem c_Mo_lowest_39 : mx_cv m_Mo_lowest m_Mo_reckon 240 1 [1186, 1188, 56, 92, 1189] = true := by decide +kernel
theorem d_Mo_lowest_54 : decode m_Mo_lowest.2.1 54 = .ok (.if_icmp .ge 74, 3) := by decide +kernel
theorem d_Mo_lowest_71 : decode m_Mo_lowest.2.1 71 = .ok (.if_icmp .ne 14, 3) := by decide +kernel
theorem d_Mo_lowest_78 : decode m_Mo_lowest.2.1 78 = .ok (.ifCond .ne 7, 3) := by decide +kernel
theorem d_Mo_lowest_82 : decode m_Mo_lowest.2.1 82 = .ok (.goto 4, 3) := by decide +kernel
theorem d_Mo_lowest_90 : decode m_Mo_lowest.2.1 90 = .ok (.ifCond .eq 30, 3) := by decide +kernel
theorem d_Mo_lowest_96 : decode m_Mo_lowest.2.1 96 = .ok (.if_icmp .eq 14, 3) := by decide +kernel
theorem d_Mo_lowest_107 : decode m_Mo_lowest.2.1 107 = .ok (.if_icmp .ge 13, 3) := by decide +kernel
theorem d_Mo_lowest_117 : decode m_Mo_lowest.2.1 117 = .ok (.goto 4, 3) := by decide +kernel
theorem d_Mo_lowest_125 : decode m_Mo_lowest.2.1 125 = .ok (.goto (-77), 3) := by decide +kernel
theorem d_Mo_lowest_129 : decode m_Mo_lowest.2.1 129 = .ok (.ireturn, 1) := by decide +kernel
theorem b_Mo_markOf_0 : mx_ck m_Mo_markOf 0 [(.aload_n 0, [], 0), (.iload_n 1, [], 0)] = some 2 := by decide +kernel
theorem b_Mo_markOf_5 : mx_ck m_Mo_markOf 5 [(.istore_n 2, [], 0), (.iload_n 2, [], 0)] = some 7 := by decide +kernel
theorem b_Mo_markOf_10 : mx_ck m_Mo_markOf 10 [(.aload_n 0, [], 0), (.bipush 20, [], nI 20)] = some 13 := by decide +kernel
theorem b_Mo_markOf_16 : mx_ck m_Mo_markOf 16 [(.iload_n 1, [], 0)] = some 17 := by decide +kernel
theorem b_Mo_markOf_18 : mx_ck m_Mo_markOf 18 [(.iload_n 2, [], 0), (.iconst 4, [], nI 4)] = some 20 := by decide +kernel
theorem b_Mo_markOf_23 : mx_ck m_Mo_markOf 23 [(.aload_n 0, [], 0), (.bipush 23, [], nI 23)] = some 26 := by decide +kernel
theorem b_Mo_markOf_29 : mx_ck m_Mo_markOf 29 [(.aload_n 0, [], 0), (.bipush 20, [], nI 20)] = some 32 := by decide +kernel
theorem b_Mo_markOf_35 : mx_ck m_Mo_markOf 35 [(.iload_n 1, [], 0), (.aload_n 0, [], 0), (.iload_n 1, [], 0)] = some 38 := by decide +kernel
theorem b_Mo_markOf_41 : mx_ck m_Mo_markOf 41 [(.isub, [], 0)] = some 42 := by decide +kernel
theorem b_Mo_markOf_43 : mx_ck m_Mo_markOf 43 [(.iload_n 2, [], 0), (.iconst 1, [], nI 1)] = some 45 := by decide +kernel
theorem b_Mo_markOf_48 : mx_ck m_Mo_markOf 48 [(.aload_n 0, [], 0), (.iload_n 2, [], 0), (.iconst 3, [], nI 3)] = some 51 := by decide +kernel
theorem b_Mo_markOf_54 : mx_ck m_Mo_markOf 54 [(.bipush 22, [], nI 22)] = some 56 := by decide +kernel
theorem b_Mo_markOf_59 : mx_ck m_Mo_markOf 59 [(.bipush 24, [], nI 24)] = some 61 := by decide +kernel
theorem b_Mo_markOf_64 : mx_ck m_Mo_markOf 64 [(.aload_n 0, [], 0), (.bipush 21, [], nI 21)] = some 67 := by decide +kernel
theorem b_Mo_markOf_70 : mx_ck m_Mo_markOf 70 [(.aload_n 0, [], 0), (.bipush 20, [], nI 20)] = some 73 := by decide +kernel
theorem b_Mo_markOf_76 : mx_ck m_Mo_markOf 76 [(.iload_n 1, [], 0), (.aload_n 0, [], 0), (.getfield 19, [10, 5, 5, 956], 0), (.iload_n 1, [], 0), (.iconst 2, [], nI 2)] = some 83 := by decide +kernel
theorem b_Mo_markOf_86 : mx_ck m_Mo_markOf 86 [(.iadd, [], 0), (.istore_n 3, [], 0), (.iload_n 2, [], 0), (.iconst 1, [], nI 1)] = some 90 := by decide +kernel
theorem b_Mo_markOf_93 : mx_ck m_Mo_markOf 93 [(.iload_n 3, [], 0)] = some 94 := by decide +kernel
theorem b_Mo_markOf_97 : mx_ck m_Mo_markOf 97 [(.iload_n 2, [], 0), (.iconst 3, [], nI 3)] = some 99 := by decide +kernel
theorem b_Mo_markOf_102 : mx_ck m_Mo_markOf 102 [(.iload_n 3, [], 0), (.sipush 1000, [], nI 1000), (.isub, [], 0)] = some 107 := by decide +kernel
theorem b_Mo_markOf_110 : mx_ck m_Mo_markOf 110 [(.iconst 2, [], nI 2), (.iload_n 3, [], 0), (.imul, [], 0)] = some 113 := by decide +kernel
theorem d_Mo_markOf_2 : decode m_Mo_markOf.2.1 2 = .ok (.invokevirtual 301, 3) := by decide +kernel
theorem c_Mo_markOf_2 : mx_cv m_Mo_markOf m_Mo_kindOf 301 1 [1344, 1346, 74, 92, 1347] = true := by decide +kernel
theorem d_Mo_markOf_7 : decode m_Mo_markOf.2.1 7 = .ok (.ifCond .ne 11, 3) := by decide +kernel
theorem d_Mo_markOf_13 : decode m_Mo_markOf.2.1 13 = .ok (.invokevirtual 310, 3) := by decide +kernel
theorem c_Mo_markOf_13 : mx_cv m_Mo_markOf m_Mo_began 310 1 [1367, 1369, 77, 92, 1370] = true := by decide +kernel
theorem d_Mo_markOf_17 : decode m_Mo_markOf.2.1 17 = .ok (.ireturn, 1) := by decide +kernel
theorem d_Mo_markOf_20 : decode m_Mo_markOf.2.1 20 = .ok (.if_icmp .lt 23, 3) := by decide +kernel
theorem d_Mo_markOf_26 : decode m_Mo_markOf.2.1 26 = .ok (.invokevirtual 310, 3) := by decide +kernel
theorem c_Mo_markOf_26 : mx_cv m_Mo_markOf m_Mo_began 310 1 [1367, 1369, 77, 92, 1370] = true := by decide +kernel
theorem d_Mo_markOf_32 : decode m_Mo_markOf.2.1 32 = .ok (.invokevirtual 310, 3) := by decide +kernel
theorem c_Mo_markOf_32 : mx_cv m_Mo_markOf m_Mo_began 310 1 [1367, 1369, 77, 92, 1370] = true := by decide +kernel
theorem d_Mo_markOf_38 : decode m_Mo_markOf.2.1 38 = .ok (.invokevirtual 316, 3) := by decide +kernel
theorem c_Mo_markOf_38 : mx_cv m_Mo_markOf m_Mo_pairSize 316 1 [1371, 1373, 78, 92, 1374] = true := by decide +kernel
theorem d_Mo_markOf_42 : decode m_Mo_markOf.2.1 42 = .ok (.ireturn, 1) := by decide +kernel
theorem d_Mo_markOf_45 : decode m_Mo_markOf.2.1 45 = .ok (.if_icmp .eq 19, 3) := by decide +kernel
theorem d_Mo_markOf_51 : decode m_Mo_markOf.2.1 51 = .ok (.if_icmp .ne 8, 3) := by decide +kernel
theorem d_Mo_markOf_56 : decode m_Mo_markOf.2.1 56 = .ok (.goto 5, 3) := by decide +kernel
theorem d_Mo_markOf_61 : decode m_Mo_markOf.2.1 61 = .ok (.invokevirtual 310, 3) := by decide +kernel
theorem c_Mo_markOf_61 : mx_cv m_Mo_markOf m_Mo_began 310 1 [1367, 1369, 77, 92, 1370] = true := by decide +kernel
theorem d_Mo_markOf_67 : decode m_Mo_markOf.2.1 67 = .ok (.invokevirtual 310, 3) := by decide +kernel
theorem c_Mo_markOf_67 : mx_cv m_Mo_markOf m_Mo_began 310 1 [1367, 1369, 77, 92, 1370] = true := by decide +kernel
theorem d_Mo_markOf_73 : decode m_Mo_markOf.2.1 73 = .ok (.invokevirtual 310, 3) := by decide +kernel
theorem c_Mo_markOf_73 : mx_cv m_Mo_markOf m_Mo_began 310 1 [1367, 1369, 77, 92, 1370] = true := by decide +kernel
theorem d_Mo_markOf_83 : decode m_Mo_markOf.2.1 83 = .ok (.invokestatic 173, 3) := by decide +kernel
theorem c_Mo_markOf_83 : mx_cs m_Mo_markOf m_Mo_of 173 3 [1171, 1172, 92, 1173] = true := by decide +kernel
theorem d_Mo_markOf_90 : decode m_Mo_markOf.2.1 90 = .ok (.if_icmp .ne 7, 3) := by decide +kernel
theorem d_Mo_markOf_94 : decode m_Mo_markOf.2.1 94 = .ok (.goto 19, 3) := by decide +kernel
theorem d_Mo_markOf_99 : decode m_Mo_markOf.2.1 99 = .ok (.if_icmp .ne 11, 3) := by decide +kernel
theorem d_Mo_markOf_107 : decode m_Mo_markOf.2.1 107 = .ok (.goto 6, 3) := by decide +kernel
theorem d_Mo_markOf_113 : decode m_Mo_markOf.2.1 113 = .ok (.ireturn, 1) := by decide +kernel
theorem b_Mo_may_0 : mx_ck m_Mo_may 0 [(.iload_n 2, [], 0)] = some 1 := by decide +kernel
theorem b_Mo_may_4 : mx_ck m_Mo_may 4 [(.iconst 3, [], nI 3)] = some 5 := by decide +kernel
theorem b_Mo_may_8 : mx_ck m_Mo_may 8 [(.iload_n 2, [], 0), (.iconst 3, [], nI 3)] = some 10 := by decide +kernel
theorem b_Mo_may_13 : mx_ck m_Mo_may 13 [(.iload_n 0, [], 0), (.iconst 1, [], nI 1), (.isub, [], 0)] = some 16 := by decide +kernel
theorem b_Mo_may_19 : mx_ck m_Mo_may 19 [(.iload_n 1, [], 0), (.iconst 1, [], nI 1), (.isub, [], 0)] = some 22 := by decide +kernel
theorem b_Mo_may_22 : mx_ck m_Mo_may 22 [(.istore 5, [], 0), (.iload_n 3, [], 0), (.i2l, [], 0), (.lconst 0, [0], 0), (.iload 5, [], 0), (.i2l, [], 0)] = some 30 := by decide +kernel
theorem b_Mo_may_36 : mx_ck m_Mo_may 36 [(.iload 4, [], 0), (.i2l, [], 0), (.iload_n 2, [], 0)] = some 40 := by decide +kernel
theorem b_Mo_may_43 : mx_ck m_Mo_may 43 [(.iload_n 3, [], 0), (.i2l, [], 0)] = some 45 := by decide +kernel
theorem b_Mo_may_48 : mx_ck m_Mo_may 48 [(.lconst 0, [0], 0)] = some 49 := by decide +kernel
theorem b_Mo_may_49 : mx_ck m_Mo_may 49 [(.iload 5, [], 0), (.i2l, [], 0)] = some 52 := by decide +kernel
theorem b_Mo_may_58 : mx_ck m_Mo_may 58 [(.iconst 1, [], nI 1)] = some 59 := by decide +kernel
theorem b_Mo_may_62 : mx_ck m_Mo_may 62 [(.iconst 0, [], nI 0)] = some 63 := by decide +kernel
theorem d_Mo_may_1 : decode m_Mo_may.2.1 1 = .ok (.ifCond .ne 7, 3) := by decide +kernel
theorem d_Mo_may_5 : decode m_Mo_may.2.1 5 = .ok (.goto 17, 3) := by decide +kernel
theorem d_Mo_may_10 : decode m_Mo_may.2.1 10 = .ok (.if_icmp .ge 9, 3) := by decide +kernel
theorem d_Mo_may_16 : decode m_Mo_may.2.1 16 = .ok (.goto 6, 3) := by decide +kernel
theorem d_Mo_may_30 : decode m_Mo_may.2.1 30 = .ok (.invokestatic 78, 3) := by decide +kernel
theorem c_Mo_may_30 : mx_cs m_Mo_may m_Mo_in 78 3 [1057, 1058, 92, 1059] = true := by decide +kernel
theorem d_Mo_may_33 : decode m_Mo_may.2.1 33 = .ok (.ifCond .eq 29, 3) := by decide +kernel
theorem d_Mo_may_40 : decode m_Mo_may.2.1 40 = .ok (.ifCond .ne 8, 3) := by decide +kernel
theorem d_Mo_may_45 : decode m_Mo_may.2.1 45 = .ok (.goto 4, 3) := by decide +kernel
theorem d_Mo_may_52 : decode m_Mo_may.2.1 52 = .ok (.invokestatic 78, 3) := by decide +kernel
theorem c_Mo_may_52 : mx_cs m_Mo_may m_Mo_in 78 3 [1057, 1058, 92, 1059] = true := by decide +kernel
theorem d_Mo_may_55 : decode m_Mo_may.2.1 55 = .ok (.ifCond .eq 7, 3) := by decide +kernel
theorem d_Mo_may_59 : decode m_Mo_may.2.1 59 = .ok (.goto 4, 3) := by decide +kernel
theorem d_Mo_may_63 : decode m_Mo_may.2.1 63 = .ok (.ireturn, 1) := by decide +kernel
theorem b_Mo_must_0 : mx_ck m_Mo_must 0 [(.iload_n 1, [], 0)] = some 1 := by decide +kernel
theorem b_Mo_must_4 : mx_ck m_Mo_must 4 [(.aload_n 0, [], 0), (.iconst 1, [], nI 1)] = some 6 := by decide +kernel
theorem b_Mo_must_9 : mx_ck m_Mo_must 9 [(.aload_n 0, [], 0), (.getfield 99, [10, 16, 0, 967], 0)] = some 13 := by decide +kernel
theorem b_Mo_must_16 : mx_ck m_Mo_must 16 [(.aload_n 0, [], 0)] = some 17 := by decide +kernel
theorem d_Mo_must_1 : decode m_Mo_must.2.1 1 = .ok (.ifCond .ne 8, 3) := by decide +kernel
theorem d_Mo_must_6 : decode m_Mo_must.2.1 6 = .ok (.invokevirtual 126, 3) := by decide +kernel
theorem c_Mo_must_6 : mx_cv m_Mo_must m_Mo_bad 126 1 [1114, 1116, 45, 92, 1117] = true := by decide +kernel
theorem d_Mo_must_13 : decode m_Mo_must.2.1 13 = .ok (.ifCond .ne 7, 3) := by decide +kernel
theorem d_Mo_must_17 : decode m_Mo_must.2.1 17 = .ok (.invokevirtual 130, 3) := by decide +kernel
theorem c_Mo_must_17 : mx_cv m_Mo_must m_Mo_nextToken 130 0 [1097, 1099, 42, 92, 1100] = true := by decide +kernel
theorem d_Mo_must_20 : decode m_Mo_must.2.1 20 = .ok (.return_, 1) := by decide +kernel
theorem b_Mo_mustSign_0 : mx_ck m_Mo_mustSign 0 [(.aload_n 0, [], 0), (.aload_n 0, [], 0), (.getfield 123, [10, 14, 0, 965], 0), (.iconst 4, [], nI 4)] = some 6 := by decide +kernel
theorem b_Mo_mustSign_9 : mx_ck m_Mo_mustSign 9 [(.aload_n 0, [], 0), (.getfield 112, [10, 15, 0, 966], 0), (.iload_n 1, [], 0)] = some 14 := by decide +kernel
theorem b_Mo_mustSign_17 : mx_ck m_Mo_mustSign 17 [(.iconst 1, [], nI 1)] = some 18 := by decide +kernel
theorem b_Mo_mustSign_21 : mx_ck m_Mo_mustSign 21 [(.iconst 0, [], nI 0)] = some 22 := by decide +kernel
theorem d_Mo_mustSign_6 : decode m_Mo_mustSign.2.1 6 = .ok (.if_icmp .ne 15, 3) := by decide +kernel
theorem d_Mo_mustSign_14 : decode m_Mo_mustSign.2.1 14 = .ok (.if_icmp .ne 7, 3) := by decide +kernel
theorem d_Mo_mustSign_18 : decode m_Mo_mustSign.2.1 18 = .ok (.goto 4, 3) := by decide +kernel
theorem d_Mo_mustSign_22 : decode m_Mo_mustSign.2.1 22 = .ok (.invokevirtual 133, 3) := by decide +kernel
theorem c_Mo_mustSign_22 : mx_cv m_Mo_mustSign m_Mo_must 133 1 [1110, 1112, 44, 92, 1113] = true := by decide +kernel
theorem d_Mo_mustSign_25 : decode m_Mo_mustSign.2.1 25 = .ok (.return_, 1) := by decide +kernel
theorem b_Mo_nextToken_0 : mx_ck m_Mo_nextToken 0 [(.aload_n 0, [], 0), (.aload_n 0, [], 0), (.getfield 108, [10, 12, 0, 963], 0), (.putfield 102, [10, 13, 0, 964], 0), (.aload_n 0, [], 0), (.aload_n 0, [], 0), (.getfield 108, [10, 12, 0, 963], 0), (.aload_n 0, [], 0), (.getfield 95, [10, 11, 0, 962], 0)] = some 17 := by decide +kernel
theorem b_Mo_nextToken_20 : mx_ck m_Mo_nextToken 20 [(.aload_n 0, [], 0), (.getfield 31, [10, 10, 9, 961], 0), (.aload_n 0, [], 0), (.getfield 108, [10, 12, 0, 963], 0), (.iaload, [], 0)] = some 29 := by decide +kernel
theorem b_Mo_nextToken_32 : mx_ck m_Mo_nextToken 32 [(.ldc 111, [1101], (-1000000))] = some 34 := by decide +kernel
theorem b_Mo_nextToken_34 : mx_ck m_Mo_nextToken 34 [(.putfield 112, [10, 15, 0, 966], 0), (.aload_n 0, [], 0), (.aload_n 0, [], 0), (.getfield 108, [10, 12, 0, 963], 0), (.aload_n 0, [], 0), (.getfield 95, [10, 11, 0, 962], 0)] = some 46 := by decide +kernel
theorem b_Mo_nextToken_49 : mx_ck m_Mo_nextToken 49 [(.iconst 1, [], nI 1)] = some 50 := by decide +kernel
theorem b_Mo_nextToken_53 : mx_ck m_Mo_nextToken 53 [(.aload_n 0, [], 0), (.getfield 112, [10, 15, 0, 966], 0), (.i2l, [], 0), (.ldc2_w 115, [97, 1102], 0), (.ldc2_w 117, [122, 1103], 0)] = some 64 := by decide +kernel
theorem b_Mo_nextToken_70 : mx_ck m_Mo_nextToken 70 [(.iconst 2, [], nI 2)] = some 71 := by decide +kernel
theorem b_Mo_nextToken_74 : mx_ck m_Mo_nextToken 74 [(.aload_n 0, [], 0), (.getfield 112, [10, 15, 0, 966], 0), (.i2l, [], 0), (.ldc2_w 119, [48, 1104], 0), (.ldc2_w 121, [57, 1105], 0)] = some 85 := by decide +kernel
theorem b_Mo_nextToken_91 : mx_ck m_Mo_nextToken 91 [(.iconst 3, [], nI 3)] = some 92 := by decide +kernel
theorem b_Mo_nextToken_95 : mx_ck m_Mo_nextToken 95 [(.aload_n 0, [], 0), (.getfield 112, [10, 15, 0, 966], 0), (.bipush 44, [], nI 44)] = some 101 := by decide +kernel
theorem b_Mo_nextToken_104 : mx_ck m_Mo_nextToken 104 [(.aload_n 0, [], 0), (.getfield 112, [10, 15, 0, 966], 0), (.bipush 59, [], nI 59)] = some 110 := by decide +kernel
theorem b_Mo_nextToken_113 : mx_ck m_Mo_nextToken 113 [(.iconst 4, [], nI 4)] = some 114 := by decide +kernel
theorem b_Mo_nextToken_117 : mx_ck m_Mo_nextToken 117 [(.iconst 0, [], nI 0)] = some 118 := by decide +kernel
theorem b_Mo_nextToken_118 : mx_ck m_Mo_nextToken 118 [(.putfield 123, [10, 14, 0, 965], 0), (.aload_n 0, [], 0), (.dup, [], 0), (.getfield 108, [10, 12, 0, 963], 0), (.aload_n 0, [], 0), (.getfield 108, [10, 12, 0, 963], 0), (.aload_n 0, [], 0), (.getfield 95, [10, 11, 0, 962], 0)] = some 134 := by decide +kernel
theorem b_Mo_nextToken_137 : mx_ck m_Mo_nextToken 137 [(.iconst 1, [], nI 1)] = some 138 := by decide +kernel
theorem b_Mo_nextToken_141 : mx_ck m_Mo_nextToken 141 [(.iconst 0, [], nI 0)] = some 142 := by decide +kernel
theorem b_Mo_nextToken_142 : mx_ck m_Mo_nextToken 142 [(.iadd, [], 0), (.putfield 108, [10, 12, 0, 963], 0), (.aload_n 0, [], 0), (.getfield 123, [10, 14, 0, 965], 0), (.iconst 3, [], nI 3)] = some 151 := by decide +kernel
theorem b_Mo_nextToken_154 : mx_ck m_Mo_nextToken 154 [(.aload_n 0, [], 0), (.dup, [], 0), (.getfield 112, [10, 15, 0, 966], 0), (.bipush 48, [], nI 48), (.isub, [], 0), (.putfield 112, [10, 15, 0, 966], 0)] = some 165 := by decide +kernel
theorem b_Mo_nextToken_165 : mx_ck m_Mo_nextToken 165 [(.aload_n 0, [], 0), (.getfield 108, [10, 12, 0, 963], 0), (.aload_n 0, [], 0), (.getfield 95, [10, 11, 0, 962], 0)] = some 173 := by decide +kernel
theorem b_Mo_nextToken_176 : mx_ck m_Mo_nextToken 176 [(.aload_n 0, [], 0), (.getfield 31, [10, 10, 9, 961], 0), (.aload_n 0, [], 0), (.getfield 108, [10, 12, 0, 963], 0), (.iaload, [], 0), (.i2l, [], 0), (.ldc2_w 119, [48, 1104], 0), (.ldc2_w 121, [57, 1105], 0)] = some 192 := by decide +kernel
theorem b_Mo_nextToken_198 : mx_ck m_Mo_nextToken 198 [(.aload_n 0, [], 0), (.aload_n 0, [], 0), (.getfield 108, [10, 12, 0, 963], 0), (.aload_n 0, [], 0), (.getfield 102, [10, 13, 0, 964], 0), (.isub, [], 0), (.iconst 2, [], nI 2)] = some 209 := by decide +kernel
theorem b_Mo_nextToken_212 : mx_ck m_Mo_nextToken 212 [(.bipush 10, [], nI 10), (.aload_n 0, [], 0), (.getfield 112, [10, 15, 0, 966], 0), (.imul, [], 0), (.aload_n 0, [], 0), (.getfield 31, [10, 10, 9, 961], 0), (.aload_n 0, [], 0), (.getfield 108, [10, 12, 0, 963], 0), (.iaload, [], 0), (.iadd, [], 0), (.bipush 48, [], nI 48), (.isub, [], 0)] = some 232 := by decide +kernel
theorem b_Mo_nextToken_235 : mx_ck m_Mo_nextToken 235 [(.aload_n 0, [], 0), (.getfield 112, [10, 15, 0, 966], 0)] = some 239 := by decide +kernel
theorem b_Mo_nextToken_239 : mx_ck m_Mo_nextToken 239 [(.putfield 112, [10, 15, 0, 966], 0), (.aload_n 0, [], 0), (.dup, [], 0), (.getfield 108, [10, 12, 0, 963], 0), (.iconst 1, [], nI 1), (.iadd, [], 0), (.putfield 108, [10, 12, 0, 963], 0)] = some 252 := by decide +kernel
theorem b_Mo_nextToken_255 : mx_ck m_Mo_nextToken 255 [(.aload_n 0, [], 0), (.aload_n 0, [], 0), (.getfield 108, [10, 12, 0, 963], 0), (.aload_n 0, [], 0), (.getfield 102, [10, 13, 0, 964], 0), (.isub, [], 0), (.iconst 2, [], nI 2)] = some 266 := by decide +kernel
theorem b_Mo_nextToken_269 : mx_ck m_Mo_nextToken 269 [(.iconst 0, [], nI 0)] = some 270 := by decide +kernel
theorem b_Mo_nextToken_273 : mx_ck m_Mo_nextToken 273 [(.iconst 3, [], nI 3)] = some 274 := by decide +kernel
theorem b_Mo_nextToken_274 : mx_ck m_Mo_nextToken 274 [(.putfield 123, [10, 14, 0, 965], 0)] = some 277 := by decide +kernel
theorem d_Mo_nextToken_17 : decode m_Mo_nextToken.2.1 17 = .ok (.if_icmp .ge 15, 3) := by decide +kernel
theorem d_Mo_nextToken_29 : decode m_Mo_nextToken.2.1 29 = .ok (.goto 5, 3) := by decide +kernel
theorem d_Mo_nextToken_46 : decode m_Mo_nextToken.2.1 46 = .ok (.if_icmp .ne 7, 3) := by decide +kernel
theorem d_Mo_nextToken_50 : decode m_Mo_nextToken.2.1 50 = .ok (.goto 68, 3) := by decide +kernel
theorem d_Mo_nextToken_64 : decode m_Mo_nextToken.2.1 64 = .ok (.invokestatic 78, 3) := by decide +kernel
theorem c_Mo_nextToken_64 : mx_cs m_Mo_nextToken m_Mo_in 78 3 [1057, 1058, 92, 1059] = true := by decide +kernel
theorem d_Mo_nextToken_67 : decode m_Mo_nextToken.2.1 67 = .ok (.ifCond .eq 7, 3) := by decide +kernel
theorem d_Mo_nextToken_71 : decode m_Mo_nextToken.2.1 71 = .ok (.goto 47, 3) := by decide +kernel
theorem d_Mo_nextToken_85 : decode m_Mo_nextToken.2.1 85 = .ok (.invokestatic 78, 3) := by decide +kernel
theorem c_Mo_nextToken_85 : mx_cs m_Mo_nextToken m_Mo_in 78 3 [1057, 1058, 92, 1059] = true := by decide +kernel
theorem d_Mo_nextToken_88 : decode m_Mo_nextToken.2.1 88 = .ok (.ifCond .eq 7, 3) := by decide +kernel
theorem d_Mo_nextToken_92 : decode m_Mo_nextToken.2.1 92 = .ok (.goto 26, 3) := by decide +kernel
theorem d_Mo_nextToken_101 : decode m_Mo_nextToken.2.1 101 = .ok (.if_icmp .eq 12, 3) := by decide +kernel
theorem d_Mo_nextToken_110 : decode m_Mo_nextToken.2.1 110 = .ok (.if_icmp .ne 7, 3) := by decide +kernel
theorem d_Mo_nextToken_114 : decode m_Mo_nextToken.2.1 114 = .ok (.goto 4, 3) := by decide +kernel
theorem d_Mo_nextToken_134 : decode m_Mo_nextToken.2.1 134 = .ok (.if_icmp .ge 7, 3) := by decide +kernel
theorem d_Mo_nextToken_138 : decode m_Mo_nextToken.2.1 138 = .ok (.goto 4, 3) := by decide +kernel
theorem d_Mo_nextToken_151 : decode m_Mo_nextToken.2.1 151 = .ok (.if_icmp .ne 126, 3) := by decide +kernel
theorem d_Mo_nextToken_173 : decode m_Mo_nextToken.2.1 173 = .ok (.if_icmp .ge 82, 3) := by decide +kernel
theorem d_Mo_nextToken_192 : decode m_Mo_nextToken.2.1 192 = .ok (.invokestatic 78, 3) := by decide +kernel
theorem c_Mo_nextToken_192 : mx_cs m_Mo_nextToken m_Mo_in 78 3 [1057, 1058, 92, 1059] = true := by decide +kernel
theorem d_Mo_nextToken_195 : decode m_Mo_nextToken.2.1 195 = .ok (.ifCond .eq 60, 3) := by decide +kernel
theorem d_Mo_nextToken_209 : decode m_Mo_nextToken.2.1 209 = .ok (.if_icmp .ge 26, 3) := by decide +kernel
theorem d_Mo_nextToken_232 : decode m_Mo_nextToken.2.1 232 = .ok (.goto 7, 3) := by decide +kernel
theorem d_Mo_nextToken_252 : decode m_Mo_nextToken.2.1 252 = .ok (.goto (-87), 3) := by decide +kernel
theorem d_Mo_nextToken_266 : decode m_Mo_nextToken.2.1 266 = .ok (.if_icmp .le 7, 3) := by decide +kernel
theorem d_Mo_nextToken_270 : decode m_Mo_nextToken.2.1 270 = .ok (.goto 4, 3) := by decide +kernel
theorem d_Mo_nextToken_277 : decode m_Mo_nextToken.2.1 277 = .ok (.return_, 1) := by decide +kernel
theorem b_Mo_number_0 : mx_ck m_Mo_number 0 [(.aload_n 0, [], 0), (.getfield 99, [10, 16, 0, 967], 0)] = some 4 := by decide +kernel
theorem b_Mo_number_7 : mx_ck m_Mo_number 7 [(.aload_n 0, [], 0), (.getfield 123, [10, 14, 0, 965], 0), (.iconst 3, [], nI 3)] = some 12 := by decide +kernel
theorem b_Mo_number_15 : mx_ck m_Mo_number 15 [(.aload_n 0, [], 0), (.iconst 1, [], nI 1)] = some 17 := by decide +kernel
theorem b_Mo_number_20 : mx_ck m_Mo_number 20 [(.aload_n 0, [], 0), (.getfield 99, [10, 16, 0, 967], 0)] = some 24 := by decide +kernel
theorem b_Mo_number_27 : mx_ck m_Mo_number 27 [(.aload_n 0, [], 0), (.getfield 112, [10, 15, 0, 966], 0), (.i2l, [], 0), (.iload_n 1, [], 0), (.i2l, [], 0), (.iload_n 2, [], 0), (.i2l, [], 0)] = some 36 := by decide +kernel
theorem b_Mo_number_42 : mx_ck m_Mo_number 42 [(.aload_n 0, [], 0), (.iconst 2, [], nI 2)] = some 44 := by decide +kernel
theorem b_Mo_number_47 : mx_ck m_Mo_number 47 [(.aload_n 0, [], 0), (.getfield 99, [10, 16, 0, 967], 0)] = some 51 := by decide +kernel
theorem b_Mo_number_54 : mx_ck m_Mo_number 54 [(.aload_n 0, [], 0), (.getfield 112, [10, 15, 0, 966], 0)] = some 58 := by decide +kernel
theorem b_Mo_number_61 : mx_ck m_Mo_number 61 [(.iload_n 1, [], 0)] = some 62 := by decide +kernel
theorem b_Mo_number_62 : mx_ck m_Mo_number 62 [(.istore_n 3, [], 0), (.aload_n 0, [], 0), (.iconst 1, [], nI 1)] = some 65 := by decide +kernel
theorem b_Mo_number_68 : mx_ck m_Mo_number 68 [(.iload_n 3, [], 0)] = some 69 := by decide +kernel
theorem d_Mo_number_4 : decode m_Mo_number.2.1 4 = .ok (.ifCond .ne 16, 3) := by decide +kernel
theorem d_Mo_number_12 : decode m_Mo_number.2.1 12 = .ok (.if_icmp .eq 8, 3) := by decide +kernel
theorem d_Mo_number_17 : decode m_Mo_number.2.1 17 = .ok (.invokevirtual 126, 3) := by decide +kernel
theorem c_Mo_number_17 : mx_cv m_Mo_number m_Mo_bad 126 1 [1114, 1116, 45, 92, 1117] = true := by decide +kernel
theorem d_Mo_number_24 : decode m_Mo_number.2.1 24 = .ok (.ifCond .ne 23, 3) := by decide +kernel
theorem d_Mo_number_36 : decode m_Mo_number.2.1 36 = .ok (.invokestatic 78, 3) := by decide +kernel
theorem c_Mo_number_36 : mx_cs m_Mo_number m_Mo_in 78 3 [1057, 1058, 92, 1059] = true := by decide +kernel
theorem d_Mo_number_39 : decode m_Mo_number.2.1 39 = .ok (.ifCond .ne 8, 3) := by decide +kernel
theorem d_Mo_number_44 : decode m_Mo_number.2.1 44 = .ok (.invokevirtual 126, 3) := by decide +kernel
theorem c_Mo_number_44 : mx_cv m_Mo_number m_Mo_bad 126 1 [1114, 1116, 45, 92, 1117] = true := by decide +kernel
theorem d_Mo_number_51 : decode m_Mo_number.2.1 51 = .ok (.ifCond .ne 10, 3) := by decide +kernel
theorem d_Mo_number_58 : decode m_Mo_number.2.1 58 = .ok (.goto 4, 3) := by decide +kernel
theorem d_Mo_number_65 : decode m_Mo_number.2.1 65 = .ok (.invokevirtual 133, 3) := by decide +kernel
theorem c_Mo_number_65 : mx_cv m_Mo_number m_Mo_must 133 1 [1110, 1112, 44, 92, 1113] = true := by decide +kernel
theorem d_Mo_number_69 : decode m_Mo_number.2.1 69 = .ok (.ireturn, 1) := by decide +kernel
theorem b_Mo_of_0 : mx_ck m_Mo_of 0 [(.aload_n 0, [], 0), (.iconst 2, [], nI 2), (.iconst 3, [], nI 3), (.iload_n 1, [], 0), (.imul, [], 0), (.iadd, [], 0), (.iload_n 2, [], 0), (.iadd, [], 0), (.iaload, [], 0)] = some 9 := by decide +kernel
theorem d_Mo_of_9 : decode m_Mo_of.2.1 9 = .ok (.ireturn, 1) := by decide +kernel
theorem b_Mo_others_0 : mx_ck m_Mo_others 0 [(.aload_n 0, [], 0), (.iconst 0, [], nI 0), (.putfield 68, [10, 0, 0, 951], 0), (.aload_n 0, [], 0), (.iload_n 1, [], 0)] = some 7 := by decide +kernel
theorem b_Mo_others_13 : mx_ck m_Mo_others 13 [(.iload_n 2, [], 0), (.i2l, [], 0), (.lconst 0, [0], 0), (.ldc2_w 86, [2, 1060], 0)] = some 19 := by decide +kernel
theorem b_Mo_others_25 : mx_ck m_Mo_others 25 [(.ldc 88, [1061], (-1000001))] = some 27 := by decide +kernel
theorem b_Mo_others_28 : mx_ck m_Mo_others 28 [(.aload_n 0, [], 0), (.aload_n 0, [], 0), (.getfield 19, [10, 5, 5, 956], 0)] = some 33 := by decide +kernel
theorem b_Mo_others_36 : mx_ck m_Mo_others 36 [(.iconst 0, [], nI 0), (.istore_n 3, [], 0), (.iconst 0, [], nI 0), (.istore 4, [], 0)] = some 41 := by decide +kernel
theorem b_Mo_others_41 : mx_ck m_Mo_others 41 [(.iload 4, [], 0), (.aload_n 0, [], 0), (.getfield 19, [10, 5, 5, 956], 0), (.iconst 0, [], nI 0), (.iaload, [], 0)] = some 49 := by decide +kernel
theorem b_Mo_others_52 : mx_ck m_Mo_others 52 [(.iload_n 2, [], 0), (.iconst 2, [], nI 2)] = some 54 := by decide +kernel
theorem b_Mo_others_57 : mx_ck m_Mo_others 57 [(.aload_n 0, [], 0), (.iload_n 1, [], 0), (.iload 4, [], 0)] = some 61 := by decide +kernel
theorem b_Mo_others_67 : mx_ck m_Mo_others 67 [(.aload_n 0, [], 0), (.iload_n 1, [], 0), (.iload 4, [], 0)] = some 71 := by decide +kernel
theorem b_Mo_others_77 : mx_ck m_Mo_others 77 [(.iload_n 2, [], 0)] = some 78 := by decide +kernel
theorem b_Mo_others_81 : mx_ck m_Mo_others 81 [(.aload_n 0, [], 0), (.iload 4, [], 0), (.iload_n 1, [], 0)] = some 85 := by decide +kernel
theorem b_Mo_others_91 : mx_ck m_Mo_others 91 [(.iconst 1, [], nI 1)] = some 92 := by decide +kernel
theorem b_Mo_others_95 : mx_ck m_Mo_others 95 [(.iconst 0, [], nI 0)] = some 96 := by decide +kernel
theorem b_Mo_others_96 : mx_ck m_Mo_others 96 [(.istore 5, [], 0), (.iload_n 3, [], 0), (.iload 5, [], 0)] = some 101 := by decide +kernel
theorem b_Mo_others_104 : mx_ck m_Mo_others 104 [(.iconst 1, [], nI 1), (.iload 4, [], 0), (.ishl, [], 0)] = some 108 := by decide +kernel
theorem b_Mo_others_111 : mx_ck m_Mo_others 111 [(.iconst 0, [], nI 0)] = some 112 := by decide +kernel
theorem b_Mo_others_112 : mx_ck m_Mo_others 112 [(.ior, [], 0), (.istore_n 3, [], 0), (.iinc 4 1, [], nI 1)] = some 117 := by decide +kernel
theorem b_Mo_others_120 : mx_ck m_Mo_others 120 [(.iload_n 3, [], 0)] = some 121 := by decide +kernel
theorem d_Mo_others_7 : decode m_Mo_others.2.1 7 = .ok (.invokevirtual 221, 3) := by decide +kernel
theorem c_Mo_others_7 : mx_cv m_Mo_others m_Mo_isType 221 1 [1150, 1152, 52, 92, 1153] = true := by decide +kernel
theorem d_Mo_others_10 : decode m_Mo_others.2.1 10 = .ok (.ifCond .eq 15, 3) := by decide +kernel
theorem d_Mo_others_19 : decode m_Mo_others.2.1 19 = .ok (.invokestatic 78, 3) := by decide +kernel
theorem c_Mo_others_19 : mx_cs m_Mo_others m_Mo_in 78 3 [1057, 1058, 92, 1059] = true := by decide +kernel
theorem d_Mo_others_22 : decode m_Mo_others.2.1 22 = .ok (.ifCond .ne 6, 3) := by decide +kernel
theorem d_Mo_others_27 : decode m_Mo_others.2.1 27 = .ok (.ireturn, 1) := by decide +kernel
theorem d_Mo_others_33 : decode m_Mo_others.2.1 33 = .ok (.invokevirtual 240, 3) := by decide +kernel
theorem c_Mo_others_33 : mx_cv m_Mo_others m_Mo_reckon 240 1 [1186, 1188, 56, 92, 1189] = true := by decide +kernel
theorem d_Mo_others_49 : decode m_Mo_others.2.1 49 = .ok (.if_icmp .ge 71, 3) := by decide +kernel
theorem d_Mo_others_54 : decode m_Mo_others.2.1 54 = .ok (.if_icmp .ne 13, 3) := by decide +kernel
theorem d_Mo_others_61 : decode m_Mo_others.2.1 61 = .ok (.invokevirtual 247, 3) := by decide +kernel
theorem c_Mo_others_61 : mx_cv m_Mo_others m_Mo_areApart 247 2 [1240, 1242, 63, 92, 1243] = true := by decide +kernel
theorem d_Mo_others_64 : decode m_Mo_others.2.1 64 = .ok (.goto 32, 3) := by decide +kernel
theorem d_Mo_others_71 : decode m_Mo_others.2.1 71 = .ok (.invokevirtual 244, 3) := by decide +kernel
theorem c_Mo_others_71 : mx_cv m_Mo_others m_Mo_liesIn 244 2 [1232, 1234, 62, 92, 1235] = true := by decide +kernel
theorem d_Mo_others_74 : decode m_Mo_others.2.1 74 = .ok (.ifCond .eq 21, 3) := by decide +kernel
theorem d_Mo_others_78 : decode m_Mo_others.2.1 78 = .ok (.ifCond .eq 13, 3) := by decide +kernel
theorem d_Mo_others_85 : decode m_Mo_others.2.1 85 = .ok (.invokevirtual 244, 3) := by decide +kernel
theorem c_Mo_others_85 : mx_cv m_Mo_others m_Mo_liesIn 244 2 [1232, 1234, 62, 92, 1235] = true := by decide +kernel
theorem d_Mo_others_88 : decode m_Mo_others.2.1 88 = .ok (.ifCond .eq 7, 3) := by decide +kernel
theorem d_Mo_others_92 : decode m_Mo_others.2.1 92 = .ok (.goto 4, 3) := by decide +kernel
theorem d_Mo_others_101 : decode m_Mo_others.2.1 101 = .ok (.ifCond .eq 10, 3) := by decide +kernel
theorem d_Mo_others_108 : decode m_Mo_others.2.1 108 = .ok (.goto 4, 3) := by decide +kernel
theorem d_Mo_others_117 : decode m_Mo_others.2.1 117 = .ok (.goto (-76), 3) := by decide +kernel
theorem d_Mo_others_121 : decode m_Mo_others.2.1 121 = .ok (.ireturn, 1) := by decide +kernel
theorem b_Mo_pairCell_0 : mx_ck m_Mo_pairCell 0 [(.iconst 0, [], nI 0), (.istore_n 3, [], 0), (.iconst 0, [], nI 0), (.istore 4, [], 0)] = some 5 := by decide +kernel
theorem b_Mo_pairCell_5 : mx_ck m_Mo_pairCell 5 [(.iload 4, [], 0), (.aload_n 0, [], 0), (.iconst 0, [], nI 0), (.iaload, [], 0)] = some 10 := by decide +kernel
theorem b_Mo_pairCell_13 : mx_ck m_Mo_pairCell 13 [(.iload_n 3, [], 0), (.aload_n 0, [], 0), (.iload 4, [], 0), (.iconst 0, [], nI 0)] = some 18 := by decide +kernel
theorem b_Mo_pairCell_21 : mx_ck m_Mo_pairCell 21 [(.iconst 1, [], nI 1)] = some 22 := by decide +kernel
theorem b_Mo_pairCell_25 : mx_ck m_Mo_pairCell 25 [(.iload_n 1, [], 0), (.aload_n 0, [], 0), (.iload 4, [], 0), (.iconst 1, [], nI 1)] = some 30 := by decide +kernel
theorem b_Mo_pairCell_39 : mx_ck m_Mo_pairCell 39 [(.iload_n 2, [], 0), (.aload_n 0, [], 0), (.iload 4, [], 0), (.iconst 2, [], nI 2)] = some 44 := by decide +kernel
theorem b_Mo_pairCell_53 : mx_ck m_Mo_pairCell 53 [(.iconst 1, [], nI 1), (.iload 4, [], 0), (.ishl, [], 0)] = some 57 := by decide +kernel
theorem b_Mo_pairCell_60 : mx_ck m_Mo_pairCell 60 [(.iconst 0, [], nI 0)] = some 61 := by decide +kernel
theorem b_Mo_pairCell_61 : mx_ck m_Mo_pairCell 61 [(.ior, [], 0), (.istore_n 3, [], 0), (.iinc 4 1, [], nI 1)] = some 66 := by decide +kernel
theorem b_Mo_pairCell_69 : mx_ck m_Mo_pairCell 69 [(.aload_n 0, [], 0), (.iload_n 3, [], 0)] = some 71 := by decide +kernel
theorem d_Mo_pairCell_10 : decode m_Mo_pairCell.2.1 10 = .ok (.if_icmp .ge 59, 3) := by decide +kernel
theorem d_Mo_pairCell_18 : decode m_Mo_pairCell.2.1 18 = .ok (.invokestatic 173, 3) := by decide +kernel
theorem c_Mo_pairCell_18 : mx_cs m_Mo_pairCell m_Mo_of 173 3 [1171, 1172, 92, 1173] = true := by decide +kernel
theorem d_Mo_pairCell_22 : decode m_Mo_pairCell.2.1 22 = .ok (.if_icmp .ne 38, 3) := by decide +kernel
theorem d_Mo_pairCell_30 : decode m_Mo_pairCell.2.1 30 = .ok (.invokestatic 173, 3) := by decide +kernel
theorem c_Mo_pairCell_30 : mx_cs m_Mo_pairCell m_Mo_of 173 3 [1171, 1172, 92, 1173] = true := by decide +kernel
theorem d_Mo_pairCell_33 : decode m_Mo_pairCell.2.1 33 = .ok (.invokestatic 177, 3) := by decide +kernel
theorem c_Mo_pairCell_33 : mx_cs m_Mo_pairCell m_Mo_has 177 2 [1200, 1201, 92, 1202] = true := by decide +kernel
theorem d_Mo_pairCell_36 : decode m_Mo_pairCell.2.1 36 = .ok (.ifCond .eq 24, 3) := by decide +kernel
theorem d_Mo_pairCell_44 : decode m_Mo_pairCell.2.1 44 = .ok (.invokestatic 173, 3) := by decide +kernel
theorem c_Mo_pairCell_44 : mx_cs m_Mo_pairCell m_Mo_of 173 3 [1171, 1172, 92, 1173] = true := by decide +kernel
theorem d_Mo_pairCell_47 : decode m_Mo_pairCell.2.1 47 = .ok (.invokestatic 177, 3) := by decide +kernel
theorem c_Mo_pairCell_47 : mx_cs m_Mo_pairCell m_Mo_has 177 2 [1200, 1201, 92, 1202] = true := by decide +kernel
theorem d_Mo_pairCell_50 : decode m_Mo_pairCell.2.1 50 = .ok (.ifCond .eq 10, 3) := by decide +kernel
theorem d_Mo_pairCell_57 : decode m_Mo_pairCell.2.1 57 = .ok (.goto 4, 3) := by decide +kernel
theorem d_Mo_pairCell_66 : decode m_Mo_pairCell.2.1 66 = .ok (.goto (-61), 3) := by decide +kernel
theorem d_Mo_pairCell_71 : decode m_Mo_pairCell.2.1 71 = .ok (.invokestatic 181, 3) := by decide +kernel
theorem c_Mo_pairCell_71 : mx_cs m_Mo_pairCell m_Mo_cellOf 181 2 [1197, 1198, 92, 1199] = true := by decide +kernel
theorem d_Mo_pairCell_74 : decode m_Mo_pairCell.2.1 74 = .ok (.ireturn, 1) := by decide +kernel
theorem b_Mo_pairSize_0 : mx_ck m_Mo_pairSize 0 [(.aload_n 0, [], 0), (.iload_n 1, [], 0)] = some 2 := by decide +kernel
theorem b_Mo_pairSize_5 : mx_ck m_Mo_pairSize 5 [(.iconst 5, [], nI 5)] = some 6 := by decide +kernel
theorem b_Mo_pairSize_9 : mx_ck m_Mo_pairSize 9 [(.iconst 1, [], nI 1)] = some 10 := by decide +kernel
theorem b_Mo_pairSize_13 : mx_ck m_Mo_pairSize 13 [(.iconst 0, [], nI 0)] = some 14 := by decide +kernel
theorem b_Mo_pairSize_14 : mx_ck m_Mo_pairSize 14 [(.istore_n 2, [], 0), (.iload_n 2, [], 0)] = some 16 := by decide +kernel
theorem b_Mo_pairSize_19 : mx_ck m_Mo_pairSize 19 [(.aload_n 0, [], 0), (.bipush 14, [], nI 14)] = some 22 := by decide +kernel
theorem b_Mo_pairSize_25 : mx_ck m_Mo_pairSize 25 [(.aload_n 0, [], 0), (.bipush 13, [], nI 13)] = some 28 := by decide +kernel
theorem b_Mo_pairSize_31 : mx_ck m_Mo_pairSize 31 [(.aload_n 0, [], 0), (.iload_n 1, [], 0)] = some 33 := by decide +kernel
theorem b_Mo_pairSize_36 : mx_ck m_Mo_pairSize 36 [(.bipush 100, [], nI 100), (.isub, [], 0), (.istore_n 3, [], 0), (.iload_n 2, [], 0)] = some 41 := by decide +kernel
theorem b_Mo_pairSize_44 : mx_ck m_Mo_pairSize 44 [(.iconst 2, [], nI 2), (.iload_n 3, [], 0), (.imul, [], 0)] = some 47 := by decide +kernel
theorem b_Mo_pairSize_50 : mx_ck m_Mo_pairSize 50 [(.iload_n 3, [], 0)] = some 51 := by decide +kernel
theorem d_Mo_pairSize_2 : decode m_Mo_pairSize.2.1 2 = .ok (.invokevirtual 301, 3) := by decide +kernel
theorem c_Mo_pairSize_2 : mx_cv m_Mo_pairSize m_Mo_kindOf 301 1 [1344, 1346, 74, 92, 1347] = true := by decide +kernel
theorem d_Mo_pairSize_6 : decode m_Mo_pairSize.2.1 6 = .ok (.if_icmp .ne 7, 3) := by decide +kernel
theorem d_Mo_pairSize_10 : decode m_Mo_pairSize.2.1 10 = .ok (.goto 4, 3) := by decide +kernel
theorem d_Mo_pairSize_16 : decode m_Mo_pairSize.2.1 16 = .ok (.ifCond .eq 9, 3) := by decide +kernel
theorem d_Mo_pairSize_22 : decode m_Mo_pairSize.2.1 22 = .ok (.invokevirtual 310, 3) := by decide +kernel
theorem c_Mo_pairSize_22 : mx_cv m_Mo_pairSize m_Mo_began 310 1 [1367, 1369, 77, 92, 1370] = true := by decide +kernel
theorem d_Mo_pairSize_28 : decode m_Mo_pairSize.2.1 28 = .ok (.invokevirtual 310, 3) := by decide +kernel
theorem c_Mo_pairSize_28 : mx_cv m_Mo_pairSize m_Mo_began 310 1 [1367, 1369, 77, 92, 1370] = true := by decide +kernel
theorem d_Mo_pairSize_33 : decode m_Mo_pairSize.2.1 33 = .ok (.invokevirtual 313, 3) := by decide +kernel
theorem c_Mo_pairSize_33 : mx_cv m_Mo_pairSize m_Mo_plainSize 313 1 [1363, 1365, 76, 92, 1366] = true := by decide +kernel
theorem d_Mo_pairSize_41 : decode m_Mo_pairSize.2.1 41 = .ok (.ifCond .eq 9, 3) := by decide +kernel
theorem d_Mo_pairSize_47 : decode m_Mo_pairSize.2.1 47 = .ok (.goto 4, 3) := by decide +kernel
theorem d_Mo_pairSize_51 : decode m_Mo_pairSize.2.1 51 = .ok (.ireturn, 1) := by decide +kernel
theorem b_Mo_pick_0 : mx_ck m_Mo_pick 0 [(.aload_n 0, [], 0), (.iconst 0, [], nI 0), (.putfield 68, [10, 0, 0, 951], 0), (.aload_n 0, [], 0), (.iload_n 1, [], 0)] = some 7 := by decide +kernel
theorem b_Mo_pick_13 : mx_ck m_Mo_pick 13 [(.iload_n 2, [], 0), (.i2l, [], 0), (.lconst 1, [1], 0), (.ldc2_w 267, [4, 1292], 0)] = some 19 := by decide +kernel
theorem b_Mo_pick_25 : mx_ck m_Mo_pick 25 [(.iload_n 3, [], 0), (.i2l, [], 0), (.lconst 0, [0], 0), (.lconst 1, [1], 0)] = some 29 := by decide +kernel
theorem b_Mo_pick_35 : mx_ck m_Mo_pick 35 [(.ldc 88, [1061], (-1000001))] = some 37 := by decide +kernel
theorem b_Mo_pick_38 : mx_ck m_Mo_pick 38 [(.aload_n 0, [], 0), (.iload_n 2, [], 0)] = some 40 := by decide +kernel
theorem b_Mo_pick_43 : mx_ck m_Mo_pick 43 [(.aload_n 0, [], 0), (.iload_n 1, [], 0)] = some 45 := by decide +kernel
theorem b_Mo_pick_48 : mx_ck m_Mo_pick 48 [(.istore 4, [], 0), (.aload_n 0, [], 0), (.iconst (-1), [], (-1))] = some 52 := by decide +kernel
theorem b_Mo_pick_55 : mx_ck m_Mo_pick 55 [(.istore 5, [], 0), (.iload 4, [], 0), (.istore 6, [], 0), (.iload 5, [], 0), (.istore 7, [], 0)] = some 65 := by decide +kernel
theorem b_Mo_pick_65 : mx_ck m_Mo_pick 65 [(.iload 7, [], 0)] = some 67 := by decide +kernel
theorem b_Mo_pick_70 : mx_ck m_Mo_pick 70 [(.iload 6, [], 0), (.iload 7, [], 0), (.irem, [], 0), (.istore 8, [], 0), (.iload 7, [], 0), (.istore 6, [], 0), (.iload 8, [], 0), (.istore 7, [], 0)] = some 85 := by decide +kernel
theorem b_Mo_pick_88 : mx_ck m_Mo_pick 88 [(.iload_n 3, [], 0)] = some 89 := by decide +kernel
theorem b_Mo_pick_92 : mx_ck m_Mo_pick 92 [(.iload 4, [], 0)] = some 94 := by decide +kernel
theorem b_Mo_pick_97 : mx_ck m_Mo_pick 97 [(.iload 5, [], 0)] = some 99 := by decide +kernel
theorem b_Mo_pick_99 : mx_ck m_Mo_pick 99 [(.iload 6, [], 0), (.idiv, [], 0)] = some 102 := by decide +kernel
theorem d_Mo_pick_7 : decode m_Mo_pick.2.1 7 = .ok (.invokevirtual 221, 3) := by decide +kernel
theorem c_Mo_pick_7 : mx_cv m_Mo_pick m_Mo_isType 221 1 [1150, 1152, 52, 92, 1153] = true := by decide +kernel
theorem d_Mo_pick_10 : decode m_Mo_pick.2.1 10 = .ok (.ifCond .eq 25, 3) := by decide +kernel
theorem d_Mo_pick_19 : decode m_Mo_pick.2.1 19 = .ok (.invokestatic 78, 3) := by decide +kernel
theorem c_Mo_pick_19 : mx_cs m_Mo_pick m_Mo_in 78 3 [1057, 1058, 92, 1059] = true := by decide +kernel
theorem d_Mo_pick_22 : decode m_Mo_pick.2.1 22 = .ok (.ifCond .eq 13, 3) := by decide +kernel
theorem d_Mo_pick_29 : decode m_Mo_pick.2.1 29 = .ok (.invokestatic 78, 3) := by decide +kernel
theorem c_Mo_pick_29 : mx_cs m_Mo_pick m_Mo_in 78 3 [1057, 1058, 92, 1059] = true := by decide +kernel
theorem d_Mo_pick_32 : decode m_Mo_pick.2.1 32 = .ok (.ifCond .ne 6, 3) := by decide +kernel
theorem d_Mo_pick_37 : decode m_Mo_pick.2.1 37 = .ok (.ireturn, 1) := by decide +kernel
theorem d_Mo_pick_40 : decode m_Mo_pick.2.1 40 = .ok (.invokevirtual 269, 3) := by decide +kernel
theorem c_Mo_pick_40 : mx_cv m_Mo_pick m_Mo_layPlain 269 1 [1293, 1295, 70, 92, 1296] = true := by decide +kernel
theorem d_Mo_pick_45 : decode m_Mo_pick.2.1 45 = .ok (.invokevirtual 272, 3) := by decide +kernel
theorem c_Mo_pick_45 : mx_cv m_Mo_pick m_Mo_plainOf 272 1 [1297, 1299, 71, 92, 1300] = true := by decide +kernel
theorem d_Mo_pick_52 : decode m_Mo_pick.2.1 52 = .ok (.invokevirtual 272, 3) := by decide +kernel
theorem c_Mo_pick_52 : mx_cv m_Mo_pick m_Mo_plainOf 272 1 [1297, 1299, 71, 92, 1300] = true := by decide +kernel
theorem d_Mo_pick_67 : decode m_Mo_pick.2.1 67 = .ok (.ifCond .eq 21, 3) := by decide +kernel
theorem d_Mo_pick_85 : decode m_Mo_pick.2.1 85 = .ok (.goto (-20), 3) := by decide +kernel
theorem d_Mo_pick_89 : decode m_Mo_pick.2.1 89 = .ok (.ifCond .ne 8, 3) := by decide +kernel
theorem d_Mo_pick_94 : decode m_Mo_pick.2.1 94 = .ok (.goto 5, 3) := by decide +kernel
theorem d_Mo_pick_102 : decode m_Mo_pick.2.1 102 = .ok (.ireturn, 1) := by decide +kernel
theorem b_Mo_plain_0 : mx_ck m_Mo_plain 0 [(.aload_n 0, [], 0), (.iconst 0, [], nI 0), (.putfield 68, [10, 0, 0, 951], 0), (.aload_n 0, [], 0), (.iload_n 1, [], 0)] = some 7 := by decide +kernel
theorem b_Mo_plain_13 : mx_ck m_Mo_plain 13 [(.iload_n 2, [], 0), (.i2l, [], 0), (.lconst 1, [1], 0), (.ldc2_w 267, [4, 1292], 0)] = some 19 := by decide +kernel
theorem b_Mo_plain_25 : mx_ck m_Mo_plain 25 [(.ldc 88, [1061], (-1000001))] = some 27 := by decide +kernel
theorem b_Mo_plain_28 : mx_ck m_Mo_plain 28 [(.aload_n 0, [], 0), (.iload_n 2, [], 0)] = some 30 := by decide +kernel
theorem b_Mo_plain_33 : mx_ck m_Mo_plain 33 [(.aload_n 0, [], 0), (.iload_n 1, [], 0)] = some 35 := by decide +kernel
theorem d_Mo_plain_7 : decode m_Mo_plain.2.1 7 = .ok (.invokevirtual 221, 3) := by decide +kernel
theorem c_Mo_plain_7 : mx_cv m_Mo_plain m_Mo_isType 221 1 [1150, 1152, 52, 92, 1153] = true := by decide +kernel
theorem d_Mo_plain_10 : decode m_Mo_plain.2.1 10 = .ok (.ifCond .eq 15, 3) := by decide +kernel
theorem d_Mo_plain_19 : decode m_Mo_plain.2.1 19 = .ok (.invokestatic 78, 3) := by decide +kernel
theorem c_Mo_plain_19 : mx_cs m_Mo_plain m_Mo_in 78 3 [1057, 1058, 92, 1059] = true := by decide +kernel
theorem d_Mo_plain_22 : decode m_Mo_plain.2.1 22 = .ok (.ifCond .ne 6, 3) := by decide +kernel
theorem d_Mo_plain_27 : decode m_Mo_plain.2.1 27 = .ok (.ireturn, 1) := by decide +kernel
theorem d_Mo_plain_30 : decode m_Mo_plain.2.1 30 = .ok (.invokevirtual 269, 3) := by decide +kernel
theorem c_Mo_plain_30 : mx_cv m_Mo_plain m_Mo_layPlain 269 1 [1293, 1295, 70, 92, 1296] = true := by decide +kernel
theorem d_Mo_plain_35 : decode m_Mo_plain.2.1 35 = .ok (.invokevirtual 272, 3) := by decide +kernel
theorem c_Mo_plain_35 : mx_cv m_Mo_plain m_Mo_plainOf 272 1 [1297, 1299, 71, 92, 1300] = true := by decide +kernel
theorem d_Mo_plain_38 : decode m_Mo_plain.2.1 38 = .ok (.ireturn, 1) := by decide +kernel
theorem b_Mo_plainOf_0 : mx_ck m_Mo_plainOf 0 [(.iconst 0, [], nI 0), (.istore_n 2, [], 0), (.iconst 0, [], nI 0), (.istore_n 3, [], 0)] = some 4 := by decide +kernel
theorem b_Mo_plainOf_4 : mx_ck m_Mo_plainOf 4 [(.iload_n 3, [], 0), (.sipush 256, [], nI 256)] = some 8 := by decide +kernel
theorem b_Mo_plainOf_11 : mx_ck m_Mo_plainOf 11 [(.iload_n 2, [], 0), (.iload_n 1, [], 0)] = some 13 := by decide +kernel
theorem b_Mo_plainOf_16 : mx_ck m_Mo_plainOf 16 [(.iload_n 3, [], 0), (.iload_n 1, [], 0)] = some 18 := by decide +kernel
theorem b_Mo_plainOf_24 : mx_ck m_Mo_plainOf 24 [(.aload_n 0, [], 0), (.getfield 53, [10, 26, 16, 977], 0), (.iload_n 3, [], 0), (.iaload, [], 0)] = some 30 := by decide +kernel
theorem b_Mo_plainOf_33 : mx_ck m_Mo_plainOf 33 [(.iconst 0, [], nI 0)] = some 34 := by decide +kernel
theorem b_Mo_plainOf_34 : mx_ck m_Mo_plainOf 34 [(.iadd, [], 0), (.istore_n 2, [], 0), (.iinc 3 1, [], nI 1)] = some 39 := by decide +kernel
theorem b_Mo_plainOf_42 : mx_ck m_Mo_plainOf 42 [(.iload_n 2, [], 0)] = some 43 := by decide +kernel
theorem d_Mo_plainOf_8 : decode m_Mo_plainOf.2.1 8 = .ok (.if_icmp .ge 34, 3) := by decide +kernel
theorem d_Mo_plainOf_13 : decode m_Mo_plainOf.2.1 13 = .ok (.ifCond .lt 11, 3) := by decide +kernel
theorem d_Mo_plainOf_18 : decode m_Mo_plainOf.2.1 18 = .ok (.invokestatic 177, 3) := by decide +kernel
theorem c_Mo_plainOf_18 : mx_cs m_Mo_plainOf m_Mo_has 177 2 [1200, 1201, 92, 1202] = true := by decide +kernel
theorem d_Mo_plainOf_21 : decode m_Mo_plainOf.2.1 21 = .ok (.ifCond .eq 12, 3) := by decide +kernel
theorem d_Mo_plainOf_30 : decode m_Mo_plainOf.2.1 30 = .ok (.goto 4, 3) := by decide +kernel
theorem d_Mo_plainOf_39 : decode m_Mo_plainOf.2.1 39 = .ok (.goto (-35), 3) := by decide +kernel
theorem d_Mo_plainOf_43 : decode m_Mo_plainOf.2.1 43 = .ok (.ireturn, 1) := by decide +kernel
theorem b_Mo_plainSize_0 : mx_ck m_Mo_plainSize 0 [(.aload_n 0, [], 0), (.bipush 10, [], nI 10)] = some 3 := by decide +kernel
theorem b_Mo_plainSize_6 : mx_ck m_Mo_plainSize 6 [(.aload_n 0, [], 0), (.getfield 19, [10, 5, 5, 956], 0), (.iload_n 1, [], 0), (.iconst 1, [], nI 1)] = some 12 := by decide +kernel
theorem d_Mo_plainSize_3 : decode m_Mo_plainSize.2.1 3 = .ok (.invokevirtual 310, 3) := by decide +kernel
theorem c_Mo_plainSize_3 : mx_cv m_Mo_plainSize m_Mo_began 310 1 [1367, 1369, 77, 92, 1370] = true := by decide +kernel
theorem d_Mo_plainSize_12 : decode m_Mo_plainSize.2.1 12 = .ok (.invokestatic 173, 3) := by decide +kernel
theorem c_Mo_plainSize_12 : mx_cs m_Mo_plainSize m_Mo_of 173 3 [1171, 1172, 92, 1173] = true := by decide +kernel
theorem d_Mo_plainSize_15 : decode m_Mo_plainSize.2.1 15 = .ok (.ireturn, 1) := by decide +kernel
theorem b_Mo_readType_0 : mx_ck m_Mo_readType 0 [(.aload_n 0, [], 0), (.getfield 112, [10, 15, 0, 966], 0)] = some 4 := by decide +kernel
theorem b_Mo_readType_7 : mx_ck m_Mo_readType 7 [(.istore_n 1, [], 0), (.aload_n 0, [], 0), (.getfield 22, [10, 6, 6, 957], 0), (.iconst 0, [], nI 0), (.iaload, [], 0), (.istore_n 2, [], 0), (.iload_n 2, [], 0), (.bipush 8, [], nI 8)] = some 18 := by decide +kernel
theorem b_Mo_readType_21 : mx_ck m_Mo_readType 21 [(.aload_n 0, [], 0), (.iconst 3, [], nI 3)] = some 23 := by decide +kernel
theorem b_Mo_readType_26 : mx_ck m_Mo_readType 26 [(.aload_n 0, [], 0), (.iconst 1, [], nI 1)] = some 28 := by decide +kernel
theorem b_Mo_readType_31 : mx_ck m_Mo_readType 31 [(.iload_n 1, [], 0)] = some 32 := by decide +kernel
theorem b_Mo_readType_35 : mx_ck m_Mo_readType 35 [(.iconst 3, [], nI 3)] = some 36 := by decide +kernel
theorem b_Mo_readType_39 : mx_ck m_Mo_readType 39 [(.iload_n 1, [], 0), (.iconst 3, [], nI 3)] = some 41 := by decide +kernel
theorem b_Mo_readType_44 : mx_ck m_Mo_readType 44 [(.bipush 7, [], nI 7)] = some 46 := by decide +kernel
theorem b_Mo_readType_49 : mx_ck m_Mo_readType 49 [(.iload_n 2, [], 0), (.iconst 1, [], nI 1), (.isub, [], 0)] = some 52 := by decide +kernel
theorem b_Mo_readType_52 : mx_ck m_Mo_readType 52 [(.istore_n 3, [], 0), (.aload_n 0, [], 0), (.iconst 0, [], nI 0), (.iload_n 3, [], 0)] = some 56 := by decide +kernel
theorem b_Mo_readType_59 : mx_ck m_Mo_readType 59 [(.istore 4, [], 0), (.aload_n 0, [], 0), (.bipush 44, [], nI 44)] = some 64 := by decide +kernel
theorem b_Mo_readType_67 : mx_ck m_Mo_readType 67 [(.aload_n 0, [], 0), (.iload_n 1, [], 0)] = some 69 := by decide +kernel
theorem b_Mo_readType_72 : mx_ck m_Mo_readType 72 [(.iload 4, [], 0)] = some 74 := by decide +kernel
theorem b_Mo_readType_77 : mx_ck m_Mo_readType 77 [(.iconst 0, [], nI 0)] = some 78 := by decide +kernel
theorem b_Mo_readType_78 : mx_ck m_Mo_readType 78 [(.iload_n 3, [], 0)] = some 79 := by decide +kernel
theorem b_Mo_readType_82 : mx_ck m_Mo_readType 82 [(.istore 5, [], 0), (.aload_n 0, [], 0), (.bipush 59, [], nI 59)] = some 87 := by decide +kernel
theorem b_Mo_readType_90 : mx_ck m_Mo_readType 90 [(.aload_n 0, [], 0), (.getfield 99, [10, 16, 0, 967], 0)] = some 94 := by decide +kernel
theorem b_Mo_readType_97 : mx_ck m_Mo_readType 97 [(.iconst 2, [], nI 2), (.iconst 3, [], nI 3), (.iload_n 2, [], 0), (.imul, [], 0), (.iadd, [], 0), (.istore 6, [], 0), (.aload_n 0, [], 0), (.getfield 22, [10, 6, 6, 957], 0), (.iload 6, [], 0), (.iload_n 1, [], 0), (.iastore, [], 0), (.aload_n 0, [], 0), (.getfield 22, [10, 6, 6, 957], 0), (.iload 6, [], 0), (.iconst 1, [], nI 1), (.iadd, [], 0), (.iload 4, [], 0), (.iastore, [], 0), (.aload_n 0, [], 0), (.getfield 22, [10, 6, 6, 957], 0), (.iload 6, [], 0), (.iconst 2, [], nI 2), (.iadd, [], 0), (.iload 5, [], 0), (.iastore, [], 0), (.aload_n 0, [], 0), (.getfield 22, [10, 6, 6, 957], 0), (.iconst 0, [], nI 0), (.dup2, [], 0), (.iaload, [], 0), (.iconst 1, [], nI 1), (.iadd, [], 0), (.iastore, [], 0)] = some 144 := by decide +kernel
theorem d_Mo_readType_4 : decode m_Mo_readType.2.1 4 = .ok (.invokestatic 140, 3) := by decide +kernel
theorem c_Mo_readType_4 : mx_cs m_Mo_readType m_Mo_sortBy 140 1 [1130, 1131, 92, 1132] = true := by decide +kernel
theorem d_Mo_readType_18 : decode m_Mo_readType.2.1 18 = .ok (.if_icmp .ne 8, 3) := by decide +kernel
theorem d_Mo_readType_23 : decode m_Mo_readType.2.1 23 = .ok (.invokevirtual 126, 3) := by decide +kernel
theorem c_Mo_readType_23 : mx_cv m_Mo_readType m_Mo_bad 126 1 [1114, 1116, 45, 92, 1117] = true := by decide +kernel
theorem d_Mo_readType_28 : decode m_Mo_readType.2.1 28 = .ok (.invokevirtual 133, 3) := by decide +kernel
theorem c_Mo_readType_28 : mx_cv m_Mo_readType m_Mo_must 133 1 [1110, 1112, 44, 92, 1113] = true := by decide +kernel
theorem d_Mo_readType_32 : decode m_Mo_readType.2.1 32 = .ok (.ifCond .ne 7, 3) := by decide +kernel
theorem d_Mo_readType_36 : decode m_Mo_readType.2.1 36 = .ok (.goto 16, 3) := by decide +kernel
theorem d_Mo_readType_41 : decode m_Mo_readType.2.1 41 = .ok (.if_icmp .ge 8, 3) := by decide +kernel
theorem d_Mo_readType_46 : decode m_Mo_readType.2.1 46 = .ok (.goto 6, 3) := by decide +kernel
theorem d_Mo_readType_56 : decode m_Mo_readType.2.1 56 = .ok (.invokevirtual 143, 3) := by decide +kernel
theorem c_Mo_readType_56 : mx_cv m_Mo_readType m_Mo_number 143 2 [1118, 1120, 46, 92, 1121] = true := by decide +kernel
theorem d_Mo_readType_64 : decode m_Mo_readType.2.1 64 = .ok (.invokevirtual 147, 3) := by decide +kernel
theorem c_Mo_readType_64 : mx_cv m_Mo_readType m_Mo_mustSign 147 1 [1122, 1124, 47, 92, 1125] = true := by decide +kernel
theorem d_Mo_readType_69 : decode m_Mo_readType.2.1 69 = .ok (.ifCond .ne 8, 3) := by decide +kernel
theorem d_Mo_readType_74 : decode m_Mo_readType.2.1 74 = .ok (.goto 4, 3) := by decide +kernel
theorem d_Mo_readType_79 : decode m_Mo_readType.2.1 79 = .ok (.invokevirtual 143, 3) := by decide +kernel
theorem c_Mo_readType_79 : mx_cv m_Mo_readType m_Mo_number 143 2 [1118, 1120, 46, 92, 1121] = true := by decide +kernel
theorem d_Mo_readType_87 : decode m_Mo_readType.2.1 87 = .ok (.invokevirtual 147, 3) := by decide +kernel
theorem c_Mo_readType_87 : mx_cv m_Mo_readType m_Mo_mustSign 147 1 [1122, 1124, 47, 92, 1125] = true := by decide +kernel
theorem d_Mo_readType_94 : decode m_Mo_readType.2.1 94 = .ok (.ifCond .ne 50, 3) := by decide +kernel
theorem d_Mo_readType_144 : decode m_Mo_readType.2.1 144 = .ok (.return_, 1) := by decide +kernel
theorem b_Mo_reckon_0 : mx_ck m_Mo_reckon 0 [(.aload_n 0, [], 0), (.aload_n 1, [], 0)] = some 2 := by decide +kernel
theorem b_Mo_reckon_9 : mx_ck m_Mo_reckon 9 [(.iconst 0, [], nI 0), (.istore_n 2, [], 0)] = some 11 := by decide +kernel
theorem b_Mo_reckon_11 : mx_ck m_Mo_reckon 11 [(.iload_n 2, [], 0), (.sipush 256, [], nI 256)] = some 15 := by decide +kernel
theorem b_Mo_reckon_18 : mx_ck m_Mo_reckon 18 [(.aload_n 0, [], 0), (.getfield 34, [10, 19, 10, 970], 0), (.iload_n 2, [], 0), (.iconst 0, [], nI 0), (.iastore, [], 0), (.aload_n 0, [], 0), (.getfield 37, [10, 20, 11, 971], 0), (.iload_n 2, [], 0), (.iconst 0, [], nI 0), (.iastore, [], 0), (.iinc 2 1, [], nI 1)] = some 35 := by decide +kernel
theorem b_Mo_reckon_38 : mx_ck m_Mo_reckon 38 [(.iconst 0, [], nI 0), (.istore_n 2, [], 0)] = some 40 := by decide +kernel
theorem b_Mo_reckon_40 : mx_ck m_Mo_reckon 40 [(.iload_n 2, [], 0), (.sipush 512, [], nI 512)] = some 44 := by decide +kernel
theorem b_Mo_reckon_47 : mx_ck m_Mo_reckon 47 [(.aload_n 0, [], 0), (.getfield 43, [10, 23, 13, 974], 0), (.iload_n 2, [], 0), (.iconst 0, [], nI 0), (.bastore, [], 0), (.iinc 2 1, [], nI 1)] = some 57 := by decide +kernel
theorem b_Mo_reckon_60 : mx_ck m_Mo_reckon 60 [(.iconst 0, [], nI 0), (.istore_n 2, [], 0)] = some 62 := by decide +kernel
theorem b_Mo_reckon_62 : mx_ck m_Mo_reckon 62 [(.iload_n 2, [], 0), (.aload_n 1, [], 0), (.iconst 1, [], nI 1), (.iaload, [], 0)] = some 66 := by decide +kernel
theorem b_Mo_reckon_69 : mx_ck m_Mo_reckon 69 [(.aload_n 0, [], 0), (.aload_n 1, [], 0), (.iload_n 2, [], 0)] = some 72 := by decide +kernel
theorem b_Mo_reckon_75 : mx_ck m_Mo_reckon 75 [(.iconst 1, [], nI 1), (.iconst 1, [], nI 1)] = some 77 := by decide +kernel
theorem b_Mo_reckon_80 : mx_ck m_Mo_reckon 80 [(.iinc 2 1, [], nI 1)] = some 83 := by decide +kernel
theorem b_Mo_reckon_86 : mx_ck m_Mo_reckon 86 [(.aload_n 0, [], 0), (.aload_n 1, [], 0), (.iconst 0, [], nI 0)] = some 89 := by decide +kernel
theorem b_Mo_reckon_92 : mx_ck m_Mo_reckon 92 [(.iconst 4, [], nI 4), (.iconst 1, [], nI 1)] = some 94 := by decide +kernel
theorem b_Mo_reckon_97 : mx_ck m_Mo_reckon 97 [(.iconst 0, [], nI 0), (.istore_n 2, [], 0), (.aload_n 0, [], 0)] = some 100 := by decide +kernel
theorem b_Mo_reckon_103 : mx_ck m_Mo_reckon 103 [(.iconst 2, [], nI 2), (.istore_n 3, [], 0)] = some 105 := by decide +kernel
theorem b_Mo_reckon_105 : mx_ck m_Mo_reckon 105 [(.iload_n 2, [], 0), (.aload_n 0, [], 0), (.getfield 185, [10, 22, 0, 973], 0)] = some 110 := by decide +kernel
theorem b_Mo_reckon_113 : mx_ck m_Mo_reckon 113 [(.aload_n 0, [], 0), (.getfield 185, [10, 22, 0, 973], 0), (.istore_n 2, [], 0), (.iconst 0, [], nI 0), (.istore 4, [], 0)] = some 121 := by decide +kernel
theorem b_Mo_reckon_121 : mx_ck m_Mo_reckon 121 [(.iload 4, [], 0), (.iload_n 2, [], 0)] = some 124 := by decide +kernel
theorem b_Mo_reckon_127 : mx_ck m_Mo_reckon 127 [(.aload_n 0, [], 0), (.aload_n 1, [], 0), (.aload_n 0, [], 0), (.getfield 40, [10, 21, 12, 972], 0), (.iload 4, [], 0), (.iaload, [], 0), (.iload_n 3, [], 0)] = some 137 := by decide +kernel
theorem b_Mo_reckon_140 : mx_ck m_Mo_reckon 140 [(.iinc 4 1, [], nI 1)] = some 143 := by decide +kernel
theorem b_Mo_reckon_146 : mx_ck m_Mo_reckon 146 [(.aload_n 0, [], 0)] = some 147 := by decide +kernel
theorem b_Mo_reckon_150 : mx_ck m_Mo_reckon 150 [(.iconst 0, [], nI 0), (.istore 4, [], 0)] = some 153 := by decide +kernel
theorem b_Mo_reckon_153 : mx_ck m_Mo_reckon 153 [(.iload 4, [], 0), (.sipush 256, [], nI 256)] = some 158 := by decide +kernel
theorem b_Mo_reckon_161 : mx_ck m_Mo_reckon 161 [(.aload_n 0, [], 0), (.getfield 47, [10, 24, 14, 975], 0), (.iload 4, [], 0), (.baload, [], 0)] = some 168 := by decide +kernel
theorem b_Mo_reckon_171 : mx_ck m_Mo_reckon 171 [(.aload_n 0, [], 0), (.aload_n 1, [], 0), (.iload 4, [], 0)] = some 175 := by decide +kernel
theorem b_Mo_reckon_178 : mx_ck m_Mo_reckon 178 [(.iconst 4, [], nI 4), (.iload_n 3, [], 0)] = some 180 := by decide +kernel
theorem b_Mo_reckon_183 : mx_ck m_Mo_reckon 183 [(.iinc 4 1, [], nI 1)] = some 186 := by decide +kernel
theorem b_Mo_reckon_189 : mx_ck m_Mo_reckon 189 [(.aload_n 0, [], 0)] = some 190 := by decide +kernel
theorem b_Mo_reckon_193 : mx_ck m_Mo_reckon 193 [(.iinc 3 1, [], nI 1)] = some 196 := by decide +kernel
theorem d_Mo_reckon_2 : decode m_Mo_reckon.2.1 2 = .ok (.invokevirtual 194, 3) := by decide +kernel
theorem c_Mo_reckon_2 : mx_cv m_Mo_reckon m_Mo_isKnown 194 1 [1190, 1192, 57, 92, 1193] = true := by decide +kernel
theorem d_Mo_reckon_5 : decode m_Mo_reckon.2.1 5 = .ok (.ifCond .eq 4, 3) := by decide +kernel
theorem d_Mo_reckon_8 : decode m_Mo_reckon.2.1 8 = .ok (.return_, 1) := by decide +kernel
theorem d_Mo_reckon_15 : decode m_Mo_reckon.2.1 15 = .ok (.if_icmp .ge 23, 3) := by decide +kernel
theorem d_Mo_reckon_35 : decode m_Mo_reckon.2.1 35 = .ok (.goto (-24), 3) := by decide +kernel
theorem d_Mo_reckon_44 : decode m_Mo_reckon.2.1 44 = .ok (.if_icmp .ge 16, 3) := by decide +kernel
theorem d_Mo_reckon_57 : decode m_Mo_reckon.2.1 57 = .ok (.goto (-17), 3) := by decide +kernel
theorem d_Mo_reckon_66 : decode m_Mo_reckon.2.1 66 = .ok (.if_icmp .ge 20, 3) := by decide +kernel
theorem d_Mo_reckon_72 : decode m_Mo_reckon.2.1 72 = .ok (.invokestatic 198, 3) := by decide +kernel
theorem c_Mo_reckon_72 : mx_cs m_Mo_reckon m_Mo_constantCell 198 2 [1194, 1195, 92, 1196] = true := by decide +kernel
theorem d_Mo_reckon_77 : decode m_Mo_reckon.2.1 77 = .ok (.invokevirtual 201, 3) := by decide +kernel
theorem c_Mo_reckon_77 : mx_cv m_Mo_reckon m_Mo_comes 201 3 [1203, 1205, 58, 92, 1206] = true := by decide +kernel
theorem d_Mo_reckon_83 : decode m_Mo_reckon.2.1 83 = .ok (.goto (-21), 3) := by decide +kernel
theorem d_Mo_reckon_89 : decode m_Mo_reckon.2.1 89 = .ok (.invokestatic 205, 3) := by decide +kernel
theorem c_Mo_reckon_89 : mx_cs m_Mo_reckon m_Mo_functionCell 205 2 [1207, 1208, 92, 1209] = true := by decide +kernel
theorem d_Mo_reckon_94 : decode m_Mo_reckon.2.1 94 = .ok (.invokevirtual 201, 3) := by decide +kernel
theorem c_Mo_reckon_94 : mx_cv m_Mo_reckon m_Mo_comes 201 3 [1203, 1205, 58, 92, 1206] = true := by decide +kernel
theorem d_Mo_reckon_100 : decode m_Mo_reckon.2.1 100 = .ok (.invokevirtual 208, 3) := by decide +kernel
theorem c_Mo_reckon_100 : mx_cv m_Mo_reckon m_Mo_gather 208 0 [1210, 1212, 59, 92, 1213] = true := by decide +kernel
theorem d_Mo_reckon_110 : decode m_Mo_reckon.2.1 110 = .ok (.if_icmp .ge 89, 3) := by decide +kernel
theorem d_Mo_reckon_124 : decode m_Mo_reckon.2.1 124 = .ok (.if_icmp .ge 22, 3) := by decide +kernel
theorem d_Mo_reckon_137 : decode m_Mo_reckon.2.1 137 = .ok (.invokevirtual 211, 3) := by decide +kernel
theorem c_Mo_reckon_137 : mx_cv m_Mo_reckon m_Mo_goOn 211 3 [1214, 1216, 60, 92, 1217] = true := by decide +kernel
theorem d_Mo_reckon_143 : decode m_Mo_reckon.2.1 143 = .ok (.goto (-22), 3) := by decide +kernel
theorem d_Mo_reckon_147 : decode m_Mo_reckon.2.1 147 = .ok (.invokevirtual 191, 3) := by decide +kernel
theorem c_Mo_reckon_147 : mx_cv m_Mo_reckon m_Mo_join 191 0 [1224, 1226, 61, 92, 1227] = true := by decide +kernel
theorem d_Mo_reckon_158 : decode m_Mo_reckon.2.1 158 = .ok (.if_icmp .ge 31, 3) := by decide +kernel
theorem d_Mo_reckon_168 : decode m_Mo_reckon.2.1 168 = .ok (.ifCond .eq 15, 3) := by decide +kernel
theorem d_Mo_reckon_175 : decode m_Mo_reckon.2.1 175 = .ok (.invokestatic 205, 3) := by decide +kernel
theorem c_Mo_reckon_175 : mx_cs m_Mo_reckon m_Mo_functionCell 205 2 [1207, 1208, 92, 1209] = true := by decide +kernel
theorem d_Mo_reckon_180 : decode m_Mo_reckon.2.1 180 = .ok (.invokevirtual 201, 3) := by decide +kernel
theorem c_Mo_reckon_180 : mx_cv m_Mo_reckon m_Mo_comes 201 3 [1203, 1205, 58, 92, 1206] = true := by decide +kernel
theorem d_Mo_reckon_186 : decode m_Mo_reckon.2.1 186 = .ok (.goto (-33), 3) := by decide +kernel
theorem d_Mo_reckon_190 : decode m_Mo_reckon.2.1 190 = .ok (.invokevirtual 208, 3) := by decide +kernel
theorem c_Mo_reckon_190 : mx_cv m_Mo_reckon m_Mo_gather 208 0 [1210, 1212, 59, 92, 1213] = true := by decide +kernel
theorem d_Mo_reckon_196 : decode m_Mo_reckon.2.1 196 = .ok (.goto (-91), 3) := by decide +kernel
theorem d_Mo_reckon_199 : decode m_Mo_reckon.2.1 199 = .ok (.return_, 1) := by decide +kernel
theorem b_Mo_restore_0 : mx_ck m_Mo_restore 0 [(.aload_n 0, [], 0), (.iconst 0, [], nI 0), (.putfield 68, [10, 0, 0, 951], 0), (.iload_n 1, [], 0), (.i2l, [], 0), (.lconst 0, [0], 0), (.lconst 1, [1], 0)] = some 9 := by decide +kernel
theorem b_Mo_restore_15 : mx_ck m_Mo_restore 15 [(.ldc 88, [1061], (-1000001))] = some 17 := by decide +kernel
theorem b_Mo_restore_18 : mx_ck m_Mo_restore 18 [(.aload_n 0, [], 0), (.getfield 59, [10, 28, 18, 979], 0), (.iload_n 1, [], 0), (.baload, [], 0)] = some 24 := by decide +kernel
theorem b_Mo_restore_27 : mx_ck m_Mo_restore 27 [(.ldc 233, [1166], (-1000002))] = some 29 := by decide +kernel
theorem b_Mo_restore_30 : mx_ck m_Mo_restore 30 [(.iconst 0, [], nI 0), (.istore_n 2, [], 0)] = some 32 := by decide +kernel
theorem b_Mo_restore_32 : mx_ck m_Mo_restore 32 [(.iload_n 2, [], 0), (.bipush 26, [], nI 26)] = some 35 := by decide +kernel
theorem b_Mo_restore_38 : mx_ck m_Mo_restore 38 [(.aload_n 0, [], 0), (.getfield 19, [10, 5, 5, 956], 0), (.iload_n 2, [], 0), (.aload_n 0, [], 0), (.getfield 62, [10, 29, 19, 980], 0), (.bipush 26, [], nI 26), (.iload_n 1, [], 0), (.imul, [], 0), (.iload_n 2, [], 0), (.iadd, [], 0), (.iaload, [], 0), (.iastore, [], 0), (.iinc 2 1, [], nI 1)] = some 58 := by decide +kernel
theorem b_Mo_restore_61 : mx_ck m_Mo_restore 61 [(.aload_n 0, [], 0), (.iconst 0, [], nI 0), (.putfield 170, [10, 9, 0, 960], 0), (.iconst 1, [], nI 1)] = some 67 := by decide +kernel
theorem d_Mo_restore_9 : decode m_Mo_restore.2.1 9 = .ok (.invokestatic 78, 3) := by decide +kernel
theorem c_Mo_restore_9 : mx_cs m_Mo_restore m_Mo_in 78 3 [1057, 1058, 92, 1059] = true := by decide +kernel
theorem d_Mo_restore_12 : decode m_Mo_restore.2.1 12 = .ok (.ifCond .ne 6, 3) := by decide +kernel
theorem d_Mo_restore_17 : decode m_Mo_restore.2.1 17 = .ok (.ireturn, 1) := by decide +kernel
theorem d_Mo_restore_24 : decode m_Mo_restore.2.1 24 = .ok (.ifCond .ne 6, 3) := by decide +kernel
theorem d_Mo_restore_29 : decode m_Mo_restore.2.1 29 = .ok (.ireturn, 1) := by decide +kernel
theorem d_Mo_restore_35 : decode m_Mo_restore.2.1 35 = .ok (.if_icmp .ge 26, 3) := by decide +kernel
theorem d_Mo_restore_58 : decode m_Mo_restore.2.1 58 = .ok (.goto (-26), 3) := by decide +kernel
theorem d_Mo_restore_67 : decode m_Mo_restore.2.1 67 = .ok (.ireturn, 1) := by decide +kernel
theorem b_Mo_row_0 : mx_ck m_Mo_row 0 [(.aload_n 0, [], 0), (.iconst 0, [], nI 0), (.putfield 68, [10, 0, 0, 951], 0), (.iload_n 1, [], 0)] = some 6 := by decide +kernel
theorem b_Mo_row_12 : mx_ck m_Mo_row 12 [(.iload_n 2, [], 0), (.i2l, [], 0), (.lconst 0, [0], 0), (.ldc2_w 86, [2, 1060], 0)] = some 18 := by decide +kernel
theorem b_Mo_row_24 : mx_ck m_Mo_row 24 [(.iload_n 3, [], 0), (.bipush 40, [], nI 40)] = some 27 := by decide +kernel
theorem b_Mo_row_30 : mx_ck m_Mo_row 30 [(.ldc 88, [1061], (-1000001))] = some 32 := by decide +kernel
theorem b_Mo_row_33 : mx_ck m_Mo_row 33 [(.aload_n 0, [], 0), (.iconst 0, [], nI 0), (.putfield 72, [10, 1, 0, 952], 0), (.iload_n 3, [], 0)] = some 39 := by decide +kernel
theorem b_Mo_row_42 : mx_ck m_Mo_row 42 [(.aload_n 0, [], 0), (.iconst 4, [], nI 4)] = some 44 := by decide +kernel
theorem b_Mo_row_48 : mx_ck m_Mo_row 48 [(.aload_n 0, [], 0), (.getfield 7, [10, 2, 2, 953], 0), (.iload_n 1, [], 0), (.iload_n 2, [], 0), (.iastore, [], 0), (.aload_n 0, [], 0), (.getfield 13, [10, 3, 3, 954], 0), (.iload_n 1, [], 0), (.iload_n 3, [], 0), (.iastore, [], 0), (.iconst 0, [], nI 0), (.istore 4, [], 0)] = some 65 := by decide +kernel
theorem b_Mo_row_65 : mx_ck m_Mo_row 65 [(.iload 4, [], 0), (.bipush 40, [], nI 40)] = some 69 := by decide +kernel
theorem b_Mo_row_72 : mx_ck m_Mo_row 72 [(.aload_n 0, [], 0), (.getfield 16, [10, 4, 4, 955], 0), (.bipush 40, [], nI 40), (.iload_n 1, [], 0), (.imul, [], 0), (.iload 4, [], 0), (.iadd, [], 0), (.iconst 0, [], nI 0), (.iastore, [], 0), (.iinc 4 1, [], nI 1)] = some 88 := by decide +kernel
theorem b_Mo_row_91 : mx_ck m_Mo_row 91 [(.iload_n 3, [], 0)] = some 92 := by decide +kernel
theorem d_Mo_row_6 : decode m_Mo_row.2.1 6 = .ok (.invokestatic 82, 3) := by decide +kernel
theorem c_Mo_row_6 : mx_cs m_Mo_row m_Mo_isRow 82 1 [1053, 1054, 92, 1055] = true := by decide +kernel
theorem d_Mo_row_9 : decode m_Mo_row.2.1 9 = .ok (.ifCond .eq 21, 3) := by decide +kernel
theorem d_Mo_row_18 : decode m_Mo_row.2.1 18 = .ok (.invokestatic 78, 3) := by decide +kernel
theorem c_Mo_row_18 : mx_cs m_Mo_row m_Mo_in 78 3 [1057, 1058, 92, 1059] = true := by decide +kernel
theorem d_Mo_row_21 : decode m_Mo_row.2.1 21 = .ok (.ifCond .eq 9, 3) := by decide +kernel
theorem d_Mo_row_27 : decode m_Mo_row.2.1 27 = .ok (.if_icmp .le 6, 3) := by decide +kernel
theorem d_Mo_row_32 : decode m_Mo_row.2.1 32 = .ok (.ireturn, 1) := by decide +kernel
theorem d_Mo_row_39 : decode m_Mo_row.2.1 39 = .ok (.ifCond .ge 9, 3) := by decide +kernel
theorem d_Mo_row_44 : decode m_Mo_row.2.1 44 = .ok (.invokevirtual 89, 3) := by decide +kernel
theorem c_Mo_row_44 : mx_cv m_Mo_row m_Mo_finding 89 1 [1062, 1064, 40, 92, 1065] = true := by decide +kernel
theorem d_Mo_row_47 : decode m_Mo_row.2.1 47 = .ok (.ireturn, 1) := by decide +kernel
theorem d_Mo_row_69 : decode m_Mo_row.2.1 69 = .ok (.if_icmp .ge 22, 3) := by decide +kernel
theorem d_Mo_row_88 : decode m_Mo_row.2.1 88 = .ok (.goto (-23), 3) := by decide +kernel
theorem d_Mo_row_92 : decode m_Mo_row.2.1 92 = .ok (.ireturn, 1) := by decide +kernel
theorem b_Mo_rowFound_0 : mx_ck m_Mo_rowFound 0 [(.aload_n 0, [], 0), (.getfield 7, [10, 2, 2, 953], 0), (.iload_n 1, [], 0), (.iaload, [], 0)] = some 6 := by decide +kernel
theorem b_Mo_rowFound_9 : mx_ck m_Mo_rowFound 9 [(.aload_n 0, [], 0), (.iconst 1, [], nI 1)] = some 11 := by decide +kernel
theorem b_Mo_rowFound_15 : mx_ck m_Mo_rowFound 15 [(.iload_n 2, [], 0)] = some 16 := by decide +kernel
theorem b_Mo_rowFound_19 : mx_ck m_Mo_rowFound 19 [(.iload_n 2, [], 0), (.i2l, [], 0), (.iload_n 3, [], 0), (.i2l, [], 0), (.ladd, [], 0), (.aload_n 0, [], 0), (.getfield 13, [10, 3, 3, 954], 0), (.iload_n 1, [], 0), (.iaload, [], 0), (.i2l, [], 0), (.lcmp, [], 0)] = some 32 := by decide +kernel
theorem b_Mo_rowFound_35 : mx_ck m_Mo_rowFound 35 [(.aload_n 0, [], 0), (.iconst 2, [], nI 2)] = some 37 := by decide +kernel
theorem b_Mo_rowFound_41 : mx_ck m_Mo_rowFound 41 [(.aload_n 0, [], 0), (.iconst 0, [], nI 0), (.putfield 72, [10, 1, 0, 952], 0), (.iconst 0, [], nI 0)] = some 47 := by decide +kernel
theorem d_Mo_rowFound_6 : decode m_Mo_rowFound.2.1 6 = .ok (.ifCond .ge 9, 3) := by decide +kernel
theorem d_Mo_rowFound_11 : decode m_Mo_rowFound.2.1 11 = .ok (.invokevirtual 89, 3) := by decide +kernel
theorem c_Mo_rowFound_11 : mx_cv m_Mo_rowFound m_Mo_finding 89 1 [1062, 1064, 40, 92, 1065] = true := by decide +kernel
theorem d_Mo_rowFound_14 : decode m_Mo_rowFound.2.1 14 = .ok (.ireturn, 1) := by decide +kernel
theorem d_Mo_rowFound_16 : decode m_Mo_rowFound.2.1 16 = .ok (.ifCond .lt 19, 3) := by decide +kernel
theorem d_Mo_rowFound_32 : decode m_Mo_rowFound.2.1 32 = .ok (.ifCond .le 9, 3) := by decide +kernel
theorem d_Mo_rowFound_37 : decode m_Mo_rowFound.2.1 37 = .ok (.invokevirtual 89, 3) := by decide +kernel
theorem c_Mo_rowFound_37 : mx_cv m_Mo_rowFound m_Mo_finding 89 1 [1062, 1064, 40, 92, 1065] = true := by decide +kernel
theorem d_Mo_rowFound_40 : decode m_Mo_rowFound.2.1 40 = .ok (.ireturn, 1) := by decide +kernel
theorem d_Mo_rowFound_47 : decode m_Mo_rowFound.2.1 47 = .ok (.ireturn, 1) := by decide +kernel
theorem b_Mo_set_0 : mx_ck m_Mo_set 0 [(.aload_n 0, [], 0), (.iconst 0, [], nI 0), (.putfield 68, [10, 0, 0, 951], 0), (.iload_n 1, [], 0)] = some 6 := by decide +kernel
theorem b_Mo_set_12 : mx_ck m_Mo_set 12 [(.ldc 88, [1061], (-1000001))] = some 14 := by decide +kernel
theorem b_Mo_set_15 : mx_ck m_Mo_set 15 [(.aload_n 0, [], 0), (.iconst 0, [], nI 0), (.putfield 72, [10, 1, 0, 952], 0), (.aload_n 0, [], 0), (.getfield 7, [10, 2, 2, 953], 0), (.iload_n 1, [], 0), (.iaload, [], 0)] = some 26 := by decide +kernel
theorem b_Mo_set_29 : mx_ck m_Mo_set 29 [(.aload_n 0, [], 0), (.iconst 1, [], nI 1)] = some 31 := by decide +kernel
theorem b_Mo_set_35 : mx_ck m_Mo_set 35 [(.iload_n 2, [], 0), (.i2l, [], 0), (.lconst 0, [0], 0), (.aload_n 0, [], 0), (.getfield 13, [10, 3, 3, 954], 0), (.iload_n 1, [], 0), (.iaload, [], 0), (.iconst 1, [], nI 1), (.isub, [], 0), (.i2l, [], 0)] = some 47 := by decide +kernel
theorem b_Mo_set_53 : mx_ck m_Mo_set 53 [(.aload_n 0, [], 0), (.iconst 2, [], nI 2)] = some 55 := by decide +kernel
theorem b_Mo_set_59 : mx_ck m_Mo_set 59 [(.aload_n 0, [], 0), (.getfield 16, [10, 4, 4, 955], 0), (.bipush 40, [], nI 40), (.iload_n 1, [], 0), (.imul, [], 0), (.iload_n 2, [], 0), (.iadd, [], 0), (.aload_n 0, [], 0), (.getfield 7, [10, 2, 2, 953], 0), (.iload_n 1, [], 0), (.iaload, [], 0)] = some 75 := by decide +kernel
theorem b_Mo_set_78 : mx_ck m_Mo_set 78 [(.iload_n 3, [], 0), (.i2b, [], 0)] = some 80 := by decide +kernel
theorem b_Mo_set_83 : mx_ck m_Mo_set 83 [(.aload_n 0, [], 0), (.getfield 7, [10, 2, 2, 953], 0), (.iload_n 1, [], 0), (.iaload, [], 0), (.iconst 1, [], nI 1)] = some 90 := by decide +kernel
theorem b_Mo_set_93 : mx_ck m_Mo_set 93 [(.iload_n 3, [], 0), (.i2s, [], 0)] = some 95 := by decide +kernel
theorem b_Mo_set_98 : mx_ck m_Mo_set 98 [(.iload_n 3, [], 0)] = some 99 := by decide +kernel
theorem b_Mo_set_99 : mx_ck m_Mo_set 99 [(.iastore, [], 0), (.aload_n 0, [], 0), (.getfield 16, [10, 4, 4, 955], 0), (.bipush 40, [], nI 40), (.iload_n 1, [], 0), (.imul, [], 0), (.iload_n 2, [], 0), (.iadd, [], 0), (.iaload, [], 0)] = some 111 := by decide +kernel
theorem d_Mo_set_6 : decode m_Mo_set.2.1 6 = .ok (.invokestatic 82, 3) := by decide +kernel
theorem c_Mo_set_6 : mx_cs m_Mo_set m_Mo_isRow 82 1 [1053, 1054, 92, 1055] = true := by decide +kernel
theorem d_Mo_set_9 : decode m_Mo_set.2.1 9 = .ok (.ifCond .ne 6, 3) := by decide +kernel
theorem d_Mo_set_14 : decode m_Mo_set.2.1 14 = .ok (.ireturn, 1) := by decide +kernel
theorem d_Mo_set_26 : decode m_Mo_set.2.1 26 = .ok (.ifCond .ge 9, 3) := by decide +kernel
theorem d_Mo_set_31 : decode m_Mo_set.2.1 31 = .ok (.invokevirtual 89, 3) := by decide +kernel
theorem c_Mo_set_31 : mx_cv m_Mo_set m_Mo_finding 89 1 [1062, 1064, 40, 92, 1065] = true := by decide +kernel
theorem d_Mo_set_34 : decode m_Mo_set.2.1 34 = .ok (.ireturn, 1) := by decide +kernel
theorem d_Mo_set_47 : decode m_Mo_set.2.1 47 = .ok (.invokestatic 78, 3) := by decide +kernel
theorem c_Mo_set_47 : mx_cs m_Mo_set m_Mo_in 78 3 [1057, 1058, 92, 1059] = true := by decide +kernel
theorem d_Mo_set_50 : decode m_Mo_set.2.1 50 = .ok (.ifCond .ne 9, 3) := by decide +kernel
theorem d_Mo_set_55 : decode m_Mo_set.2.1 55 = .ok (.invokevirtual 89, 3) := by decide +kernel
theorem c_Mo_set_55 : mx_cv m_Mo_set m_Mo_finding 89 1 [1062, 1064, 40, 92, 1065] = true := by decide +kernel
theorem d_Mo_set_58 : decode m_Mo_set.2.1 58 = .ok (.ireturn, 1) := by decide +kernel
theorem d_Mo_set_75 : decode m_Mo_set.2.1 75 = .ok (.ifCond .ne 8, 3) := by decide +kernel
theorem d_Mo_set_80 : decode m_Mo_set.2.1 80 = .ok (.goto 19, 3) := by decide +kernel
theorem d_Mo_set_90 : decode m_Mo_set.2.1 90 = .ok (.if_icmp .ne 8, 3) := by decide +kernel
theorem d_Mo_set_95 : decode m_Mo_set.2.1 95 = .ok (.goto 4, 3) := by decide +kernel
theorem d_Mo_set_111 : decode m_Mo_set.2.1 111 = .ok (.ireturn, 1) := by decide +kernel
theorem b_Mo_sizeOf_0 : mx_ck m_Mo_sizeOf 0 [(.aload_n 0, [], 0), (.iload_n 1, [], 0)] = some 2 := by decide +kernel
theorem b_Mo_sizeOf_5 : mx_ck m_Mo_sizeOf 5 [(.istore_n 2, [], 0), (.iload_n 2, [], 0)] = some 7 := by decide +kernel
theorem b_Mo_sizeOf_10 : mx_ck m_Mo_sizeOf 10 [(.aload_n 0, [], 0), (.iload_n 1, [], 0)] = some 12 := by decide +kernel
theorem b_Mo_sizeOf_16 : mx_ck m_Mo_sizeOf 16 [(.iload_n 2, [], 0), (.iconst 4, [], nI 4)] = some 18 := by decide +kernel
theorem b_Mo_sizeOf_21 : mx_ck m_Mo_sizeOf 21 [(.aload_n 0, [], 0), (.iload_n 1, [], 0)] = some 23 := by decide +kernel
theorem b_Mo_sizeOf_27 : mx_ck m_Mo_sizeOf 27 [(.iload_n 2, [], 0), (.iconst 2, [], nI 2)] = some 29 := by decide +kernel
theorem b_Mo_sizeOf_32 : mx_ck m_Mo_sizeOf 32 [(.aload_n 0, [], 0), (.bipush 12, [], nI 12)] = some 35 := by decide +kernel
theorem b_Mo_sizeOf_38 : mx_ck m_Mo_sizeOf 38 [(.aload_n 0, [], 0), (.bipush 11, [], nI 11)] = some 41 := by decide +kernel
theorem b_Mo_sizeOf_44 : mx_ck m_Mo_sizeOf 44 [(.aload_n 0, [], 0), (.iload_n 1, [], 0)] = some 46 := by decide +kernel
theorem b_Mo_sizeOf_49 : mx_ck m_Mo_sizeOf 49 [(.istore_n 3, [], 0), (.iload_n 3, [], 0), (.aload_n 0, [], 0), (.iload_n 1, [], 0)] = some 53 := by decide +kernel
theorem b_Mo_sizeOf_56 : mx_ck m_Mo_sizeOf 56 [(.iadd, [], 0), (.istore_n 3, [], 0), (.iload_n 2, [], 0), (.iconst 2, [], nI 2)] = some 60 := by decide +kernel
theorem b_Mo_sizeOf_63 : mx_ck m_Mo_sizeOf 63 [(.iload_n 3, [], 0), (.ineg, [], 0)] = some 65 := by decide +kernel
theorem b_Mo_sizeOf_68 : mx_ck m_Mo_sizeOf 68 [(.iload_n 3, [], 0)] = some 69 := by decide +kernel
theorem d_Mo_sizeOf_2 : decode m_Mo_sizeOf.2.1 2 = .ok (.invokevirtual 301, 3) := by decide +kernel
theorem c_Mo_sizeOf_2 : mx_cv m_Mo_sizeOf m_Mo_kindOf 301 1 [1344, 1346, 74, 92, 1347] = true := by decide +kernel
theorem d_Mo_sizeOf_7 : decode m_Mo_sizeOf.2.1 7 = .ok (.ifCond .ne 9, 3) := by decide +kernel
theorem d_Mo_sizeOf_12 : decode m_Mo_sizeOf.2.1 12 = .ok (.invokevirtual 313, 3) := by decide +kernel
theorem c_Mo_sizeOf_12 : mx_cv m_Mo_sizeOf m_Mo_plainSize 313 1 [1363, 1365, 76, 92, 1366] = true := by decide +kernel
theorem d_Mo_sizeOf_15 : decode m_Mo_sizeOf.2.1 15 = .ok (.ireturn, 1) := by decide +kernel
theorem d_Mo_sizeOf_18 : decode m_Mo_sizeOf.2.1 18 = .ok (.if_icmp .lt 9, 3) := by decide +kernel
theorem d_Mo_sizeOf_23 : decode m_Mo_sizeOf.2.1 23 = .ok (.invokevirtual 316, 3) := by decide +kernel
theorem c_Mo_sizeOf_23 : mx_cv m_Mo_sizeOf m_Mo_pairSize 316 1 [1371, 1373, 78, 92, 1374] = true := by decide +kernel
theorem d_Mo_sizeOf_26 : decode m_Mo_sizeOf.2.1 26 = .ok (.ireturn, 1) := by decide +kernel
theorem d_Mo_sizeOf_29 : decode m_Mo_sizeOf.2.1 29 = .ok (.if_icmp .ne 9, 3) := by decide +kernel
theorem d_Mo_sizeOf_35 : decode m_Mo_sizeOf.2.1 35 = .ok (.invokevirtual 310, 3) := by decide +kernel
theorem c_Mo_sizeOf_35 : mx_cv m_Mo_sizeOf m_Mo_began 310 1 [1367, 1369, 77, 92, 1370] = true := by decide +kernel
theorem d_Mo_sizeOf_41 : decode m_Mo_sizeOf.2.1 41 = .ok (.invokevirtual 310, 3) := by decide +kernel
theorem c_Mo_sizeOf_41 : mx_cv m_Mo_sizeOf m_Mo_began 310 1 [1367, 1369, 77, 92, 1370] = true := by decide +kernel
theorem d_Mo_sizeOf_46 : decode m_Mo_sizeOf.2.1 46 = .ok (.invokevirtual 313, 3) := by decide +kernel
theorem c_Mo_sizeOf_46 : mx_cv m_Mo_sizeOf m_Mo_plainSize 313 1 [1363, 1365, 76, 92, 1366] = true := by decide +kernel
theorem d_Mo_sizeOf_53 : decode m_Mo_sizeOf.2.1 53 = .ok (.invokevirtual 319, 3) := by decide +kernel
theorem c_Mo_sizeOf_53 : mx_cv m_Mo_sizeOf m_Mo_markOf 319 1 [1375, 1377, 79, 92, 1378] = true := by decide +kernel
theorem d_Mo_sizeOf_60 : decode m_Mo_sizeOf.2.1 60 = .ok (.if_icmp .ne 8, 3) := by decide +kernel
theorem d_Mo_sizeOf_65 : decode m_Mo_sizeOf.2.1 65 = .ok (.goto 4, 3) := by decide +kernel
theorem d_Mo_sizeOf_69 : decode m_Mo_sizeOf.2.1 69 = .ok (.ireturn, 1) := by decide +kernel
theorem b_Mo_sortBy_0 : mx_ck m_Mo_sortBy 0 [(.iload_n 0, [], 0), (.bipush 99, [], nI 99)] = some 3 := by decide +kernel
theorem b_Mo_sortBy_6 : mx_ck m_Mo_sortBy 6 [(.iconst 0, [], nI 0)] = some 7 := by decide +kernel
theorem b_Mo_sortBy_10 : mx_ck m_Mo_sortBy 10 [(.iload_n 0, [], 0), (.bipush 112, [], nI 112)] = some 13 := by decide +kernel
theorem b_Mo_sortBy_16 : mx_ck m_Mo_sortBy 16 [(.iconst 1, [], nI 1)] = some 17 := by decide +kernel
theorem b_Mo_sortBy_20 : mx_ck m_Mo_sortBy 20 [(.iload_n 0, [], 0), (.bipush 102, [], nI 102)] = some 23 := by decide +kernel
theorem b_Mo_sortBy_26 : mx_ck m_Mo_sortBy 26 [(.iconst 2, [], nI 2)] = some 27 := by decide +kernel
theorem b_Mo_sortBy_30 : mx_ck m_Mo_sortBy 30 [(.iload_n 0, [], 0), (.bipush 117, [], nI 117)] = some 33 := by decide +kernel
theorem b_Mo_sortBy_36 : mx_ck m_Mo_sortBy 36 [(.iconst 3, [], nI 3)] = some 37 := by decide +kernel
theorem b_Mo_sortBy_40 : mx_ck m_Mo_sortBy 40 [(.iload_n 0, [], 0), (.bipush 98, [], nI 98)] = some 43 := by decide +kernel
theorem b_Mo_sortBy_46 : mx_ck m_Mo_sortBy 46 [(.iconst 4, [], nI 4)] = some 47 := by decide +kernel
theorem b_Mo_sortBy_50 : mx_ck m_Mo_sortBy 50 [(.iload_n 0, [], 0), (.bipush 108, [], nI 108)] = some 53 := by decide +kernel
theorem b_Mo_sortBy_56 : mx_ck m_Mo_sortBy 56 [(.iconst 5, [], nI 5)] = some 57 := by decide +kernel
theorem b_Mo_sortBy_60 : mx_ck m_Mo_sortBy 60 [(.ldc 111, [1101], (-1000000))] = some 62 := by decide +kernel
theorem d_Mo_sortBy_3 : decode m_Mo_sortBy.2.1 3 = .ok (.if_icmp .ne 7, 3) := by decide +kernel
theorem d_Mo_sortBy_7 : decode m_Mo_sortBy.2.1 7 = .ok (.goto 55, 3) := by decide +kernel
theorem d_Mo_sortBy_13 : decode m_Mo_sortBy.2.1 13 = .ok (.if_icmp .ne 7, 3) := by decide +kernel
theorem d_Mo_sortBy_17 : decode m_Mo_sortBy.2.1 17 = .ok (.goto 45, 3) := by decide +kernel
theorem d_Mo_sortBy_23 : decode m_Mo_sortBy.2.1 23 = .ok (.if_icmp .ne 7, 3) := by decide +kernel
theorem d_Mo_sortBy_27 : decode m_Mo_sortBy.2.1 27 = .ok (.goto 35, 3) := by decide +kernel
theorem d_Mo_sortBy_33 : decode m_Mo_sortBy.2.1 33 = .ok (.if_icmp .ne 7, 3) := by decide +kernel
theorem d_Mo_sortBy_37 : decode m_Mo_sortBy.2.1 37 = .ok (.goto 25, 3) := by decide +kernel
theorem d_Mo_sortBy_43 : decode m_Mo_sortBy.2.1 43 = .ok (.if_icmp .ne 7, 3) := by decide +kernel
theorem d_Mo_sortBy_47 : decode m_Mo_sortBy.2.1 47 = .ok (.goto 15, 3) := by decide +kernel
theorem d_Mo_sortBy_53 : decode m_Mo_sortBy.2.1 53 = .ok (.if_icmp .ne 7, 3) := by decide +kernel
theorem d_Mo_sortBy_57 : decode m_Mo_sortBy.2.1 57 = .ok (.goto 5, 3) := by decide +kernel
theorem d_Mo_sortBy_62 : decode m_Mo_sortBy.2.1 62 = .ok (.ireturn, 1) := by decide +kernel
theorem b_Mo_sortsOf_0 : mx_ck m_Mo_sortsOf 0 [(.iconst 0, [], nI 0), (.istore_n 2, [], 0), (.iconst 0, [], nI 0), (.istore_n 3, [], 0)] = some 4 := by decide +kernel
theorem b_Mo_sortsOf_4 : mx_ck m_Mo_sortsOf 4 [(.iload_n 3, [], 0), (.aload_n 0, [], 0), (.getfield 185, [10, 22, 0, 973], 0)] = some 9 := by decide +kernel
theorem b_Mo_sortsOf_12 : mx_ck m_Mo_sortsOf 12 [(.iload_n 2, [], 0), (.aload_n 0, [], 0), (.getfield 40, [10, 21, 12, 972], 0), (.iload_n 3, [], 0), (.iaload, [], 0), (.iload_n 1, [], 0)] = some 20 := by decide +kernel
theorem b_Mo_sortsOf_26 : mx_ck m_Mo_sortsOf 26 [(.aload_n 0, [], 0), (.getfield 37, [10, 20, 11, 971], 0), (.aload_n 0, [], 0), (.getfield 40, [10, 21, 12, 972], 0), (.iload_n 3, [], 0), (.iaload, [], 0), (.iaload, [], 0)] = some 37 := by decide +kernel
theorem b_Mo_sortsOf_40 : mx_ck m_Mo_sortsOf 40 [(.iconst 0, [], nI 0)] = some 41 := by decide +kernel
theorem b_Mo_sortsOf_41 : mx_ck m_Mo_sortsOf 41 [(.ior, [], 0), (.istore_n 2, [], 0), (.iinc 3 1, [], nI 1)] = some 46 := by decide +kernel
theorem b_Mo_sortsOf_49 : mx_ck m_Mo_sortsOf 49 [(.iload_n 2, [], 0)] = some 50 := by decide +kernel
theorem d_Mo_sortsOf_9 : decode m_Mo_sortsOf.2.1 9 = .ok (.if_icmp .ge 40, 3) := by decide +kernel
theorem d_Mo_sortsOf_20 : decode m_Mo_sortsOf.2.1 20 = .ok (.invokestatic 177, 3) := by decide +kernel
theorem c_Mo_sortsOf_20 : mx_cs m_Mo_sortsOf m_Mo_has 177 2 [1200, 1201, 92, 1202] = true := by decide +kernel
theorem d_Mo_sortsOf_23 : decode m_Mo_sortsOf.2.1 23 = .ok (.ifCond .eq 17, 3) := by decide +kernel
theorem d_Mo_sortsOf_37 : decode m_Mo_sortsOf.2.1 37 = .ok (.goto 4, 3) := by decide +kernel
theorem d_Mo_sortsOf_46 : decode m_Mo_sortsOf.2.1 46 = .ok (.goto (-42), 3) := by decide +kernel
theorem d_Mo_sortsOf_50 : decode m_Mo_sortsOf.2.1 50 = .ok (.ireturn, 1) := by decide +kernel
theorem b_Mo_status_0 : mx_ck m_Mo_status 0 [(.aload_n 0, [], 0), (.iconst 0, [], nI 0), (.putfield 68, [10, 0, 0, 951], 0), (.aload_n 0, [], 0), (.getfield 72, [10, 1, 0, 952], 0)] = some 9 := by decide +kernel
theorem d_Mo_status_9 : decode m_Mo_status.2.1 9 = .ok (.ireturn, 1) := by decide +kernel
theorem b_Mo_trace_0 : mx_ck m_Mo_trace 0 [(.aload_n 0, [], 0), (.iconst 0, [], nI 0), (.putfield 68, [10, 0, 0, 951], 0), (.iload_n 1, [], 0), (.i2l, [], 0), (.lconst 0, [0], 0), (.aload_n 0, [], 0), (.getfield 307, [10, 31, 0, 982], 0), (.iconst 1, [], nI 1), (.isub, [], 0), (.i2l, [], 0)] = some 15 := by decide +kernel
theorem b_Mo_trace_21 : mx_ck m_Mo_trace 21 [(.aload_n 0, [], 0), (.getfield 65, [10, 30, 20, 981], 0), (.iload_n 1, [], 0), (.iaload, [], 0)] = some 27 := by decide +kernel
theorem b_Mo_trace_30 : mx_ck m_Mo_trace 30 [(.ldc 111, [1101], (-1000000))] = some 32 := by decide +kernel
theorem d_Mo_trace_15 : decode m_Mo_trace.2.1 15 = .ok (.invokestatic 78, 3) := by decide +kernel
theorem c_Mo_trace_15 : mx_cs m_Mo_trace m_Mo_in 78 3 [1057, 1058, 92, 1059] = true := by decide +kernel
theorem d_Mo_trace_18 : decode m_Mo_trace.2.1 18 = .ok (.ifCond .eq 12, 3) := by decide +kernel
theorem d_Mo_trace_27 : decode m_Mo_trace.2.1 27 = .ok (.goto 5, 3) := by decide +kernel
theorem d_Mo_trace_32 : decode m_Mo_trace.2.1 32 = .ok (.ireturn, 1) := by decide +kernel
theorem b_Mo_type_0 : mx_ck m_Mo_type 0 [(.aload_n 0, [], 0), (.iconst 0, [], nI 0), (.putfield 68, [10, 0, 0, 951], 0), (.aload_n 0, [], 0), (.iload_n 1, [], 0)] = some 7 := by decide +kernel
theorem b_Mo_type_13 : mx_ck m_Mo_type 13 [(.iload_n 2, [], 0), (.i2l, [], 0), (.lconst 0, [0], 0), (.ldc2_w 86, [2, 1060], 0)] = some 19 := by decide +kernel
theorem b_Mo_type_25 : mx_ck m_Mo_type 25 [(.aload_n 0, [], 0), (.getfield 19, [10, 5, 5, 956], 0), (.iload_n 1, [], 0), (.iload_n 2, [], 0)] = some 31 := by decide +kernel
theorem b_Mo_type_37 : mx_ck m_Mo_type 37 [(.ldc 88, [1061], (-1000001))] = some 39 := by decide +kernel
theorem d_Mo_type_7 : decode m_Mo_type.2.1 7 = .ok (.invokevirtual 221, 3) := by decide +kernel
theorem c_Mo_type_7 : mx_cv m_Mo_type m_Mo_isType 221 1 [1150, 1152, 52, 92, 1153] = true := by decide +kernel
theorem d_Mo_type_10 : decode m_Mo_type.2.1 10 = .ok (.ifCond .eq 27, 3) := by decide +kernel
theorem d_Mo_type_19 : decode m_Mo_type.2.1 19 = .ok (.invokestatic 78, 3) := by decide +kernel
theorem c_Mo_type_19 : mx_cs m_Mo_type m_Mo_in 78 3 [1057, 1058, 92, 1059] = true := by decide +kernel
theorem d_Mo_type_22 : decode m_Mo_type.2.1 22 = .ok (.ifCond .eq 15, 3) := by decide +kernel
theorem d_Mo_type_31 : decode m_Mo_type.2.1 31 = .ok (.invokestatic 173, 3) := by decide +kernel
theorem c_Mo_type_31 : mx_cs m_Mo_type m_Mo_of 173 3 [1171, 1172, 92, 1173] = true := by decide +kernel
theorem d_Mo_type_34 : decode m_Mo_type.2.1 34 = .ok (.goto 5, 3) := by decide +kernel
theorem d_Mo_type_39 : decode m_Mo_type.2.1 39 = .ok (.ireturn, 1) := by decide +kernel
theorem b_Mo_undo_0 : mx_ck m_Mo_undo 0 [(.aload_n 0, [], 0), (.iconst 0, [], nI 0), (.putfield 68, [10, 0, 0, 951], 0), (.aload_n 0, [], 0), (.getfield 170, [10, 9, 0, 960], 0)] = some 9 := by decide +kernel
theorem b_Mo_undo_12 : mx_ck m_Mo_undo 12 [(.ldc 233, [1166], (-1000002))] = some 14 := by decide +kernel
theorem b_Mo_undo_15 : mx_ck m_Mo_undo 15 [(.aload_n 0, [], 0), (.dup, [], 0), (.getfield 170, [10, 9, 0, 960], 0), (.iconst 1, [], nI 1), (.isub, [], 0), (.putfield 170, [10, 9, 0, 960], 0), (.iconst 0, [], nI 0), (.istore_n 1, [], 0)] = some 27 := by decide +kernel
theorem b_Mo_undo_27 : mx_ck m_Mo_undo 27 [(.iload_n 1, [], 0), (.bipush 26, [], nI 26)] = some 30 := by decide +kernel
theorem b_Mo_undo_33 : mx_ck m_Mo_undo 33 [(.aload_n 0, [], 0), (.getfield 19, [10, 5, 5, 956], 0), (.iload_n 1, [], 0), (.aload_n 0, [], 0), (.getfield 28, [10, 8, 8, 959], 0), (.bipush 26, [], nI 26), (.aload_n 0, [], 0), (.getfield 170, [10, 9, 0, 960], 0), (.imul, [], 0), (.iload_n 1, [], 0), (.iadd, [], 0), (.iaload, [], 0), (.iastore, [], 0), (.iinc 1 1, [], nI 1)] = some 56 := by decide +kernel
theorem b_Mo_undo_59 : mx_ck m_Mo_undo 59 [(.aload_n 0, [], 0), (.getfield 170, [10, 9, 0, 960], 0)] = some 63 := by decide +kernel
theorem d_Mo_undo_9 : decode m_Mo_undo.2.1 9 = .ok (.ifCond .ne 6, 3) := by decide +kernel
theorem d_Mo_undo_14 : decode m_Mo_undo.2.1 14 = .ok (.ireturn, 1) := by decide +kernel
theorem d_Mo_undo_30 : decode m_Mo_undo.2.1 30 = .ok (.if_icmp .ge 29, 3) := by decide +kernel
theorem d_Mo_undo_56 : decode m_Mo_undo.2.1 56 = .ok (.goto (-29), 3) := by decide +kernel
theorem d_Mo_undo_63 : decode m_Mo_undo.2.1 63 = .ok (.ireturn, 1) := by decide +kernel
theorem b_Mo_who_0 : mx_ck m_Mo_who 0 [(.aload_n 0, [], 0), (.iconst 0, [], nI 0), (.putfield 68, [10, 0, 0, 951], 0), (.aload_n 0, [], 0), (.iload_n 1, [], 0)] = some 7 := by decide +kernel
theorem b_Mo_who_13 : mx_ck m_Mo_who 13 [(.iload_n 2, [], 0), (.i2l, [], 0), (.lconst 0, [0], 0), (.ldc2_w 86, [2, 1060], 0)] = some 19 := by decide +kernel
theorem b_Mo_who_25 : mx_ck m_Mo_who 25 [(.iload_n 3, [], 0)] = some 26 := by decide +kernel
theorem b_Mo_who_32 : mx_ck m_Mo_who 32 [(.iload 5, [], 0), (.i2l, [], 0), (.lconst 1, [1], 0), (.aload_n 0, [], 0), (.getfield 19, [10, 5, 5, 956], 0), (.iconst 0, [], nI 0), (.iaload, [], 0), (.i2l, [], 0)] = some 43 := by decide +kernel
theorem b_Mo_who_49 : mx_ck m_Mo_who 49 [(.ldc 88, [1061], (-1000001))] = some 51 := by decide +kernel
theorem b_Mo_who_52 : mx_ck m_Mo_who 52 [(.aload_n 0, [], 0), (.iload_n 3, [], 0), (.iload 4, [], 0), (.iload 5, [], 0)] = some 58 := by decide +kernel
theorem b_Mo_who_61 : mx_ck m_Mo_who 61 [(.istore 6, [], 0), (.iload 6, [], 0)] = some 65 := by decide +kernel
theorem b_Mo_who_68 : mx_ck m_Mo_who 68 [(.iload 6, [], 0)] = some 70 := by decide +kernel
theorem b_Mo_who_71 : mx_ck m_Mo_who 71 [(.iconst 0, [], nI 0), (.istore 7, [], 0), (.iconst 0, [], nI 0), (.istore 8, [], 0)] = some 77 := by decide +kernel
theorem b_Mo_who_77 : mx_ck m_Mo_who 77 [(.iload 8, [], 0), (.iload_n 2, [], 0)] = some 80 := by decide +kernel
theorem b_Mo_who_83 : mx_ck m_Mo_who 83 [(.iconst 5, [], nI 5)] = some 84 := by decide +kernel
theorem b_Mo_who_87 : mx_ck m_Mo_who 87 [(.bipush 7, [], nI 7)] = some 89 := by decide +kernel
theorem b_Mo_who_92 : mx_ck m_Mo_who 92 [(.aload_n 0, [], 0)] = some 93 := by decide +kernel
theorem b_Mo_who_96 : mx_ck m_Mo_who 96 [(.aload_n 0, [], 0), (.getfield 25, [10, 7, 7, 958], 0), (.iconst 2, [], nI 2), (.iconst 3, [], nI 3), (.iload_n 1, [], 0), (.imul, [], 0), (.iadd, [], 0), (.iload_n 2, [], 0), (.iadd, [], 0), (.iload 8, [], 0), (.iastore, [], 0), (.aload_n 0, [], 0), (.getfield 19, [10, 5, 5, 956], 0), (.iconst 0, [], nI 0), (.iaload, [], 0), (.iload_n 1, [], 0), (.aload_n 0, [], 0), (.getfield 25, [10, 7, 7, 958], 0), (.iload_n 1, [], 0), (.iconst 0, [], nI 0)] = some 123 := by decide +kernel
theorem b_Mo_who_126 : mx_ck m_Mo_who 126 [(.aload_n 0, [], 0), (.getfield 25, [10, 7, 7, 958], 0), (.iload_n 1, [], 0), (.iconst 1, [], nI 1)] = some 132 := by decide +kernel
theorem b_Mo_who_135 : mx_ck m_Mo_who 135 [(.aload_n 0, [], 0), (.getfield 25, [10, 7, 7, 958], 0), (.iload_n 1, [], 0), (.iconst 2, [], nI 2)] = some 141 := by decide +kernel
theorem b_Mo_who_150 : mx_ck m_Mo_who 150 [(.aload_n 0, [], 0), (.aload_n 0, [], 0), (.getfield 25, [10, 7, 7, 958], 0)] = some 155 := by decide +kernel
theorem b_Mo_who_158 : mx_ck m_Mo_who 158 [(.iconst 1, [], nI 1), (.istore 9, [], 0), (.iconst 0, [], nI 0), (.istore 10, [], 0)] = some 164 := by decide +kernel
theorem b_Mo_who_164 : mx_ck m_Mo_who 164 [(.iload 10, [], 0), (.iload 5, [], 0)] = some 168 := by decide +kernel
theorem b_Mo_who_171 : mx_ck m_Mo_who 171 [(.iload 9, [], 0)] = some 173 := by decide +kernel
theorem b_Mo_who_176 : mx_ck m_Mo_who 176 [(.aload_n 0, [], 0), (.getfield 16, [10, 4, 4, 955], 0), (.bipush 40, [], nI 40), (.iload_n 3, [], 0), (.imul, [], 0), (.iload 4, [], 0), (.iadd, [], 0), (.iload 10, [], 0), (.iadd, [], 0), (.iaload, [], 0)] = some 191 := by decide +kernel
theorem b_Mo_who_194 : mx_ck m_Mo_who 194 [(.iconst 1, [], nI 1)] = some 195 := by decide +kernel
theorem b_Mo_who_198 : mx_ck m_Mo_who 198 [(.iconst 0, [], nI 0)] = some 199 := by decide +kernel
theorem b_Mo_who_199 : mx_ck m_Mo_who 199 [(.aload_n 0, [], 0), (.iload 10, [], 0), (.iload_n 1, [], 0)] = some 203 := by decide +kernel
theorem b_Mo_who_209 : mx_ck m_Mo_who 209 [(.iconst 1, [], nI 1)] = some 210 := by decide +kernel
theorem b_Mo_who_213 : mx_ck m_Mo_who 213 [(.iconst 0, [], nI 0)] = some 214 := by decide +kernel
theorem b_Mo_who_214 : mx_ck m_Mo_who 214 [(.istore 9, [], 0), (.iinc 10 1, [], nI 1)] = some 219 := by decide +kernel
theorem b_Mo_who_222 : mx_ck m_Mo_who 222 [(.iload 7, [], 0), (.iload 9, [], 0)] = some 226 := by decide +kernel
theorem b_Mo_who_229 : mx_ck m_Mo_who 229 [(.iconst 1, [], nI 1), (.iload 8, [], 0), (.ishl, [], 0)] = some 233 := by decide +kernel
theorem b_Mo_who_236 : mx_ck m_Mo_who 236 [(.iconst 0, [], nI 0)] = some 237 := by decide +kernel
theorem b_Mo_who_237 : mx_ck m_Mo_who 237 [(.ior, [], 0), (.istore 7, [], 0)] = some 240 := by decide +kernel
theorem b_Mo_who_240 : mx_ck m_Mo_who 240 [(.iinc 8 1, [], nI 1)] = some 243 := by decide +kernel
theorem b_Mo_who_246 : mx_ck m_Mo_who 246 [(.iload 7, [], 0)] = some 248 := by decide +kernel
theorem d_Mo_who_7 : decode m_Mo_who.2.1 7 = .ok (.invokevirtual 221, 3) := by decide +kernel
theorem c_Mo_who_7 : mx_cv m_Mo_who m_Mo_isType 221 1 [1150, 1152, 52, 92, 1153] = true := by decide +kernel
theorem d_Mo_who_10 : decode m_Mo_who.2.1 10 = .ok (.ifCond .eq 39, 3) := by decide +kernel
theorem d_Mo_who_19 : decode m_Mo_who.2.1 19 = .ok (.invokestatic 78, 3) := by decide +kernel
theorem c_Mo_who_19 : mx_cs m_Mo_who m_Mo_in 78 3 [1057, 1058, 92, 1059] = true := by decide +kernel
theorem d_Mo_who_22 : decode m_Mo_who.2.1 22 = .ok (.ifCond .eq 27, 3) := by decide +kernel
theorem d_Mo_who_26 : decode m_Mo_who.2.1 26 = .ok (.invokestatic 82, 3) := by decide +kernel
theorem c_Mo_who_26 : mx_cs m_Mo_who m_Mo_isRow 82 1 [1053, 1054, 92, 1055] = true := by decide +kernel
theorem d_Mo_who_29 : decode m_Mo_who.2.1 29 = .ok (.ifCond .eq 20, 3) := by decide +kernel
theorem d_Mo_who_43 : decode m_Mo_who.2.1 43 = .ok (.invokestatic 78, 3) := by decide +kernel
theorem c_Mo_who_43 : mx_cs m_Mo_who m_Mo_in 78 3 [1057, 1058, 92, 1059] = true := by decide +kernel
theorem d_Mo_who_46 : decode m_Mo_who.2.1 46 = .ok (.ifCond .ne 6, 3) := by decide +kernel
theorem d_Mo_who_51 : decode m_Mo_who.2.1 51 = .ok (.ireturn, 1) := by decide +kernel
theorem d_Mo_who_58 : decode m_Mo_who.2.1 58 = .ok (.invokevirtual 275, 3) := by decide +kernel
theorem c_Mo_who_58 : mx_cv m_Mo_who m_Mo_rowFound 275 3 [1309, 1311, 72, 92, 1312] = true := by decide +kernel
theorem d_Mo_who_65 : decode m_Mo_who.2.1 65 = .ok (.ifCond .eq 6, 3) := by decide +kernel
theorem d_Mo_who_70 : decode m_Mo_who.2.1 70 = .ok (.ireturn, 1) := by decide +kernel
theorem d_Mo_who_80 : decode m_Mo_who.2.1 80 = .ok (.ifCond .ne 7, 3) := by decide +kernel
theorem d_Mo_who_84 : decode m_Mo_who.2.1 84 = .ok (.goto 5, 3) := by decide +kernel
theorem d_Mo_who_89 : decode m_Mo_who.2.1 89 = .ok (.if_icmp .gt 157, 3) := by decide +kernel
theorem d_Mo_who_93 : decode m_Mo_who.2.1 93 = .ok (.invokevirtual 279, 3) := by decide +kernel
theorem c_Mo_who_93 : mx_cv m_Mo_who m_Mo_layThen 279 0 [1313, 1315, 73, 92, 1316] = true := by decide +kernel
theorem d_Mo_who_123 : decode m_Mo_who.2.1 123 = .ok (.invokestatic 173, 3) := by decide +kernel
theorem c_Mo_who_123 : mx_cs m_Mo_who m_Mo_of 173 3 [1171, 1172, 92, 1173] = true := by decide +kernel
theorem d_Mo_who_132 : decode m_Mo_who.2.1 132 = .ok (.invokestatic 173, 3) := by decide +kernel
theorem c_Mo_who_132 : mx_cs m_Mo_who m_Mo_of 173 3 [1171, 1172, 92, 1173] = true := by decide +kernel
theorem d_Mo_who_141 : decode m_Mo_who.2.1 141 = .ok (.invokestatic 173, 3) := by decide +kernel
theorem c_Mo_who_141 : mx_cs m_Mo_who m_Mo_of 173 3 [1171, 1172, 92, 1173] = true := by decide +kernel
theorem d_Mo_who_144 : decode m_Mo_who.2.1 144 = .ok (.invokestatic 226, 3) := by decide +kernel
theorem c_Mo_who_144 : mx_cs m_Mo_who m_Mo_may 226 5 [1155, 1156, 92, 1157] = true := by decide +kernel
theorem d_Mo_who_147 : decode m_Mo_who.2.1 147 = .ok (.ifCond .eq 93, 3) := by decide +kernel
theorem d_Mo_who_155 : decode m_Mo_who.2.1 155 = .ok (.invokevirtual 240, 3) := by decide +kernel
theorem c_Mo_who_155 : mx_cv m_Mo_who m_Mo_reckon 240 1 [1186, 1188, 56, 92, 1189] = true := by decide +kernel
theorem d_Mo_who_168 : decode m_Mo_who.2.1 168 = .ok (.if_icmp .ge 54, 3) := by decide +kernel
theorem d_Mo_who_173 : decode m_Mo_who.2.1 173 = .ok (.ifCond .eq 40, 3) := by decide +kernel
theorem d_Mo_who_191 : decode m_Mo_who.2.1 191 = .ok (.ifCond .eq 7, 3) := by decide +kernel
theorem d_Mo_who_195 : decode m_Mo_who.2.1 195 = .ok (.goto 4, 3) := by decide +kernel
theorem d_Mo_who_203 : decode m_Mo_who.2.1 203 = .ok (.invokevirtual 244, 3) := by decide +kernel
theorem c_Mo_who_203 : mx_cv m_Mo_who m_Mo_liesIn 244 2 [1232, 1234, 62, 92, 1235] = true := by decide +kernel
theorem d_Mo_who_206 : decode m_Mo_who.2.1 206 = .ok (.if_icmp .ne 7, 3) := by decide +kernel
theorem d_Mo_who_210 : decode m_Mo_who.2.1 210 = .ok (.goto 4, 3) := by decide +kernel
theorem d_Mo_who_219 : decode m_Mo_who.2.1 219 = .ok (.goto (-55), 3) := by decide +kernel
theorem d_Mo_who_226 : decode m_Mo_who.2.1 226 = .ok (.ifCond .eq 10, 3) := by decide +kernel
theorem d_Mo_who_233 : decode m_Mo_who.2.1 233 = .ok (.goto 4, 3) := by decide +kernel
theorem d_Mo_who_243 : decode m_Mo_who.2.1 243 = .ok (.goto (-166), 3) := by decide +kernel
theorem d_Mo_who_248 : decode m_Mo_who.2.1 248 = .ok (.ireturn, 1) := by decide +kernel
end
section
theorem b_law_3 : mx_ck m_law 3 [(.dup, [], 0)] = some 4 := by decide +kernel
theorem b_law_7 : mx_ck m_law 7 [(.astore_n 1, [], 0)] = some 8 := by decide +kernel
theorem b_law_11 : mx_ck m_law 11 [(.dup, [], 0)] = some 12 := by decide +kernel
theorem b_law_15 : mx_ck m_law 15 [(.astore_n 2, [], 0), (.iconst 0, [], nI 0), (.istore_n 3, [], 0)] = some 18 := by decide +kernel
theorem b_law_18 : mx_ck m_law 18 [(.iload_n 3, [], 0), (.aload_n 0, [], 0), (.arraylength, [1], 0), (.bipush 6, [], nI 6), (.isub, [], 0)] = some 24 := by decide +kernel
theorem b_law_27 : mx_ck m_law 27 [(.aload_n 0, [], 0), (.iload_n 3, [], 0), (.iaload, [1], 0), (.bipush 31, [], nI 31), (.iand, [], 0)] = some 33 := by decide +kernel
theorem b_law_168 : mx_ck m_law 168 [(.aload_n 1, [], 0), (.aload_n 0, [], 0), (.iload_n 3, [], 0), (.iconst 1, [], nI 1), (.iadd, [], 0), (.iaload, [1], 0), (.aload_n 0, [], 0), (.iload_n 3, [], 0), (.iconst 2, [], nI 2), (.iadd, [], 0), (.iaload, [1], 0), (.aload_n 0, [], 0), (.iload_n 3, [], 0), (.iconst 3, [], nI 3), (.iadd, [], 0), (.iaload, [1], 0)] = some 184 := by decide +kernel
theorem b_law_187 : mx_ck m_law 187 [(.aload_n 2, [], 0), (.aload_n 0, [], 0), (.iload_n 3, [], 0), (.iconst 1, [], nI 1), (.iadd, [], 0), (.iaload, [1], 0), (.aload_n 0, [], 0), (.iload_n 3, [], 0), (.iconst 2, [], nI 2), (.iadd, [], 0), (.iaload, [1], 0), (.aload_n 0, [], 0), (.iload_n 3, [], 0), (.iconst 3, [], nI 3), (.iadd, [], 0), (.iaload, [1], 0)] = some 203 := by decide +kernel
theorem b_law_209 : mx_ck m_law 209 [(.iconst 0, [], nI 0)] = some 210 := by decide +kernel
theorem b_law_211 : mx_ck m_law 211 [(.aload_n 1, [], 0), (.aload_n 0, [], 0), (.iload_n 3, [], 0), (.iconst 1, [], nI 1), (.iadd, [], 0), (.iaload, [1], 0), (.aload_n 0, [], 0), (.iload_n 3, [], 0), (.iconst 2, [], nI 2), (.iadd, [], 0), (.iaload, [1], 0), (.aload_n 0, [], 0), (.iload_n 3, [], 0), (.iconst 3, [], nI 3), (.iadd, [], 0), (.iaload, [1], 0)] = some 227 := by decide +kernel
theorem b_law_230 : mx_ck m_law 230 [(.aload_n 2, [], 0), (.aload_n 0, [], 0), (.iload_n 3, [], 0), (.iconst 1, [], nI 1), (.iadd, [], 0), (.iaload, [1], 0), (.aload_n 0, [], 0), (.iload_n 3, [], 0), (.iconst 2, [], nI 2), (.iadd, [], 0), (.iaload, [1], 0), (.aload_n 0, [], 0), (.iload_n 3, [], 0), (.iconst 3, [], nI 3), (.iadd, [], 0), (.iaload, [1], 0)] = some 246 := by decide +kernel
theorem b_law_252 : mx_ck m_law 252 [(.iconst 0, [], nI 0)] = some 253 := by decide +kernel
theorem b_law_254 : mx_ck m_law 254 [(.aload_n 1, [], 0), (.aload_n 0, [], 0), (.iload_n 3, [], 0), (.iconst 1, [], nI 1), (.iadd, [], 0), (.iaload, [1], 0), (.aload_n 0, [], 0), (.iload_n 3, [], 0), (.iconst 2, [], nI 2), (.iadd, [], 0), (.iaload, [1], 0), (.aload_n 0, [], 0), (.iload_n 3, [], 0), (.iconst 3, [], nI 3), (.iadd, [], 0), (.iaload, [1], 0), (.aload_n 0, [], 0), (.iload_n 3, [], 0), (.iconst 4, [], nI 4), (.iadd, [], 0), (.iaload, [1], 0), (.aload_n 0, [], 0), (.iload_n 3, [], 0), (.iconst 5, [], nI 5), (.iadd, [], 0), (.iaload, [1], 0)] = some 280 := by decide +kernel
theorem b_law_283 : mx_ck m_law 283 [(.aload_n 2, [], 0), (.aload_n 0, [], 0), (.iload_n 3, [], 0), (.iconst 1, [], nI 1), (.iadd, [], 0), (.iaload, [1], 0), (.aload_n 0, [], 0), (.iload_n 3, [], 0), (.iconst 2, [], nI 2), (.iadd, [], 0), (.iaload, [1], 0), (.aload_n 0, [], 0), (.iload_n 3, [], 0), (.iconst 3, [], nI 3), (.iadd, [], 0), (.iaload, [1], 0), (.aload_n 0, [], 0), (.iload_n 3, [], 0), (.iconst 4, [], nI 4), (.iadd, [], 0), (.iaload, [1], 0), (.aload_n 0, [], 0), (.iload_n 3, [], 0), (.iconst 5, [], nI 5), (.iadd, [], 0), (.iaload, [1], 0)] = some 309 := by decide +kernel
theorem b_law_315 : mx_ck m_law 315 [(.iconst 0, [], nI 0)] = some 316 := by decide +kernel
theorem b_law_317 : mx_ck m_law 317 [(.aload_n 1, [], 0), (.aload_n 0, [], 0), (.iload_n 3, [], 0), (.iconst 1, [], nI 1), (.iadd, [], 0), (.iaload, [1], 0)] = some 323 := by decide +kernel
theorem b_law_326 : mx_ck m_law 326 [(.aload_n 2, [], 0), (.aload_n 0, [], 0), (.iload_n 3, [], 0), (.iconst 1, [], nI 1), (.iadd, [], 0), (.iaload, [1], 0)] = some 332 := by decide +kernel
theorem b_law_338 : mx_ck m_law 338 [(.iconst 0, [], nI 0)] = some 339 := by decide +kernel
theorem b_law_340 : mx_ck m_law 340 [(.aload_n 1, [], 0), (.aload_n 0, [], 0), (.iload_n 3, [], 0), (.iconst 1, [], nI 1), (.iadd, [], 0), (.iaload, [1], 0)] = some 346 := by decide +kernel
theorem b_law_349 : mx_ck m_law 349 [(.aload_n 2, [], 0), (.aload_n 0, [], 0), (.iload_n 3, [], 0), (.iconst 1, [], nI 1), (.iadd, [], 0), (.iaload, [1], 0)] = some 355 := by decide +kernel
theorem b_law_361 : mx_ck m_law 361 [(.iconst 0, [], nI 0)] = some 362 := by decide +kernel
theorem b_law_363 : mx_ck m_law 363 [(.aload_n 1, [], 0)] = some 364 := by decide +kernel
theorem b_law_367 : mx_ck m_law 367 [(.aload_n 2, [], 0)] = some 368 := by decide +kernel
theorem b_law_374 : mx_ck m_law 374 [(.iconst 0, [], nI 0)] = some 375 := by decide +kernel
theorem b_law_376 : mx_ck m_law 376 [(.aload_n 1, [], 0)] = some 377 := by decide +kernel
theorem b_law_380 : mx_ck m_law 380 [(.aload_n 2, [], 0)] = some 381 := by decide +kernel
theorem b_law_387 : mx_ck m_law 387 [(.iconst 0, [], nI 0)] = some 388 := by decide +kernel
theorem b_law_389 : mx_ck m_law 389 [(.aload_n 1, [], 0)] = some 390 := by decide +kernel
theorem b_law_393 : mx_ck m_law 393 [(.aload_n 2, [], 0)] = some 394 := by decide +kernel
theorem b_law_400 : mx_ck m_law 400 [(.iconst 0, [], nI 0)] = some 401 := by decide +kernel
theorem b_law_402 : mx_ck m_law 402 [(.aload_n 1, [], 0), (.aload_n 0, [], 0), (.iload_n 3, [], 0), (.iconst 1, [], nI 1), (.iadd, [], 0), (.iaload, [1], 0), (.aload_n 0, [], 0), (.iload_n 3, [], 0), (.iconst 2, [], nI 2), (.iadd, [], 0), (.iaload, [1], 0), (.aload_n 0, [], 0), (.iload_n 3, [], 0), (.iconst 3, [], nI 3), (.iadd, [], 0), (.iaload, [1], 0), (.aload_n 0, [], 0), (.iload_n 3, [], 0), (.iconst 4, [], nI 4), (.iadd, [], 0), (.iaload, [1], 0)] = some 423 := by decide +kernel
theorem b_law_426 : mx_ck m_law 426 [(.aload_n 2, [], 0), (.aload_n 0, [], 0), (.iload_n 3, [], 0), (.iconst 1, [], nI 1), (.iadd, [], 0), (.iaload, [1], 0), (.aload_n 0, [], 0), (.iload_n 3, [], 0), (.iconst 2, [], nI 2), (.iadd, [], 0), (.iaload, [1], 0), (.aload_n 0, [], 0), (.iload_n 3, [], 0), (.iconst 3, [], nI 3), (.iadd, [], 0), (.iaload, [1], 0), (.aload_n 0, [], 0), (.iload_n 3, [], 0), (.iconst 4, [], nI 4), (.iadd, [], 0), (.iaload, [1], 0)] = some 447 := by decide +kernel
theorem b_law_453 : mx_ck m_law 453 [(.iconst 0, [], nI 0)] = some 454 := by decide +kernel
theorem b_law_455 : mx_ck m_law 455 [(.aload_n 1, [], 0), (.aload_n 0, [], 0), (.iload_n 3, [], 0), (.iconst 1, [], nI 1), (.iadd, [], 0), (.iaload, [1], 0), (.aload_n 0, [], 0), (.iload_n 3, [], 0), (.iconst 2, [], nI 2), (.iadd, [], 0), (.iaload, [1], 0)] = some 466 := by decide +kernel
theorem b_law_469 : mx_ck m_law 469 [(.aload_n 2, [], 0), (.aload_n 0, [], 0), (.iload_n 3, [], 0), (.iconst 1, [], nI 1), (.iadd, [], 0), (.iaload, [1], 0), (.aload_n 0, [], 0), (.iload_n 3, [], 0), (.iconst 2, [], nI 2), (.iadd, [], 0), (.iaload, [1], 0)] = some 480 := by decide +kernel
theorem b_law_486 : mx_ck m_law 486 [(.iconst 0, [], nI 0)] = some 487 := by decide +kernel
theorem b_law_488 : mx_ck m_law 488 [(.aload_n 1, [], 0), (.aload_n 0, [], 0), (.iload_n 3, [], 0), (.iconst 1, [], nI 1), (.iadd, [], 0), (.iaload, [1], 0), (.aload_n 0, [], 0), (.iload_n 3, [], 0), (.iconst 2, [], nI 2), (.iadd, [], 0), (.iaload, [1], 0)] = some 499 := by decide +kernel
theorem b_law_502 : mx_ck m_law 502 [(.aload_n 2, [], 0), (.aload_n 0, [], 0), (.iload_n 3, [], 0), (.iconst 1, [], nI 1), (.iadd, [], 0), (.iaload, [1], 0), (.aload_n 0, [], 0), (.iload_n 3, [], 0), (.iconst 2, [], nI 2), (.iadd, [], 0), (.iaload, [1], 0)] = some 513 := by decide +kernel
theorem b_law_519 : mx_ck m_law 519 [(.iconst 0, [], nI 0)] = some 520 := by decide +kernel
theorem b_law_521 : mx_ck m_law 521 [(.aload_n 1, [], 0), (.aload_n 0, [], 0), (.iload_n 3, [], 0), (.iconst 1, [], nI 1), (.iadd, [], 0), (.iaload, [1], 0), (.aload_n 0, [], 0), (.iload_n 3, [], 0), (.iconst 2, [], nI 2), (.iadd, [], 0), (.iaload, [1], 0)] = some 532 := by decide +kernel
theorem b_law_535 : mx_ck m_law 535 [(.aload_n 2, [], 0), (.aload_n 0, [], 0), (.iload_n 3, [], 0), (.iconst 1, [], nI 1), (.iadd, [], 0), (.iaload, [1], 0), (.aload_n 0, [], 0), (.iload_n 3, [], 0), (.iconst 2, [], nI 2), (.iadd, [], 0), (.iaload, [1], 0)] = some 546 := by decide +kernel
theorem b_law_552 : mx_ck m_law 552 [(.iconst 0, [], nI 0)] = some 553 := by decide +kernel
theorem b_law_554 : mx_ck m_law 554 [(.aload_n 1, [], 0), (.aload_n 0, [], 0), (.iload_n 3, [], 0), (.iconst 1, [], nI 1), (.iadd, [], 0), (.iaload, [1], 0), (.aload_n 0, [], 0), (.iload_n 3, [], 0), (.iconst 2, [], nI 2), (.iadd, [], 0), (.iaload, [1], 0)] = some 565 := by decide +kernel
theorem b_law_568 : mx_ck m_law 568 [(.aload_n 2, [], 0), (.aload_n 0, [], 0), (.iload_n 3, [], 0), (.iconst 1, [], nI 1), (.iadd, [], 0), (.iaload, [1], 0), (.aload_n 0, [], 0), (.iload_n 3, [], 0), (.iconst 2, [], nI 2), (.iadd, [], 0), (.iaload, [1], 0)] = some 579 := by decide +kernel
theorem b_law_585 : mx_ck m_law 585 [(.iconst 0, [], nI 0)] = some 586 := by decide +kernel
theorem b_law_587 : mx_ck m_law 587 [(.aload_n 1, [], 0)] = some 588 := by decide +kernel
theorem b_law_591 : mx_ck m_law 591 [(.aload_n 2, [], 0)] = some 592 := by decide +kernel
theorem b_law_598 : mx_ck m_law 598 [(.iconst 0, [], nI 0)] = some 599 := by decide +kernel
theorem b_law_600 : mx_ck m_law 600 [(.aload_n 1, [], 0), (.aload_n 0, [], 0), (.iload_n 3, [], 0), (.iconst 1, [], nI 1), (.iadd, [], 0), (.iaload, [1], 0)] = some 606 := by decide +kernel
theorem b_law_609 : mx_ck m_law 609 [(.aload_n 2, [], 0), (.aload_n 0, [], 0), (.iload_n 3, [], 0), (.iconst 1, [], nI 1), (.iadd, [], 0), (.iaload, [1], 0)] = some 615 := by decide +kernel
theorem b_law_621 : mx_ck m_law 621 [(.iconst 0, [], nI 0)] = some 622 := by decide +kernel
theorem b_law_623 : mx_ck m_law 623 [(.aload_n 1, [], 0), (.aload_n 0, [], 0), (.iload_n 3, [], 0), (.iconst 1, [], nI 1), (.iadd, [], 0), (.iaload, [1], 0), (.aload_n 0, [], 0), (.iload_n 3, [], 0), (.iconst 2, [], nI 2), (.iadd, [], 0), (.iaload, [1], 0)] = some 634 := by decide +kernel
theorem b_law_637 : mx_ck m_law 637 [(.aload_n 2, [], 0), (.aload_n 0, [], 0), (.iload_n 3, [], 0), (.iconst 1, [], nI 1), (.iadd, [], 0), (.iaload, [1], 0), (.aload_n 0, [], 0), (.iload_n 3, [], 0), (.iconst 2, [], nI 2), (.iadd, [], 0), (.iaload, [1], 0)] = some 648 := by decide +kernel
theorem b_law_654 : mx_ck m_law 654 [(.iconst 0, [], nI 0)] = some 655 := by decide +kernel
theorem b_law_656 : mx_ck m_law 656 [(.aload_n 1, [], 0), (.aload_n 0, [], 0), (.iload_n 3, [], 0), (.iconst 1, [], nI 1), (.iadd, [], 0), (.iaload, [1], 0)] = some 662 := by decide +kernel
theorem b_law_665 : mx_ck m_law 665 [(.aload_n 2, [], 0), (.aload_n 0, [], 0), (.iload_n 3, [], 0), (.iconst 1, [], nI 1), (.iadd, [], 0), (.iaload, [1], 0)] = some 671 := by decide +kernel
theorem b_law_677 : mx_ck m_law 677 [(.iconst 0, [], nI 0)] = some 678 := by decide +kernel
theorem b_law_679 : mx_ck m_law 679 [(.aload_n 1, [], 0), (.aload_n 0, [], 0), (.iload_n 3, [], 0), (.iconst 1, [], nI 1), (.iadd, [], 0), (.iaload, [1], 0), (.aload_n 0, [], 0), (.iload_n 3, [], 0), (.iconst 2, [], nI 2), (.iadd, [], 0), (.iaload, [1], 0)] = some 690 := by decide +kernel
theorem b_law_693 : mx_ck m_law 693 [(.aload_n 2, [], 0), (.aload_n 0, [], 0), (.iload_n 3, [], 0), (.iconst 1, [], nI 1), (.iadd, [], 0), (.iaload, [1], 0), (.aload_n 0, [], 0), (.iload_n 3, [], 0), (.iconst 2, [], nI 2), (.iadd, [], 0), (.iaload, [1], 0)] = some 704 := by decide +kernel
theorem b_law_710 : mx_ck m_law 710 [(.iconst 0, [], nI 0)] = some 711 := by decide +kernel
theorem b_law_712 : mx_ck m_law 712 [(.aload_n 1, [], 0), (.aload_n 0, [], 0), (.iload_n 3, [], 0), (.iconst 1, [], nI 1), (.iadd, [], 0), (.iaload, [1], 0), (.aload_n 0, [], 0), (.iload_n 3, [], 0), (.iconst 2, [], nI 2), (.iadd, [], 0), (.iaload, [1], 0)] = some 723 := by decide +kernel
theorem b_law_726 : mx_ck m_law 726 [(.aload_n 2, [], 0), (.aload_n 0, [], 0), (.iload_n 3, [], 0), (.iconst 1, [], nI 1), (.iadd, [], 0), (.iaload, [1], 0), (.aload_n 0, [], 0), (.iload_n 3, [], 0), (.iconst 2, [], nI 2), (.iadd, [], 0), (.iaload, [1], 0)] = some 737 := by decide +kernel
theorem b_law_743 : mx_ck m_law 743 [(.iconst 0, [], nI 0)] = some 744 := by decide +kernel
theorem b_law_745 : mx_ck m_law 745 [(.aload_n 1, [], 0), (.aload_n 0, [], 0), (.iload_n 3, [], 0), (.iconst 1, [], nI 1), (.iadd, [], 0), (.iaload, [1], 0), (.aload_n 0, [], 0), (.iload_n 3, [], 0), (.iconst 2, [], nI 2), (.iadd, [], 0), (.iaload, [1], 0), (.aload_n 0, [], 0), (.iload_n 3, [], 0), (.iconst 3, [], nI 3), (.iadd, [], 0), (.iaload, [1], 0)] = some 761 := by decide +kernel
theorem b_law_764 : mx_ck m_law 764 [(.aload_n 2, [], 0), (.aload_n 0, [], 0), (.iload_n 3, [], 0), (.iconst 1, [], nI 1), (.iadd, [], 0), (.iaload, [1], 0), (.aload_n 0, [], 0), (.iload_n 3, [], 0), (.iconst 2, [], nI 2), (.iadd, [], 0), (.iaload, [1], 0), (.aload_n 0, [], 0), (.iload_n 3, [], 0), (.iconst 3, [], nI 3), (.iadd, [], 0), (.iaload, [1], 0)] = some 780 := by decide +kernel
theorem b_law_786 : mx_ck m_law 786 [(.iconst 0, [], nI 0)] = some 787 := by decide +kernel
theorem b_law_788 : mx_ck m_law 788 [(.aload_n 1, [], 0), (.aload_n 0, [], 0), (.iload_n 3, [], 0), (.iconst 1, [], nI 1), (.iadd, [], 0), (.iaload, [1], 0), (.aload_n 0, [], 0), (.iload_n 3, [], 0), (.iconst 2, [], nI 2), (.iadd, [], 0), (.iaload, [1], 0), (.aload_n 0, [], 0), (.iload_n 3, [], 0), (.iconst 3, [], nI 3), (.iadd, [], 0), (.iaload, [1], 0), (.aload_n 0, [], 0), (.iload_n 3, [], 0), (.iconst 4, [], nI 4), (.iadd, [], 0), (.iaload, [1], 0), (.aload_n 0, [], 0), (.iload_n 3, [], 0), (.iconst 5, [], nI 5), (.iadd, [], 0), (.iaload, [1], 0)] = some 814 := by decide +kernel
theorem b_law_817 : mx_ck m_law 817 [(.aload_n 2, [], 0), (.aload_n 0, [], 0), (.iload_n 3, [], 0), (.iconst 1, [], nI 1), (.iadd, [], 0), (.iaload, [1], 0), (.aload_n 0, [], 0), (.iload_n 3, [], 0), (.iconst 2, [], nI 2), (.iadd, [], 0), (.iaload, [1], 0), (.aload_n 0, [], 0), (.iload_n 3, [], 0), (.iconst 3, [], nI 3), (.iadd, [], 0), (.iaload, [1], 0), (.aload_n 0, [], 0), (.iload_n 3, [], 0), (.iconst 4, [], nI 4), (.iadd, [], 0), (.iaload, [1], 0), (.aload_n 0, [], 0), (.iload_n 3, [], 0), (.iconst 5, [], nI 5), (.iadd, [], 0), (.iaload, [1], 0)] = some 843 := by decide +kernel
theorem b_law_849 : mx_ck m_law 849 [(.iconst 0, [], nI 0)] = some 850 := by decide +kernel
theorem b_law_851 : mx_ck m_law 851 [(.aload_n 1, [], 0), (.aload_n 0, [], 0), (.iload_n 3, [], 0), (.iconst 1, [], nI 1), (.iadd, [], 0), (.iaload, [1], 0), (.aload_n 0, [], 0), (.iload_n 3, [], 0), (.iconst 2, [], nI 2), (.iadd, [], 0), (.iaload, [1], 0), (.aload_n 0, [], 0), (.iload_n 3, [], 0), (.iconst 3, [], nI 3), (.iadd, [], 0), (.iaload, [1], 0)] = some 867 := by decide +kernel
theorem b_law_870 : mx_ck m_law 870 [(.aload_n 2, [], 0), (.aload_n 0, [], 0), (.iload_n 3, [], 0), (.iconst 1, [], nI 1), (.iadd, [], 0), (.iaload, [1], 0), (.aload_n 0, [], 0), (.iload_n 3, [], 0), (.iconst 2, [], nI 2), (.iadd, [], 0), (.iaload, [1], 0), (.aload_n 0, [], 0), (.iload_n 3, [], 0), (.iconst 3, [], nI 3), (.iadd, [], 0), (.iaload, [1], 0)] = some 886 := by decide +kernel
theorem b_law_892 : mx_ck m_law 892 [(.iconst 0, [], nI 0)] = some 893 := by decide +kernel
theorem b_law_894 : mx_ck m_law 894 [(.aload_n 1, [], 0), (.aload_n 0, [], 0), (.iload_n 3, [], 0), (.iconst 1, [], nI 1), (.iadd, [], 0), (.iaload, [1], 0)] = some 900 := by decide +kernel
theorem b_law_903 : mx_ck m_law 903 [(.aload_n 2, [], 0), (.aload_n 0, [], 0), (.iload_n 3, [], 0), (.iconst 1, [], nI 1), (.iadd, [], 0), (.iaload, [1], 0)] = some 909 := by decide +kernel
theorem b_law_915 : mx_ck m_law 915 [(.iconst 0, [], nI 0)] = some 916 := by decide +kernel
theorem b_law_917 : mx_ck m_law 917 [(.aload_n 1, [], 0), (.aload_n 0, [], 0), (.iload_n 3, [], 0), (.iconst 1, [], nI 1), (.iadd, [], 0), (.iaload, [1], 0)] = some 923 := by decide +kernel
theorem b_law_926 : mx_ck m_law 926 [(.aload_n 2, [], 0), (.aload_n 0, [], 0), (.iload_n 3, [], 0), (.iconst 1, [], nI 1), (.iadd, [], 0), (.iaload, [1], 0)] = some 932 := by decide +kernel
theorem b_law_938 : mx_ck m_law 938 [(.iconst 0, [], nI 0)] = some 939 := by decide +kernel
theorem b_law_940 : mx_ck m_law 940 [(.aload_n 1, [], 0), (.aload_n 0, [], 0), (.iload_n 3, [], 0), (.iconst 1, [], nI 1), (.iadd, [], 0), (.iaload, [1], 0)] = some 946 := by decide +kernel
theorem b_law_949 : mx_ck m_law 949 [(.aload_n 2, [], 0), (.aload_n 0, [], 0), (.iload_n 3, [], 0), (.iconst 1, [], nI 1), (.iadd, [], 0), (.iaload, [1], 0)] = some 955 := by decide +kernel
theorem b_law_961 : mx_ck m_law 961 [(.iconst 0, [], nI 0)] = some 962 := by decide +kernel
theorem b_law_963 : mx_ck m_law 963 [(.aload_n 1, [], 0), (.aload_n 0, [], 0), (.iload_n 3, [], 0), (.iconst 1, [], nI 1), (.iadd, [], 0), (.iaload, [1], 0), (.aload_n 0, [], 0), (.iload_n 3, [], 0), (.iconst 2, [], nI 2), (.iadd, [], 0), (.iaload, [1], 0)] = some 974 := by decide +kernel
theorem b_law_977 : mx_ck m_law 977 [(.aload_n 2, [], 0), (.aload_n 0, [], 0), (.iload_n 3, [], 0), (.iconst 1, [], nI 1), (.iadd, [], 0), (.iaload, [1], 0), (.aload_n 0, [], 0), (.iload_n 3, [], 0), (.iconst 2, [], nI 2), (.iadd, [], 0), (.iaload, [1], 0)] = some 988 := by decide +kernel
theorem b_law_994 : mx_ck m_law 994 [(.iconst 0, [], nI 0)] = some 995 := by decide +kernel
theorem b_law_996 : mx_ck m_law 996 [(.aload_n 1, [], 0), (.aload_n 0, [], 0), (.iload_n 3, [], 0), (.iconst 1, [], nI 1), (.iadd, [], 0), (.iaload, [1], 0), (.aload_n 0, [], 0), (.iload_n 3, [], 0), (.iconst 2, [], nI 2), (.iadd, [], 0), (.iaload, [1], 0)] = some 1007 := by decide +kernel
theorem b_law_1010 : mx_ck m_law 1010 [(.aload_n 2, [], 0), (.aload_n 0, [], 0), (.iload_n 3, [], 0), (.iconst 1, [], nI 1), (.iadd, [], 0), (.iaload, [1], 0), (.aload_n 0, [], 0), (.iload_n 3, [], 0), (.iconst 2, [], nI 2), (.iadd, [], 0), (.iaload, [1], 0)] = some 1021 := by decide +kernel
theorem b_law_1027 : mx_ck m_law 1027 [(.iconst 0, [], nI 0)] = some 1028 := by decide +kernel
theorem b_law_1029 : mx_ck m_law 1029 [(.aload_n 1, [], 0), (.aload_n 0, [], 0), (.iload_n 3, [], 0), (.iconst 1, [], nI 1), (.iadd, [], 0), (.iaload, [1], 0)] = some 1035 := by decide +kernel
theorem b_law_1038 : mx_ck m_law 1038 [(.aload_n 2, [], 0), (.aload_n 0, [], 0), (.iload_n 3, [], 0), (.iconst 1, [], nI 1), (.iadd, [], 0), (.iaload, [1], 0)] = some 1044 := by decide +kernel
theorem b_law_1050 : mx_ck m_law 1050 [(.iconst 0, [], nI 0)] = some 1051 := by decide +kernel
theorem b_law_1052 : mx_ck m_law 1052 [(.aload_n 1, [], 0), (.aload_n 0, [], 0), (.iload_n 3, [], 0), (.iconst 1, [], nI 1), (.iadd, [], 0), (.iaload, [1], 0)] = some 1058 := by decide +kernel
theorem b_law_1061 : mx_ck m_law 1061 [(.aload_n 2, [], 0), (.aload_n 0, [], 0), (.iload_n 3, [], 0), (.iconst 1, [], nI 1), (.iadd, [], 0), (.iaload, [1], 0)] = some 1067 := by decide +kernel
theorem b_law_1073 : mx_ck m_law 1073 [(.iconst 0, [], nI 0)] = some 1074 := by decide +kernel
theorem b_law_1075 : mx_ck m_law 1075 [(.aload_n 1, [], 0)] = some 1076 := by decide +kernel
theorem b_law_1079 : mx_ck m_law 1079 [(.aload_n 2, [], 0)] = some 1080 := by decide +kernel
theorem b_law_1086 : mx_ck m_law 1086 [(.iconst 0, [], nI 0)] = some 1087 := by decide +kernel
theorem b_law_1088 : mx_ck m_law 1088 [(.iinc 3 6, [], nI 6)] = some 1091 := by decide +kernel
theorem b_law_1094 : mx_ck m_law 1094 [(.iconst 1, [], nI 1)] = some 1095 := by decide +kernel
theorem d_law_0 : decode m_law.2.1 0 = .ok (.new 7, 3) := by decide +kernel
theorem d_law_4 : decode m_law.2.1 4 = .ok (.invokespecial 9, 3) := by decide +kernel
theorem d_law_8 : decode m_law.2.1 8 = .ok (.new 10, 3) := by decide +kernel
theorem d_law_12 : decode m_law.2.1 12 = .ok (.invokespecial 12, 3) := by decide +kernel
theorem d_law_24 : decode m_law.2.1 24 = .ok (.if_icmp .gt 1070, 3) := by decide +kernel
theorem d_law_33 : decode m_law.2.1 33 = .ok (.tableswitch 1055 0 29 #[135, 178, 221, 284, 307, 330, 343, 356, 369, 422, 455, 488, 521, 554, 567, 590, 623, 646, 679, 712, 755, 818, 861, 884, 907, 930, 963, 996, 1019, 1042], 135) := by decide +kernel
theorem d_law_184 : decode m_law.2.1 184 = .ok (.invokevirtual 13, 3) := by decide +kernel
theorem c_law_184 : mx_cv m_law m_TS_row 13 3 [420, 421, 422, 81, 423] = true := by decide +kernel
theorem d_law_203 : decode m_law.2.1 203 = .ok (.invokevirtual 17, 3) := by decide +kernel
theorem c_law_203 : mx_cv m_law m_Mo_row 17 3 [1049, 1050, 1051, 92, 1052] = true := by decide +kernel
theorem d_law_206 : decode m_law.2.1 206 = .ok (.if_icmp .eq 882, 3) := by decide +kernel
theorem d_law_210 : decode m_law.2.1 210 = .ok (.ireturn, 1) := by decide +kernel
theorem d_law_227 : decode m_law.2.1 227 = .ok (.invokevirtual 18, 3) := by decide +kernel
theorem c_law_227 : mx_cv m_law m_TS_set 18 3 [436, 437, 438, 81, 439] = true := by decide +kernel
theorem d_law_246 : decode m_law.2.1 246 = .ok (.invokevirtual 21, 3) := by decide +kernel
theorem c_law_246 : mx_cv m_law m_Mo_set 21 3 [1067, 1068, 1069, 92, 1070] = true := by decide +kernel
theorem d_law_249 : decode m_law.2.1 249 = .ok (.if_icmp .eq 839, 3) := by decide +kernel
theorem d_law_253 : decode m_law.2.1 253 = .ok (.ireturn, 1) := by decide +kernel
theorem d_law_280 : decode m_law.2.1 280 = .ok (.invokevirtual 22, 3) := by decide +kernel
theorem c_law_280 : mx_cv m_law m_TS_copy 22 5 [452, 453, 454, 81, 455] = true := by decide +kernel
theorem d_law_309 : decode m_law.2.1 309 = .ok (.invokevirtual 26, 3) := by decide +kernel
theorem c_law_309 : mx_cv m_law m_Mo_copy 26 5 [1071, 1072, 1073, 92, 1074] = true := by decide +kernel
theorem d_law_312 : decode m_law.2.1 312 = .ok (.if_icmp .eq 776, 3) := by decide +kernel
theorem d_law_316 : decode m_law.2.1 316 = .ok (.ireturn, 1) := by decide +kernel
theorem d_law_323 : decode m_law.2.1 323 = .ok (.invokevirtual 27, 3) := by decide +kernel
theorem c_law_323 : mx_cv m_law m_TS_drop 27 1 [467, 468, 469, 81, 470] = true := by decide +kernel
theorem d_law_332 : decode m_law.2.1 332 = .ok (.invokevirtual 31, 3) := by decide +kernel
theorem c_law_332 : mx_cv m_law m_Mo_drop 31 1 [1075, 1076, 1077, 92, 1078] = true := by decide +kernel
theorem d_law_335 : decode m_law.2.1 335 = .ok (.if_icmp .eq 753, 3) := by decide +kernel
theorem d_law_339 : decode m_law.2.1 339 = .ok (.ireturn, 1) := by decide +kernel
theorem d_law_346 : decode m_law.2.1 346 = .ok (.invokevirtual 32, 3) := by decide +kernel
theorem c_law_346 : mx_cv m_law m_TS_feed 32 1 [475, 476, 477, 81, 478] = true := by decide +kernel
theorem d_law_355 : decode m_law.2.1 355 = .ok (.invokevirtual 35, 3) := by decide +kernel
theorem c_law_355 : mx_cv m_law m_Mo_feed 35 1 [1079, 1080, 1081, 92, 1082] = true := by decide +kernel
theorem d_law_358 : decode m_law.2.1 358 = .ok (.if_icmp .eq 730, 3) := by decide +kernel
theorem d_law_362 : decode m_law.2.1 362 = .ok (.ireturn, 1) := by decide +kernel
theorem d_law_364 : decode m_law.2.1 364 = .ok (.invokevirtual 36, 3) := by decide +kernel
theorem c_law_364 : mx_cv m_law m_TS_house 36 0 [484, 485, 486, 81, 487] = true := by decide +kernel
theorem d_law_368 : decode m_law.2.1 368 = .ok (.invokevirtual 40, 3) := by decide +kernel
theorem c_law_368 : mx_cv m_law m_Mo_house 40 0 [1089, 1090, 1091, 92, 1092] = true := by decide +kernel
theorem d_law_371 : decode m_law.2.1 371 = .ok (.if_icmp .eq 717, 3) := by decide +kernel
theorem d_law_375 : decode m_law.2.1 375 = .ok (.ireturn, 1) := by decide +kernel
theorem d_law_377 : decode m_law.2.1 377 = .ok (.invokevirtual 41, 3) := by decide +kernel
theorem c_law_377 : mx_cv m_law m_TS_fault 41 0 [555, 556, 557, 81, 558] = true := by decide +kernel
theorem d_law_381 : decode m_law.2.1 381 = .ok (.invokevirtual 44, 3) := by decide +kernel
theorem c_law_381 : mx_cv m_law m_Mo_fault 44 0 [1085, 1086, 1087, 92, 1088] = true := by decide +kernel
theorem d_law_384 : decode m_law.2.1 384 = .ok (.if_icmp .eq 704, 3) := by decide +kernel
theorem d_law_388 : decode m_law.2.1 388 = .ok (.ireturn, 1) := by decide +kernel
theorem d_law_390 : decode m_law.2.1 390 = .ok (.invokevirtual 45, 3) := by decide +kernel
theorem c_law_390 : mx_cv m_law m_TS_undo 45 0 [559, 560, 561, 81, 562] = true := by decide +kernel
theorem d_law_394 : decode m_law.2.1 394 = .ok (.invokevirtual 48, 3) := by decide +kernel
theorem c_law_394 : mx_cv m_law m_Mo_undo 48 0 [1162, 1163, 1164, 92, 1165] = true := by decide +kernel
theorem d_law_397 : decode m_law.2.1 397 = .ok (.if_icmp .eq 691, 3) := by decide +kernel
theorem d_law_401 : decode m_law.2.1 401 = .ok (.ireturn, 1) := by decide +kernel
theorem d_law_423 : decode m_law.2.1 423 = .ok (.invokevirtual 49, 3) := by decide +kernel
theorem c_law_423 : mx_cv m_law m_TS_anew 49 4 [569, 570, 571, 81, 572] = true := by decide +kernel
theorem d_law_447 : decode m_law.2.1 447 = .ok (.invokevirtual 53, 3) := by decide +kernel
theorem c_law_447 : mx_cv m_law m_Mo_anew 53 4 [1146, 1147, 1148, 92, 1149] = true := by decide +kernel
theorem d_law_450 : decode m_law.2.1 450 = .ok (.if_icmp .eq 638, 3) := by decide +kernel
theorem d_law_454 : decode m_law.2.1 454 = .ok (.ireturn, 1) := by decide +kernel
theorem d_law_466 : decode m_law.2.1 466 = .ok (.invokevirtual 54, 3) := by decide +kernel
theorem c_law_466 : mx_cv m_law m_TS_type 54 2 [584, 585, 586, 81, 587] = true := by decide +kernel
theorem d_law_480 : decode m_law.2.1 480 = .ok (.invokevirtual 58, 3) := by decide +kernel
theorem c_law_480 : mx_cv m_law m_Mo_type 58 2 [1167, 1168, 1169, 92, 1170] = true := by decide +kernel
theorem d_law_483 : decode m_law.2.1 483 = .ok (.if_icmp .eq 605, 3) := by decide +kernel
theorem d_law_487 : decode m_law.2.1 487 = .ok (.ireturn, 1) := by decide +kernel
theorem d_law_499 : decode m_law.2.1 499 = .ok (.invokevirtual 59, 3) := by decide +kernel
theorem c_law_499 : mx_cv m_law m_TS_lowest 59 2 [589, 590, 591, 81, 592] = true := by decide +kernel
theorem d_law_513 : decode m_law.2.1 513 = .ok (.invokevirtual 62, 3) := by decide +kernel
theorem c_law_513 : mx_cv m_law m_Mo_lowest 62 2 [1174, 1175, 1176, 92, 1177] = true := by decide +kernel
theorem d_law_516 : decode m_law.2.1 516 = .ok (.if_icmp .eq 572, 3) := by decide +kernel
theorem d_law_520 : decode m_law.2.1 520 = .ok (.ireturn, 1) := by decide +kernel
theorem d_law_532 : decode m_law.2.1 532 = .ok (.invokevirtual 63, 3) := by decide +kernel
theorem c_law_532 : mx_cv m_law m_TS_lies 63 2 [688, 689, 690, 81, 691] = true := by decide +kernel
theorem d_law_546 : decode m_law.2.1 546 = .ok (.invokevirtual 66, 3) := by decide +kernel
theorem c_law_546 : mx_cv m_law m_Mo_lies 66 2 [1228, 1229, 1230, 92, 1231] = true := by decide +kernel
theorem d_law_549 : decode m_law.2.1 549 = .ok (.if_icmp .eq 539, 3) := by decide +kernel
theorem d_law_553 : decode m_law.2.1 553 = .ok (.ireturn, 1) := by decide +kernel
theorem d_law_565 : decode m_law.2.1 565 = .ok (.invokevirtual 67, 3) := by decide +kernel
theorem c_law_565 : mx_cv m_law m_TS_others 67 2 [692, 693, 694, 81, 695] = true := by decide +kernel
theorem d_law_579 : decode m_law.2.1 579 = .ok (.invokevirtual 70, 3) := by decide +kernel
theorem c_law_579 : mx_cv m_law m_Mo_others 70 2 [1236, 1237, 1238, 92, 1239] = true := by decide +kernel
theorem d_law_582 : decode m_law.2.1 582 = .ok (.if_icmp .eq 506, 3) := by decide +kernel
theorem d_law_586 : decode m_law.2.1 586 = .ok (.ireturn, 1) := by decide +kernel
theorem d_law_588 : decode m_law.2.1 588 = .ok (.invokevirtual 71, 3) := by decide +kernel
theorem c_law_588 : mx_cv m_law m_TS_empties 71 0 [701, 702, 703, 81, 704] = true := by decide +kernel
theorem d_law_592 : decode m_law.2.1 592 = .ok (.invokevirtual 74, 3) := by decide +kernel
theorem c_law_592 : mx_cv m_law m_Mo_empties 74 0 [1244, 1245, 1246, 92, 1247] = true := by decide +kernel
theorem d_law_595 : decode m_law.2.1 595 = .ok (.if_icmp .eq 493, 3) := by decide +kernel
theorem d_law_599 : decode m_law.2.1 599 = .ok (.ireturn, 1) := by decide +kernel
theorem d_law_606 : decode m_law.2.1 606 = .ok (.invokevirtual 75, 3) := by decide +kernel
theorem c_law_606 : mx_cv m_law m_TS_cellAt 75 1 [709, 710, 711, 81, 712] = true := by decide +kernel
theorem d_law_615 : decode m_law.2.1 615 = .ok (.invokevirtual 78, 3) := by decide +kernel
theorem c_law_615 : mx_cv m_law m_Mo_cellAt 78 1 [1260, 1261, 1262, 92, 1263] = true := by decide +kernel
theorem d_law_618 : decode m_law.2.1 618 = .ok (.if_icmp .eq 470, 3) := by decide +kernel
theorem d_law_622 : decode m_law.2.1 622 = .ok (.ireturn, 1) := by decide +kernel
theorem d_law_634 : decode m_law.2.1 634 = .ok (.invokevirtual 79, 3) := by decide +kernel
theorem c_law_634 : mx_cv m_law m_TS_answers 79 2 [717, 718, 719, 81, 720] = true := by decide +kernel
theorem d_law_648 : decode m_law.2.1 648 = .ok (.invokevirtual 82, 3) := by decide +kernel
theorem c_law_648 : mx_cv m_law m_Mo_answers 82 2 [1264, 1265, 1266, 92, 1267] = true := by decide +kernel
theorem d_law_651 : decode m_law.2.1 651 = .ok (.if_icmp .eq 437, 3) := by decide +kernel
theorem d_law_655 : decode m_law.2.1 655 = .ok (.ireturn, 1) := by decide +kernel
theorem d_law_662 : decode m_law.2.1 662 = .ok (.invokevirtual 83, 3) := by decide +kernel
theorem c_law_662 : mx_cv m_law m_TS_askable 83 1 [733, 734, 735, 81, 736] = true := by decide +kernel
theorem d_law_671 : decode m_law.2.1 671 = .ok (.invokevirtual 86, 3) := by decide +kernel
theorem c_law_671 : mx_cv m_law m_Mo_askable 86 1 [1280, 1281, 1282, 92, 1283] = true := by decide +kernel
theorem d_law_674 : decode m_law.2.1 674 = .ok (.if_icmp .eq 414, 3) := by decide +kernel
theorem d_law_678 : decode m_law.2.1 678 = .ok (.ireturn, 1) := by decide +kernel
theorem d_law_690 : decode m_law.2.1 690 = .ok (.invokevirtual 87, 3) := by decide +kernel
theorem c_law_690 : mx_cv m_law m_TS_ends 87 2 [741, 742, 743, 81, 744] = true := by decide +kernel
theorem d_law_704 : decode m_law.2.1 704 = .ok (.invokevirtual 90, 3) := by decide +kernel
theorem c_law_704 : mx_cv m_law m_Mo_ends 90 2 [1284, 1285, 1286, 92, 1287] = true := by decide +kernel
theorem d_law_707 : decode m_law.2.1 707 = .ok (.if_icmp .eq 381, 3) := by decide +kernel
theorem d_law_711 : decode m_law.2.1 711 = .ok (.ireturn, 1) := by decide +kernel
theorem d_law_723 : decode m_law.2.1 723 = .ok (.invokevirtual 91, 3) := by decide +kernel
theorem c_law_723 : mx_cv m_law m_TS_plain 91 2 [753, 754, 755, 81, 756] = true := by decide +kernel
theorem d_law_737 : decode m_law.2.1 737 = .ok (.invokevirtual 94, 3) := by decide +kernel
theorem c_law_737 : mx_cv m_law m_Mo_plain 94 2 [1288, 1289, 1290, 92, 1291] = true := by decide +kernel
theorem d_law_740 : decode m_law.2.1 740 = .ok (.if_icmp .eq 348, 3) := by decide +kernel
theorem d_law_744 : decode m_law.2.1 744 = .ok (.ireturn, 1) := by decide +kernel
theorem d_law_761 : decode m_law.2.1 761 = .ok (.invokevirtual 95, 3) := by decide +kernel
theorem c_law_761 : mx_cv m_law m_TS_pick 95 3 [788, 789, 790, 81, 791] = true := by decide +kernel
theorem d_law_780 : decode m_law.2.1 780 = .ok (.invokevirtual 98, 3) := by decide +kernel
theorem c_law_780 : mx_cv m_law m_Mo_pick 98 3 [1301, 1302, 1303, 92, 1304] = true := by decide +kernel
theorem d_law_783 : decode m_law.2.1 783 = .ok (.if_icmp .eq 305, 3) := by decide +kernel
theorem d_law_787 : decode m_law.2.1 787 = .ok (.ireturn, 1) := by decide +kernel
theorem d_law_814 : decode m_law.2.1 814 = .ok (.invokevirtual 99, 3) := by decide +kernel
theorem c_law_814 : mx_cv m_law m_TS_who 99 5 [799, 800, 801, 81, 802] = true := by decide +kernel
theorem d_law_843 : decode m_law.2.1 843 = .ok (.invokevirtual 102, 3) := by decide +kernel
theorem c_law_843 : mx_cv m_law m_Mo_who 102 5 [1305, 1306, 1307, 92, 1308] = true := by decide +kernel
theorem d_law_846 : decode m_law.2.1 846 = .ok (.if_icmp .eq 242, 3) := by decide +kernel
theorem d_law_850 : decode m_law.2.1 850 = .ok (.ireturn, 1) := by decide +kernel
theorem d_law_867 : decode m_law.2.1 867 = .ok (.invokevirtual 103, 3) := by decide +kernel
theorem c_law_867 : mx_cv m_law m_TS_drawn 103 3 [811, 812, 813, 81, 814] = true := by decide +kernel
theorem d_law_886 : decode m_law.2.1 886 = .ok (.invokevirtual 106, 3) := by decide +kernel
theorem c_law_886 : mx_cv m_law m_Mo_drawn 106 3 [1317, 1318, 1319, 92, 1320] = true := by decide +kernel
theorem d_law_889 : decode m_law.2.1 889 = .ok (.if_icmp .eq 199, 3) := by decide +kernel
theorem d_law_893 : decode m_law.2.1 893 = .ok (.ireturn, 1) := by decide +kernel
theorem d_law_900 : decode m_law.2.1 900 = .ok (.invokevirtual 107, 3) := by decide +kernel
theorem c_law_900 : mx_cv m_law m_TS_image 107 1 [832, 833, 834, 81, 835] = true := by decide +kernel
theorem d_law_909 : decode m_law.2.1 909 = .ok (.invokevirtual 110, 3) := by decide +kernel
theorem c_law_909 : mx_cv m_law m_Mo_image 110 1 [1332, 1333, 1334, 92, 1335] = true := by decide +kernel
theorem d_law_912 : decode m_law.2.1 912 = .ok (.if_icmp .eq 176, 3) := by decide +kernel
theorem d_law_916 : decode m_law.2.1 916 = .ok (.ireturn, 1) := by decide +kernel
theorem d_law_923 : decode m_law.2.1 923 = .ok (.invokevirtual 111, 3) := by decide +kernel
theorem c_law_923 : mx_cv m_law m_TS_restore 111 1 [840, 841, 842, 81, 843] = true := by decide +kernel
theorem d_law_932 : decode m_law.2.1 932 = .ok (.invokevirtual 114, 3) := by decide +kernel
theorem c_law_932 : mx_cv m_law m_Mo_restore 114 1 [1336, 1337, 1338, 92, 1339] = true := by decide +kernel
theorem d_law_935 : decode m_law.2.1 935 = .ok (.if_icmp .eq 153, 3) := by decide +kernel
theorem d_law_939 : decode m_law.2.1 939 = .ok (.ireturn, 1) := by decide +kernel
theorem d_law_946 : decode m_law.2.1 946 = .ok (.invokevirtual 115, 3) := by decide +kernel
theorem c_law_946 : mx_cv m_law m_TS_kind 115 1 [844, 845, 846, 81, 847] = true := by decide +kernel
theorem d_law_955 : decode m_law.2.1 955 = .ok (.invokevirtual 118, 3) := by decide +kernel
theorem c_law_955 : mx_cv m_law m_Mo_kind 118 1 [1340, 1341, 1342, 92, 1343] = true := by decide +kernel
theorem d_law_958 : decode m_law.2.1 958 = .ok (.if_icmp .eq 130, 3) := by decide +kernel
theorem d_law_962 : decode m_law.2.1 962 = .ok (.ireturn, 1) := by decide +kernel
theorem d_law_974 : decode m_law.2.1 974 = .ok (.invokevirtual 119, 3) := by decide +kernel
theorem c_law_974 : mx_cv m_law m_TS_as 119 2 [851, 852, 853, 81, 854] = true := by decide +kernel
theorem d_law_988 : decode m_law.2.1 988 = .ok (.invokevirtual 122, 3) := by decide +kernel
theorem c_law_988 : mx_cv m_law m_Mo_as 122 2 [1348, 1349, 1350, 92, 1351] = true := by decide +kernel
theorem d_law_991 : decode m_law.2.1 991 = .ok (.if_icmp .eq 97, 3) := by decide +kernel
theorem d_law_995 : decode m_law.2.1 995 = .ok (.ireturn, 1) := by decide +kernel
theorem d_law_1007 : decode m_law.2.1 1007 = .ok (.invokevirtual 123, 3) := by decide +kernel
theorem c_law_1007 : mx_cv m_law m_TS_ask 123 2 [858, 859, 860, 81, 861] = true := by decide +kernel
theorem d_law_1021 : decode m_law.2.1 1021 = .ok (.invokevirtual 126, 3) := by decide +kernel
theorem c_law_1021 : mx_cv m_law m_Mo_ask 126 2 [1355, 1356, 1357, 92, 1358] = true := by decide +kernel
theorem d_law_1024 : decode m_law.2.1 1024 = .ok (.if_icmp .eq 64, 3) := by decide +kernel
theorem d_law_1028 : decode m_law.2.1 1028 = .ok (.ireturn, 1) := by decide +kernel
theorem d_law_1035 : decode m_law.2.1 1035 = .ok (.invokevirtual 127, 3) := by decide +kernel
theorem c_law_1035 : mx_cv m_law m_TS_trace 127 1 [928, 929, 930, 81, 931] = true := by decide +kernel
theorem d_law_1044 : decode m_law.2.1 1044 = .ok (.invokevirtual 130, 3) := by decide +kernel
theorem c_law_1044 : mx_cv m_law m_Mo_trace 130 1 [1379, 1380, 1381, 92, 1382] = true := by decide +kernel
theorem d_law_1047 : decode m_law.2.1 1047 = .ok (.if_icmp .eq 41, 3) := by decide +kernel
theorem d_law_1051 : decode m_law.2.1 1051 = .ok (.ireturn, 1) := by decide +kernel
theorem d_law_1058 : decode m_law.2.1 1058 = .ok (.invokevirtual 131, 3) := by decide +kernel
theorem c_law_1058 : mx_cv m_law m_TS_count 131 1 [933, 934, 935, 81, 936] = true := by decide +kernel
theorem d_law_1067 : decode m_law.2.1 1067 = .ok (.invokevirtual 134, 3) := by decide +kernel
theorem c_law_1067 : mx_cv m_law m_Mo_count 134 1 [1383, 1384, 1385, 92, 1386] = true := by decide +kernel
theorem d_law_1070 : decode m_law.2.1 1070 = .ok (.if_icmp .eq 18, 3) := by decide +kernel
theorem d_law_1074 : decode m_law.2.1 1074 = .ok (.ireturn, 1) := by decide +kernel
theorem d_law_1076 : decode m_law.2.1 1076 = .ok (.invokevirtual 135, 3) := by decide +kernel
theorem c_law_1076 : mx_cv m_law m_TS_status 135 0 [941, 942, 943, 81, 944] = true := by decide +kernel
theorem d_law_1080 : decode m_law.2.1 1080 = .ok (.invokevirtual 138, 3) := by decide +kernel
theorem c_law_1080 : mx_cv m_law m_Mo_status 138 0 [1387, 1388, 1389, 92, 1390] = true := by decide +kernel
theorem d_law_1083 : decode m_law.2.1 1083 = .ok (.if_icmp .eq 5, 3) := by decide +kernel
theorem d_law_1087 : decode m_law.2.1 1087 = .ok (.ireturn, 1) := by decide +kernel
theorem d_law_1091 : decode m_law.2.1 1091 = .ok (.goto (-1073), 3) := by decide +kernel
theorem d_law_1095 : decode m_law.2.1 1095 = .ok (.ireturn, 1) := by decide +kernel
end
section
/-! ===== where things lie ===== -/
theorem mx_olt {h ci : Nat} (hc : ci ≠ 99) (ho : mx_ocl LAY h = ci) : h < 139 := by
  have h1 := (List.getElem?_eq_some_iff.mp (mx_ocl_at hc ho)).1
  have h2 : LAY.length = 139 := by decide +kernel
  omega
theorem oc_0 : mx_ocl LAY 0 = 9 := by decide +kernel
theorem oc_1 : mx_ocl LAY 1 = 5 := by decide +kernel
theorem ln_2 : mx_len LAY false 2 = 8 := by decide +kernel
theorem ln_3 : mx_len LAY false 3 = 8 := by decide +kernel
theorem ln_4 : mx_len LAY false 4 = 320 := by decide +kernel
theorem oc_5 : mx_ocl LAY 5 = 8 := by decide +kernel
theorem ln_6 : mx_len LAY false 6 = 80 := by decide +kernel
theorem oc_7 : mx_ocl LAY 7 = 3 := by decide +kernel
theorem ln_8 : mx_len LAY false 8 = 8 := by decide +kernel
theorem ln_9 : mx_len LAY false 9 = 8 := by decide +kernel
theorem ln_10 : mx_len LAY false 10 = 8 := by decide +kernel
theorem oc_11 : mx_ocl LAY 11 = 3 := by decide +kernel
theorem ln_12 : mx_len LAY false 12 = 8 := by decide +kernel
theorem ln_13 : mx_len LAY false 13 = 8 := by decide +kernel
theorem ln_14 : mx_len LAY false 14 = 8 := by decide +kernel
theorem oc_15 : mx_ocl LAY 15 = 3 := by decide +kernel
theorem ln_16 : mx_len LAY false 16 = 8 := by decide +kernel
theorem ln_17 : mx_len LAY false 17 = 8 := by decide +kernel
theorem ln_18 : mx_len LAY false 18 = 8 := by decide +kernel
theorem oc_19 : mx_ocl LAY 19 = 3 := by decide +kernel
theorem ln_20 : mx_len LAY false 20 = 8 := by decide +kernel
theorem ln_21 : mx_len LAY false 21 = 8 := by decide +kernel
theorem ln_22 : mx_len LAY false 22 = 8 := by decide +kernel
theorem oc_23 : mx_ocl LAY 23 = 0 := by decide +kernel
theorem ln_24 : mx_len LAY false 24 = 24 := by decide +kernel
theorem ln_25 : mx_len LAY false 25 = 24 := by decide +kernel
theorem ln_26 : mx_len LAY false 26 = 24 := by decide +kernel
theorem ln_27 : mx_len LAY false 27 = 24 := by decide +kernel
theorem oc_28 : mx_ocl LAY 28 = 2 := by decide +kernel
theorem oc_29 : mx_ocl LAY 29 = 3 := by decide +kernel
theorem ln_30 : mx_len LAY false 30 = 8 := by decide +kernel
theorem ln_31 : mx_len LAY false 31 = 8 := by decide +kernel
theorem ln_32 : mx_len LAY false 32 = 8 := by decide +kernel
theorem oc_33 : mx_ocl LAY 33 = 6 := by decide +kernel
theorem ln_34 : mx_len LAY false 34 = 256 := by decide +kernel
theorem ln_35 : mx_len LAY false 35 = 256 := by decide +kernel
theorem oc_36 : mx_ocl LAY 36 = 7 := by decide +kernel
theorem ln_37 : mx_len LAY false 37 = 256 := by decide +kernel
theorem ln_38 : mx_len LAY false 38 = 256 := by decide +kernel
theorem oc_39 : mx_ocl LAY 39 = 6 := by decide +kernel
theorem ln_40 : mx_len LAY false 40 = 256 := by decide +kernel
theorem ln_41 : mx_len LAY false 41 = 256 := by decide +kernel
theorem oc_42 : mx_ocl LAY 42 = 6 := by decide +kernel
theorem ln_43 : mx_len LAY false 43 = 256 := by decide +kernel
theorem ln_44 : mx_len LAY false 44 = 256 := by decide +kernel
theorem oc_45 : mx_ocl LAY 45 = 7 := by decide +kernel
theorem ln_46 : mx_len LAY false 46 = 256 := by decide +kernel
theorem ln_47 : mx_len LAY false 47 = 256 := by decide +kernel
theorem oc_48 : mx_ocl LAY 48 = 6 := by decide +kernel
theorem ln_49 : mx_len LAY false 49 = 256 := by decide +kernel
theorem ln_50 : mx_len LAY false 50 = 256 := by decide +kernel
theorem oc_51 : mx_ocl LAY 51 = 6 := by decide +kernel
theorem ln_52 : mx_len LAY false 52 = 256 := by decide +kernel
theorem ln_53 : mx_len LAY false 53 = 256 := by decide +kernel
theorem oc_54 : mx_ocl LAY 54 = 6 := by decide +kernel
theorem ln_55 : mx_len LAY false 55 = 256 := by decide +kernel
theorem ln_56 : mx_len LAY false 56 = 256 := by decide +kernel
theorem oc_57 : mx_ocl LAY 57 = 6 := by decide +kernel
theorem ln_58 : mx_len LAY false 58 = 256 := by decide +kernel
theorem ln_59 : mx_len LAY false 59 = 256 := by decide +kernel
theorem ln_60 : mx_len LAY false 60 = 256 := by decide +kernel
theorem ln_61 : mx_len LAY false 61 = 256 := by decide +kernel
theorem ln_62 : mx_len LAY false 62 = 256 := by decide +kernel
theorem ln_63 : mx_len LAY false 63 = 8 := by decide +kernel
theorem ln_64 : mx_len LAY false 64 = 8 := by decide +kernel
theorem oc_65 : mx_ocl LAY 65 = 2 := by decide +kernel
theorem oc_66 : mx_ocl LAY 66 = 3 := by decide +kernel
theorem ln_67 : mx_len LAY false 67 = 8 := by decide +kernel
theorem ln_68 : mx_len LAY false 68 = 8 := by decide +kernel
theorem ln_69 : mx_len LAY false 69 = 8 := by decide +kernel
theorem oc_70 : mx_ocl LAY 70 = 6 := by decide +kernel
theorem ln_71 : mx_len LAY false 71 = 256 := by decide +kernel
theorem ln_72 : mx_len LAY false 72 = 256 := by decide +kernel
theorem oc_73 : mx_ocl LAY 73 = 7 := by decide +kernel
theorem ln_74 : mx_len LAY false 74 = 256 := by decide +kernel
theorem ln_75 : mx_len LAY false 75 = 256 := by decide +kernel
theorem oc_76 : mx_ocl LAY 76 = 6 := by decide +kernel
theorem ln_77 : mx_len LAY false 77 = 256 := by decide +kernel
theorem ln_78 : mx_len LAY false 78 = 256 := by decide +kernel
theorem oc_79 : mx_ocl LAY 79 = 6 := by decide +kernel
theorem ln_80 : mx_len LAY false 80 = 256 := by decide +kernel
theorem ln_81 : mx_len LAY false 81 = 256 := by decide +kernel
theorem oc_82 : mx_ocl LAY 82 = 7 := by decide +kernel
theorem ln_83 : mx_len LAY false 83 = 256 := by decide +kernel
theorem ln_84 : mx_len LAY false 84 = 256 := by decide +kernel
theorem oc_85 : mx_ocl LAY 85 = 6 := by decide +kernel
theorem ln_86 : mx_len LAY false 86 = 256 := by decide +kernel
theorem ln_87 : mx_len LAY false 87 = 256 := by decide +kernel
theorem oc_88 : mx_ocl LAY 88 = 6 := by decide +kernel
theorem ln_89 : mx_len LAY false 89 = 256 := by decide +kernel
theorem ln_90 : mx_len LAY false 90 = 256 := by decide +kernel
theorem oc_91 : mx_ocl LAY 91 = 6 := by decide +kernel
theorem ln_92 : mx_len LAY false 92 = 256 := by decide +kernel
theorem ln_93 : mx_len LAY false 93 = 256 := by decide +kernel
theorem oc_94 : mx_ocl LAY 94 = 6 := by decide +kernel
theorem ln_95 : mx_len LAY false 95 = 256 := by decide +kernel
theorem ln_96 : mx_len LAY false 96 = 256 := by decide +kernel
theorem ln_97 : mx_len LAY false 97 = 256 := by decide +kernel
theorem ln_98 : mx_len LAY false 98 = 256 := by decide +kernel
theorem ln_99 : mx_len LAY false 99 = 256 := by decide +kernel
theorem ln_100 : mx_len LAY false 100 = 8 := by decide +kernel
theorem ln_101 : mx_len LAY false 101 = 8 := by decide +kernel
theorem oc_102 : mx_ocl LAY 102 = 4 := by decide +kernel
theorem ln_103 : mx_len LAY false 103 = 32 := by decide +kernel
theorem ln_104 : mx_len LAY false 104 = 4 := by decide +kernel
theorem oc_105 : mx_ocl LAY 105 = 6 := by decide +kernel
theorem ln_106 : mx_len LAY false 106 = 256 := by decide +kernel
theorem ln_107 : mx_len LAY false 107 = 256 := by decide +kernel
theorem oc_108 : mx_ocl LAY 108 = 6 := by decide +kernel
theorem ln_109 : mx_len LAY false 109 = 256 := by decide +kernel
theorem ln_110 : mx_len LAY false 110 = 256 := by decide +kernel
theorem oc_111 : mx_ocl LAY 111 = 6 := by decide +kernel
theorem ln_112 : mx_len LAY false 112 = 256 := by decide +kernel
theorem ln_113 : mx_len LAY false 113 = 256 := by decide +kernel
theorem oc_114 : mx_ocl LAY 114 = 6 := by decide +kernel
theorem ln_115 : mx_len LAY false 115 = 256 := by decide +kernel
theorem ln_116 : mx_len LAY false 116 = 256 := by decide +kernel
theorem oc_117 : mx_ocl LAY 117 = 1 := by decide +kernel
theorem ln_118 : mx_len LAY false 118 = 16 := by decide +kernel
theorem oc_119 : mx_ocl LAY 119 = 10 := by decide +kernel
theorem ln_120 : mx_len LAY false 120 = 8 := by decide +kernel
theorem ln_121 : mx_len LAY false 121 = 8 := by decide +kernel
theorem ln_122 : mx_len LAY false 122 = 320 := by decide +kernel
theorem ln_123 : mx_len LAY false 123 = 26 := by decide +kernel
theorem ln_124 : mx_len LAY false 124 = 26 := by decide +kernel
theorem ln_125 : mx_len LAY false 125 = 26 := by decide +kernel
theorem ln_126 : mx_len LAY false 126 = 624 := by decide +kernel
theorem ln_127 : mx_len LAY false 127 = 80 := by decide +kernel
theorem ln_128 : mx_len LAY false 128 = 256 := by decide +kernel
theorem ln_129 : mx_len LAY false 129 = 256 := by decide +kernel
theorem ln_130 : mx_len LAY false 130 = 256 := by decide +kernel
theorem ln_131 : mx_len LAY true 131 = 512 := by decide +kernel
theorem ln_132 : mx_len LAY true 132 = 512 := by decide +kernel
theorem ln_133 : mx_len LAY false 133 = 26 := by decide +kernel
theorem ln_134 : mx_len LAY false 134 = 256 := by decide +kernel
theorem ln_135 : mx_len LAY false 135 = 256 := by decide +kernel
theorem ln_136 : mx_len LAY true 136 = 2 := by decide +kernel
theorem ln_137 : mx_len LAY false 137 = 52 := by decide +kernel
theorem ln_138 : mx_len LAY false 138 = 16 := by decide +kernel
theorem ln_Acts_types {h : Nat} (ho : mx_ocl LAY h = 0) : mx_len LAY false (h + 1) = 24 := (by decide +kernel : ∀ h, h < 139 → mx_ocl LAY h = 0 → mx_len LAY false (h + 1) = 24) h (mx_olt (by decide) ho) ho
theorem ln_Acts_sorts {h : Nat} (ho : mx_ocl LAY h = 0) : mx_len LAY false (h + 2) = 24 := (by decide +kernel : ∀ h, h < 139 → mx_ocl LAY h = 0 → mx_len LAY false (h + 2) = 24) h (mx_olt (by decide) ho) ho
theorem ln_Acts_firsts {h : Nat} (ho : mx_ocl LAY h = 0) : mx_len LAY false (h + 3) = 24 := (by decide +kernel : ∀ h, h < 139 → mx_ocl LAY h = 0 → mx_len LAY false (h + 3) = 24) h (mx_olt (by decide) ho) ho
theorem ln_Acts_seconds {h : Nat} (ho : mx_ocl LAY h = 0) : mx_len LAY false (h + 4) = 24 := (by decide +kernel : ∀ h, h < 139 → mx_ocl LAY h = 0 → mx_len LAY false (h + 4) = 24) h (mx_olt (by decide) ho) ho
theorem ln_Asks_numbers {h : Nat} (ho : mx_ocl LAY h = 1) : mx_len LAY false (h + 1) = 16 := (by decide +kernel : ∀ h, h < 139 → mx_ocl LAY h = 1 → mx_len LAY false (h + 1) = 16) h (mx_olt (by decide) ho) ho
theorem oc_Cells_house {h : Nat} (ho : mx_ocl LAY h = 2) : mx_ocl LAY (h + 1) = 3 := (by decide +kernel : ∀ h, h < 139 → mx_ocl LAY h = 2 → mx_ocl LAY (h + 1) = 3) h (mx_olt (by decide) ho) ho
theorem oc_Cells_found {h : Nat} (ho : mx_ocl LAY h = 2) : mx_ocl LAY (h + 5) = 6 := (by decide +kernel : ∀ h, h < 139 → mx_ocl LAY h = 2 → mx_ocl LAY (h + 5) = 6) h (mx_olt (by decide) ho) ho
theorem oc_Cells_ofPairs {h : Nat} (ho : mx_ocl LAY h = 2) : mx_ocl LAY (h + 8) = 7 := (by decide +kernel : ∀ h, h < 139 → mx_ocl LAY h = 2 → mx_ocl LAY (h + 8) = 7) h (mx_olt (by decide) ho) ho
theorem oc_Cells_ofCases {h : Nat} (ho : mx_ocl LAY h = 2) : mx_ocl LAY (h + 17) = 7 := (by decide +kernel : ∀ h, h < 139 → mx_ocl LAY h = 2 → mx_ocl LAY (h + 17) = 7) h (mx_olt (by decide) ho) ho
theorem oc_Cells_pairSets {h : Nat} (ho : mx_ocl LAY h = 2) : mx_ocl LAY (h + 26) = 6 := (by decide +kernel : ∀ h, h < 139 → mx_ocl LAY h = 2 → mx_ocl LAY (h + 26) = 6) h (mx_olt (by decide) ho) ho
theorem oc_Cells_missed {h : Nat} (ho : mx_ocl LAY h = 2) : mx_ocl LAY (h + 29) = 6 := (by decide +kernel : ∀ h, h < 139 → mx_ocl LAY h = 2 → mx_ocl LAY (h + 29) = 6) h (mx_olt (by decide) ho) ho
theorem ln_Cells_cellOfPair {h : Nat} (ho : mx_ocl LAY h = 2) : mx_len LAY false (h + 32) = 256 := (by decide +kernel : ∀ h, h < 139 → mx_ocl LAY h = 2 → mx_len LAY false (h + 32) = 256) h (mx_olt (by decide) ho) ho
theorem ln_Cells_cellMissing {h : Nat} (ho : mx_ocl LAY h = 2) : mx_len LAY false (h + 33) = 256 := (by decide +kernel : ∀ h, h < 139 → mx_ocl LAY h = 2 → mx_len LAY false (h + 33) = 256) h (mx_olt (by decide) ho) ho
theorem ln_Cells_open {h : Nat} (ho : mx_ocl LAY h = 2) : mx_len LAY false (h + 34) = 256 := (by decide +kernel : ∀ h, h < 139 → mx_ocl LAY h = 2 → mx_len LAY false (h + 34) = 256) h (mx_olt (by decide) ho) ho
theorem ln_Cells_supers {h : Nat} (ho : mx_ocl LAY h = 2) : mx_len LAY false (h + 35) = 8 := (by decide +kernel : ∀ h, h < 139 → mx_ocl LAY h = 2 → mx_len LAY false (h + 35) = 8) h (mx_olt (by decide) ho) ho
theorem ln_Cells_meets {h : Nat} (ho : mx_ocl LAY h = 2) : mx_len LAY false (h + 36) = 8 := (by decide +kernel : ∀ h, h < 139 → mx_ocl LAY h = 2 → mx_len LAY false (h + 36) = 8) h (mx_olt (by decide) ho) ho
theorem ln_House_sorts {h : Nat} (ho : mx_ocl LAY h = 3) : mx_len LAY false (h + 1) = 8 := (by decide +kernel : ∀ h, h < 139 → mx_ocl LAY h = 3 → mx_len LAY false (h + 1) = 8) h (mx_olt (by decide) ho) ho
theorem ln_House_firsts {h : Nat} (ho : mx_ocl LAY h = 3) : mx_len LAY false (h + 2) = 8 := (by decide +kernel : ∀ h, h < 139 → mx_ocl LAY h = 3 → mx_len LAY false (h + 2) = 8) h (mx_olt (by decide) ho) ho
theorem ln_House_seconds {h : Nat} (ho : mx_ocl LAY h = 3) : mx_len LAY false (h + 3) = 8 := (by decide +kernel : ∀ h, h < 139 → mx_ocl LAY h = 3 → mx_len LAY false (h + 3) = 8) h (mx_olt (by decide) ho) ho
theorem ln_Plain_ofType {h : Nat} (ho : mx_ocl LAY h = 4) : mx_len LAY false (h + 1) = 32 := (by decide +kernel : ∀ h, h < 139 → mx_ocl LAY h = 4 → mx_len LAY false (h + 1) = 32) h (mx_olt (by decide) ho) ho
theorem ln_Plain_total {h : Nat} (ho : mx_ocl LAY h = 4) : mx_len LAY false (h + 2) = 4 := (by decide +kernel : ∀ h, h < 139 → mx_ocl LAY h = 4 → mx_len LAY false (h + 2) = 4) h (mx_olt (by decide) ho) ho
theorem oc_Plain_byCell {h : Nat} (ho : mx_ocl LAY h = 4) : mx_ocl LAY (h + 3) = 6 := (by decide +kernel : ∀ h, h < 139 → mx_ocl LAY h = 4 → mx_ocl LAY (h + 3) = 6) h (mx_olt (by decide) ho) ho
theorem oc_Plain_byLeft {h : Nat} (ho : mx_ocl LAY h = 4) : mx_ocl LAY (h + 6) = 6 := (by decide +kernel : ∀ h, h < 139 → mx_ocl LAY h = 4 → mx_ocl LAY (h + 6) = 6) h (mx_olt (by decide) ho) ho
theorem oc_Plain_byRight {h : Nat} (ho : mx_ocl LAY h = 4) : mx_ocl LAY (h + 9) = 6 := (by decide +kernel : ∀ h, h < 139 → mx_ocl LAY h = 4 → mx_ocl LAY (h + 9) = 6) h (mx_olt (by decide) ho) ho
theorem oc_Plain_byPair {h : Nat} (ho : mx_ocl LAY h = 4) : mx_ocl LAY (h + 12) = 6 := (by decide +kernel : ∀ h, h < 139 → mx_ocl LAY h = 4 → mx_ocl LAY (h + 12) = 6) h (mx_olt (by decide) ho) ho
theorem ln_Rows_lanes {h : Nat} (ho : mx_ocl LAY h = 5) : mx_len LAY false (h + 1) = 8 := (by decide +kernel : ∀ h, h < 139 → mx_ocl LAY h = 5 → mx_len LAY false (h + 1) = 8) h (mx_olt (by decide) ho) ho
theorem ln_Rows_lengths {h : Nat} (ho : mx_ocl LAY h = 5) : mx_len LAY false (h + 2) = 8 := (by decide +kernel : ∀ h, h < 139 → mx_ocl LAY h = 5 → mx_len LAY false (h + 2) = 8) h (mx_olt (by decide) ho) ho
theorem ln_Rows_items {h : Nat} (ho : mx_ocl LAY h = 5) : mx_len LAY false (h + 3) = 320 := (by decide +kernel : ∀ h, h < 139 → mx_ocl LAY h = 5 → mx_len LAY false (h + 3) = 320) h (mx_olt (by decide) ho) ho
theorem ln_Sets_at {h : Nat} (ho : mx_ocl LAY h = 6) : mx_len LAY false (h + 1) = 256 := (by decide +kernel : ∀ h, h < 139 → mx_ocl LAY h = 6 → mx_len LAY false (h + 1) = 256) h (mx_olt (by decide) ho) ho
theorem ln_Sets_number {h : Nat} (ho : mx_ocl LAY h = 6) : mx_len LAY false (h + 2) = 256 := (by decide +kernel : ∀ h, h < 139 → mx_ocl LAY h = 6 → mx_len LAY false (h + 2) = 256) h (mx_olt (by decide) ho) ho
theorem ln_Sides_leftOf {h : Nat} (ho : mx_ocl LAY h = 7) : mx_len LAY false (h + 1) = 256 := (by decide +kernel : ∀ h, h < 139 → mx_ocl LAY h = 7 → mx_len LAY false (h + 1) = 256) h (mx_olt (by decide) ho) ho
theorem ln_Sides_rightOf {h : Nat} (ho : mx_ocl LAY h = 7) : mx_len LAY false (h + 2) = 256 := (by decide +kernel : ∀ h, h < 139 → mx_ocl LAY h = 7 → mx_len LAY false (h + 2) = 256) h (mx_olt (by decide) ho) ho
theorem oc_Sides_lefts {h : Nat} (ho : mx_ocl LAY h = 7) : mx_ocl LAY (h + 3) = 6 := (by decide +kernel : ∀ h, h < 139 → mx_ocl LAY h = 7 → mx_ocl LAY (h + 3) = 6) h (mx_olt (by decide) ho) ho
theorem oc_Sides_rights {h : Nat} (ho : mx_ocl LAY h = 7) : mx_ocl LAY (h + 6) = 6 := (by decide +kernel : ∀ h, h < 139 → mx_ocl LAY h = 7 → mx_ocl LAY (h + 6) = 6) h (mx_olt (by decide) ho) ho
theorem ln_Tape_bytes {h : Nat} (ho : mx_ocl LAY h = 8) : mx_len LAY false (h + 1) = 80 := (by decide +kernel : ∀ h, h < 139 → mx_ocl LAY h = 8 → mx_len LAY false (h + 1) = 80) h (mx_olt (by decide) ho) ho
/-! ===== small numbers ===== -/
theorem nI_z {a : Nat} (ha : a < 2 ^ 31) : nI a = 0 ↔ a = 0 := by
  rw [← nI_0]
  exact nI_eq ha (by decide)
theorem nx_and (a b : Nat) : nI a &&& nI b = nI (a &&& b) := by
  apply Int32.toBitVec_inj.mp
  rw [Int32.toBitVec_and]
  apply BitVec.eq_of_toNat_eq
  simp only [BitVec.toNat_and, nI, Int32.toBitVec_ofNat', BitVec.toNat_ofNat]
  rw [Nat.and_mod_two_pow]
theorem nx_or (a b : Nat) : nI a ||| nI b = nI (a ||| b) := by
  apply Int32.toBitVec_inj.mp
  rw [Int32.toBitVec_or]
  apply BitVec.eq_of_toNat_eq
  simp only [BitVec.toNat_or, nI, Int32.toBitVec_ofNat', BitVec.toNat_ofNat]
  rw [Nat.or_mod_two_pow]
end
section
/-! ===== the steady machine: all cells are made ===== -/
def sQ (Q : Option Value → mx_M → Prop) : mx_Q := fun r Λ M => Λ = LAY ∧ Q r M
def sW (G : mx_G) (m : MR) (pc : Nat) (st : mx_St) (Q : Option Value → mx_M → Prop) : Prop := mx_W G m pc st LAY 0 0 (sQ Q)
def sOk (G : mx_G) (m : MR) (as : List Value) (M : mx_M) (Q : Option Value → mx_M → Prop) : Prop := mx_Ok G m as LAY M (sQ Q)
section SW
variable {m : MR} {G : mx_G} {pc : Nat} {s : List Value} {l : List (Option Value)} {M : mx_M} {st : mx_St} {Q : Option Value → mx_M → Prop}
theorem sW_go {ops : List mx_Op} {pc' : Nat} (hck : mx_ck m pc ops = some pc') {st' : mx_St} {φ : Prop} (hb : mx_blk (mx_L G) LAY ops st = some (st', φ)) (hφ : φ) (k : sW G m pc' st' Q) : sW G m pc st Q := mx_go hck hb hφ k
theorem sW_eq {st' : mx_St} (h : st = st') (k : sW G m pc st' Q) : sW G m pc st Q := h ▸ k
theorem sOk_of {as : List Value} (hp : plainName m.1.cls = true ∧ m.1.cls ≠ "TypeSetsLaw" ∧ (mx_lay as).length ≤ m.2.2.1) (h : sW G m 0 ([], mx_entry as m.2.2.1, M) Q) : sOk G m as M Q := mx_ok_of hp.1 hp.2.1 hp.2.2 h
theorem sOk_mono {as : List Value} {Q' : Option Value → mx_M → Prop} (h : sOk G m as M Q') (hq : ∀ r M', Q' r M' → Q r M') : sOk G m as M Q := by
  intro l p e ha hc hk s0 mid args below hf hh hP hK
  obtain ⟨k, o, h1, h2, h3, ⟨⟨r, Λ', M', ho, ⟨hΛ, hQ⟩, hR⟩, hF⟩, hL⟩ := h l p e ha hc hk s0 mid args below hf hh hP hK
  exact ⟨k, o, h1, h2, h3, ⟨⟨r, Λ', M', ho, ⟨hΛ, hq r M' hQ⟩, hR⟩, hF⟩, hL⟩
theorem sW_if_eq {x : Int32} {off : Int} (tgt : Nat) (hd : decode m.2.1 pc = .ok (.ifCond .eq off, 3)) (ht : (pc : Int) + off = (tgt : Int)) (kt : x = 0 → sW G m tgt (s, l, M) Q) (kf : ¬ x = 0 → sW G m (pc + 3) (s, l, M) Q) : sW G m pc (.int x :: s, l, M) Q := mx_if_eq hd ht kt kf
theorem sW_ic_eq {x y : Int32} {off : Int} (tgt : Nat) (hd : decode m.2.1 pc = .ok (.if_icmp .eq off, 3)) (ht : (pc : Int) + off = (tgt : Int)) (kt : x = y → sW G m tgt (s, l, M) Q) (kf : ¬ x = y → sW G m (pc + 3) (s, l, M) Q) : sW G m pc (.int y :: .int x :: s, l, M) Q := mx_ic_eq hd ht kt kf
theorem sW_if_ne {x : Int32} {off : Int} (tgt : Nat) (hd : decode m.2.1 pc = .ok (.ifCond .ne off, 3)) (ht : (pc : Int) + off = (tgt : Int)) (kt : ¬ x = 0 → sW G m tgt (s, l, M) Q) (kf : x = 0 → sW G m (pc + 3) (s, l, M) Q) : sW G m pc (.int x :: s, l, M) Q := mx_if_ne hd ht kt kf
theorem sW_ic_ne {x y : Int32} {off : Int} (tgt : Nat) (hd : decode m.2.1 pc = .ok (.if_icmp .ne off, 3)) (ht : (pc : Int) + off = (tgt : Int)) (kt : ¬ x = y → sW G m tgt (s, l, M) Q) (kf : x = y → sW G m (pc + 3) (s, l, M) Q) : sW G m pc (.int y :: .int x :: s, l, M) Q := mx_ic_ne hd ht kt kf
theorem sW_if_lt {x : Int32} {off : Int} (tgt : Nat) (hd : decode m.2.1 pc = .ok (.ifCond .lt off, 3)) (ht : (pc : Int) + off = (tgt : Int)) (kt : x < 0 → sW G m tgt (s, l, M) Q) (kf : ¬ x < 0 → sW G m (pc + 3) (s, l, M) Q) : sW G m pc (.int x :: s, l, M) Q := mx_if_lt hd ht kt kf
theorem sW_ic_lt {x y : Int32} {off : Int} (tgt : Nat) (hd : decode m.2.1 pc = .ok (.if_icmp .lt off, 3)) (ht : (pc : Int) + off = (tgt : Int)) (kt : x < y → sW G m tgt (s, l, M) Q) (kf : ¬ x < y → sW G m (pc + 3) (s, l, M) Q) : sW G m pc (.int y :: .int x :: s, l, M) Q := mx_ic_lt hd ht kt kf
theorem sW_if_ge {x : Int32} {off : Int} (tgt : Nat) (hd : decode m.2.1 pc = .ok (.ifCond .ge off, 3)) (ht : (pc : Int) + off = (tgt : Int)) (kt : 0 ≤ x → sW G m tgt (s, l, M) Q) (kf : ¬ 0 ≤ x → sW G m (pc + 3) (s, l, M) Q) : sW G m pc (.int x :: s, l, M) Q := mx_if_ge hd ht kt kf
theorem sW_ic_ge {x y : Int32} {off : Int} (tgt : Nat) (hd : decode m.2.1 pc = .ok (.if_icmp .ge off, 3)) (ht : (pc : Int) + off = (tgt : Int)) (kt : y ≤ x → sW G m tgt (s, l, M) Q) (kf : ¬ y ≤ x → sW G m (pc + 3) (s, l, M) Q) : sW G m pc (.int y :: .int x :: s, l, M) Q := mx_ic_ge hd ht kt kf
theorem sW_if_gt {x : Int32} {off : Int} (tgt : Nat) (hd : decode m.2.1 pc = .ok (.ifCond .gt off, 3)) (ht : (pc : Int) + off = (tgt : Int)) (kt : 0 < x → sW G m tgt (s, l, M) Q) (kf : ¬ 0 < x → sW G m (pc + 3) (s, l, M) Q) : sW G m pc (.int x :: s, l, M) Q := mx_if_gt hd ht kt kf
theorem sW_ic_gt {x y : Int32} {off : Int} (tgt : Nat) (hd : decode m.2.1 pc = .ok (.if_icmp .gt off, 3)) (ht : (pc : Int) + off = (tgt : Int)) (kt : y < x → sW G m tgt (s, l, M) Q) (kf : ¬ y < x → sW G m (pc + 3) (s, l, M) Q) : sW G m pc (.int y :: .int x :: s, l, M) Q := mx_ic_gt hd ht kt kf
theorem sW_if_le {x : Int32} {off : Int} (tgt : Nat) (hd : decode m.2.1 pc = .ok (.ifCond .le off, 3)) (ht : (pc : Int) + off = (tgt : Int)) (kt : x ≤ 0 → sW G m tgt (s, l, M) Q) (kf : ¬ x ≤ 0 → sW G m (pc + 3) (s, l, M) Q) : sW G m pc (.int x :: s, l, M) Q := mx_if_le hd ht kt kf
theorem sW_ic_le {x y : Int32} {off : Int} (tgt : Nat) (hd : decode m.2.1 pc = .ok (.if_icmp .le off, 3)) (ht : (pc : Int) + off = (tgt : Int)) (kt : x ≤ y → sW G m tgt (s, l, M) Q) (kf : ¬ x ≤ y → sW G m (pc + 3) (s, l, M) Q) : sW G m pc (.int y :: .int x :: s, l, M) Q := mx_ic_le hd ht kt kf
theorem sW_goto {off : Int} (tgt : Nat) (hd : decode m.2.1 pc = .ok (.goto off, 3)) (ht : (pc : Int) + off = (tgt : Int)) (k : sW G m tgt st Q) : sW G m pc st Q := mx_goto hd ht k
def sW_tc (G : mx_G) (m : MR) (st : mx_St) (Q : Option Value → mx_M → Prop) (x : Int32) : List Nat → Nat → Prop
  | [], _ => True
  | t :: ts, lo => (x = nI lo → sW G m t st Q) ∧ sW_tc G m st Q x ts (lo + 1)
theorem sW_tc_of {x : Int32} : ∀ (tg : List Nat) (lo : Nat), sW_tc G m st Q x tg lo → mx_tc G m st LAY 0 0 (sQ Q) x tg lo
  | [], _, _ => trivial
  | _ :: ts, lo, h => ⟨h.1, sW_tc_of ts (lo + 1) h.2⟩
theorem sW_tsw {x : Int32} {d lo hi : Int} {offs : Array Int} {n : Nat} (lo' dt : Nat) (tg : List Nat) (hd : decode m.2.1 pc = .ok (.tableswitch d lo hi offs, n)) (hdt : (pc : Int) + d = (dt : Int))
    (htg : offs.toList.map (fun o => (pc : Int) + o) = tg.map (fun t : Nat => (t : Int)) ∧ lo = (lo' : Int) ∧ hi < 2 ^ 31 ∧ (hi - lo).toNat < offs.size) (kd : x.toInt < lo ∨ hi < x.toInt → sW G m dt (s, l, M) Q) (kc : sW_tc G m (s, l, M) Q x tg lo') : sW G m pc (.int x :: s, l, M) Q := mx_tsw hd hdt htg kd (sW_tc_of tg lo' kc)
theorem sW_lsw {x : Int32} {d : Int} {ps : Array (Int × Int)} {n : Nat} (t : Nat) (hd : decode m.2.1 pc = .ok (.lookupswitch d ps, n)) (hp : (ps.toList.zip (ps.toList.drop 1)).all (fun (a, next) => a.1 < next.1) = true) (ht : (pc : Int) + Op.lookupswitch.offset ps.toList d x.toInt = (t : Int)) (k : sW G m t (s, l, M) Q) : sW G m pc (.int x :: s, l, M) Q := mx_lsw hd hp ht k
theorem sW_retI {v : Int32} {ty : FieldType} (hd : decode m.2.1 pc = .ok (.ireturn, 1)) (hr : m.2.2.2.1 = some ty) (hn : narrow ty (.int v) = .int v) (hQ : Q (some (.int v)) M) : sW G m pc ([.int v], l, M) Q := mx_retI hd hr hn ⟨Nat.zero_le _, Nat.zero_le _⟩ ⟨rfl, hQ⟩
theorem sW_retA {k : Nat} {C : String} (hd : decode m.2.1 pc = .ok (.areturn, 1)) (hr : m.2.2.2.1 = some (.object C)) (hQ : Q (some (.ref k)) M) : sW G m pc ([.ref k], l, M) Q := mx_retA hd hr ⟨Nat.zero_le _, Nat.zero_le _⟩ ⟨rfl, hQ⟩
theorem sW_retV (hd : decode m.2.1 pc = .ok (.return_, 1)) (hr : m.2.2.2.1 = none) (hQ : Q none M) : sW G m pc ([], l, M) Q := mx_retV hd hr ⟨Nat.zero_le _, Nat.zero_le _⟩ ⟨rfl, hQ⟩
theorem sW_callV {mc : MR} {idx n h : Nat} (ci : Nat) {ps : List Nat} (as : List Value) (s : List Value) {Q' : Option Value → mx_M → Prop} (hd : decode m.2.1 pc = .ok (.invokevirtual idx, 3)) (hck : mx_cv m mc idx n ps = true) (hz : (vwCl[ci]?.map (fun q => q.1) = some mc.1.cls) ∧ as.length = n ∧ l.length = m.2.2.1 ∧ (s.map fun v => v.category).sum ≤ 8 ∧ mc.2.2.2.2.cells = 0 ∧ mc.2.2.2.2.slots = 0) (hoc : mx_ocl LAY h = ci)
    (hOk : sOk G mc (.ref h :: as) M Q') (k : ∀ r M', Q' r M' → sW G m (pc + 3) (r.toList ++ s, l, M') Q) : sW G m pc (as.reverse ++ .ref h :: s, l, M) Q := by
  obtain ⟨z1, z2, z3, z4, z5, z6⟩ := hz
  refine mx_callV hd hck z1 hoc z2 z3 z4 ⟨by rw [z5]; exact Nat.zero_le _, by rw [z6]; exact Nat.zero_le _⟩ hOk ?_
  rintro r Λ' M' ⟨rfl, hQ⟩
  rw [z5, z6]
  exact k r M' hQ
theorem sW_callS {mc : MR} {idx n : Nat} {ps : List Nat} (as : List Value) (s : List Value) {Q' : Option Value → mx_M → Prop} (hd : decode m.2.1 pc = .ok (.invokestatic idx, 3)) (hck : mx_cs m mc idx n ps = true) (hz : as.length = n ∧ l.length = m.2.2.1 ∧ (s.map fun v => v.category).sum ≤ 8 ∧ mc.2.2.2.2.cells = 0 ∧ mc.2.2.2.2.slots = 0)
    (hOk : sOk G mc as M Q') (k : ∀ r M', Q' r M' → sW G m (pc + 3) (r.toList ++ s, l, M') Q) : sW G m pc (as.reverse ++ s, l, M) Q := by
  obtain ⟨z2, z3, z4, z5, z6⟩ := hz
  refine mx_callS hd hck z2 z3 z4 ⟨by rw [z5]; exact Nat.zero_le _, by rw [z6]; exact Nat.zero_le _⟩ hOk ?_
  rintro r Λ' M' ⟨rfl, hQ⟩
  rw [z5, z6]
  exact k r M' hQ
theorem sW_copy {idx a0 a1 : Nat} {ps : List Nat} {sp dp n : Int32} (hd : decode m.2.1 pc = .ok (.invokestatic idx, 3)) (hck : mx_ca m idx ps = true) (hz : l.length = m.2.2.1 ∧ (s.map fun v => v.category).sum ≤ 8)
    (z0 : mx_len LAY false a0 ≠ 0) (z1 : mx_len LAY false a1 ≠ 0) (h1 : ¬ sp < 0) (h2 : ¬ dp < 0) (h3 : ¬ n < 0) (h4 : sp.toNatClampNeg + n.toNatClampNeg ≤ mx_len LAY false a0) (h5 : dp.toNatClampNeg + n.toNatClampNeg ≤ mx_len LAY false a1)
    (k : sW G m (pc + 3) (s, l, mx_cp M a0 a1 sp.toNatClampNeg dp.toNatClampNeg n.toNatClampNeg) Q) : sW G m pc (.int n :: .int dp :: .ref a1 :: .int sp :: .ref a0 :: s, l, M) Q := mx_copy (by decide +kernel) hd hck hz.1 hz.2 z0 z1 h1 h2 h3 h4 h5 k
/-- a local is known no more -/
def mx_dr : List (Option Value) → List Bool → List (Option Value)
  | v :: l, b :: bs => (if b then none else v) :: mx_dr l bs
  | l, _ => l
theorem mx_dr_at : ∀ (l : List (Option Value)) (bs : List Bool) (i : Nat) (v : Value), (mx_dr l bs)[i]? = some (some v) → l[i]? = some (some v)
  | [], bs, i, v, h => by cases bs <;> simp [mx_dr] at h
  | x :: l, [], i, v, h => by simpa [mx_dr] using h
  | x :: l, b :: bs, i, v, h => by
    cases i with
    | zero => cases b <;> simp [mx_dr] at h ⊢; exact h
    | succ i => simpa using mx_dr_at l bs i v (by simpa [mx_dr] using h)
theorem mx_dr_len : ∀ (l : List (Option Value)) (bs : List Bool), (mx_dr l bs).length = l.length
  | [], bs => by cases bs <;> rfl
  | x :: l, [] => rfl
  | x :: l, b :: bs => by simp [mx_dr, mx_dr_len l bs]
theorem sW_fg (bs : List Bool) (k : sW G m pc (s, mx_dr l bs, M) Q) : sW G m pc (s, l, M) Q := by
  intro p l0 e s0 mid args below meth c Z hC hZ H locs ls hR hS hl
  exact k p l0 e s0 mid args below meth c Z hC hZ H locs ls hR hS ⟨hl.1.trans (mx_dr_len l bs).symm, hl.2.1, fun i v h => hl.2.2 i v (mx_dr_at l bs i v h)⟩
theorem mx_ind {α : Type} (μ : α → Nat) (P : α → Prop) (h : ∀ a, (∀ b, μ b < μ a → P b) → P a) : ∀ a, P a := by
  have key : ∀ n a, μ a < n → P a := by
    intro n
    induction n with
    | zero => intro a ha; omega
    | succ n ih => intro a ha; exact h a (fun b hb => ih b (by omega))
  exact fun a => key (μ a + 1) a (Nat.lt_succ_self _)
end SW
/-- 1 or 0 -/
noncomputable def tf (c : Prop) : Int32 := @ite _ c (Classical.propDecidable c) (nI 1) (nI 0)
theorem tf_t {c : Prop} (h : c) : tf c = nI 1 := if_pos h
theorem tf_f {c : Prop} (h : ¬ c) : tf c = nI 0 := if_neg h
theorem tf_z {c : Prop} : tf c = 0 ↔ ¬ c := by
  by_cases h : c
  · rw [tf_t h]; exact ⟨fun q => absurd q (by decide), fun q => absurd h q⟩
  · rw [tf_f h]; exact ⟨fun _ => h, fun _ => by decide⟩
theorem tf_nz {c : Prop} : ¬ tf c = 0 ↔ c := by rw [tf_z]; exact Classical.not_not
theorem tf_b (c : Prop) : narrow .boolean (.int (tf c)) = .int (tf c) := by
  by_cases h : c
  · rw [tf_t h]; decide +kernel
  · rw [tf_f h]; decide +kernel
theorem tf_01 (c : Prop) : tf c = 0 ∨ tf c = 1 := by
  by_cases h : c
  · exact Or.inr (tf_t h)
  · exact Or.inl (tf_f h)
theorem tf_iff {c d : Prop} (h : c ↔ d) : tf c = tf d := by rw [propext h]
theorem nb_0 : narrow .boolean (.int (nI 0)) = .int (nI 0) := by decide +kernel
theorem nb_1 : narrow .boolean (.int (nI 1)) = .int (nI 1) := by decide +kernel
end
section
/-! ===== bits ===== -/
theorem nx_xor (a b : Nat) : nI a ^^^ nI b = nI (a ^^^ b) := by
  apply Int32.toBitVec_inj.1
  show BitVec.ofNat 32 a ^^^ BitVec.ofNat 32 b = BitVec.ofNat 32 (a ^^^ b)
  apply BitVec.eq_of_getLsbD_eq
  intro i hi
  simp [hi]
theorem bx_sl : ∀ n, n < 32 → ((nI n &&& 31).toBitVec.smod 32).toNat = n := by decide +kernel
def bt (c a : Nat) : Nat := c / 2 ^ a % 2
theorem bt_le (c a : Nat) : bt c a ≤ 1 := by unfold bt; omega
theorem bt_tb (c a : Nat) : c.testBit a = decide (bt c a = 1) := by rw [Nat.testBit_eq_decide_div_mod_eq]; rfl
theorem bt_01 (c a : Nat) : bt c a = 0 ∨ bt c a = 1 := by have := bt_le c a; omega
theorem sh_r {c a : Nat} (hc : c < 2 ^ 31) (ha : a < 32) : nI c >>> (nI a &&& 31) = nI (c / 2 ^ a) := pk_shrN hc _ a (bx_sl a ha)
theorem sh_b {c a : Nat} (hc : c < 2 ^ 31) (ha : a < 32) : (nI c >>> (nI a &&& 31)) &&& nI 1 = nI (bt c a) := by
  rw [sh_r hc ha, nx_and, Nat.and_one_is_mod]
  rfl
theorem p2_le {k : Nat} (hk : k < 8) : 2 ^ k ≤ 128 := by
  have : 2 ^ k ≤ 2 ^ 7 := Nat.pow_le_pow_right (by decide) (by omega)
  exact this
theorem sh_l {x k : Nat} (hx : x ≤ 1) (hk : k < 8) : nI x <<< (nI k &&& 31) = nI (x * 2 ^ k) := by
  refine pk_shlN _ k (bx_sl k (by omega)) ?_
  have h1 := p2_le hk
  have h2 : x * 2 ^ k ≤ 1 * 2 ^ k := Nat.mul_le_mul_right _ hx
  omega
theorem or_lt {a b k : Nat} (ha : a < 2 ^ k) (hb : b < 2 ^ k) : a ||| b < 2 ^ k := Nat.or_lt_two_pow ha hb
theorem b1_or {a b : Nat} (ha : a ≤ 1) (hb : b ≤ 1) : a ||| b ≤ 1 := by
  have : a ||| b < 2 ^ 1 := or_lt (by omega) (by omega)
  omega
theorem b1_and {a b : Nat} (ha : a ≤ 1) : a &&& b ≤ 1 := Nat.le_trans Nat.and_le_left ha
theorem b1_xor {a b : Nat} (ha : a ≤ 1) (hb : b ≤ 1) : a ^^^ b ≤ 1 := by
  have : a ^^^ b < 2 ^ 1 := Nat.xor_lt_two_pow (by omega) (by omega)
  omega
/-! ===== houses ===== -/
/-- how many types, how many constants, sorts, firsts, seconds -/
abbrev Hs : Type := Nat × Nat × (Nat → Nat) × (Nat → Nat) × (Nat → Nat)
abbrev Sf (hs : Hs) (k : Nat) : Nat := hs.2.2.1 k
abbrev Af (hs : Hs) (k : Nat) : Nat := hs.2.2.2.1 k
abbrev Bf (hs : Hs) (k : Nat) : Nat := hs.2.2.2.2 k
def HsOk (hs : Hs) : Prop := hs.1 ≤ 8 ∧ hs.2.1 ≤ 4 ∧ ∀ k, k < hs.1 → Sf hs k ≤ 5 ∧ Af hs k ≤ 7 ∧ Bf hs k ≤ 7
def HsAt (M : mx_M) (h : Nat) (hs : Hs) : Prop := M h 3 = nI hs.1 ∧ M h 4 = nI hs.2.1 ∧ ∀ k, k < hs.1 → M (h + 1) k = nI (Sf hs k) ∧ M (h + 2) k = nI (Af hs k) ∧ M (h + 3) k = nI (Bf hs k)
/-- what a joint type is, by its sort and what its two are -/
def jb (s a b : Nat) : Nat := if s = 3 then a ||| b else if s = 4 then a &&& b else if s = 5 then a &&& (1 ^^^ b) else 0
theorem jb_le {s a b : Nat} (ha : a ≤ 1) (hb : b ≤ 1) : jb s a b ≤ 1 := by
  unfold jb
  split
  · exact b1_or ha hb
  · split
    · exact b1_and ha
    · split
      · exact b1_and ha
      · omega
def cellN (hs : Hs) (told : Nat) : Nat → Nat
  | 0 => told
  | k + 1 => cellN hs told k ||| jb (Sf hs k) (bt (cellN hs told k) (Af hs k)) (bt (cellN hs told k) (Bf hs k)) * 2 ^ k
def cellOf (hs : Hs) (told : Nat) : Nat := cellN hs told hs.1
theorem bk_lt {x k n : Nat} (hx : x ≤ 1) (hk : k < n) : x * 2 ^ k < 2 ^ n := by
  have h1 : 2 ^ k < 2 ^ n := Nat.pow_lt_pow_right (by decide) hk
  have h2 : x * 2 ^ k ≤ 1 * 2 ^ k := Nat.mul_le_mul_right _ hx
  omega
theorem cellN_lt {hs : Hs} {told n : Nat} (ht : told < 2 ^ n) : ∀ k, k ≤ n → cellN hs told k < 2 ^ n
  | 0, _ => ht
  | k + 1, h => or_lt (cellN_lt ht k (by omega)) (bk_lt (jb_le (bt_le _ _) (bt_le _ _)) (by omega))
theorem cellOf_lt {hs : Hs} {told : Nat} (hw : HsOk hs) (ht : told < 256) : cellOf hs told < 256 := cellN_lt (n := 8) ht hs.1 hw.1
/-- the bits of which p is 1 -/
def bsum (p : Nat → Nat) : Nat → Nat
  | 0 => 0
  | k + 1 => bsum p k ||| p k * 2 ^ k
theorem bsum_lt {p : Nat → Nat} {n : Nat} (hp : ∀ k, k < n → p k ≤ 1) : ∀ k, k ≤ n → bsum p k < 2 ^ n
  | 0, _ => Nat.two_pow_pos n
  | k + 1, h => or_lt (bsum_lt hp k (by omega)) (bk_lt (hp k (by omega)) (by omega))
theorem bsum_lt8 {p : Nat → Nat} (hp : ∀ k, p k ≤ 1) {k : Nat} (hk : k ≤ 8) : bsum p k < 256 := bsum_lt (n := 8) (fun j _ => hp j) k hk
def spanB (hs : Hs) (c k : Nat) : Nat := if Sf hs k = 0 ∧ Af hs k ≤ c ∧ c ≤ Bf hs k then 1 else 0
theorem spanB_le (hs : Hs) (c k : Nat) : spanB hs c k ≤ 1 := by unfold spanB; split <;> omega
def constCell (hs : Hs) (c : Nat) : Nat := cellOf hs (bsum (spanB hs c) hs.1)
def sortB (hs : Hs) (t k : Nat) : Nat := if Sf hs k = t then 1 else 0
theorem sortB_le (hs : Hs) (t k : Nat) : sortB hs t k ≤ 1 := by unfold sortB; split <;> omega
def lftB (hs : Hs) (t x k : Nat) : Nat := if Sf hs k = t then bt x (Af hs k) else 0
theorem lftB_le (hs : Hs) (t x k : Nat) : lftB hs t x k ≤ 1 := by unfold lftB; split; exact bt_le _ _; omega
def rgtB (hs : Hs) (t x k : Nat) : Nat := if Sf hs k = t then bt x (Bf hs k) else 0
theorem rgtB_le (hs : Hs) (t x k : Nat) : rgtB hs t x k ≤ 1 := by unfold rgtB; split; exact bt_le _ _; omega
theorem vi_neg {t : Int32} {n : Nat} (h : t < 0) : ¬ vp_in t n := fun q => q (Or.inl h)
theorem vi_ge {t : Int32} {n : Nat} (hn : n < 2 ^ 31) (h : nI n ≤ t) : ¬ vp_in t n := by
  rw [vp_in_iff]
  rw [Int32.le_iff_toInt_le, nI_toInt hn] at h
  omega
theorem vi_mk {t : Int32} {n : Nat} (hn : n < 2 ^ 31) (h0 : ¬ t < 0) (h : ¬ nI n ≤ t) : vp_in t n := by
  rw [vp_in_iff]
  rw [Int32.le_iff_toInt_le, nI_toInt hn] at h
  rw [Int32.lt_iff_toInt_lt, Int32.toInt_zero] at h0
  omega
theorem all_n {n : Nat} (h8 : n ≤ 8) : nI 1 <<< (nI n &&& 31) - nI 1 = nI (2 ^ n - 1) := by
  have h : ∀ n, n < 9 → nI 1 <<< (nI n &&& 31) - nI 1 = nI (2 ^ n - 1) := by decide +kernel
  exact h n (by omega)
/-- whether a sort, a, b may stand at the type t of n -/
def mayZ (n t s a b : Int) : Prop := (0 ≤ t ∧ t < n) ∧ (0 ≤ s ∧ s < 6) ∧ 0 ≤ a ∧ 0 ≤ b ∧ (s = 0 → a ≤ b ∧ b ≤ 3) ∧ (s = 1 ∨ s = 2 → a < n ∧ b < n) ∧ (3 ≤ s → a < t ∧ b < t)
def mayP (n : Nat) (t s a b : Int32) : Prop := mayZ n t.toInt s.toInt a.toInt b.toInt
/-- nothing has changed outside the cells lo on, below hi -/
def Fr (M M' : mx_M) (lo hi : Nat) : Prop := ∀ a, (a < lo ∨ hi ≤ a) → M' a = M a
theorem Fr.rf {M : mx_M} {lo hi : Nat} : Fr M M lo hi := fun _ _ => rfl
theorem Fr.tr {M M' M'' : mx_M} {lo hi : Nat} (h1 : Fr M M' lo hi) (h2 : Fr M' M'' lo hi) : Fr M M'' lo hi := fun a ha => (h2 a ha).trans (h1 a ha)
theorem Fr.mono {M M' : mx_M} {lo hi lo' hi' : Nat} (h : Fr M M' lo hi) (h1 : lo' ≤ lo) (h2 : hi ≤ hi') : Fr M M' lo' hi' := fun a ha => h a (by omega)
theorem Fr.wr {M M' : mx_M} {lo hi k j : Nat} {v : Int32} (h : Fr M M' lo hi) (h1 : lo ≤ k) (h2 : k < hi) : Fr M (mx_wr M' k j v) lo hi := fun a ha => by
  rw [mx_wr_n M' j v (by omega)]
  exact h a ha
theorem Fr.cp {M M' : mx_M} {lo hi a0 k sp dp n : Nat} (h : Fr M M' lo hi) (h1 : lo ≤ k) (h2 : k < hi) : Fr M (mx_cp M' a0 k sp dp n) lo hi := fun a ha => by
  rw [mx_cp_n M' a0 sp dp n (by omega)]
  exact h a ha
theorem HsAt.fr {M M' : mx_M} {h lo hi : Nat} {hs : Hs} (hA : HsAt M h hs) (hf : Fr M M' lo hi) (hd : h + 4 ≤ lo ∨ hi ≤ h) : HsAt M' h hs := by
  unfold HsAt
  rw [hf h (by omega), hf (h + 1) (by omega), hf (h + 2) (by omega), hf (h + 3) (by omega)]
  exact hA
end
section
/-! ===== House ===== -/
theorem k_House_has (G : mx_G) {M : mx_M} {h n : Nat} (ho : mx_ocl LAY h = 3) (hn : M h 3 = nI n) (h8 : n ≤ 8) (t : Int32) : sOk G m_House_has [.ref h, .int t] M (fun r M' => r = some (.int (tf (vp_in t n))) ∧ M' = M) := by
  refine sOk_of ⟨by decide +kernel, by decide +kernel, Nat.le_of_ble_eq_true rfl⟩ ?_
  show sW G m_House_has 0 ([], [some (.ref h), some (.int t)], M) _
  refine sW_go b_House_has_0 (st' := ([.int t], [some (.ref h), some (.int t)], M)) (φ := True) rfl trivial ?_
  refine sW_if_lt 16 d_House_has_1 (by decide) (fun c_1 => ?_) (fun c_1 => ?_)
  · skip
    refine sW_go b_House_has_16 (st' := ([.int (nI 0)], [some (.ref h), some (.int t)], M)) (φ := True) rfl trivial ?_
    refine sW_retI d_House_has_17 rfl nb_0 ?_
    exact ⟨by rw [tf_f (vi_neg c_1)], rfl⟩
  · skip
    refine sW_go b_House_has_4 (st' := ([.int (M h 3), .int t], [some (.ref h), some (.int t)], M)) (φ := mx_ocl LAY h = 3 ∧ True) rfl ⟨ho, trivial⟩ ?_
    refine sW_eq (st' := ([.int (nI n), .int t], [some (.ref h), some (.int t)], M)) (by simp (disch := omega) only [hn]) ?_
    refine sW_ic_ge 16 d_House_has_9 (by decide) (fun c_9 => ?_) (fun c_9 => ?_)
    · skip
      refine sW_go b_House_has_16 (st' := ([.int (nI 0)], [some (.ref h), some (.int t)], M)) (φ := True) rfl trivial ?_
      refine sW_retI d_House_has_17 rfl nb_0 ?_
      exact ⟨by rw [tf_f (vi_ge (by omega) c_9)], rfl⟩
    · skip
      refine sW_go b_House_has_12 (st' := ([.int (nI 1)], [some (.ref h), some (.int t)], M)) (φ := True) rfl trivial ?_
      refine sW_goto 17 d_House_has_13 (by decide) ?_
      refine sW_retI d_House_has_17 rfl nb_1 ?_
      exact ⟨by rw [tf_t (vi_mk (by omega) c_1 c_9)], rfl⟩
theorem k_House_isNone (G : mx_G) {M : mx_M} {h n : Nat} (ho : mx_ocl LAY h = 3) (hn : M h 3 = nI n) (h8 : n ≤ 8) : sOk G m_House_isNone [.ref h] M (fun r M' => r = some (.int (tf (n = 0))) ∧ M' = M) := by
  refine sOk_of ⟨by decide +kernel, by decide +kernel, Nat.le_of_ble_eq_true rfl⟩ ?_
  show sW G m_House_isNone 0 ([], [some (.ref h)], M) _
  refine sW_go b_House_isNone_0 (st' := ([.int (M h 3)], [some (.ref h)], M)) (φ := mx_ocl LAY h = 3 ∧ True) rfl ⟨ho, trivial⟩ ?_
  refine sW_eq (st' := ([.int (nI n)], [some (.ref h)], M)) (by simp (disch := omega) only [hn]) ?_
  refine sW_if_ne 11 d_House_isNone_4 (by decide) (fun c_4 => ?_) (fun c_4 => ?_)
  · skip
    simp (disch := omega) only [nI_z] at c_4
    refine sW_go b_House_isNone_11 (st' := ([.int (nI 0)], [some (.ref h)], M)) (φ := True) rfl trivial ?_
    refine sW_retI d_House_isNone_12 rfl nb_0 ?_
    exact ⟨by rw [tf_f c_4], rfl⟩
  · skip
    simp (disch := omega) only [nI_z] at c_4
    refine sW_go b_House_isNone_7 (st' := ([.int (nI 1)], [some (.ref h)], M)) (φ := True) rfl trivial ?_
    refine sW_goto 12 d_House_isNone_8 (by decide) ?_
    refine sW_retI d_House_isNone_12 rfl nb_1 ?_
    exact ⟨by rw [tf_t c_4], rfl⟩
theorem k_House_all (G : mx_G) {M : mx_M} {h n : Nat} (ho : mx_ocl LAY h = 3) (hn : M h 3 = nI n) (h8 : n ≤ 8) : sOk G m_House_all [.ref h] M (fun r M' => r = some (.int (nI (2 ^ n - 1))) ∧ M' = M) := by
  have e1 : nI 1 <<< (nI n &&& 31) - nI 1 = nI (2 ^ n - 1) := all_n h8
  refine sOk_of ⟨by decide +kernel, by decide +kernel, Nat.le_of_ble_eq_true rfl⟩ ?_
  show sW G m_House_all 0 ([], [some (.ref h)], M) _
  refine sW_go b_House_all_0 (st' := ([.int ((nI 1 <<< (M h 3 &&& 31)) - nI 1)], [some (.ref h)], M)) (φ := mx_ocl LAY h = 3 ∧ True) rfl ⟨ho, trivial⟩ ?_
  refine sW_eq (st' := ([.int (nI (2 ^ n - 1))], [some (.ref h)], M)) (by simp (disch := omega) only [e1, hn]) ?_
  refine sW_retI d_House_all_8 rfl (vp_nar_int _) ?_
  exact ⟨rfl, rfl⟩
theorem k_House_isSet (G : mx_G) {M : mx_M} {h n : Nat} (ho : mx_ocl LAY h = 3) (hn : M h 3 = nI n) (h8 : n ≤ 8) (t : Int32) : sOk G m_House_isSet [.ref h, .int t] M (fun r M' => r = some (.int (tf (vp_in t (2 ^ n)))) ∧ M' = M) := by
  have hp : 2 ^ n ≤ 256 := Nat.pow_le_pow_right (by decide) h8
  have hp0 : 0 < 2 ^ n := Nat.two_pow_pos n
  refine sOk_of ⟨by decide +kernel, by decide +kernel, Nat.le_of_ble_eq_true rfl⟩ ?_
  show sW G m_House_isSet 0 ([], [some (.ref h), some (.int t)], M) _
  refine sW_go b_House_isSet_0 (st' := ([.int t], [some (.ref h), some (.int t)], M)) (φ := True) rfl trivial ?_
  refine sW_if_lt 16 d_House_isSet_1 (by decide) (fun c_1 => ?_) (fun c_1 => ?_)
  · skip
    refine sW_go b_House_isSet_16 (st' := ([.int (nI 0)], [some (.ref h), some (.int t)], M)) (φ := True) rfl trivial ?_
    refine sW_retI d_House_isSet_17 rfl nb_0 ?_
    exact ⟨by rw [tf_f (vi_neg c_1)], rfl⟩
  · skip
    refine sW_go b_House_isSet_4 (st' := ([.ref h, .int t], [some (.ref h), some (.int t)], M)) (φ := True) rfl trivial ?_
    refine sW_callV 3 [] [.int t] d_House_isSet_6 c_House_isSet_6 ⟨rfl, rfl, rfl, Nat.le_of_ble_eq_true rfl, rfl, rfl⟩ ho (k_House_all G ho hn h8) ?_
    rintro _ M₁ ⟨rfl, h₁⟩
    rw [h₁]
    show sW G m_House_isSet 9 ([.int (nI (2 ^ n - 1)), .int t], [some (.ref h), some (.int t)], M) _
    refine sW_ic_gt 16 d_House_isSet_9 (by decide) (fun c_9 => ?_) (fun c_9 => ?_)
    · skip
      refine sW_go b_House_isSet_16 (st' := ([.int (nI 0)], [some (.ref h), some (.int t)], M)) (φ := True) rfl trivial ?_
      refine sW_retI d_House_isSet_17 rfl nb_0 ?_
      refine ⟨by rw [tf_f]; (simp (disch := omega) only [vp_in_iff, Int32.lt_iff_toInt_lt, Int32.le_iff_toInt_le, Int32.toInt_zero, nI_toInt] at *; omega), rfl⟩
    · skip
      refine sW_go b_House_isSet_12 (st' := ([.int (nI 1)], [some (.ref h), some (.int t)], M)) (φ := True) rfl trivial ?_
      refine sW_goto 17 d_House_isSet_13 (by decide) ?_
      refine sW_retI d_House_isSet_17 rfl nb_1 ?_
      refine ⟨by rw [tf_t]; (simp (disch := omega) only [vp_in_iff, Int32.lt_iff_toInt_lt, Int32.le_iff_toInt_le, Int32.toInt_zero, nI_toInt] at *; omega), rfl⟩
theorem k_House_cellOf (G : mx_G) {M : mx_M} {h : Nat} {hs : Hs} (ho : mx_ocl LAY h = 3) (hA : HsAt M h hs) (hw : HsOk hs) {told : Nat} (ht : told < 256) : sOk G m_House_cellOf [.ref h, .int (nI told)] M (fun r M' => r = some (.int (nI (cellOf hs told))) ∧ M' = M) := by
  obtain ⟨e3, e4, eK⟩ := id hA
  obtain ⟨w1, w2, w3⟩ := id hw
  refine sOk_of ⟨by decide +kernel, by decide +kernel, Nat.le_of_ble_eq_true rfl⟩ ?_
  show sW G m_House_cellOf 0 ([], [some (.ref h), some (.int (nI told)), none, none, none, none], M) _
  refine sW_go b_House_cellOf_0 (st' := ([], [some (.ref h), some (.int (nI told)), some (.int (nI told)), some (.int (nI 0)), none, none], M)) (φ := True) rfl trivial ?_
  refine mx_ind (α := Nat × Nat) (fun a => hs.1 - a.1) (fun a => a.1 ≤ hs.1 → a.2 = cellN hs told a.1 → sW G m_House_cellOf 4 ([], [some (.ref h), some (.int (nI told)), some (.int (nI a.2)), some (.int (nI a.1)), none, none], M) _) ?_ (0, told) (Nat.zero_le _) rfl
  rintro ⟨k, cell⟩ ih hk hc
  dsimp only at ih hk hc ⊢
  have hlt : cell < 256 := by rw [hc]; exact cellN_lt (n := 8) ht k (by omega)
  by_cases hkn : k < hs.1
  · obtain ⟨x1, x2, x3⟩ := eK k hkn
    obtain ⟨y1, y2, y3⟩ := w3 k hkn
    have p1 : (nI cell >>> (nI (Af hs k) &&& 31)) &&& nI 1 = nI (bt cell (Af hs k)) := sh_b (by omega) (by omega)
    have p2 : (nI cell >>> (nI (Bf hs k) &&& 31)) &&& nI 1 = nI (bt cell (Bf hs k)) := sh_b (by omega) (by omega)
    have q3 : nI (bt cell (Af hs k) ||| bt cell (Bf hs k)) <<< (nI k &&& 31) = nI ((bt cell (Af hs k) ||| bt cell (Bf hs k)) * 2 ^ k) := sh_l (b1_or (bt_le _ _) (bt_le _ _)) (by omega)
    have q4 : nI (bt cell (Af hs k) &&& bt cell (Bf hs k)) <<< (nI k &&& 31) = nI ((bt cell (Af hs k) &&& bt cell (Bf hs k)) * 2 ^ k) := sh_l (b1_and (bt_le _ _)) (by omega)
    have q5 : nI (bt cell (Af hs k) &&& (1 ^^^ bt cell (Bf hs k))) <<< (nI k &&& 31) = nI ((bt cell (Af hs k) &&& (1 ^^^ bt cell (Bf hs k))) * 2 ^ k) := sh_l (b1_and (bt_le _ _)) (by omega)
    have hst : ∀ x, jb (Sf hs k) (bt cell (Af hs k)) (bt cell (Bf hs k)) = x → cell ||| x * 2 ^ k = cellN hs told (k + 1) := by
      intro x hx
      subst hx
      subst hc
      rfl
    refine sW_go b_House_cellOf_4 (st' := ([.int (M h 3), .int (nI k)], [some (.ref h), some (.int (nI told)), some (.int (nI cell)), some (.int (nI k)), none, none], M)) (φ := mx_ocl LAY h = 3 ∧ True) rfl ⟨ho, trivial⟩ ?_
    refine sW_eq (st' := ([.int (nI hs.1), .int (nI k)], [some (.ref h), some (.int (nI told)), some (.int (nI cell)), some (.int (nI k)), none, none], M)) (by simp (disch := omega) only [e3]) ?_
    refine sW_ic_ge 115 d_House_cellOf_9 (by decide) (fun c_9 => ?_) (fun c_9 => ?_)
    · skip
      simp (disch := omega) only [nI_leI] at c_9
      refine sW_go b_House_cellOf_115 (st' := ([.int (nI cell)], [some (.ref h), some (.int (nI told)), some (.int (nI cell)), some (.int (nI k)), none, none], M)) (φ := True) rfl trivial ?_
      refine sW_retI d_House_cellOf_116 rfl (vp_nar_int _) ?_
      omega
    · skip
      simp (disch := omega) only [nI_leI] at c_9
      refine sW_go b_House_cellOf_12 (st' := ([.int (M (h + 1) (nI k).toNatClampNeg)], [some (.ref h), some (.int (nI told)), some (.int (nI cell)), some (.int (nI k)), some (.int ((nI cell >>> (M (h + 2) (nI k).toNatClampNeg &&& 31)) &&& nI 1)), some (.int ((nI cell >>> (M (h + 3) (nI k).toNatClampNeg &&& 31)) &&& nI 1))], M)) (φ := mx_ocl LAY h = 3 ∧ vp_in (nI k) (mx_len LAY false (h + 2)) ∧ mx_ocl LAY h = 3 ∧ vp_in (nI k) (mx_len LAY false (h + 3)) ∧ mx_ocl LAY h = 3 ∧ vp_in (nI k) (mx_len LAY false (h + 1)) ∧ True) rfl ⟨ho, (by simp (disch := omega) only [(ln_House_firsts ho)]; exact vp_in_nI (by omega) (by decide)), ho, (by simp (disch := omega) only [(ln_House_seconds ho)]; exact vp_in_nI (by omega) (by decide)), ho, (by simp (disch := omega) only [(ln_House_sorts ho)]; exact vp_in_nI (by omega) (by decide)), trivial⟩ ?_
      refine sW_eq (st' := ([.int (nI (Sf hs k))], [some (.ref h), some (.int (nI told)), some (.int (nI cell)), some (.int (nI k)), some (.int (nI (bt cell (Af hs k)))), some (.int (nI (bt cell (Bf hs k))))], M)) (by simp (disch := omega) only [nI_clamp, p1, p2, x1, x2, x3]) ?_
      refine sW_tsw 3 109 [68, 81, 94] d_House_cellOf_42 (by decide) (by decide) (fun c_42 => ?_) ⟨fun c_42 => ?_, fun c_42 => ?_, fun c_42 => ?_, trivial⟩
      · skip
        simp (disch := omega) only [nI_toInt] at c_42
        refine sW_go b_House_cellOf_109 (st' := ([], [some (.ref h), some (.int (nI told)), some (.int (nI cell)), some (.int (nI k + nI 1)), some (.int (nI (bt cell (Af hs k)))), some (.int (nI (bt cell (Bf hs k))))], M)) (φ := True) rfl trivial ?_
        refine sW_eq (st' := ([], [some (.ref h), some (.int (nI told)), some (.int (nI cell)), some (.int (nI (k + 1))), some (.int (nI (bt cell (Af hs k)))), some (.int (nI (bt cell (Bf hs k))))], M)) (by simp (disch := omega) only [nI_add]) ?_
        refine sW_goto 4 d_House_cellOf_112 (by decide) ?_
        refine sW_fg [false, false, false, false, true, true] ?_
        show sW G m_House_cellOf 4 ([], [some (.ref h), some (.int (nI told)), some (.int (nI cell)), some (.int (nI (k + 1))), none, none], M) _
        refine ih (k + 1, cell) (by dsimp only; omega) (by dsimp only; omega) ?_
        have := hst 0 (by unfold jb; rw [if_neg (by omega), if_neg (by omega), if_neg (by omega)])
        simpa using this
      · skip
        simp (disch := omega) only [nI_eq] at c_42
        refine sW_go b_House_cellOf_68 (st' := ([], [some (.ref h), some (.int (nI told)), some (.int (nI cell ||| ((nI (bt cell (Af hs k)) ||| nI (bt cell (Bf hs k))) <<< (nI k &&& 31)))), some (.int (nI k)), some (.int (nI (bt cell (Af hs k)))), some (.int (nI (bt cell (Bf hs k))))], M)) (φ := True) rfl trivial ?_
        refine sW_eq (st' := ([], [some (.ref h), some (.int (nI told)), some (.int (nI (cell ||| ((bt cell (Af hs k) ||| bt cell (Bf hs k)) * 2 ^ k)))), some (.int (nI k)), some (.int (nI (bt cell (Af hs k)))), some (.int (nI (bt cell (Bf hs k))))], M)) (by simp (disch := omega) only [nx_or, q3]) ?_
        refine sW_goto 109 d_House_cellOf_78 (by decide) ?_
        refine sW_go b_House_cellOf_109 (st' := ([], [some (.ref h), some (.int (nI told)), some (.int (nI (cell ||| ((bt cell (Af hs k) ||| bt cell (Bf hs k)) * 2 ^ k)))), some (.int (nI k + nI 1)), some (.int (nI (bt cell (Af hs k)))), some (.int (nI (bt cell (Bf hs k))))], M)) (φ := True) rfl trivial ?_
        refine sW_eq (st' := ([], [some (.ref h), some (.int (nI told)), some (.int (nI (cell ||| ((bt cell (Af hs k) ||| bt cell (Bf hs k)) * 2 ^ k)))), some (.int (nI (k + 1))), some (.int (nI (bt cell (Af hs k)))), some (.int (nI (bt cell (Bf hs k))))], M)) (by simp (disch := omega) only [nI_add]) ?_
        refine sW_goto 4 d_House_cellOf_112 (by decide) ?_
        refine sW_fg [false, false, false, false, true, true] ?_
        show sW G m_House_cellOf 4 ([], [some (.ref h), some (.int (nI told)), some (.int (nI (cell ||| ((bt cell (Af hs k) ||| bt cell (Bf hs k)) * 2 ^ k)))), some (.int (nI (k + 1))), none, none], M) _
        exact ih (k + 1, _) (by dsimp only; omega) (by dsimp only; omega) (hst _ (by unfold jb; rw [if_pos (by omega)]))
      · skip
        simp (disch := omega) only [nI_eq] at c_42
        refine sW_go b_House_cellOf_81 (st' := ([], [some (.ref h), some (.int (nI told)), some (.int (nI cell ||| ((nI (bt cell (Af hs k)) &&& nI (bt cell (Bf hs k))) <<< (nI k &&& 31)))), some (.int (nI k)), some (.int (nI (bt cell (Af hs k)))), some (.int (nI (bt cell (Bf hs k))))], M)) (φ := True) rfl trivial ?_
        refine sW_eq (st' := ([], [some (.ref h), some (.int (nI told)), some (.int (nI (cell ||| ((bt cell (Af hs k) &&& bt cell (Bf hs k)) * 2 ^ k)))), some (.int (nI k)), some (.int (nI (bt cell (Af hs k)))), some (.int (nI (bt cell (Bf hs k))))], M)) (by simp (disch := omega) only [nx_and, nx_or, q4]) ?_
        refine sW_goto 109 d_House_cellOf_91 (by decide) ?_
        refine sW_go b_House_cellOf_109 (st' := ([], [some (.ref h), some (.int (nI told)), some (.int (nI (cell ||| ((bt cell (Af hs k) &&& bt cell (Bf hs k)) * 2 ^ k)))), some (.int (nI k + nI 1)), some (.int (nI (bt cell (Af hs k)))), some (.int (nI (bt cell (Bf hs k))))], M)) (φ := True) rfl trivial ?_
        refine sW_eq (st' := ([], [some (.ref h), some (.int (nI told)), some (.int (nI (cell ||| ((bt cell (Af hs k) &&& bt cell (Bf hs k)) * 2 ^ k)))), some (.int (nI (k + 1))), some (.int (nI (bt cell (Af hs k)))), some (.int (nI (bt cell (Bf hs k))))], M)) (by simp (disch := omega) only [nI_add]) ?_
        refine sW_goto 4 d_House_cellOf_112 (by decide) ?_
        refine sW_fg [false, false, false, false, true, true] ?_
        show sW G m_House_cellOf 4 ([], [some (.ref h), some (.int (nI told)), some (.int (nI (cell ||| ((bt cell (Af hs k) &&& bt cell (Bf hs k)) * 2 ^ k)))), some (.int (nI (k + 1))), none, none], M) _
        exact ih (k + 1, _) (by dsimp only; omega) (by dsimp only; omega) (hst _ (by unfold jb; rw [if_neg (by omega), if_pos (by omega)]))
      · skip
        simp (disch := omega) only [nI_eq] at c_42
        refine sW_go b_House_cellOf_94 (st' := ([], [some (.ref h), some (.int (nI told)), some (.int (nI cell ||| ((nI (bt cell (Af hs k)) &&& (nI 1 ^^^ nI (bt cell (Bf hs k)))) <<< (nI k &&& 31)))), some (.int (nI k)), some (.int (nI (bt cell (Af hs k)))), some (.int (nI (bt cell (Bf hs k))))], M)) (φ := True) rfl trivial ?_
        refine sW_eq (st' := ([], [some (.ref h), some (.int (nI told)), some (.int (nI (cell ||| ((bt cell (Af hs k) &&& (1 ^^^ bt cell (Bf hs k))) * 2 ^ k)))), some (.int (nI k)), some (.int (nI (bt cell (Af hs k)))), some (.int (nI (bt cell (Bf hs k))))], M)) (by simp (disch := omega) only [nx_and, nx_or, nx_xor, q5]) ?_
        refine sW_goto 109 d_House_cellOf_106 (by decide) ?_
        refine sW_go b_House_cellOf_109 (st' := ([], [some (.ref h), some (.int (nI told)), some (.int (nI (cell ||| ((bt cell (Af hs k) &&& (1 ^^^ bt cell (Bf hs k))) * 2 ^ k)))), some (.int (nI k + nI 1)), some (.int (nI (bt cell (Af hs k)))), some (.int (nI (bt cell (Bf hs k))))], M)) (φ := True) rfl trivial ?_
        refine sW_eq (st' := ([], [some (.ref h), some (.int (nI told)), some (.int (nI (cell ||| ((bt cell (Af hs k) &&& (1 ^^^ bt cell (Bf hs k))) * 2 ^ k)))), some (.int (nI (k + 1))), some (.int (nI (bt cell (Af hs k)))), some (.int (nI (bt cell (Bf hs k))))], M)) (by simp (disch := omega) only [nI_add]) ?_
        refine sW_goto 4 d_House_cellOf_112 (by decide) ?_
        refine sW_fg [false, false, false, false, true, true] ?_
        show sW G m_House_cellOf 4 ([], [some (.ref h), some (.int (nI told)), some (.int (nI (cell ||| ((bt cell (Af hs k) &&& (1 ^^^ bt cell (Bf hs k))) * 2 ^ k)))), some (.int (nI (k + 1))), none, none], M) _
        exact ih (k + 1, _) (by dsimp only; omega) (by dsimp only; omega) (hst _ (by unfold jb; rw [if_neg (by omega), if_neg (by omega), if_pos (by omega)]))
  · have hke : k = hs.1 := by omega
    refine sW_go b_House_cellOf_4 (st' := ([.int (M h 3), .int (nI k)], [some (.ref h), some (.int (nI told)), some (.int (nI cell)), some (.int (nI k)), none, none], M)) (φ := mx_ocl LAY h = 3 ∧ True) rfl ⟨ho, trivial⟩ ?_
    refine sW_eq (st' := ([.int (nI hs.1), .int (nI k)], [some (.ref h), some (.int (nI told)), some (.int (nI cell)), some (.int (nI k)), none, none], M)) (by simp (disch := omega) only [e3]) ?_
    refine sW_ic_ge 115 d_House_cellOf_9 (by decide) (fun c_9 => ?_) (fun c_9 => ?_)
    · skip
      simp (disch := omega) only [nI_leI] at c_9
      refine sW_go b_House_cellOf_115 (st' := ([.int (nI cell)], [some (.ref h), some (.int (nI told)), some (.int (nI cell)), some (.int (nI k)), none, none], M)) (φ := True) rfl trivial ?_
      refine sW_retI d_House_cellOf_116 rfl (vp_nar_int _) ?_
      exact ⟨by rw [hc, hke]; rfl, rfl⟩
    · skip
      simp (disch := omega) only [nI_leI] at c_9
      exact absurd c_9 (by omega)
end
section
theorem k_House_ofSort (G : mx_G) {M : mx_M} {h : Nat} {hs : Hs} (ho : mx_ocl LAY h = 3) (hA : HsAt M h hs) (hw : HsOk hs) {t : Nat} (ht : t < 6) : sOk G m_House_ofSort [.ref h, .int (nI t)] M (fun r M' => r = some (.int (nI (bsum (sortB hs t) hs.1))) ∧ M' = M) := by
  obtain ⟨e3, e4, eK⟩ := id hA
  obtain ⟨w1, w2, w3⟩ := id hw
  refine sOk_of ⟨by decide +kernel, by decide +kernel, Nat.le_of_ble_eq_true rfl⟩ ?_
  show sW G m_House_ofSort 0 ([], [some (.ref h), some (.int (nI t)), none, none], M) _
  refine sW_go b_House_ofSort_0 (st' := ([], [some (.ref h), some (.int (nI t)), some (.int (nI 0)), some (.int (nI 0))], M)) (φ := True) rfl trivial ?_
  refine mx_ind (α := Nat × Nat) (fun a => hs.1 - a.1) (fun a => a.1 ≤ hs.1 → a.2 = bsum (sortB hs t) a.1 → sW G m_House_ofSort 4 ([], [some (.ref h), some (.int (nI t)), some (.int (nI a.2)), some (.int (nI a.1))], M) _) ?_ (0, 0) (Nat.zero_le _) rfl
  rintro ⟨k, c⟩ ih hk hc
  dsimp only at ih hk hc ⊢
  by_cases hkn : k < hs.1
  · obtain ⟨x1, x2, x3⟩ := eK k hkn
    obtain ⟨y1, y2, y3⟩ := w3 k hkn
    have q3 : nI 1 <<< (nI k &&& 31) = nI (1 * 2 ^ k) := sh_l (Nat.le_refl _) (by omega)
    have hst : ∀ x, sortB hs t k = x → c ||| x * 2 ^ k = bsum (sortB hs t) (k + 1) := by
      intro x hx
      subst hx
      subst hc
      rfl
    refine sW_go b_House_ofSort_4 (st' := ([.int (M h 3), .int (nI k)], [some (.ref h), some (.int (nI t)), some (.int (nI c)), some (.int (nI k))], M)) (φ := mx_ocl LAY h = 3 ∧ True) rfl ⟨ho, trivial⟩ ?_
    refine sW_eq (st' := ([.int (nI hs.1), .int (nI k)], [some (.ref h), some (.int (nI t)), some (.int (nI c)), some (.int (nI k))], M)) (by simp (disch := omega) only [e3]) ?_
    refine sW_ic_ge 38 d_House_ofSort_9 (by decide) (fun c_9 => ?_) (fun c_9 => ?_)
    · skip
      simp (disch := omega) only [nI_leI] at c_9
      refine sW_go b_House_ofSort_38 (st' := ([.int (nI c)], [some (.ref h), some (.int (nI t)), some (.int (nI c)), some (.int (nI k))], M)) (φ := True) rfl trivial ?_
      refine sW_retI d_House_ofSort_39 rfl (vp_nar_int _) ?_
      omega
    · skip
      simp (disch := omega) only [nI_leI] at c_9
      refine sW_go b_House_ofSort_12 (st' := ([.int (nI t), .int (M (h + 1) (nI k).toNatClampNeg), .int (nI c)], [some (.ref h), some (.int (nI t)), some (.int (nI c)), some (.int (nI k))], M)) (φ := mx_ocl LAY h = 3 ∧ vp_in (nI k) (mx_len LAY false (h + 1)) ∧ True) rfl ⟨ho, (by simp (disch := omega) only [(ln_House_sorts ho)]; exact vp_in_nI (by omega) (by decide)), trivial⟩ ?_
      refine sW_eq (st' := ([.int (nI t), .int (nI (Sf hs k)), .int (nI c)], [some (.ref h), some (.int (nI t)), some (.int (nI c)), some (.int (nI k))], M)) (by simp (disch := omega) only [nI_clamp, x1]) ?_
      refine sW_ic_ne 29 d_House_ofSort_20 (by decide) (fun c_20 => ?_) (fun c_20 => ?_)
      · skip
        simp (disch := omega) only [nI_eq] at c_20
        refine sW_go b_House_ofSort_29 (st' := ([.int (nI 0), .int (nI c)], [some (.ref h), some (.int (nI t)), some (.int (nI c)), some (.int (nI k))], M)) (φ := True) rfl trivial ?_
        refine sW_go b_House_ofSort_30 (st' := ([], [some (.ref h), some (.int (nI t)), some (.int (nI c ||| nI 0)), some (.int (nI k + nI 1))], M)) (φ := True) rfl trivial ?_
        refine sW_eq (st' := ([], [some (.ref h), some (.int (nI t)), some (.int (nI (c ||| 0))), some (.int (nI (k + 1)))], M)) (by simp (disch := omega) only [nI_add, nx_or]) ?_
        refine sW_goto 4 d_House_ofSort_35 (by decide) ?_
        refine ih (k + 1, c ||| 0) (by dsimp only; omega) (by dsimp only; omega) ?_
        have := hst 0 (by unfold sortB; rw [if_neg c_20])
        simpa using this
      · skip
        simp (disch := omega) only [nI_eq] at c_20
        refine sW_go b_House_ofSort_23 (st' := ([.int (nI 1 <<< (nI k &&& 31)), .int (nI c)], [some (.ref h), some (.int (nI t)), some (.int (nI c)), some (.int (nI k))], M)) (φ := True) rfl trivial ?_
        refine sW_eq (st' := ([.int (nI (1 * 2 ^ k)), .int (nI c)], [some (.ref h), some (.int (nI t)), some (.int (nI c)), some (.int (nI k))], M)) (by simp (disch := omega) only [q3]) ?_
        refine sW_goto 30 d_House_ofSort_26 (by decide) ?_
        refine sW_go b_House_ofSort_30 (st' := ([], [some (.ref h), some (.int (nI t)), some (.int (nI c ||| nI (1 * 2 ^ k))), some (.int (nI k + nI 1))], M)) (φ := True) rfl trivial ?_
        refine sW_eq (st' := ([], [some (.ref h), some (.int (nI t)), some (.int (nI (c ||| (1 * 2 ^ k)))), some (.int (nI (k + 1)))], M)) (by simp (disch := omega) only [nI_add, nx_or]) ?_
        refine sW_goto 4 d_House_ofSort_35 (by decide) ?_
        exact ih (k + 1, _) (by dsimp only; omega) (by dsimp only; omega) (hst 1 (by unfold sortB; rw [if_pos c_20]))
  · have hke : k = hs.1 := by omega
    refine sW_go b_House_ofSort_4 (st' := ([.int (M h 3), .int (nI k)], [some (.ref h), some (.int (nI t)), some (.int (nI c)), some (.int (nI k))], M)) (φ := mx_ocl LAY h = 3 ∧ True) rfl ⟨ho, trivial⟩ ?_
    refine sW_eq (st' := ([.int (nI hs.1), .int (nI k)], [some (.ref h), some (.int (nI t)), some (.int (nI c)), some (.int (nI k))], M)) (by simp (disch := omega) only [e3]) ?_
    refine sW_ic_ge 38 d_House_ofSort_9 (by decide) (fun c_9 => ?_) (fun c_9 => ?_)
    · skip
      simp (disch := omega) only [nI_leI] at c_9
      refine sW_go b_House_ofSort_38 (st' := ([.int (nI c)], [some (.ref h), some (.int (nI t)), some (.int (nI c)), some (.int (nI k))], M)) (φ := True) rfl trivial ?_
      refine sW_retI d_House_ofSort_39 rfl (vp_nar_int _) ?_
      exact ⟨by rw [hc, hke], rfl⟩
    · skip
      simp (disch := omega) only [nI_leI] at c_9
      exact absurd c_9 (by omega)
theorem k_House_withFirstIn (G : mx_G) {M : mx_M} {h : Nat} {hs : Hs} (ho : mx_ocl LAY h = 3) (hA : HsAt M h hs) (hw : HsOk hs) {t x : Nat} (ht : t < 6) (hx : x < 256) : sOk G m_House_withFirstIn [.ref h, .int (nI t), .int (nI x)] M (fun r M' => r = some (.int (nI (bsum (lftB hs t x) hs.1))) ∧ M' = M) := by
  obtain ⟨e3, e4, eK⟩ := id hA
  obtain ⟨w1, w2, w3⟩ := id hw
  refine sOk_of ⟨by decide +kernel, by decide +kernel, Nat.le_of_ble_eq_true rfl⟩ ?_
  show sW G m_House_withFirstIn 0 ([], [some (.ref h), some (.int (nI t)), some (.int (nI x)), none, none], M) _
  refine sW_go b_House_withFirstIn_0 (st' := ([], [some (.ref h), some (.int (nI t)), some (.int (nI x)), some (.int (nI 0)), some (.int (nI 0))], M)) (φ := True) rfl trivial ?_
  refine mx_ind (α := Nat × Nat) (fun a => hs.1 - a.1) (fun a => a.1 ≤ hs.1 → a.2 = bsum (lftB hs t x) a.1 → sW G m_House_withFirstIn 5 ([], [some (.ref h), some (.int (nI t)), some (.int (nI x)), some (.int (nI a.2)), some (.int (nI a.1))], M) _) ?_ (0, 0) (Nat.zero_le _) rfl
  rintro ⟨k, c⟩ ih hk hc
  dsimp only at ih hk hc ⊢
  by_cases hkn : k < hs.1
  · obtain ⟨x1, x2, x3⟩ := eK k hkn
    obtain ⟨y1, y2, y3⟩ := w3 k hkn
    have p1 : (nI x >>> (nI (Af hs k) &&& 31)) &&& nI 1 = nI (bt x (Af hs k)) := sh_b (by omega) (by omega)
    have q3 : nI (bt x (Af hs k)) <<< (nI k &&& 31) = nI (bt x (Af hs k) * 2 ^ k) := sh_l (bt_le _ _) (by omega)
    have hst : ∀ z, lftB hs t x k = z → c ||| z * 2 ^ k = bsum (lftB hs t x) (k + 1) := by
      intro z hz
      subst hz
      subst hc
      rfl
    refine sW_go b_House_withFirstIn_5 (st' := ([.int (M h 3), .int (nI k)], [some (.ref h), some (.int (nI t)), some (.int (nI x)), some (.int (nI c)), some (.int (nI k))], M)) (φ := mx_ocl LAY h = 3 ∧ True) rfl ⟨ho, trivial⟩ ?_
    refine sW_eq (st' := ([.int (nI hs.1), .int (nI k)], [some (.ref h), some (.int (nI t)), some (.int (nI x)), some (.int (nI c)), some (.int (nI k))], M)) (by simp (disch := omega) only [e3]) ?_
    refine sW_ic_ge 52 d_House_withFirstIn_11 (by decide) (fun c_11 => ?_) (fun c_11 => ?_)
    · skip
      simp (disch := omega) only [nI_leI] at c_11
      refine sW_go b_House_withFirstIn_52 (st' := ([.int (nI c)], [some (.ref h), some (.int (nI t)), some (.int (nI x)), some (.int (nI c)), some (.int (nI k))], M)) (φ := True) rfl trivial ?_
      refine sW_retI d_House_withFirstIn_53 rfl (vp_nar_int _) ?_
      omega
    · skip
      simp (disch := omega) only [nI_leI] at c_11
      refine sW_go b_House_withFirstIn_14 (st' := ([.int (nI t), .int (M (h + 1) (nI k).toNatClampNeg), .int (nI c)], [some (.ref h), some (.int (nI t)), some (.int (nI x)), some (.int (nI c)), some (.int (nI k))], M)) (φ := mx_ocl LAY h = 3 ∧ vp_in (nI k) (mx_len LAY false (h + 1)) ∧ True) rfl ⟨ho, (by simp (disch := omega) only [(ln_House_sorts ho)]; exact vp_in_nI (by omega) (by decide)), trivial⟩ ?_
      refine sW_eq (st' := ([.int (nI t), .int (nI (Sf hs k)), .int (nI c)], [some (.ref h), some (.int (nI t)), some (.int (nI x)), some (.int (nI c)), some (.int (nI k))], M)) (by simp (disch := omega) only [nI_clamp, x1]) ?_
      refine sW_ic_ne 43 d_House_withFirstIn_23 (by decide) (fun c_23 => ?_) (fun c_23 => ?_)
      · skip
        simp (disch := omega) only [nI_eq] at c_23
        refine sW_go b_House_withFirstIn_43 (st' := ([.int (nI 0), .int (nI c)], [some (.ref h), some (.int (nI t)), some (.int (nI x)), some (.int (nI c)), some (.int (nI k))], M)) (φ := True) rfl trivial ?_
        refine sW_go b_House_withFirstIn_44 (st' := ([], [some (.ref h), some (.int (nI t)), some (.int (nI x)), some (.int (nI c ||| nI 0)), some (.int (nI k + nI 1))], M)) (φ := True) rfl trivial ?_
        refine sW_eq (st' := ([], [some (.ref h), some (.int (nI t)), some (.int (nI x)), some (.int (nI (c ||| 0))), some (.int (nI (k + 1)))], M)) (by simp (disch := omega) only [nI_add, nx_or]) ?_
        refine sW_goto 5 d_House_withFirstIn_49 (by decide) ?_
        refine ih (k + 1, c ||| 0) (by dsimp only; omega) (by dsimp only; omega) ?_
        have := hst 0 (by unfold lftB; rw [if_neg c_23])
        simpa using this
      · skip
        simp (disch := omega) only [nI_eq] at c_23
        refine sW_go b_House_withFirstIn_26 (st' := ([.int (((nI x >>> (M (h + 2) (nI k).toNatClampNeg &&& 31)) &&& nI 1) <<< (nI k &&& 31)), .int (nI c)], [some (.ref h), some (.int (nI t)), some (.int (nI x)), some (.int (nI c)), some (.int (nI k))], M)) (φ := mx_ocl LAY h = 3 ∧ vp_in (nI k) (mx_len LAY false (h + 2)) ∧ True) rfl ⟨ho, (by simp (disch := omega) only [(ln_House_firsts ho)]; exact vp_in_nI (by omega) (by decide)), trivial⟩ ?_
        refine sW_eq (st' := ([.int (nI (bt x (Af hs k) * 2 ^ k)), .int (nI c)], [some (.ref h), some (.int (nI t)), some (.int (nI x)), some (.int (nI c)), some (.int (nI k))], M)) (by simp (disch := omega) only [nI_clamp, p1, q3, x2]) ?_
        refine sW_goto 44 d_House_withFirstIn_40 (by decide) ?_
        refine sW_go b_House_withFirstIn_44 (st' := ([], [some (.ref h), some (.int (nI t)), some (.int (nI x)), some (.int (nI c ||| nI (bt x (Af hs k) * 2 ^ k))), some (.int (nI k + nI 1))], M)) (φ := True) rfl trivial ?_
        refine sW_eq (st' := ([], [some (.ref h), some (.int (nI t)), some (.int (nI x)), some (.int (nI (c ||| (bt x (Af hs k) * 2 ^ k)))), some (.int (nI (k + 1)))], M)) (by simp (disch := omega) only [nI_add, nx_or]) ?_
        refine sW_goto 5 d_House_withFirstIn_49 (by decide) ?_
        exact ih (k + 1, _) (by dsimp only; omega) (by dsimp only; omega) (hst _ (by unfold lftB; rw [if_pos c_23]))
  · have hke : k = hs.1 := by omega
    refine sW_go b_House_withFirstIn_5 (st' := ([.int (M h 3), .int (nI k)], [some (.ref h), some (.int (nI t)), some (.int (nI x)), some (.int (nI c)), some (.int (nI k))], M)) (φ := mx_ocl LAY h = 3 ∧ True) rfl ⟨ho, trivial⟩ ?_
    refine sW_eq (st' := ([.int (nI hs.1), .int (nI k)], [some (.ref h), some (.int (nI t)), some (.int (nI x)), some (.int (nI c)), some (.int (nI k))], M)) (by simp (disch := omega) only [e3]) ?_
    refine sW_ic_ge 52 d_House_withFirstIn_11 (by decide) (fun c_11 => ?_) (fun c_11 => ?_)
    · skip
      simp (disch := omega) only [nI_leI] at c_11
      refine sW_go b_House_withFirstIn_52 (st' := ([.int (nI c)], [some (.ref h), some (.int (nI t)), some (.int (nI x)), some (.int (nI c)), some (.int (nI k))], M)) (φ := True) rfl trivial ?_
      refine sW_retI d_House_withFirstIn_53 rfl (vp_nar_int _) ?_
      exact ⟨by rw [hc, hke], rfl⟩
    · skip
      simp (disch := omega) only [nI_leI] at c_11
      exact absurd c_11 (by omega)
theorem k_House_withSecondIn (G : mx_G) {M : mx_M} {h : Nat} {hs : Hs} (ho : mx_ocl LAY h = 3) (hA : HsAt M h hs) (hw : HsOk hs) {t x : Nat} (ht : t < 6) (hx : x < 256) : sOk G m_House_withSecondIn [.ref h, .int (nI t), .int (nI x)] M (fun r M' => r = some (.int (nI (bsum (rgtB hs t x) hs.1))) ∧ M' = M) := by
  obtain ⟨e3, e4, eK⟩ := id hA
  obtain ⟨w1, w2, w3⟩ := id hw
  refine sOk_of ⟨by decide +kernel, by decide +kernel, Nat.le_of_ble_eq_true rfl⟩ ?_
  show sW G m_House_withSecondIn 0 ([], [some (.ref h), some (.int (nI t)), some (.int (nI x)), none, none], M) _
  refine sW_go b_House_withSecondIn_0 (st' := ([], [some (.ref h), some (.int (nI t)), some (.int (nI x)), some (.int (nI 0)), some (.int (nI 0))], M)) (φ := True) rfl trivial ?_
  refine mx_ind (α := Nat × Nat) (fun a => hs.1 - a.1) (fun a => a.1 ≤ hs.1 → a.2 = bsum (rgtB hs t x) a.1 → sW G m_House_withSecondIn 5 ([], [some (.ref h), some (.int (nI t)), some (.int (nI x)), some (.int (nI a.2)), some (.int (nI a.1))], M) _) ?_ (0, 0) (Nat.zero_le _) rfl
  rintro ⟨k, c⟩ ih hk hc
  dsimp only at ih hk hc ⊢
  by_cases hkn : k < hs.1
  · obtain ⟨x1, x2, x3⟩ := eK k hkn
    obtain ⟨y1, y2, y3⟩ := w3 k hkn
    have p1 : (nI x >>> (nI (Bf hs k) &&& 31)) &&& nI 1 = nI (bt x (Bf hs k)) := sh_b (by omega) (by omega)
    have q3 : nI (bt x (Bf hs k)) <<< (nI k &&& 31) = nI (bt x (Bf hs k) * 2 ^ k) := sh_l (bt_le _ _) (by omega)
    have hst : ∀ z, rgtB hs t x k = z → c ||| z * 2 ^ k = bsum (rgtB hs t x) (k + 1) := by
      intro z hz
      subst hz
      subst hc
      rfl
    refine sW_go b_House_withSecondIn_5 (st' := ([.int (M h 3), .int (nI k)], [some (.ref h), some (.int (nI t)), some (.int (nI x)), some (.int (nI c)), some (.int (nI k))], M)) (φ := mx_ocl LAY h = 3 ∧ True) rfl ⟨ho, trivial⟩ ?_
    refine sW_eq (st' := ([.int (nI hs.1), .int (nI k)], [some (.ref h), some (.int (nI t)), some (.int (nI x)), some (.int (nI c)), some (.int (nI k))], M)) (by simp (disch := omega) only [e3]) ?_
    refine sW_ic_ge 52 d_House_withSecondIn_11 (by decide) (fun c_11 => ?_) (fun c_11 => ?_)
    · skip
      simp (disch := omega) only [nI_leI] at c_11
      refine sW_go b_House_withSecondIn_52 (st' := ([.int (nI c)], [some (.ref h), some (.int (nI t)), some (.int (nI x)), some (.int (nI c)), some (.int (nI k))], M)) (φ := True) rfl trivial ?_
      refine sW_retI d_House_withSecondIn_53 rfl (vp_nar_int _) ?_
      omega
    · skip
      simp (disch := omega) only [nI_leI] at c_11
      refine sW_go b_House_withSecondIn_14 (st' := ([.int (nI t), .int (M (h + 1) (nI k).toNatClampNeg), .int (nI c)], [some (.ref h), some (.int (nI t)), some (.int (nI x)), some (.int (nI c)), some (.int (nI k))], M)) (φ := mx_ocl LAY h = 3 ∧ vp_in (nI k) (mx_len LAY false (h + 1)) ∧ True) rfl ⟨ho, (by simp (disch := omega) only [(ln_House_sorts ho)]; exact vp_in_nI (by omega) (by decide)), trivial⟩ ?_
      refine sW_eq (st' := ([.int (nI t), .int (nI (Sf hs k)), .int (nI c)], [some (.ref h), some (.int (nI t)), some (.int (nI x)), some (.int (nI c)), some (.int (nI k))], M)) (by simp (disch := omega) only [nI_clamp, x1]) ?_
      refine sW_ic_ne 43 d_House_withSecondIn_23 (by decide) (fun c_23 => ?_) (fun c_23 => ?_)
      · skip
        simp (disch := omega) only [nI_eq] at c_23
        refine sW_go b_House_withSecondIn_43 (st' := ([.int (nI 0), .int (nI c)], [some (.ref h), some (.int (nI t)), some (.int (nI x)), some (.int (nI c)), some (.int (nI k))], M)) (φ := True) rfl trivial ?_
        refine sW_go b_House_withSecondIn_44 (st' := ([], [some (.ref h), some (.int (nI t)), some (.int (nI x)), some (.int (nI c ||| nI 0)), some (.int (nI k + nI 1))], M)) (φ := True) rfl trivial ?_
        refine sW_eq (st' := ([], [some (.ref h), some (.int (nI t)), some (.int (nI x)), some (.int (nI (c ||| 0))), some (.int (nI (k + 1)))], M)) (by simp (disch := omega) only [nI_add, nx_or]) ?_
        refine sW_goto 5 d_House_withSecondIn_49 (by decide) ?_
        refine ih (k + 1, c ||| 0) (by dsimp only; omega) (by dsimp only; omega) ?_
        have := hst 0 (by unfold rgtB; rw [if_neg c_23])
        simpa using this
      · skip
        simp (disch := omega) only [nI_eq] at c_23
        refine sW_go b_House_withSecondIn_26 (st' := ([.int (((nI x >>> (M (h + 3) (nI k).toNatClampNeg &&& 31)) &&& nI 1) <<< (nI k &&& 31)), .int (nI c)], [some (.ref h), some (.int (nI t)), some (.int (nI x)), some (.int (nI c)), some (.int (nI k))], M)) (φ := mx_ocl LAY h = 3 ∧ vp_in (nI k) (mx_len LAY false (h + 3)) ∧ True) rfl ⟨ho, (by simp (disch := omega) only [(ln_House_seconds ho)]; exact vp_in_nI (by omega) (by decide)), trivial⟩ ?_
        refine sW_eq (st' := ([.int (nI (bt x (Bf hs k) * 2 ^ k)), .int (nI c)], [some (.ref h), some (.int (nI t)), some (.int (nI x)), some (.int (nI c)), some (.int (nI k))], M)) (by simp (disch := omega) only [nI_clamp, p1, q3, x3]) ?_
        refine sW_goto 44 d_House_withSecondIn_40 (by decide) ?_
        refine sW_go b_House_withSecondIn_44 (st' := ([], [some (.ref h), some (.int (nI t)), some (.int (nI x)), some (.int (nI c ||| nI (bt x (Bf hs k) * 2 ^ k))), some (.int (nI k + nI 1))], M)) (φ := True) rfl trivial ?_
        refine sW_eq (st' := ([], [some (.ref h), some (.int (nI t)), some (.int (nI x)), some (.int (nI (c ||| (bt x (Bf hs k) * 2 ^ k)))), some (.int (nI (k + 1)))], M)) (by simp (disch := omega) only [nI_add, nx_or]) ?_
        refine sW_goto 5 d_House_withSecondIn_49 (by decide) ?_
        exact ih (k + 1, _) (by dsimp only; omega) (by dsimp only; omega) (hst _ (by unfold rgtB; rw [if_pos c_23]))
  · have hke : k = hs.1 := by omega
    refine sW_go b_House_withSecondIn_5 (st' := ([.int (M h 3), .int (nI k)], [some (.ref h), some (.int (nI t)), some (.int (nI x)), some (.int (nI c)), some (.int (nI k))], M)) (φ := mx_ocl LAY h = 3 ∧ True) rfl ⟨ho, trivial⟩ ?_
    refine sW_eq (st' := ([.int (nI hs.1), .int (nI k)], [some (.ref h), some (.int (nI t)), some (.int (nI x)), some (.int (nI c)), some (.int (nI k))], M)) (by simp (disch := omega) only [e3]) ?_
    refine sW_ic_ge 52 d_House_withSecondIn_11 (by decide) (fun c_11 => ?_) (fun c_11 => ?_)
    · skip
      simp (disch := omega) only [nI_leI] at c_11
      refine sW_go b_House_withSecondIn_52 (st' := ([.int (nI c)], [some (.ref h), some (.int (nI t)), some (.int (nI x)), some (.int (nI c)), some (.int (nI k))], M)) (φ := True) rfl trivial ?_
      refine sW_retI d_House_withSecondIn_53 rfl (vp_nar_int _) ?_
      exact ⟨by rw [hc, hke], rfl⟩
    · skip
      simp (disch := omega) only [nI_leI] at c_11
      exact absurd c_11 (by omega)
theorem k_House_cellOfConstant (G : mx_G) {M : mx_M} {h : Nat} {hs : Hs} (ho : mx_ocl LAY h = 3) (hA : HsAt M h hs) (hw : HsOk hs) {x : Nat} (hx : x < 4) : sOk G m_House_cellOfConstant [.ref h, .int (nI x)] M (fun r M' => r = some (.int (nI (constCell hs x))) ∧ M' = M) := by
  obtain ⟨e3, e4, eK⟩ := id hA
  obtain ⟨w1, w2, w3⟩ := id hw
  refine sOk_of ⟨by decide +kernel, by decide +kernel, Nat.le_of_ble_eq_true rfl⟩ ?_
  show sW G m_House_cellOfConstant 0 ([], [some (.ref h), some (.int (nI x)), none, none], M) _
  refine sW_go b_House_cellOfConstant_0 (st' := ([], [some (.ref h), some (.int (nI x)), some (.int (nI 0)), some (.int (nI 0))], M)) (φ := True) rfl trivial ?_
  refine mx_ind (α := Nat × Nat) (fun a => hs.1 - a.1) (fun a => a.1 ≤ hs.1 → a.2 = bsum (spanB hs x) a.1 → sW G m_House_cellOfConstant 4 ([], [some (.ref h), some (.int (nI x)), some (.int (nI a.2)), some (.int (nI a.1))], M) _) ?_ (0, 0) (Nat.zero_le _) rfl
  rintro ⟨k, c⟩ ih hk hc
  dsimp only at ih hk hc ⊢
  by_cases hkn : k < hs.1
  · obtain ⟨x1, x2, x3⟩ := eK k hkn
    obtain ⟨y1, y2, y3⟩ := w3 k hkn
    have q3 : nI 1 <<< (nI k &&& 31) = nI (1 * 2 ^ k) := sh_l (Nat.le_refl _) (by omega)
    have hst : ∀ z, spanB hs x k = z → c ||| z * 2 ^ k = bsum (spanB hs x) (k + 1) := by
      intro z hz
      subst hz
      subst hc
      rfl
    have hs0 : spanB hs x k = 0 → c = bsum (spanB hs x) (k + 1) := fun q => by
      have := hst 0 q
      simpa using this
    refine sW_go b_House_cellOfConstant_4 (st' := ([.int (M h 3), .int (nI k)], [some (.ref h), some (.int (nI x)), some (.int (nI c)), some (.int (nI k))], M)) (φ := mx_ocl LAY h = 3 ∧ True) rfl ⟨ho, trivial⟩ ?_
    refine sW_eq (st' := ([.int (nI hs.1), .int (nI k)], [some (.ref h), some (.int (nI x)), some (.int (nI c)), some (.int (nI k))], M)) (by simp (disch := omega) only [e3]) ?_
    refine sW_ic_ge 53 d_House_cellOfConstant_9 (by decide) (fun c_9 => ?_) (fun c_9 => ?_)
    · skip
      simp (disch := omega) only [nI_leI] at c_9
      omega
    · skip
      simp (disch := omega) only [nI_leI] at c_9
      refine sW_go b_House_cellOfConstant_12 (st' := ([.int (M (h + 1) (nI k).toNatClampNeg)], [some (.ref h), some (.int (nI x)), some (.int (nI c)), some (.int (nI k))], M)) (φ := mx_ocl LAY h = 3 ∧ vp_in (nI k) (mx_len LAY false (h + 1)) ∧ True) rfl ⟨ho, (by simp (disch := omega) only [(ln_House_sorts ho)]; exact vp_in_nI (by omega) (by decide)), trivial⟩ ?_
      refine sW_eq (st' := ([.int (nI (Sf hs k))], [some (.ref h), some (.int (nI x)), some (.int (nI c)), some (.int (nI k))], M)) (by simp (disch := omega) only [nI_clamp, x1]) ?_
      refine sW_if_ne 47 d_House_cellOfConstant_18 (by decide) (fun c_18 => ?_) (fun c_18 => ?_)
      · skip
        simp (disch := omega) only [nI_z] at c_18
        refine sW_go b_House_cellOfConstant_47 (st' := ([], [some (.ref h), some (.int (nI x)), some (.int (nI c)), some (.int (nI k + nI 1))], M)) (φ := True) rfl trivial ?_
        refine sW_eq (st' := ([], [some (.ref h), some (.int (nI x)), some (.int (nI c)), some (.int (nI (k + 1)))], M)) (by simp (disch := omega) only [nI_add]) ?_
        refine sW_goto 4 d_House_cellOfConstant_50 (by decide) ?_
        exact ih (k + 1, c) (by dsimp only; omega) (by dsimp only; omega) (hs0 (by unfold spanB; rw [if_neg (fun q => c_18 q.1)]))
      · skip
        simp (disch := omega) only [nI_z] at c_18
        refine sW_go b_House_cellOfConstant_21 (st' := ([.int (nI x), .int (M (h + 2) (nI k).toNatClampNeg)], [some (.ref h), some (.int (nI x)), some (.int (nI c)), some (.int (nI k))], M)) (φ := mx_ocl LAY h = 3 ∧ vp_in (nI k) (mx_len LAY false (h + 2)) ∧ True) rfl ⟨ho, (by simp (disch := omega) only [(ln_House_firsts ho)]; exact vp_in_nI (by omega) (by decide)), trivial⟩ ?_
        refine sW_eq (st' := ([.int (nI x), .int (nI (Af hs k))], [some (.ref h), some (.int (nI x)), some (.int (nI c)), some (.int (nI k))], M)) (by simp (disch := omega) only [nI_clamp, x2]) ?_
        refine sW_ic_gt 47 d_House_cellOfConstant_28 (by decide) (fun c_28 => ?_) (fun c_28 => ?_)
        · skip
          simp (disch := omega) only [nI_ltI] at c_28
          refine sW_go b_House_cellOfConstant_47 (st' := ([], [some (.ref h), some (.int (nI x)), some (.int (nI c)), some (.int (nI k + nI 1))], M)) (φ := True) rfl trivial ?_
          refine sW_eq (st' := ([], [some (.ref h), some (.int (nI x)), some (.int (nI c)), some (.int (nI (k + 1)))], M)) (by simp (disch := omega) only [nI_add]) ?_
          refine sW_goto 4 d_House_cellOfConstant_50 (by decide) ?_
          exact ih (k + 1, c) (by dsimp only; omega) (by dsimp only; omega) (hs0 (by unfold spanB; rw [if_neg (by omega)]))
        · skip
          simp (disch := omega) only [nI_ltI] at c_28
          refine sW_go b_House_cellOfConstant_31 (st' := ([.int (M (h + 3) (nI k).toNatClampNeg), .int (nI x)], [some (.ref h), some (.int (nI x)), some (.int (nI c)), some (.int (nI k))], M)) (φ := mx_ocl LAY h = 3 ∧ vp_in (nI k) (mx_len LAY false (h + 3)) ∧ True) rfl ⟨ho, (by simp (disch := omega) only [(ln_House_seconds ho)]; exact vp_in_nI (by omega) (by decide)), trivial⟩ ?_
          refine sW_eq (st' := ([.int (nI (Bf hs k)), .int (nI x)], [some (.ref h), some (.int (nI x)), some (.int (nI c)), some (.int (nI k))], M)) (by simp (disch := omega) only [nI_clamp, x3]) ?_
          refine sW_ic_gt 47 d_House_cellOfConstant_38 (by decide) (fun c_38 => ?_) (fun c_38 => ?_)
          · skip
            simp (disch := omega) only [nI_ltI] at c_38
            refine sW_go b_House_cellOfConstant_47 (st' := ([], [some (.ref h), some (.int (nI x)), some (.int (nI c)), some (.int (nI k + nI 1))], M)) (φ := True) rfl trivial ?_
            refine sW_eq (st' := ([], [some (.ref h), some (.int (nI x)), some (.int (nI c)), some (.int (nI (k + 1)))], M)) (by simp (disch := omega) only [nI_add]) ?_
            refine sW_goto 4 d_House_cellOfConstant_50 (by decide) ?_
            exact ih (k + 1, c) (by dsimp only; omega) (by dsimp only; omega) (hs0 (by unfold spanB; rw [if_neg (by omega)]))
          · skip
            simp (disch := omega) only [nI_ltI] at c_38
            refine sW_go b_House_cellOfConstant_41 (st' := ([], [some (.ref h), some (.int (nI x)), some (.int (nI c ||| (nI 1 <<< (nI k &&& 31)))), some (.int (nI k))], M)) (φ := True) rfl trivial ?_
            refine sW_eq (st' := ([], [some (.ref h), some (.int (nI x)), some (.int (nI (c ||| (1 * 2 ^ k)))), some (.int (nI k))], M)) (by simp (disch := omega) only [nx_or, q3]) ?_
            refine sW_go b_House_cellOfConstant_47 (st' := ([], [some (.ref h), some (.int (nI x)), some (.int (nI (c ||| (1 * 2 ^ k)))), some (.int (nI k + nI 1))], M)) (φ := True) rfl trivial ?_
            refine sW_eq (st' := ([], [some (.ref h), some (.int (nI x)), some (.int (nI (c ||| (1 * 2 ^ k)))), some (.int (nI (k + 1)))], M)) (by simp (disch := omega) only [nI_add]) ?_
            refine sW_goto 4 d_House_cellOfConstant_50 (by decide) ?_
            exact ih (k + 1, _) (by dsimp only; omega) (by dsimp only; omega) (hst 1 (by unfold spanB; rw [if_pos (by omega)]))
  · have hke : k = hs.1 := by omega
    subst hke
    subst hc
    refine sW_go b_House_cellOfConstant_4 (st' := ([.int (M h 3), .int (nI hs.1)], [some (.ref h), some (.int (nI x)), some (.int (nI (bsum (spanB hs x) hs.1))), some (.int (nI hs.1))], M)) (φ := mx_ocl LAY h = 3 ∧ True) rfl ⟨ho, trivial⟩ ?_
    refine sW_eq (st' := ([.int (nI hs.1), .int (nI hs.1)], [some (.ref h), some (.int (nI x)), some (.int (nI (bsum (spanB hs x) hs.1))), some (.int (nI hs.1))], M)) (by simp (disch := omega) only [e3]) ?_
    refine sW_ic_ge 53 d_House_cellOfConstant_9 (by decide) (fun c_9 => ?_) (fun c_9 => ?_)
    · skip
      simp (disch := omega) only [nI_leI] at c_9
      refine sW_go b_House_cellOfConstant_53 (st' := ([.int (nI (bsum (spanB hs x) hs.1)), .ref h], [some (.ref h), some (.int (nI x)), some (.int (nI (bsum (spanB hs x) hs.1))), some (.int (nI hs.1))], M)) (φ := True) rfl trivial ?_
      refine sW_callV 3 [.int (nI (bsum (spanB hs x) hs.1))] [] d_House_cellOfConstant_55 c_House_cellOfConstant_55 ⟨rfl, rfl, rfl, Nat.le_of_ble_eq_true rfl, rfl, rfl⟩ ho (k_House_cellOf G ho hA hw (bsum_lt8 (spanB_le hs x) w1)) ?_
      rintro _ M₁ ⟨rfl, h₁⟩
      rw [h₁]
      show sW G m_House_cellOfConstant 58 ([.int (nI (constCell hs x))], [some (.ref h), some (.int (nI x)), some (.int (nI (bsum (spanB hs x) hs.1))), some (.int (nI hs.1))], M) _
      refine sW_retI d_House_cellOfConstant_58 rfl (vp_nar_int _) ?_
      exact ⟨rfl, rfl⟩
    · skip
      simp (disch := omega) only [nI_leI] at c_9
      exact absurd c_9 (by omega)
end
section
theorem k_may29 (G : mx_G) {M : mx_M} {h n j : Nat} (ho : mx_ocl LAY h = 3) (hn : M h 3 = nI n) (h8 : n ≤ 8) {s a b : Int32} (hj : j < n) (c9 : ¬ s < 0) (c15 : ¬ nI 6 ≤ s) (c19 : ¬ a < 0) (c24 : 0 ≤ b) : sW G m_House_mayStand 29 ([], [some (.ref h), some (.int (nI j)), some (.int s), some (.int a), some (.int b), none], M) (fun r M' => r = some (.int (tf (mayP n (nI j) s a b))) ∧ M' = M) := by
  refine sW_go b_House_mayStand_29 (st' := ([.int s], [some (.ref h), some (.int (nI j)), some (.int s), some (.int a), some (.int b), none], M)) (φ := True) rfl trivial ?_
  refine sW_if_ne 51 d_House_mayStand_30 (by decide) (fun c_30 => ?_) (fun c_30 => ?_)
  · skip
    refine sW_go b_House_mayStand_51 (st' := ([.int (nI 1), .int s], [some (.ref h), some (.int (nI j)), some (.int s), some (.int a), some (.int b), none], M)) (φ := True) rfl trivial ?_
    refine sW_ic_eq 61 d_House_mayStand_53 (by decide) (fun c_53 => ?_) (fun c_53 => ?_)
    · skip
      refine sW_go b_House_mayStand_61 (st' := ([.int (M h 3 - nI 1)], [some (.ref h), some (.int (nI j)), some (.int s), some (.int a), some (.int b), none], M)) (φ := mx_ocl LAY h = 3 ∧ True) rfl ⟨ho, trivial⟩ ?_
      refine sW_eq (st' := ([.int (nI n - nI 1)], [some (.ref h), some (.int (nI j)), some (.int s), some (.int a), some (.int b), none], M)) (by simp (disch := omega) only [hn]) ?_
      refine sW_goto 73 d_House_mayStand_67 (by decide) ?_
      refine sW_go b_House_mayStand_73 (st' := ([.int (nI n - nI 1), .int a], [some (.ref h), some (.int (nI j)), some (.int s), some (.int a), some (.int b), some (.int (nI n - nI 1))], M)) (φ := True) rfl trivial ?_
      refine sW_ic_gt 92 d_House_mayStand_78 (by decide) (fun c_78 => ?_) (fun c_78 => ?_)
      · skip
        refine sW_go b_House_mayStand_92 (st' := ([.int (nI 0)], [some (.ref h), some (.int (nI j)), some (.int s), some (.int a), some (.int b), some (.int (nI n - nI 1))], M)) (φ := True) rfl trivial ?_
        refine sW_retI d_House_mayStand_93 rfl nb_0 ?_
        first | exact ⟨by rw [tf_f]; unfold mayP mayZ; (simp (disch := omega) only [vp_in_iff, Int32.lt_iff_toInt_lt, Int32.le_iff_toInt_le, ← Int32.toInt_inj, Int32.toInt_zero, nI_toInt, pk_sub_toInt] at *; omega), rfl⟩ | exact ⟨by rw [tf_t]; unfold mayP mayZ; (simp (disch := omega) only [vp_in_iff, Int32.lt_iff_toInt_lt, Int32.le_iff_toInt_le, ← Int32.toInt_inj, Int32.toInt_zero, nI_toInt, pk_sub_toInt] at *; omega), rfl⟩
      · skip
        refine sW_go b_House_mayStand_81 (st' := ([.int (nI n - nI 1), .int b], [some (.ref h), some (.int (nI j)), some (.int s), some (.int a), some (.int b), some (.int (nI n - nI 1))], M)) (φ := True) rfl trivial ?_
        refine sW_ic_gt 92 d_House_mayStand_85 (by decide) (fun c_85 => ?_) (fun c_85 => ?_)
        · skip
          refine sW_go b_House_mayStand_92 (st' := ([.int (nI 0)], [some (.ref h), some (.int (nI j)), some (.int s), some (.int a), some (.int b), some (.int (nI n - nI 1))], M)) (φ := True) rfl trivial ?_
          refine sW_retI d_House_mayStand_93 rfl nb_0 ?_
          first | exact ⟨by rw [tf_f]; unfold mayP mayZ; (simp (disch := omega) only [vp_in_iff, Int32.lt_iff_toInt_lt, Int32.le_iff_toInt_le, ← Int32.toInt_inj, Int32.toInt_zero, nI_toInt, pk_sub_toInt] at *; omega), rfl⟩ | exact ⟨by rw [tf_t]; unfold mayP mayZ; (simp (disch := omega) only [vp_in_iff, Int32.lt_iff_toInt_lt, Int32.le_iff_toInt_le, ← Int32.toInt_inj, Int32.toInt_zero, nI_toInt, pk_sub_toInt] at *; omega), rfl⟩
        · skip
          refine sW_go b_House_mayStand_88 (st' := ([.int (nI 1)], [some (.ref h), some (.int (nI j)), some (.int s), some (.int a), some (.int b), some (.int (nI n - nI 1))], M)) (φ := True) rfl trivial ?_
          refine sW_goto 93 d_House_mayStand_89 (by decide) ?_
          refine sW_retI d_House_mayStand_93 rfl nb_1 ?_
          first | exact ⟨by rw [tf_f]; unfold mayP mayZ; (simp (disch := omega) only [vp_in_iff, Int32.lt_iff_toInt_lt, Int32.le_iff_toInt_le, ← Int32.toInt_inj, Int32.toInt_zero, nI_toInt, pk_sub_toInt] at *; omega), rfl⟩ | exact ⟨by rw [tf_t]; unfold mayP mayZ; (simp (disch := omega) only [vp_in_iff, Int32.lt_iff_toInt_lt, Int32.le_iff_toInt_le, ← Int32.toInt_inj, Int32.toInt_zero, nI_toInt, pk_sub_toInt] at *; omega), rfl⟩
    · skip
      refine sW_go b_House_mayStand_56 (st' := ([.int (nI 2), .int s], [some (.ref h), some (.int (nI j)), some (.int s), some (.int a), some (.int b), none], M)) (φ := True) rfl trivial ?_
      refine sW_ic_ne 70 d_House_mayStand_58 (by decide) (fun c_58 => ?_) (fun c_58 => ?_)
      · skip
        refine sW_go b_House_mayStand_70 (st' := ([.int (nI j - nI 1)], [some (.ref h), some (.int (nI j)), some (.int s), some (.int a), some (.int b), none], M)) (φ := True) rfl trivial ?_
        refine sW_go b_House_mayStand_73 (st' := ([.int (nI j - nI 1), .int a], [some (.ref h), some (.int (nI j)), some (.int s), some (.int a), some (.int b), some (.int (nI j - nI 1))], M)) (φ := True) rfl trivial ?_
        refine sW_ic_gt 92 d_House_mayStand_78 (by decide) (fun c_78 => ?_) (fun c_78 => ?_)
        · skip
          refine sW_go b_House_mayStand_92 (st' := ([.int (nI 0)], [some (.ref h), some (.int (nI j)), some (.int s), some (.int a), some (.int b), some (.int (nI j - nI 1))], M)) (φ := True) rfl trivial ?_
          refine sW_retI d_House_mayStand_93 rfl nb_0 ?_
          first | exact ⟨by rw [tf_f]; unfold mayP mayZ; (simp (disch := omega) only [vp_in_iff, Int32.lt_iff_toInt_lt, Int32.le_iff_toInt_le, ← Int32.toInt_inj, Int32.toInt_zero, nI_toInt, pk_sub_toInt] at *; omega), rfl⟩ | exact ⟨by rw [tf_t]; unfold mayP mayZ; (simp (disch := omega) only [vp_in_iff, Int32.lt_iff_toInt_lt, Int32.le_iff_toInt_le, ← Int32.toInt_inj, Int32.toInt_zero, nI_toInt, pk_sub_toInt] at *; omega), rfl⟩
        · skip
          refine sW_go b_House_mayStand_81 (st' := ([.int (nI j - nI 1), .int b], [some (.ref h), some (.int (nI j)), some (.int s), some (.int a), some (.int b), some (.int (nI j - nI 1))], M)) (φ := True) rfl trivial ?_
          refine sW_ic_gt 92 d_House_mayStand_85 (by decide) (fun c_85 => ?_) (fun c_85 => ?_)
          · skip
            refine sW_go b_House_mayStand_92 (st' := ([.int (nI 0)], [some (.ref h), some (.int (nI j)), some (.int s), some (.int a), some (.int b), some (.int (nI j - nI 1))], M)) (φ := True) rfl trivial ?_
            refine sW_retI d_House_mayStand_93 rfl nb_0 ?_
            first | exact ⟨by rw [tf_f]; unfold mayP mayZ; (simp (disch := omega) only [vp_in_iff, Int32.lt_iff_toInt_lt, Int32.le_iff_toInt_le, ← Int32.toInt_inj, Int32.toInt_zero, nI_toInt, pk_sub_toInt] at *; omega), rfl⟩ | exact ⟨by rw [tf_t]; unfold mayP mayZ; (simp (disch := omega) only [vp_in_iff, Int32.lt_iff_toInt_lt, Int32.le_iff_toInt_le, ← Int32.toInt_inj, Int32.toInt_zero, nI_toInt, pk_sub_toInt] at *; omega), rfl⟩
          · skip
            refine sW_go b_House_mayStand_88 (st' := ([.int (nI 1)], [some (.ref h), some (.int (nI j)), some (.int s), some (.int a), some (.int b), some (.int (nI j - nI 1))], M)) (φ := True) rfl trivial ?_
            refine sW_goto 93 d_House_mayStand_89 (by decide) ?_
            refine sW_retI d_House_mayStand_93 rfl nb_1 ?_
            first | exact ⟨by rw [tf_f]; unfold mayP mayZ; (simp (disch := omega) only [vp_in_iff, Int32.lt_iff_toInt_lt, Int32.le_iff_toInt_le, ← Int32.toInt_inj, Int32.toInt_zero, nI_toInt, pk_sub_toInt] at *; omega), rfl⟩ | exact ⟨by rw [tf_t]; unfold mayP mayZ; (simp (disch := omega) only [vp_in_iff, Int32.lt_iff_toInt_lt, Int32.le_iff_toInt_le, ← Int32.toInt_inj, Int32.toInt_zero, nI_toInt, pk_sub_toInt] at *; omega), rfl⟩
      · skip
        refine sW_go b_House_mayStand_61 (st' := ([.int (M h 3 - nI 1)], [some (.ref h), some (.int (nI j)), some (.int s), some (.int a), some (.int b), none], M)) (φ := mx_ocl LAY h = 3 ∧ True) rfl ⟨ho, trivial⟩ ?_
        refine sW_eq (st' := ([.int (nI n - nI 1)], [some (.ref h), some (.int (nI j)), some (.int s), some (.int a), some (.int b), none], M)) (by simp (disch := omega) only [hn]) ?_
        refine sW_goto 73 d_House_mayStand_67 (by decide) ?_
        refine sW_go b_House_mayStand_73 (st' := ([.int (nI n - nI 1), .int a], [some (.ref h), some (.int (nI j)), some (.int s), some (.int a), some (.int b), some (.int (nI n - nI 1))], M)) (φ := True) rfl trivial ?_
        refine sW_ic_gt 92 d_House_mayStand_78 (by decide) (fun c_78 => ?_) (fun c_78 => ?_)
        · skip
          refine sW_go b_House_mayStand_92 (st' := ([.int (nI 0)], [some (.ref h), some (.int (nI j)), some (.int s), some (.int a), some (.int b), some (.int (nI n - nI 1))], M)) (φ := True) rfl trivial ?_
          refine sW_retI d_House_mayStand_93 rfl nb_0 ?_
          first | exact ⟨by rw [tf_f]; unfold mayP mayZ; (simp (disch := omega) only [vp_in_iff, Int32.lt_iff_toInt_lt, Int32.le_iff_toInt_le, ← Int32.toInt_inj, Int32.toInt_zero, nI_toInt, pk_sub_toInt] at *; omega), rfl⟩ | exact ⟨by rw [tf_t]; unfold mayP mayZ; (simp (disch := omega) only [vp_in_iff, Int32.lt_iff_toInt_lt, Int32.le_iff_toInt_le, ← Int32.toInt_inj, Int32.toInt_zero, nI_toInt, pk_sub_toInt] at *; omega), rfl⟩
        · skip
          refine sW_go b_House_mayStand_81 (st' := ([.int (nI n - nI 1), .int b], [some (.ref h), some (.int (nI j)), some (.int s), some (.int a), some (.int b), some (.int (nI n - nI 1))], M)) (φ := True) rfl trivial ?_
          refine sW_ic_gt 92 d_House_mayStand_85 (by decide) (fun c_85 => ?_) (fun c_85 => ?_)
          · skip
            refine sW_go b_House_mayStand_92 (st' := ([.int (nI 0)], [some (.ref h), some (.int (nI j)), some (.int s), some (.int a), some (.int b), some (.int (nI n - nI 1))], M)) (φ := True) rfl trivial ?_
            refine sW_retI d_House_mayStand_93 rfl nb_0 ?_
            first | exact ⟨by rw [tf_f]; unfold mayP mayZ; (simp (disch := omega) only [vp_in_iff, Int32.lt_iff_toInt_lt, Int32.le_iff_toInt_le, ← Int32.toInt_inj, Int32.toInt_zero, nI_toInt, pk_sub_toInt] at *; omega), rfl⟩ | exact ⟨by rw [tf_t]; unfold mayP mayZ; (simp (disch := omega) only [vp_in_iff, Int32.lt_iff_toInt_lt, Int32.le_iff_toInt_le, ← Int32.toInt_inj, Int32.toInt_zero, nI_toInt, pk_sub_toInt] at *; omega), rfl⟩
          · skip
            refine sW_go b_House_mayStand_88 (st' := ([.int (nI 1)], [some (.ref h), some (.int (nI j)), some (.int s), some (.int a), some (.int b), some (.int (nI n - nI 1))], M)) (φ := True) rfl trivial ?_
            refine sW_goto 93 d_House_mayStand_89 (by decide) ?_
            refine sW_retI d_House_mayStand_93 rfl nb_1 ?_
            first | exact ⟨by rw [tf_f]; unfold mayP mayZ; (simp (disch := omega) only [vp_in_iff, Int32.lt_iff_toInt_lt, Int32.le_iff_toInt_le, ← Int32.toInt_inj, Int32.toInt_zero, nI_toInt, pk_sub_toInt] at *; omega), rfl⟩ | exact ⟨by rw [tf_t]; unfold mayP mayZ; (simp (disch := omega) only [vp_in_iff, Int32.lt_iff_toInt_lt, Int32.le_iff_toInt_le, ← Int32.toInt_inj, Int32.toInt_zero, nI_toInt, pk_sub_toInt] at *; omega), rfl⟩
  · skip
    refine sW_go b_House_mayStand_33 (st' := ([.int b, .int a], [some (.ref h), some (.int (nI j)), some (.int s), some (.int a), some (.int b), none], M)) (φ := True) rfl trivial ?_
    refine sW_ic_gt 49 d_House_mayStand_36 (by decide) (fun c_36 => ?_) (fun c_36 => ?_)
    · skip
      refine sW_go b_House_mayStand_49 (st' := ([.int (nI 0)], [some (.ref h), some (.int (nI j)), some (.int s), some (.int a), some (.int b), none], M)) (φ := True) rfl trivial ?_
      refine sW_retI d_House_mayStand_50 rfl nb_0 ?_
      first | exact ⟨by rw [tf_f]; unfold mayP mayZ; (simp (disch := omega) only [vp_in_iff, Int32.lt_iff_toInt_lt, Int32.le_iff_toInt_le, ← Int32.toInt_inj, Int32.toInt_zero, nI_toInt, pk_sub_toInt] at *; omega), rfl⟩ | exact ⟨by rw [tf_t]; unfold mayP mayZ; (simp (disch := omega) only [vp_in_iff, Int32.lt_iff_toInt_lt, Int32.le_iff_toInt_le, ← Int32.toInt_inj, Int32.toInt_zero, nI_toInt, pk_sub_toInt] at *; omega), rfl⟩
    · skip
      refine sW_go b_House_mayStand_39 (st' := ([.int (nI 3), .int b], [some (.ref h), some (.int (nI j)), some (.int s), some (.int a), some (.int b), none], M)) (φ := True) rfl trivial ?_
      refine sW_ic_gt 49 d_House_mayStand_42 (by decide) (fun c_42 => ?_) (fun c_42 => ?_)
      · skip
        refine sW_go b_House_mayStand_49 (st' := ([.int (nI 0)], [some (.ref h), some (.int (nI j)), some (.int s), some (.int a), some (.int b), none], M)) (φ := True) rfl trivial ?_
        refine sW_retI d_House_mayStand_50 rfl nb_0 ?_
        first | exact ⟨by rw [tf_f]; unfold mayP mayZ; (simp (disch := omega) only [vp_in_iff, Int32.lt_iff_toInt_lt, Int32.le_iff_toInt_le, ← Int32.toInt_inj, Int32.toInt_zero, nI_toInt, pk_sub_toInt] at *; omega), rfl⟩ | exact ⟨by rw [tf_t]; unfold mayP mayZ; (simp (disch := omega) only [vp_in_iff, Int32.lt_iff_toInt_lt, Int32.le_iff_toInt_le, ← Int32.toInt_inj, Int32.toInt_zero, nI_toInt, pk_sub_toInt] at *; omega), rfl⟩
      · skip
        refine sW_go b_House_mayStand_45 (st' := ([.int (nI 1)], [some (.ref h), some (.int (nI j)), some (.int s), some (.int a), some (.int b), none], M)) (φ := True) rfl trivial ?_
        refine sW_goto 50 d_House_mayStand_46 (by decide) ?_
        refine sW_retI d_House_mayStand_50 rfl nb_1 ?_
        first | exact ⟨by rw [tf_f]; unfold mayP mayZ; (simp (disch := omega) only [vp_in_iff, Int32.lt_iff_toInt_lt, Int32.le_iff_toInt_le, ← Int32.toInt_inj, Int32.toInt_zero, nI_toInt, pk_sub_toInt] at *; omega), rfl⟩ | exact ⟨by rw [tf_t]; unfold mayP mayZ; (simp (disch := omega) only [vp_in_iff, Int32.lt_iff_toInt_lt, Int32.le_iff_toInt_le, ← Int32.toInt_inj, Int32.toInt_zero, nI_toInt, pk_sub_toInt] at *; omega), rfl⟩
theorem k_House_mayStand (G : mx_G) {M : mx_M} {h n : Nat} (ho : mx_ocl LAY h = 3) (hn : M h 3 = nI n) (h8 : n ≤ 8) (t s a b : Int32) : sOk G m_House_mayStand [.ref h, .int t, .int s, .int a, .int b] M (fun r M' => r = some (.int (tf (mayP n t s a b))) ∧ M' = M) := by
  refine sOk_of ⟨by decide +kernel, by decide +kernel, Nat.le_of_ble_eq_true rfl⟩ ?_
  show sW G m_House_mayStand 0 ([], [some (.ref h), some (.int t), some (.int s), some (.int a), some (.int b), none], M) _
  refine sW_go b_House_mayStand_0 (st' := ([.int t, .ref h], [some (.ref h), some (.int t), some (.int s), some (.int a), some (.int b), none], M)) (φ := True) rfl trivial ?_
  refine sW_callV 3 [.int t] [] d_House_mayStand_2 c_House_mayStand_2 ⟨rfl, rfl, rfl, Nat.le_of_ble_eq_true rfl, rfl, rfl⟩ ho (k_House_has G ho hn h8 t) ?_
  rintro _ M₁ ⟨rfl, h₁⟩
  rw [h₁]
  show sW G m_House_mayStand 5 ([.int (tf (vp_in t n))], [some (.ref h), some (.int t), some (.int s), some (.int a), some (.int b), none], M) _
  refine sW_if_eq 27 d_House_mayStand_5 (by decide) (fun c_5 => ?_) (fun c_5 => ?_)
  · skip
    replace c_5 := tf_z.mp c_5
    refine sW_go b_House_mayStand_27 (st' := ([.int (nI 0)], [some (.ref h), some (.int t), some (.int s), some (.int a), some (.int b), none], M)) (φ := True) rfl trivial ?_
    refine sW_retI d_House_mayStand_28 rfl nb_0 ?_
    exact ⟨by rw [tf_f]; unfold mayP mayZ; (simp (disch := omega) only [vp_in_iff, Int32.lt_iff_toInt_lt, Int32.le_iff_toInt_le, ← Int32.toInt_inj, Int32.toInt_zero, nI_toInt, pk_sub_toInt] at *; omega), rfl⟩
  · skip
    replace c_5 := tf_nz.mp c_5
    refine sW_go b_House_mayStand_8 (st' := ([.int s], [some (.ref h), some (.int t), some (.int s), some (.int a), some (.int b), none], M)) (φ := True) rfl trivial ?_
    refine sW_if_lt 27 d_House_mayStand_9 (by decide) (fun c_9 => ?_) (fun c_9 => ?_)
    · skip
      refine sW_go b_House_mayStand_27 (st' := ([.int (nI 0)], [some (.ref h), some (.int t), some (.int s), some (.int a), some (.int b), none], M)) (φ := True) rfl trivial ?_
      refine sW_retI d_House_mayStand_28 rfl nb_0 ?_
      exact ⟨by rw [tf_f]; unfold mayP mayZ; (simp (disch := omega) only [vp_in_iff, Int32.lt_iff_toInt_lt, Int32.le_iff_toInt_le, ← Int32.toInt_inj, Int32.toInt_zero, nI_toInt, pk_sub_toInt] at *; omega), rfl⟩
    · skip
      refine sW_go b_House_mayStand_12 (st' := ([.int (nI 6), .int s], [some (.ref h), some (.int t), some (.int s), some (.int a), some (.int b), none], M)) (φ := True) rfl trivial ?_
      refine sW_ic_ge 27 d_House_mayStand_15 (by decide) (fun c_15 => ?_) (fun c_15 => ?_)
      · skip
        refine sW_go b_House_mayStand_27 (st' := ([.int (nI 0)], [some (.ref h), some (.int t), some (.int s), some (.int a), some (.int b), none], M)) (φ := True) rfl trivial ?_
        refine sW_retI d_House_mayStand_28 rfl nb_0 ?_
        exact ⟨by rw [tf_f]; unfold mayP mayZ; (simp (disch := omega) only [vp_in_iff, Int32.lt_iff_toInt_lt, Int32.le_iff_toInt_le, ← Int32.toInt_inj, Int32.toInt_zero, nI_toInt, pk_sub_toInt] at *; omega), rfl⟩
      · skip
        refine sW_go b_House_mayStand_18 (st' := ([.int a], [some (.ref h), some (.int t), some (.int s), some (.int a), some (.int b), none], M)) (φ := True) rfl trivial ?_
        refine sW_if_lt 27 d_House_mayStand_19 (by decide) (fun c_19 => ?_) (fun c_19 => ?_)
        · skip
          refine sW_go b_House_mayStand_27 (st' := ([.int (nI 0)], [some (.ref h), some (.int t), some (.int s), some (.int a), some (.int b), none], M)) (φ := True) rfl trivial ?_
          refine sW_retI d_House_mayStand_28 rfl nb_0 ?_
          exact ⟨by rw [tf_f]; unfold mayP mayZ; (simp (disch := omega) only [vp_in_iff, Int32.lt_iff_toInt_lt, Int32.le_iff_toInt_le, ← Int32.toInt_inj, Int32.toInt_zero, nI_toInt, pk_sub_toInt] at *; omega), rfl⟩
        · skip
          refine sW_go b_House_mayStand_22 (st' := ([.int b], [some (.ref h), some (.int t), some (.int s), some (.int a), some (.int b), none], M)) (φ := True) rfl trivial ?_
          refine sW_if_ge 29 d_House_mayStand_24 (by decide) (fun c_24 => ?_) (fun c_24 => ?_)
          · skip
            obtain ⟨j, hj, rfl⟩ := vp_in_of c_5 (by omega)
            exact k_may29 G ho hn h8 hj c_9 c_15 c_19 c_24
          · skip
            refine sW_go b_House_mayStand_27 (st' := ([.int (nI 0)], [some (.ref h), some (.int t), some (.int s), some (.int a), some (.int b), none], M)) (φ := True) rfl trivial ?_
            refine sW_retI d_House_mayStand_28 rfl nb_0 ?_
            exact ⟨by rw [tf_f]; unfold mayP mayZ; (simp (disch := omega) only [vp_in_iff, Int32.lt_iff_toInt_lt, Int32.le_iff_toInt_le, ← Int32.toInt_inj, Int32.toInt_zero, nI_toInt, pk_sub_toInt] at *; omega), rfl⟩
theorem k_House_tell (G : mx_G) {M : mx_M} {h j : Nat} (ho : mx_ocl LAY h = 3) (hj : j < 8) (s a b : Int32) : sOk G m_House_tell [.ref h, .int (nI j), .int s, .int a, .int b] M (fun r M' => r = none ∧ M' = mx_wr (mx_wr (mx_wr M (h + 1) j s) (h + 2) j a) (h + 3) j b) := by
  refine sOk_of ⟨by decide +kernel, by decide +kernel, Nat.le_of_ble_eq_true rfl⟩ ?_
  show sW G m_House_tell 0 ([], [some (.ref h), some (.int (nI j)), some (.int s), some (.int a), some (.int b)], M) _
  refine sW_go b_House_tell_0 (st' := ([], [some (.ref h), some (.int (nI j)), some (.int s), some (.int a), some (.int b)], mx_wr (mx_wr (mx_wr M (h + 1) (nI j).toNatClampNeg s) (h + 2) (nI j).toNatClampNeg a) (h + 3) (nI j).toNatClampNeg b)) (φ := mx_ocl LAY h = 3 ∧ vp_in (nI j) (mx_len LAY false (h + 1)) ∧ mx_ocl LAY h = 3 ∧ vp_in (nI j) (mx_len LAY false (h + 2)) ∧ mx_ocl LAY h = 3 ∧ vp_in (nI j) (mx_len LAY false (h + 3)) ∧ True) rfl ⟨ho, (by simp (disch := omega) only [(ln_House_sorts ho)]; exact vp_in_nI (by omega) (by decide)), ho, (by simp (disch := omega) only [(ln_House_firsts ho)]; exact vp_in_nI (by omega) (by decide)), ho, (by simp (disch := omega) only [(ln_House_seconds ho)]; exact vp_in_nI (by omega) (by decide)), trivial⟩ ?_
  refine sW_eq (st' := ([], [some (.ref h), some (.int (nI j)), some (.int s), some (.int a), some (.int b)], mx_wr (mx_wr (mx_wr M (h + 1) j s) (h + 2) j a) (h + 3) j b)) (by simp (disch := omega) only [nI_clamp]) ?_
  refine sW_retV d_House_tell_22 rfl ?_
  exact ⟨rfl, rfl⟩
theorem k_House_takeFrom (G : mx_G) {M : mx_M} {h o : Nat} (ho : mx_ocl LAY h = 3) (hq : mx_ocl LAY o = 3) (hd : h + 4 ≤ o ∨ o + 4 ≤ h) : sOk G m_House_takeFrom [.ref h, .ref o] M (fun r M' => r = none ∧ Fr M M' h (h + 4) ∧ M' h 3 = M o 3 ∧ M' h 4 = M o 4 ∧ ∀ k, k < 8 → M' (h + 1) k = M (o + 1) k ∧ M' (h + 2) k = M (o + 2) k ∧ M' (h + 3) k = M (o + 3) k) := by
  refine sOk_of ⟨by decide +kernel, by decide +kernel, Nat.le_of_ble_eq_true rfl⟩ ?_
  show sW G m_House_takeFrom 0 ([], [some (.ref h), some (.ref o)], M) _
  refine sW_go b_House_takeFrom_0 (st' := ([.int (nI 8), .int (nI 0), .ref (h + 1), .int (nI 0), .ref (o + 1)], [some (.ref h), some (.ref o)], M)) (φ := mx_ocl LAY o = 3 ∧ mx_ocl LAY h = 3 ∧ True) rfl ⟨hq, ho, trivial⟩ ?_
  refine sW_copy d_House_takeFrom_12 c_House_takeFrom_12 ⟨rfl, Nat.le_of_ble_eq_true rfl⟩ (by rw [(ln_House_sorts hq)]; decide) (by rw [(ln_House_sorts ho)]; decide) (by first | decide | (simp (disch := omega) only [nI_clamp, (ln_House_sorts hq), (ln_House_sorts ho)]; omega)) (by first | decide | (simp (disch := omega) only [nI_clamp, (ln_House_sorts hq), (ln_House_sorts ho)]; omega)) (by first | decide | (simp (disch := omega) only [nI_clamp, (ln_House_sorts hq), (ln_House_sorts ho)]; omega)) (by first | decide | (simp (disch := omega) only [nI_clamp, (ln_House_sorts hq), (ln_House_sorts ho)]; omega)) (by first | decide | (simp (disch := omega) only [nI_clamp, (ln_House_sorts hq), (ln_House_sorts ho)]; omega)) ?_
  refine sW_eq (st' := ([], [some (.ref h), some (.ref o)], mx_cp M (o + 1) (h + 1) 0 0 8)) (by simp (disch := omega) only [nI_clamp]) ?_
  refine sW_go b_House_takeFrom_15 (st' := ([.int (nI 8), .int (nI 0), .ref (h + 2), .int (nI 0), .ref (o + 2)], [some (.ref h), some (.ref o)], mx_cp M (o + 1) (h + 1) 0 0 8)) (φ := mx_ocl LAY o = 3 ∧ mx_ocl LAY h = 3 ∧ True) rfl ⟨hq, ho, trivial⟩ ?_
  refine sW_copy d_House_takeFrom_27 c_House_takeFrom_27 ⟨rfl, Nat.le_of_ble_eq_true rfl⟩ (by rw [(ln_House_firsts hq)]; decide) (by rw [(ln_House_firsts ho)]; decide) (by first | decide | (simp (disch := omega) only [nI_clamp, (ln_House_firsts hq), (ln_House_firsts ho)]; omega)) (by first | decide | (simp (disch := omega) only [nI_clamp, (ln_House_firsts hq), (ln_House_firsts ho)]; omega)) (by first | decide | (simp (disch := omega) only [nI_clamp, (ln_House_firsts hq), (ln_House_firsts ho)]; omega)) (by first | decide | (simp (disch := omega) only [nI_clamp, (ln_House_firsts hq), (ln_House_firsts ho)]; omega)) (by first | decide | (simp (disch := omega) only [nI_clamp, (ln_House_firsts hq), (ln_House_firsts ho)]; omega)) ?_
  refine sW_eq (st' := ([], [some (.ref h), some (.ref o)], mx_cp (mx_cp M (o + 1) (h + 1) 0 0 8) (o + 2) (h + 2) 0 0 8)) (by simp (disch := omega) only [nI_clamp]) ?_
  refine sW_go b_House_takeFrom_30 (st' := ([.int (nI 8), .int (nI 0), .ref (h + 3), .int (nI 0), .ref (o + 3)], [some (.ref h), some (.ref o)], mx_cp (mx_cp M (o + 1) (h + 1) 0 0 8) (o + 2) (h + 2) 0 0 8)) (φ := mx_ocl LAY o = 3 ∧ mx_ocl LAY h = 3 ∧ True) rfl ⟨hq, ho, trivial⟩ ?_
  refine sW_copy d_House_takeFrom_42 c_House_takeFrom_42 ⟨rfl, Nat.le_of_ble_eq_true rfl⟩ (by rw [(ln_House_seconds hq)]; decide) (by rw [(ln_House_seconds ho)]; decide) (by first | decide | (simp (disch := omega) only [nI_clamp, (ln_House_seconds hq), (ln_House_seconds ho)]; omega)) (by first | decide | (simp (disch := omega) only [nI_clamp, (ln_House_seconds hq), (ln_House_seconds ho)]; omega)) (by first | decide | (simp (disch := omega) only [nI_clamp, (ln_House_seconds hq), (ln_House_seconds ho)]; omega)) (by first | decide | (simp (disch := omega) only [nI_clamp, (ln_House_seconds hq), (ln_House_seconds ho)]; omega)) (by first | decide | (simp (disch := omega) only [nI_clamp, (ln_House_seconds hq), (ln_House_seconds ho)]; omega)) ?_
  refine sW_eq (st' := ([], [some (.ref h), some (.ref o)], mx_cp (mx_cp (mx_cp M (o + 1) (h + 1) 0 0 8) (o + 2) (h + 2) 0 0 8) (o + 3) (h + 3) 0 0 8)) (by simp (disch := omega) only [nI_clamp]) ?_
  refine sW_go b_House_takeFrom_45 (st' := ([], [some (.ref h), some (.ref o)], mx_wr (mx_wr (mx_cp (mx_cp (mx_cp M (o + 1) (h + 1) 0 0 8) (o + 2) (h + 2) 0 0 8) (o + 3) (h + 3) 0 0 8) h 3 ((mx_cp (mx_cp (mx_cp M (o + 1) (h + 1) 0 0 8) (o + 2) (h + 2) 0 0 8) (o + 3) (h + 3) 0 0 8) o 3)) h 4 ((mx_wr (mx_cp (mx_cp (mx_cp M (o + 1) (h + 1) 0 0 8) (o + 2) (h + 2) 0 0 8) (o + 3) (h + 3) 0 0 8) h 3 ((mx_cp (mx_cp (mx_cp M (o + 1) (h + 1) 0 0 8) (o + 2) (h + 2) 0 0 8) (o + 3) (h + 3) 0 0 8) o 3)) o 4))) (φ := mx_ocl LAY o = 3 ∧ mx_ocl LAY h = 3 ∧ mx_ocl LAY o = 3 ∧ mx_ocl LAY h = 3 ∧ True) rfl ⟨hq, ho, hq, ho, trivial⟩ ?_
  refine sW_retV d_House_takeFrom_61 rfl ?_
  have f1 : Fr M (mx_cp M (o + 1) (h + 1) 0 0 8) h (h + 4) := Fr.rf.cp (by omega) (by omega)
  have f2 := f1.cp (a0 := o + 2) (k := h + 2) (sp := 0) (dp := 0) (n := 8) (by omega) (by omega)
  have f3 := f2.cp (a0 := o + 3) (k := h + 3) (sp := 0) (dp := 0) (n := 8) (by omega) (by omega)
  have f4 := f3.wr (k := h) (j := 3) (v := M o 3) (by omega) (by omega)
  have f5 := f4.wr (k := h) (j := 4) (v := M o 4) (by omega) (by omega)
  have e3 := f3 o (by omega)
  have e4 := f4 o (by omega)
  rw [e3, e4]
  refine ⟨rfl, f5, ?_, ?_, fun k hk => ⟨?_, ?_, ?_⟩⟩
  · rw [mx_wr_s, mx_wr_s]
    rfl
  · rw [mx_wr_s]
    rfl
  · rw [mx_wr_n _ _ _ (by omega), mx_wr_n _ _ _ (by omega), mx_cp_n _ _ _ _ _ (by omega), mx_cp_n _ _ _ _ _ (by omega), mx_cp_s, pk_cpy_in (by omega) (by omega)]
    congr 1
    omega
  · rw [mx_wr_n _ _ _ (by omega), mx_wr_n _ _ _ (by omega), mx_cp_n _ _ _ _ _ (by omega), mx_cp_s, pk_cpy_in (by omega) (by omega), mx_cp_n _ _ _ _ _ (by omega)]
    congr 1
    omega
  · rw [mx_wr_n _ _ _ (by omega), mx_wr_n _ _ _ (by omega), mx_cp_s, pk_cpy_in (by omega) (by omega), mx_cp_n _ _ _ _ _ (by omega), mx_cp_n _ _ _ _ _ (by omega)]
    congr 1
    omega
theorem k_House_namesOnlyItsOwn (G : mx_G) {M : mx_M} {h : Nat} {hs : Hs} (ho : mx_ocl LAY h = 3) (hA : HsAt M h hs) (hw : HsOk hs) : sOk G m_House_namesOnlyItsOwn [.ref h] M (fun r M' => r = some (.int (tf (∀ k, k < hs.1 → mayZ hs.1 k (Sf hs k) (Af hs k) (Bf hs k)))) ∧ M' = M) := by
  obtain ⟨e3, e4, eK⟩ := id hA
  obtain ⟨w1, w2, w3⟩ := id hw
  refine sOk_of ⟨by decide +kernel, by decide +kernel, Nat.le_of_ble_eq_true rfl⟩ ?_
  show sW G m_House_namesOnlyItsOwn 0 ([], [some (.ref h), none], M) _
  refine sW_go b_House_namesOnlyItsOwn_0 (st' := ([], [some (.ref h), some (.int (nI 0))], M)) (φ := True) rfl trivial ?_
  refine mx_ind (α := Nat) (fun a => hs.1 - a) (fun a => a ≤ hs.1 → (∀ k, k < a → mayZ hs.1 k (Sf hs k) (Af hs k) (Bf hs k)) → sW G m_House_namesOnlyItsOwn 2 ([], [some (.ref h), some (.int (nI a))], M) _) ?_ 0 (Nat.zero_le _) (fun k hk => by omega)
  rintro k ih hk hc
  by_cases hkn : k < hs.1
  · obtain ⟨x1, x2, x3⟩ := eK k hkn
    obtain ⟨y1, y2, y3⟩ := w3 k hkn
    have hm : mayP hs.1 (nI k) (nI (Sf hs k)) (nI (Af hs k)) (nI (Bf hs k)) ↔ mayZ hs.1 k (Sf hs k) (Af hs k) (Bf hs k) := by
      unfold mayP
      rw [nI_toInt (by omega), nI_toInt (by omega), nI_toInt (by omega), nI_toInt (by omega)]
    refine sW_go b_House_namesOnlyItsOwn_2 (st' := ([.int (M h 3), .int (nI k)], [some (.ref h), some (.int (nI k))], M)) (φ := mx_ocl LAY h = 3 ∧ True) rfl ⟨ho, trivial⟩ ?_
    refine sW_eq (st' := ([.int (nI hs.1), .int (nI k)], [some (.ref h), some (.int (nI k))], M)) (by simp (disch := omega) only [e3]) ?_
    refine sW_ic_ge 44 d_House_namesOnlyItsOwn_7 (by decide) (fun c_7 => ?_) (fun c_7 => ?_)
    · skip
      simp (disch := omega) only [nI_leI] at c_7
      refine sW_go b_House_namesOnlyItsOwn_44 (st' := ([.int (nI 1)], [some (.ref h), some (.int (nI k))], M)) (φ := True) rfl trivial ?_
      refine sW_retI d_House_namesOnlyItsOwn_45 rfl nb_1 ?_
      omega
    · skip
      simp (disch := omega) only [nI_leI] at c_7
      refine sW_go b_House_namesOnlyItsOwn_10 (st' := ([.int (M (h + 3) (nI k).toNatClampNeg), .int (M (h + 2) (nI k).toNatClampNeg), .int (M (h + 1) (nI k).toNatClampNeg), .int (nI k), .ref h], [some (.ref h), some (.int (nI k))], M)) (φ := mx_ocl LAY h = 3 ∧ vp_in (nI k) (mx_len LAY false (h + 1)) ∧ mx_ocl LAY h = 3 ∧ vp_in (nI k) (mx_len LAY false (h + 2)) ∧ mx_ocl LAY h = 3 ∧ vp_in (nI k) (mx_len LAY false (h + 3)) ∧ True) rfl ⟨ho, (by simp (disch := omega) only [(ln_House_sorts ho)]; exact vp_in_nI (by omega) (by decide)), ho, (by simp (disch := omega) only [(ln_House_firsts ho)]; exact vp_in_nI (by omega) (by decide)), ho, (by simp (disch := omega) only [(ln_House_seconds ho)]; exact vp_in_nI (by omega) (by decide)), trivial⟩ ?_
      refine sW_eq (st' := ([.int (nI (Bf hs k)), .int (nI (Af hs k)), .int (nI (Sf hs k)), .int (nI k), .ref h], [some (.ref h), some (.int (nI k))], M)) (by simp (disch := omega) only [nI_clamp, x1, x2, x3]) ?_
      refine sW_callV 3 [.int (nI k), .int (nI (Sf hs k)), .int (nI (Af hs k)), .int (nI (Bf hs k))] [] d_House_namesOnlyItsOwn_30 c_House_namesOnlyItsOwn_30 ⟨rfl, rfl, rfl, Nat.le_of_ble_eq_true rfl, rfl, rfl⟩ ho (k_House_mayStand G ho e3 w1 (nI k) (nI (Sf hs k)) (nI (Af hs k)) (nI (Bf hs k))) ?_
      rintro _ M₁ ⟨rfl, h₁⟩
      rw [h₁]
      show sW G m_House_namesOnlyItsOwn 33 ([.int (tf (mayP hs.1 (nI k) (nI (Sf hs k)) (nI (Af hs k)) (nI (Bf hs k))))], [some (.ref h), some (.int (nI k))], M) _
      refine sW_if_ne 38 d_House_namesOnlyItsOwn_33 (by decide) (fun c_33 => ?_) (fun c_33 => ?_)
      · skip
        replace c_33 := tf_nz.mp c_33
        refine sW_go b_House_namesOnlyItsOwn_38 (st' := ([], [some (.ref h), some (.int (nI k + nI 1))], M)) (φ := True) rfl trivial ?_
        refine sW_eq (st' := ([], [some (.ref h), some (.int (nI (k + 1)))], M)) (by simp (disch := omega) only [nI_add]) ?_
        refine sW_goto 2 d_House_namesOnlyItsOwn_41 (by decide) ?_
        exact ih (k + 1) (by omega) (by omega) (fun i hi => by
          rcases Nat.lt_or_ge i k with q | q
          · exact hc i q
          · obtain rfl : i = k := by omega
            exact hm.mp c_33)
      · skip
        replace c_33 := tf_z.mp c_33
        refine sW_go b_House_namesOnlyItsOwn_36 (st' := ([.int (nI 0)], [some (.ref h), some (.int (nI k))], M)) (φ := True) rfl trivial ?_
        refine sW_retI d_House_namesOnlyItsOwn_37 rfl nb_0 ?_
        exact ⟨by rw [tf_f (fun q => c_33 (hm.mpr (q k hkn)))], rfl⟩
  · have hke : k = hs.1 := by omega
    refine sW_go b_House_namesOnlyItsOwn_2 (st' := ([.int (M h 3), .int (nI k)], [some (.ref h), some (.int (nI k))], M)) (φ := mx_ocl LAY h = 3 ∧ True) rfl ⟨ho, trivial⟩ ?_
    refine sW_eq (st' := ([.int (nI hs.1), .int (nI k)], [some (.ref h), some (.int (nI k))], M)) (by simp (disch := omega) only [e3]) ?_
    refine sW_ic_ge 44 d_House_namesOnlyItsOwn_7 (by decide) (fun c_7 => ?_) (fun c_7 => ?_)
    · skip
      simp (disch := omega) only [nI_leI] at c_7
      refine sW_go b_House_namesOnlyItsOwn_44 (st' := ([.int (nI 1)], [some (.ref h), some (.int (nI k))], M)) (φ := True) rfl trivial ?_
      refine sW_retI d_House_namesOnlyItsOwn_45 rfl nb_1 ?_
      exact ⟨by rw [tf_t (fun i hi => hc i (by omega))], rfl⟩
    · skip
      simp (disch := omega) only [nI_leI] at c_7
      exact absurd c_7 (by omega)
end
section
/-! ===== Sets: a list of sets of types, each with a number ===== -/
theorem nd_len : ∀ (n : Nat) (l : List Nat), l.Nodup → (∀ x ∈ l, x < n) → l.length ≤ n
  | 0, l, _, h => by
    cases l with
    | nil => simp
    | cons a t => exact absurd (h a List.mem_cons_self) (Nat.not_lt_zero a)
  | n + 1, l, hn, h => by
    by_cases hm : n ∈ l
    · have h1 := nd_len n (l.erase n) (hn.erase n) (fun x hx => by
        have h2 := (hn.mem_erase_iff).mp hx
        have := h x h2.2
        omega)
      rw [List.length_erase_of_mem hm] at h1
      omega
    · have h1 := nd_len n l hn (fun x hx => by
        have := h x hx
        have h3 : x ≠ n := fun q => hm (q ▸ hx)
        omega)
      omega
def SetsAt (M : mx_M) (q : Nat) (L : List Nat) (f : Nat → Nat) : Prop := M q 2 = nI L.length ∧ L.Nodup ∧ (∀ s ∈ L, s < 256) ∧ (∀ i, i < L.length → M (q + 1) i = nI (L.getD i 0)) ∧ (∀ s, s < 256 → M (q + 2) s = nI (f s) ∧ f s < 2 ^ 31) ∧ ∀ s, s < 256 → (f s ≠ 0 ↔ s ∈ L)
theorem SetsAt.len {M : mx_M} {q : Nat} {L : List Nat} {f : Nat → Nat} (h : SetsAt M q L f) : L.length ≤ 256 := nd_len 256 L h.2.1 h.2.2.1
theorem SetsAt.fr {M M' : mx_M} {q lo hi : Nat} {L : List Nat} {f : Nat → Nat} (h : SetsAt M q L f) (hf : Fr M M' lo hi) (hd : q + 3 ≤ lo ∨ hi ≤ q) : SetsAt M' q L f := by
  unfold SetsAt
  rw [hf q (by omega), hf (q + 1) (by omega), hf (q + 2) (by omega)]
  exact h
theorem SetsAt.lt {M : mx_M} {q : Nat} {L : List Nat} {f : Nat → Nat} (h : SetsAt M q L f) {i : Nat} (hi : i < L.length) : L.getD i 0 < 256 ∧ L.getD i 0 ∈ L := by
  have e : L.getD i 0 = L[i] := by simp [hi]
  rw [e]
  exact ⟨h.2.2.1 _ (List.getElem_mem hi), List.getElem_mem hi⟩
theorem upd_s {α : Type} (f : Nat → Int32) (k : Nat) (x : Int32) : upd f k x k = x := pk_us
def updN (f : Nat → Nat) (k x : Nat) : Nat → Nat := fun j => if j = k then x else f j
theorem updN_s (f : Nat → Nat) (k x : Nat) : updN f k x k = x := if_pos rfl
theorem updN_n (f : Nat → Nat) {k j : Nat} (x : Nat) (h : j ≠ k) : updN f k x j = f j := if_neg h
theorem SetsAt.add {M : mx_M} {q : Nat} {L : List Nat} {f : Nat → Nat} {s n : Nat} (h : SetsAt M q L f) (hs : s < 256) (hm : s ∉ L) (hn : 0 < n) (hn2 : n < 2 ^ 31) :
    SetsAt (mx_wr (mx_wr (mx_wr M (q + 1) L.length (nI s)) (q + 2) s (nI n)) q 2 (nI (L.length + 1))) q (L ++ [s]) (updN f s n) := by
  obtain ⟨h1, h2, h3, h4, h5, h6⟩ := h
  refine ⟨?_, ?_, ?_, ?_, ?_, ?_⟩
  · rw [mx_wr_s, pk_us]
    simp
  · rw [List.nodup_append]
    refine ⟨h2, by simp, fun a ha b hb => ?_⟩
    simp only [List.mem_singleton] at hb
    subst hb
    exact fun e => hm (e ▸ ha)
  · intro x hx
    rcases List.mem_append.mp hx with q1 | q1
    · exact h3 x q1
    · simp only [List.mem_singleton] at q1
      omega
  · intro i hi
    rw [mx_wr_n _ _ _ (by omega), mx_wr_n _ _ _ (by omega), mx_wr_s]
    simp only [List.length_append, List.length_singleton] at hi
    by_cases he : i = L.length
    · subst he
      rw [pk_us]
      simp
    · rw [pk_un he, h4 i (by omega)]
      congr 1
      simp [List.getD_eq_getElem?_getD, List.getElem?_append_left (show i < L.length by omega)]
  · intro x hx
    rw [mx_wr_n _ _ _ (by omega), mx_wr_s, mx_wr_n _ _ _ (by omega)]
    by_cases he : x = s
    · subst he
      rw [pk_us, updN_s]
      exact ⟨rfl, hn2⟩
    · rw [pk_un he, updN_n f n he]
      exact h5 x hx
  · intro x hx
    by_cases he : x = s
    · subst he
      rw [updN_s]
      simp
      omega
    · rw [updN_n f n he, h6 x hx]
      simp [he]
theorem k_add21 (G : mx_G) {M : mx_M} {q : Nat} {L : List Nat} {f : Nat → Nat} (ho : mx_ocl LAY q = 6) (hA : SetsAt M q L f) {s n : Nat} (hs : s < 256) (hm : s ∉ L) (hn : 0 < n) (hn2 : n < 2 ^ 31) (h1 : M q 2 = nI L.length) (hlt : L.length < 256) (e7 : mx_wr (mx_wr M (q + 1) L.length (nI s)) (q + 2) s (nI n) q 2 = nI L.length) : sW G m_Sets_add 21 ([], [some (.ref q), some (.int (nI s)), some (.int (nI n))], M) (fun r M' => r = some (.int (tf (s ∉ L))) ∧ Fr M M' q (q + 3) ∧ (s ∈ L → M' = M) ∧ (s ∉ L → SetsAt M' q (L ++ [s]) (updN f s n))) := by
  refine sW_go b_Sets_add_21 (st' := ([.int (nI 1)], [some (.ref q), some (.int (nI s)), some (.int (nI n))], mx_wr (mx_wr (mx_wr M (q + 1) (M q 2).toNatClampNeg (nI s)) (q + 2) (nI s).toNatClampNeg (nI n)) q 2 ((mx_wr (mx_wr M (q + 1) (M q 2).toNatClampNeg (nI s)) (q + 2) (nI s).toNatClampNeg (nI n)) q 2 + nI 1))) (φ := mx_ocl LAY q = 6 ∧ mx_ocl LAY q = 6 ∧ vp_in (M q 2) (mx_len LAY false (q + 1)) ∧ mx_ocl LAY q = 6 ∧ vp_in (nI s) (mx_len LAY false (q + 2)) ∧ mx_ocl LAY q = 6 ∧ mx_ocl LAY q = 6 ∧ True) rfl ⟨ho, ho, (by simp (disch := omega) only [h1, (ln_Sets_at ho)]; exact vp_in_nI (by omega) (by decide)), ho, (by simp (disch := omega) only [(ln_Sets_number ho)]; exact vp_in_nI (by omega) (by decide)), ho, ho, trivial⟩ ?_
  refine sW_eq (st' := ([.int (nI 1)], [some (.ref q), some (.int (nI s)), some (.int (nI n))], mx_wr (mx_wr (mx_wr M (q + 1) L.length (nI s)) (q + 2) s (nI n)) q 2 (nI (L.length + 1)))) (by simp (disch := omega) only [e7, h1, nI_add, nI_clamp]) ?_
  refine sW_retI d_Sets_add_49 rfl nb_1 ?_
  exact ⟨by rw [tf_t hm], ((Fr.rf.wr (by omega) (by omega)).wr (by omega) (by omega)).wr (by omega) (by omega), fun h => absurd h hm, fun _ => hA.add hs hm hn hn2⟩
theorem k_Sets_add (G : mx_G) {M : mx_M} {q : Nat} {L : List Nat} {f : Nat → Nat} (ho : mx_ocl LAY q = 6) (hA : SetsAt M q L f) {s n : Nat} (hs : s < 256) (hn : 0 < n) (hn2 : n < 2 ^ 31) : sOk G m_Sets_add [.ref q, .int (nI s), .int (nI n)] M (fun r M' => r = some (.int (tf (s ∉ L))) ∧ Fr M M' q (q + 3) ∧ (s ∈ L → M' = M) ∧ (s ∉ L → SetsAt M' q (L ++ [s]) (updN f s n))) := by
  obtain ⟨h1, h2, h3, h4, h5, h6⟩ := id hA
  have hl := hA.len
  obtain ⟨e5, b5⟩ := h5 s hs
  have hlt : s ∉ L → L.length < 256 := fun hm => by
    have := nd_len 256 (s :: L) (List.nodup_cons.mpr ⟨hm, h2⟩) (fun x hx => by
      rcases List.mem_cons.mp hx with rfl | hx
      · exact hs
      · exact h3 x hx)
    simp only [List.length_cons] at this
    omega
  refine sOk_of ⟨by decide +kernel, by decide +kernel, Nat.le_of_ble_eq_true rfl⟩ ?_
  show sW G m_Sets_add 0 ([], [some (.ref q), some (.int (nI s)), some (.int (nI n))], M) _
  refine sW_go b_Sets_add_0 (st' := ([.int (M (q + 2) (nI s).toNatClampNeg)], [some (.ref q), some (.int (nI s)), some (.int (nI n))], M)) (φ := mx_ocl LAY q = 6 ∧ vp_in (nI s) (mx_len LAY false (q + 2)) ∧ True) rfl ⟨ho, (by simp (disch := omega) only [(ln_Sets_number ho)]; exact vp_in_nI (by omega) (by decide)), trivial⟩ ?_
  refine sW_eq (st' := ([.int (nI (f s))], [some (.ref q), some (.int (nI s)), some (.int (nI n))], M)) (by simp (disch := omega) only [e5, nI_clamp]) ?_
  refine sW_if_ne 19 d_Sets_add_6 (by decide) (fun c_6 => ?_) (fun c_6 => ?_)
  · skip
    simp (disch := omega) only [nI_z] at c_6
    refine sW_go b_Sets_add_19 (st' := ([.int (nI 0)], [some (.ref q), some (.int (nI s)), some (.int (nI n))], M)) (φ := True) rfl trivial ?_
    refine sW_retI d_Sets_add_20 rfl nb_0 ?_
    have hm : s ∈ L := (h6 s hs).mp c_6
    exact ⟨by rw [tf_f (fun q => q hm)], Fr.rf, fun _ => rfl, fun q => absurd hm q⟩
  · skip
    simp (disch := omega) only [nI_z] at c_6
    refine sW_go b_Sets_add_9 (st' := ([.int (nI 256), .int (M q 2)], [some (.ref q), some (.int (nI s)), some (.int (nI n))], M)) (φ := mx_ocl LAY q = 6 ∧ True) rfl ⟨ho, trivial⟩ ?_
    refine sW_eq (st' := ([.int (nI 256), .int (nI L.length)], [some (.ref q), some (.int (nI s)), some (.int (nI n))], M)) (by simp (disch := omega) only [h1]) ?_
    refine sW_ic_lt 21 d_Sets_add_16 (by decide) (fun c_16 => ?_) (fun c_16 => ?_)
    · skip
      simp (disch := omega) only [nI_ltI] at c_16
      have hm : s ∉ L := fun q => (h6 s hs).mpr q c_6
      have hlt := hlt hm
      have e7 : mx_wr (mx_wr M (q + 1) L.length (nI s)) (q + 2) s (nI n) q 2 = nI L.length := by
        rw [mx_wr_n _ _ _ (by omega), mx_wr_n _ _ _ (by omega)]
        exact h1
      exact k_add21 G ho hA hs hm hn hn2 h1 hlt e7
    · skip
      simp (disch := omega) only [nI_ltI] at c_16
      refine sW_go b_Sets_add_19 (st' := ([.int (nI 0)], [some (.ref q), some (.int (nI s)), some (.int (nI n))], M)) (φ := True) rfl trivial ?_
      refine sW_retI d_Sets_add_20 rfl nb_0 ?_
      have hm : s ∉ L := fun q => (h6 s hs).mpr q c_6
      exact absurd (hlt hm) c_16
theorem mem_take_s {L : List Nat} {k s : Nat} (h : k < L.length) : s ∈ L.take (k + 1) ↔ s ∈ L.take k ∨ s = L.getD k 0 := by
  have e : L.getD k 0 = L[k] := by simp [h]
  rw [List.take_add_one, List.getElem?_eq_getElem h, List.mem_append, e]
  simp only [Option.toList_some, List.mem_singleton]
theorem k_Sets_clear (G : mx_G) {M : mx_M} {q : Nat} {L : List Nat} {f : Nat → Nat} (ho : mx_ocl LAY q = 6) (hA : SetsAt M q L f) : sOk G m_Sets_clear [.ref q] M (fun r M' => r = none ∧ Fr M M' q (q + 3) ∧ SetsAt M' q [] (fun _ => 0)) := by
  obtain ⟨h1, h2, h3, h4, h5, h6⟩ := id hA
  have hl := hA.len
  refine sOk_of ⟨by decide +kernel, by decide +kernel, Nat.le_of_ble_eq_true rfl⟩ ?_
  show sW G m_Sets_clear 0 ([], [some (.ref q), none], M) _
  refine sW_go b_Sets_clear_0 (st' := ([], [some (.ref q), some (.int (nI 0))], M)) (φ := True) rfl trivial ?_
  refine mx_ind (α := Nat × mx_M) (fun a => L.length - a.1) (fun a => a.1 ≤ L.length → (∀ s, s < 256 → a.2 (q + 2) s = if s ∈ L.take a.1 then 0 else M (q + 2) s) → (∀ b, b ≠ q + 2 → a.2 b = M b) → sW G m_Sets_clear 2 ([], [some (.ref q), some (.int (nI a.1))], a.2) _) ?_ (0, M) (Nat.zero_le _) (fun s hs => by simp) (fun _ _ => rfl)
  rintro ⟨k, M2⟩ ih hk i1 i2
  dsimp only at ih hk i1 i2 ⊢
  have e1 : M2 q 2 = nI L.length := by rw [i2 q (by omega)]; exact h1
  by_cases hkn : k < L.length
  · have e2 : M2 (q + 1) k = nI (L.getD k 0) := by rw [i2 (q + 1) (by omega)]; exact h4 k hkn
    obtain ⟨l1, l2⟩ := hA.lt hkn
    refine sW_go b_Sets_clear_2 (st' := ([.int (M2 q 2), .int (nI k)], [some (.ref q), some (.int (nI k))], M2)) (φ := mx_ocl LAY q = 6 ∧ True) rfl ⟨ho, trivial⟩ ?_
    refine sW_eq (st' := ([.int (nI L.length), .int (nI k)], [some (.ref q), some (.int (nI k))], M2)) (by simp (disch := omega) only [e1]) ?_
    refine sW_ic_ge 28 d_Sets_clear_7 (by decide) (fun c_7 => ?_) (fun c_7 => ?_)
    · skip
      simp (disch := omega) only [nI_leI] at c_7
      refine sW_go b_Sets_clear_28 (st' := ([], [some (.ref q), some (.int (nI k))], mx_wr M2 q 2 (nI 0))) (φ := mx_ocl LAY q = 6 ∧ True) rfl ⟨ho, trivial⟩ ?_
      refine sW_retV d_Sets_clear_33 rfl ?_
      omega
    · skip
      simp (disch := omega) only [nI_leI] at c_7
      refine sW_go b_Sets_clear_10 (st' := ([], [some (.ref q), some (.int (nI k + nI 1))], mx_wr M2 (q + 2) (M2 (q + 1) (nI k).toNatClampNeg).toNatClampNeg (nI 0))) (φ := mx_ocl LAY q = 6 ∧ mx_ocl LAY q = 6 ∧ vp_in (nI k) (mx_len LAY false (q + 1)) ∧ vp_in (M2 (q + 1) (nI k).toNatClampNeg) (mx_len LAY false (q + 2)) ∧ True) rfl ⟨ho, ho, (by simp (disch := omega) only [(ln_Sets_at ho)]; exact vp_in_nI (by omega) (by decide)), (by simp (disch := omega) only [e2, nI_clamp, (ln_Sets_number ho)]; exact vp_in_nI (by omega) (by decide)), trivial⟩ ?_
      refine sW_eq (st' := ([], [some (.ref q), some (.int (nI (k + 1)))], mx_wr M2 (q + 2) (L.getD k 0) (nI 0))) (by simp (disch := omega) only [e2, nI_add, nI_clamp]) ?_
      refine sW_goto 2 d_Sets_clear_25 (by decide) ?_
      refine ih (k + 1, (mx_wr M2 (q + 2) (L.getD k 0) (nI 0))) (by dsimp only; omega) (by dsimp only; omega) (fun s hs => ?_) (fun b hb => ?_)
      · dsimp only
        rw [mx_wr_s]
        by_cases hx : s = L.getD k 0
        · rw [hx, pk_us, if_pos ((mem_take_s hkn).mpr (Or.inr rfl))]
          rfl
        · rw [pk_un hx, i1 s hs]
          by_cases hm : s ∈ L.take k
          · rw [if_pos hm, if_pos ((mem_take_s hkn).mpr (Or.inl hm))]
          · rw [if_neg hm, if_neg (fun q => ((mem_take_s hkn).mp q).elim hm hx)]
      · dsimp only
        rw [mx_wr_n _ _ _ hb]
        exact i2 b hb
  · have hke : k = L.length := by omega
    refine sW_go b_Sets_clear_2 (st' := ([.int (M2 q 2), .int (nI k)], [some (.ref q), some (.int (nI k))], M2)) (φ := mx_ocl LAY q = 6 ∧ True) rfl ⟨ho, trivial⟩ ?_
    refine sW_eq (st' := ([.int (nI L.length), .int (nI k)], [some (.ref q), some (.int (nI k))], M2)) (by simp (disch := omega) only [e1]) ?_
    refine sW_ic_ge 28 d_Sets_clear_7 (by decide) (fun c_7 => ?_) (fun c_7 => ?_)
    · skip
      simp (disch := omega) only [nI_leI] at c_7
      refine sW_go b_Sets_clear_28 (st' := ([], [some (.ref q), some (.int (nI k))], mx_wr M2 q 2 (nI 0))) (φ := mx_ocl LAY q = 6 ∧ True) rfl ⟨ho, trivial⟩ ?_
      refine sW_retV d_Sets_clear_33 rfl ?_
      refine ⟨rfl, fun a ha => ?_, ?_, List.nodup_nil, fun s hs => by simp at hs, fun i hi => by simp at hi, fun s hs => ?_, fun s _ => by simp⟩
      · rw [mx_wr_n _ _ _ (by omega)]
        exact i2 a (by omega)
      · rw [mx_wr_s, pk_us]
        rfl
      · rw [mx_wr_n _ _ _ (by omega), i1 s hs, hke, List.take_length]
        refine ⟨?_, show (0 : Nat) < 2 ^ 31 by decide⟩
        by_cases hm : s ∈ L
        · rw [if_pos hm]
          rfl
        · rw [if_neg hm, (h5 s hs).1]
          congr 1
          exact Classical.not_not.mp (fun w => hm ((h6 s hs).mp w))
    · skip
      simp (disch := omega) only [nI_leI] at c_7
      exact absurd c_7 (by omega)
theorem SetsAt.bump {M : mx_M} {q : Nat} {L : List Nat} {f : Nat → Nat} {s n : Nat} (h : SetsAt M q L f) (hs : s < 256) (hm : s ∈ L) (hn2 : f s + n < 2 ^ 31) :
    SetsAt (mx_wr M (q + 2) s (nI (f s + n))) q L (updN f s (f s + n)) := by
  obtain ⟨h1, h2, h3, h4, h5, h6⟩ := h
  refine ⟨?_, h2, h3, fun i hi => ?_, fun x hx => ?_, fun x hx => ?_⟩
  · rw [mx_wr_n _ _ _ (by omega)]
    exact h1
  · rw [mx_wr_n _ _ _ (by omega)]
    exact h4 i hi
  · rw [mx_wr_s]
    by_cases he : x = s
    · subst he
      rw [pk_us, updN_s]
      exact ⟨rfl, hn2⟩
    · rw [pk_un he, updN_n f _ he]
      exact h5 x hx
  · by_cases he : x = s
    · subst he
      rw [updN_s]
      have := (h6 x hx).mpr hm
      exact ⟨fun _ => hm, fun _ => by omega⟩
    · rw [updN_n f _ he]
      exact h6 x hx
theorem k_raise9 (G : mx_G) {M : mx_M} {q : Nat} {L : List Nat} {f : Nat → Nat} (ho : mx_ocl LAY q = 6) (hA : SetsAt M q L f) {s n : Nat} (hs : s < 256) (hm : s ∈ L) (e5 : M (q + 2) s = nI (f s)) (b5 : f s < 2 ^ 31) (hn2 : f s + n < 2 ^ 31) : sW G m_Sets_raise 9 ([], [some (.ref q), some (.int (nI s)), some (.int (nI n))], M) (fun r M' => r = none ∧ Fr M M' q (q + 3) ∧ SetsAt M' q (if s ∈ L then L else L ++ [s]) (updN f s (f s + n))) := by
  refine sW_go b_Sets_raise_9 (st' := ([], [some (.ref q), some (.int (nI s)), some (.int (nI n))], mx_wr M (q + 2) (nI s).toNatClampNeg (M (q + 2) (nI s).toNatClampNeg + nI n))) (φ := mx_ocl LAY q = 6 ∧ vp_in (nI s) (mx_len LAY false (q + 2)) ∧ vp_in (nI s) (mx_len LAY false (q + 2)) ∧ True) rfl ⟨ho, (by simp (disch := omega) only [(ln_Sets_number ho)]; exact vp_in_nI (by omega) (by decide)), (by simp (disch := omega) only [(ln_Sets_number ho)]; exact vp_in_nI (by omega) (by decide)), trivial⟩ ?_
  refine sW_eq (st' := ([], [some (.ref q), some (.int (nI s)), some (.int (nI n))], mx_wr M (q + 2) s (nI (f s + n)))) (by simp (disch := omega) only [e5, nI_add, nI_clamp]) ?_
  refine sW_retV d_Sets_raise_19 rfl ?_
  refine ⟨rfl, Fr.rf.wr (by omega) (by omega), ?_⟩
  rw [if_pos hm]
  exact hA.bump hs hm hn2
theorem k_Sets_raise (G : mx_G) {M : mx_M} {q : Nat} {L : List Nat} {f : Nat → Nat} (ho : mx_ocl LAY q = 6) (hA : SetsAt M q L f) {s n : Nat} (hs : s < 256) (hn : 0 < n) (hn2 : f s + n < 2 ^ 31) : sOk G m_Sets_raise [.ref q, .int (nI s), .int (nI n)] M (fun r M' => r = none ∧ Fr M M' q (q + 3) ∧ SetsAt M' q (if s ∈ L then L else L ++ [s]) (updN f s (f s + n))) := by
  obtain ⟨h1, h2, h3, h4, h5, h6⟩ := id hA
  obtain ⟨e5, b5⟩ := h5 s hs
  refine sOk_of ⟨by decide +kernel, by decide +kernel, Nat.le_of_ble_eq_true rfl⟩ ?_
  show sW G m_Sets_raise 0 ([], [some (.ref q), some (.int (nI s)), some (.int (nI n))], M) _
  refine sW_go b_Sets_raise_0 (st' := ([.int (nI n), .int (nI s), .ref q], [some (.ref q), some (.int (nI s)), some (.int (nI n))], M)) (φ := True) rfl trivial ?_
  refine sW_callV 6 [.int (nI s), .int (nI n)] [] d_Sets_raise_3 c_Sets_raise_3 ⟨rfl, rfl, rfl, Nat.le_of_ble_eq_true rfl, rfl, rfl⟩ ho (k_Sets_add G ho hA hs hn (by omega)) ?_
  rintro _ M2 ⟨rfl, g1, g2, g3⟩
  show sW G m_Sets_raise 6 ([.int (tf (s ∉ L))], [some (.ref q), some (.int (nI s)), some (.int (nI n))], M2) _
  refine sW_if_ne 19 d_Sets_raise_6 (by decide) (fun c_6 => ?_) (fun c_6 => ?_)
  · skip
    replace c_6 := tf_nz.mp c_6
    refine sW_retV d_Sets_raise_19 rfl ?_
    have hm : s ∉ L := c_6
    have h0 : f s = 0 := Classical.not_not.mp (fun w => hm ((h6 s hs).mp w))
    refine ⟨rfl, g1, ?_⟩
    rw [if_neg hm, h0, Nat.zero_add]
    exact g3 hm
  · skip
    replace c_6 := tf_z.mp c_6
    have hm : s ∈ L := Classical.not_not.mp c_6
    have e2 := g2 hm
    subst e2
    exact k_raise9 G ho hA hs hm e5 b5 hn2
end
section
/-! ===== Arrays.fill, Integer.bitCount, Sides ===== -/
theorem k_fill (G : mx_G) {M : mx_M} {a n : Nat} (hl : mx_len LAY false a = n) (hn0 : n ≠ 0) (hn : n < 2 ^ 31) (v : Int32) : sOk G m_fill [.ref a, .int v] M (fun r M' => r = none ∧ Fr M M' a (a + 1) ∧ ∀ i, i < n → M' a i = v) := by
  refine sOk_of ⟨by decide +kernel, by decide +kernel, Nat.le_of_ble_eq_true rfl⟩ ?_
  show sW G m_fill 0 ([], [some (.ref a), some (.int v), none, none], M) _
  refine sW_go b_fill_0 (st' := ([], [some (.ref a), some (.int v), some (.int (nI 0)), some (.int (nI (mx_len LAY false a)))], M)) (φ := mx_len LAY false a ≠ 0 ∧ True) rfl ⟨(by rw [hl]; exact hn0), trivial⟩ ?_
  refine sW_eq (st' := ([], [some (.ref a), some (.int v), some (.int (nI 0)), some (.int (nI n))], M)) (by simp (disch := omega) only [hl]) ?_
  refine mx_ind (α := Nat × mx_M) (fun q => n - q.1) (fun q => q.1 ≤ n → Fr M q.2 a (a + 1) → (∀ i, i < q.1 → q.2 a i = v) → sW G m_fill 5 ([], [some (.ref a), some (.int v), some (.int (nI q.1)), some (.int (nI n))], q.2) _) ?_ (0, M) (Nat.zero_le _) Fr.rf (fun i hi => absurd hi (Nat.not_lt_zero i))
  rintro ⟨k, M2⟩ ih hk i1 i2
  dsimp only at ih hk i1 i2 ⊢
  by_cases hkn : k < n
  · skip
    refine sW_go b_fill_5 (st' := ([.int (nI n), .int (nI k)], [some (.ref a), some (.int v), some (.int (nI k)), some (.int (nI n))], M2)) (φ := True) rfl trivial ?_
    refine sW_ic_ge 20 d_fill_7 (by decide) (fun c_7 => ?_) (fun c_7 => ?_)
    · skip
      simp (disch := omega) only [nI_leI] at c_7
      refine sW_retV d_fill_20 rfl ?_
      omega
    · skip
      simp (disch := omega) only [nI_leI] at c_7
      refine sW_go b_fill_10 (st' := ([], [some (.ref a), some (.int v), some (.int (nI k + nI 1)), some (.int (nI n))], mx_wr M2 a (nI k).toNatClampNeg v)) (φ := vp_in (nI k) (mx_len LAY false a) ∧ True) rfl ⟨(by rw [hl]; exact vp_in_nI (by omega) (by omega)), trivial⟩ ?_
      refine sW_eq (st' := ([], [some (.ref a), some (.int v), some (.int (nI (k + 1))), some (.int (nI n))], mx_wr M2 a k v)) (by simp (disch := omega) only [nI_add, nI_clamp]) ?_
      refine sW_goto 5 d_fill_17 (by decide) ?_
      refine ih (k + 1, (mx_wr M2 a k v)) (by dsimp only; omega) (by dsimp only; omega) (i1.wr (Nat.le_refl _) (by omega)) (fun i hi => ?_)
      dsimp only at hi ⊢
      rw [mx_wr_s]
      by_cases hx : i = k
      · rw [hx, pk_us]
      · rw [pk_un hx]
        exact i2 i (by omega)
  · have hke : k = n := by omega
    refine sW_go b_fill_5 (st' := ([.int (nI n), .int (nI k)], [some (.ref a), some (.int v), some (.int (nI k)), some (.int (nI n))], M2)) (φ := True) rfl trivial ?_
    refine sW_ic_ge 20 d_fill_7 (by decide) (fun c_7 => ?_) (fun c_7 => ?_)
    · skip
      simp (disch := omega) only [nI_leI] at c_7
      refine sW_retV d_fill_20 rfl ?_
      exact ⟨rfl, i1, fun i hi => i2 i (by omega)⟩
    · skip
      simp (disch := omega) only [nI_leI] at c_7
      exact absurd c_7 (by omega)
def pop (a : Nat) : Nat := bt a 0 + bt a 1 + bt a 2 + bt a 3 + bt a 4 + bt a 5 + bt a 6 + bt a 7
theorem k_bitCount (G : mx_G) {M : mx_M} {a : Nat} (ha : a < 256) : sOk G m_bitCount [.int (nI a)] M (fun r M' => r = some (.int (nI (pop a))) ∧ M' = M) := by
  refine sOk_of ⟨by decide +kernel, by decide +kernel, Nat.le_of_ble_eq_true rfl⟩ ?_
  show sW G m_bitCount 0 ([], [some (.int (nI a))], M) _
  refine sW_go b_bitCount_0 (st' := ([.int ((((((((nI a - (((nI a).toUInt32 >>> ((nI 1).toUInt32 &&& Int32.toUInt32 31)).toInt32 &&& nI 1431655765)) &&& nI 858993459) + (((nI a - (((nI a).toUInt32 >>> ((nI 1).toUInt32 &&& Int32.toUInt32 31)).toInt32 &&& nI 1431655765)).toUInt32 >>> ((nI 2).toUInt32 &&& Int32.toUInt32 31)).toInt32 &&& nI 858993459)) + ((((nI a - (((nI a).toUInt32 >>> ((nI 1).toUInt32 &&& Int32.toUInt32 31)).toInt32 &&& nI 1431655765)) &&& nI 858993459) + (((nI a - (((nI a).toUInt32 >>> ((nI 1).toUInt32 &&& Int32.toUInt32 31)).toInt32 &&& nI 1431655765)).toUInt32 >>> ((nI 2).toUInt32 &&& Int32.toUInt32 31)).toInt32 &&& nI 858993459)).toUInt32 >>> ((nI 4).toUInt32 &&& Int32.toUInt32 31)).toInt32) &&& nI 252645135) + ((((((nI a - (((nI a).toUInt32 >>> ((nI 1).toUInt32 &&& Int32.toUInt32 31)).toInt32 &&& nI 1431655765)) &&& nI 858993459) + (((nI a - (((nI a).toUInt32 >>> ((nI 1).toUInt32 &&& Int32.toUInt32 31)).toInt32 &&& nI 1431655765)).toUInt32 >>> ((nI 2).toUInt32 &&& Int32.toUInt32 31)).toInt32 &&& nI 858993459)) + ((((nI a - (((nI a).toUInt32 >>> ((nI 1).toUInt32 &&& Int32.toUInt32 31)).toInt32 &&& nI 1431655765)) &&& nI 858993459) + (((nI a - (((nI a).toUInt32 >>> ((nI 1).toUInt32 &&& Int32.toUInt32 31)).toInt32 &&& nI 1431655765)).toUInt32 >>> ((nI 2).toUInt32 &&& Int32.toUInt32 31)).toInt32 &&& nI 858993459)).toUInt32 >>> ((nI 4).toUInt32 &&& Int32.toUInt32 31)).toInt32) &&& nI 252645135).toUInt32 >>> ((nI 8).toUInt32 &&& Int32.toUInt32 31)).toInt32) + (((((((nI a - (((nI a).toUInt32 >>> ((nI 1).toUInt32 &&& Int32.toUInt32 31)).toInt32 &&& nI 1431655765)) &&& nI 858993459) + (((nI a - (((nI a).toUInt32 >>> ((nI 1).toUInt32 &&& Int32.toUInt32 31)).toInt32 &&& nI 1431655765)).toUInt32 >>> ((nI 2).toUInt32 &&& Int32.toUInt32 31)).toInt32 &&& nI 858993459)) + ((((nI a - (((nI a).toUInt32 >>> ((nI 1).toUInt32 &&& Int32.toUInt32 31)).toInt32 &&& nI 1431655765)) &&& nI 858993459) + (((nI a - (((nI a).toUInt32 >>> ((nI 1).toUInt32 &&& Int32.toUInt32 31)).toInt32 &&& nI 1431655765)).toUInt32 >>> ((nI 2).toUInt32 &&& Int32.toUInt32 31)).toInt32 &&& nI 858993459)).toUInt32 >>> ((nI 4).toUInt32 &&& Int32.toUInt32 31)).toInt32) &&& nI 252645135) + ((((((nI a - (((nI a).toUInt32 >>> ((nI 1).toUInt32 &&& Int32.toUInt32 31)).toInt32 &&& nI 1431655765)) &&& nI 858993459) + (((nI a - (((nI a).toUInt32 >>> ((nI 1).toUInt32 &&& Int32.toUInt32 31)).toInt32 &&& nI 1431655765)).toUInt32 >>> ((nI 2).toUInt32 &&& Int32.toUInt32 31)).toInt32 &&& nI 858993459)) + ((((nI a - (((nI a).toUInt32 >>> ((nI 1).toUInt32 &&& Int32.toUInt32 31)).toInt32 &&& nI 1431655765)) &&& nI 858993459) + (((nI a - (((nI a).toUInt32 >>> ((nI 1).toUInt32 &&& Int32.toUInt32 31)).toInt32 &&& nI 1431655765)).toUInt32 >>> ((nI 2).toUInt32 &&& Int32.toUInt32 31)).toInt32 &&& nI 858993459)).toUInt32 >>> ((nI 4).toUInt32 &&& Int32.toUInt32 31)).toInt32) &&& nI 252645135).toUInt32 >>> ((nI 8).toUInt32 &&& Int32.toUInt32 31)).toInt32).toUInt32 >>> ((nI 16).toUInt32 &&& Int32.toUInt32 31)).toInt32) &&& nI 63)], [some (.int (((((((nI a - (((nI a).toUInt32 >>> ((nI 1).toUInt32 &&& Int32.toUInt32 31)).toInt32 &&& nI 1431655765)) &&& nI 858993459) + (((nI a - (((nI a).toUInt32 >>> ((nI 1).toUInt32 &&& Int32.toUInt32 31)).toInt32 &&& nI 1431655765)).toUInt32 >>> ((nI 2).toUInt32 &&& Int32.toUInt32 31)).toInt32 &&& nI 858993459)) + ((((nI a - (((nI a).toUInt32 >>> ((nI 1).toUInt32 &&& Int32.toUInt32 31)).toInt32 &&& nI 1431655765)) &&& nI 858993459) + (((nI a - (((nI a).toUInt32 >>> ((nI 1).toUInt32 &&& Int32.toUInt32 31)).toInt32 &&& nI 1431655765)).toUInt32 >>> ((nI 2).toUInt32 &&& Int32.toUInt32 31)).toInt32 &&& nI 858993459)).toUInt32 >>> ((nI 4).toUInt32 &&& Int32.toUInt32 31)).toInt32) &&& nI 252645135) + ((((((nI a - (((nI a).toUInt32 >>> ((nI 1).toUInt32 &&& Int32.toUInt32 31)).toInt32 &&& nI 1431655765)) &&& nI 858993459) + (((nI a - (((nI a).toUInt32 >>> ((nI 1).toUInt32 &&& Int32.toUInt32 31)).toInt32 &&& nI 1431655765)).toUInt32 >>> ((nI 2).toUInt32 &&& Int32.toUInt32 31)).toInt32 &&& nI 858993459)) + ((((nI a - (((nI a).toUInt32 >>> ((nI 1).toUInt32 &&& Int32.toUInt32 31)).toInt32 &&& nI 1431655765)) &&& nI 858993459) + (((nI a - (((nI a).toUInt32 >>> ((nI 1).toUInt32 &&& Int32.toUInt32 31)).toInt32 &&& nI 1431655765)).toUInt32 >>> ((nI 2).toUInt32 &&& Int32.toUInt32 31)).toInt32 &&& nI 858993459)).toUInt32 >>> ((nI 4).toUInt32 &&& Int32.toUInt32 31)).toInt32) &&& nI 252645135).toUInt32 >>> ((nI 8).toUInt32 &&& Int32.toUInt32 31)).toInt32) + (((((((nI a - (((nI a).toUInt32 >>> ((nI 1).toUInt32 &&& Int32.toUInt32 31)).toInt32 &&& nI 1431655765)) &&& nI 858993459) + (((nI a - (((nI a).toUInt32 >>> ((nI 1).toUInt32 &&& Int32.toUInt32 31)).toInt32 &&& nI 1431655765)).toUInt32 >>> ((nI 2).toUInt32 &&& Int32.toUInt32 31)).toInt32 &&& nI 858993459)) + ((((nI a - (((nI a).toUInt32 >>> ((nI 1).toUInt32 &&& Int32.toUInt32 31)).toInt32 &&& nI 1431655765)) &&& nI 858993459) + (((nI a - (((nI a).toUInt32 >>> ((nI 1).toUInt32 &&& Int32.toUInt32 31)).toInt32 &&& nI 1431655765)).toUInt32 >>> ((nI 2).toUInt32 &&& Int32.toUInt32 31)).toInt32 &&& nI 858993459)).toUInt32 >>> ((nI 4).toUInt32 &&& Int32.toUInt32 31)).toInt32) &&& nI 252645135) + ((((((nI a - (((nI a).toUInt32 >>> ((nI 1).toUInt32 &&& Int32.toUInt32 31)).toInt32 &&& nI 1431655765)) &&& nI 858993459) + (((nI a - (((nI a).toUInt32 >>> ((nI 1).toUInt32 &&& Int32.toUInt32 31)).toInt32 &&& nI 1431655765)).toUInt32 >>> ((nI 2).toUInt32 &&& Int32.toUInt32 31)).toInt32 &&& nI 858993459)) + ((((nI a - (((nI a).toUInt32 >>> ((nI 1).toUInt32 &&& Int32.toUInt32 31)).toInt32 &&& nI 1431655765)) &&& nI 858993459) + (((nI a - (((nI a).toUInt32 >>> ((nI 1).toUInt32 &&& Int32.toUInt32 31)).toInt32 &&& nI 1431655765)).toUInt32 >>> ((nI 2).toUInt32 &&& Int32.toUInt32 31)).toInt32 &&& nI 858993459)).toUInt32 >>> ((nI 4).toUInt32 &&& Int32.toUInt32 31)).toInt32) &&& nI 252645135).toUInt32 >>> ((nI 8).toUInt32 &&& Int32.toUInt32 31)).toInt32).toUInt32 >>> ((nI 16).toUInt32 &&& Int32.toUInt32 31)).toInt32))], M)) (φ := True) rfl trivial ?_
  refine sW_retI d_bitCount_52 rfl (vp_nar_int _) ?_
  refine ⟨?_, rfl⟩
  have key : ∀ a, a < 256 → ((((((((nI a - (((nI a).toUInt32 >>> ((nI 1).toUInt32 &&& Int32.toUInt32 31)).toInt32 &&& nI 1431655765)) &&& nI 858993459) + (((nI a - (((nI a).toUInt32 >>> ((nI 1).toUInt32 &&& Int32.toUInt32 31)).toInt32 &&& nI 1431655765)).toUInt32 >>> ((nI 2).toUInt32 &&& Int32.toUInt32 31)).toInt32 &&& nI 858993459)) + ((((nI a - (((nI a).toUInt32 >>> ((nI 1).toUInt32 &&& Int32.toUInt32 31)).toInt32 &&& nI 1431655765)) &&& nI 858993459) + (((nI a - (((nI a).toUInt32 >>> ((nI 1).toUInt32 &&& Int32.toUInt32 31)).toInt32 &&& nI 1431655765)).toUInt32 >>> ((nI 2).toUInt32 &&& Int32.toUInt32 31)).toInt32 &&& nI 858993459)).toUInt32 >>> ((nI 4).toUInt32 &&& Int32.toUInt32 31)).toInt32) &&& nI 252645135) + ((((((nI a - (((nI a).toUInt32 >>> ((nI 1).toUInt32 &&& Int32.toUInt32 31)).toInt32 &&& nI 1431655765)) &&& nI 858993459) + (((nI a - (((nI a).toUInt32 >>> ((nI 1).toUInt32 &&& Int32.toUInt32 31)).toInt32 &&& nI 1431655765)).toUInt32 >>> ((nI 2).toUInt32 &&& Int32.toUInt32 31)).toInt32 &&& nI 858993459)) + ((((nI a - (((nI a).toUInt32 >>> ((nI 1).toUInt32 &&& Int32.toUInt32 31)).toInt32 &&& nI 1431655765)) &&& nI 858993459) + (((nI a - (((nI a).toUInt32 >>> ((nI 1).toUInt32 &&& Int32.toUInt32 31)).toInt32 &&& nI 1431655765)).toUInt32 >>> ((nI 2).toUInt32 &&& Int32.toUInt32 31)).toInt32 &&& nI 858993459)).toUInt32 >>> ((nI 4).toUInt32 &&& Int32.toUInt32 31)).toInt32) &&& nI 252645135).toUInt32 >>> ((nI 8).toUInt32 &&& Int32.toUInt32 31)).toInt32) + (((((((nI a - (((nI a).toUInt32 >>> ((nI 1).toUInt32 &&& Int32.toUInt32 31)).toInt32 &&& nI 1431655765)) &&& nI 858993459) + (((nI a - (((nI a).toUInt32 >>> ((nI 1).toUInt32 &&& Int32.toUInt32 31)).toInt32 &&& nI 1431655765)).toUInt32 >>> ((nI 2).toUInt32 &&& Int32.toUInt32 31)).toInt32 &&& nI 858993459)) + ((((nI a - (((nI a).toUInt32 >>> ((nI 1).toUInt32 &&& Int32.toUInt32 31)).toInt32 &&& nI 1431655765)) &&& nI 858993459) + (((nI a - (((nI a).toUInt32 >>> ((nI 1).toUInt32 &&& Int32.toUInt32 31)).toInt32 &&& nI 1431655765)).toUInt32 >>> ((nI 2).toUInt32 &&& Int32.toUInt32 31)).toInt32 &&& nI 858993459)).toUInt32 >>> ((nI 4).toUInt32 &&& Int32.toUInt32 31)).toInt32) &&& nI 252645135) + ((((((nI a - (((nI a).toUInt32 >>> ((nI 1).toUInt32 &&& Int32.toUInt32 31)).toInt32 &&& nI 1431655765)) &&& nI 858993459) + (((nI a - (((nI a).toUInt32 >>> ((nI 1).toUInt32 &&& Int32.toUInt32 31)).toInt32 &&& nI 1431655765)).toUInt32 >>> ((nI 2).toUInt32 &&& Int32.toUInt32 31)).toInt32 &&& nI 858993459)) + ((((nI a - (((nI a).toUInt32 >>> ((nI 1).toUInt32 &&& Int32.toUInt32 31)).toInt32 &&& nI 1431655765)) &&& nI 858993459) + (((nI a - (((nI a).toUInt32 >>> ((nI 1).toUInt32 &&& Int32.toUInt32 31)).toInt32 &&& nI 1431655765)).toUInt32 >>> ((nI 2).toUInt32 &&& Int32.toUInt32 31)).toInt32 &&& nI 858993459)).toUInt32 >>> ((nI 4).toUInt32 &&& Int32.toUInt32 31)).toInt32) &&& nI 252645135).toUInt32 >>> ((nI 8).toUInt32 &&& Int32.toUInt32 31)).toInt32).toUInt32 >>> ((nI 16).toUInt32 &&& Int32.toUInt32 31)).toInt32) &&& nI 63) = nI (pop a) := by decide +kernel
  rw [key a ha]
def ins (L : List Nat) (s : Nat) : List Nat := if s ∈ L then L else L ++ [s]
theorem mem_ins {L : List Nat} {s x : Nat} : x ∈ ins L s ↔ x ∈ L ∨ x = s := by
  unfold ins
  split
  · rename_i h
    exact ⟨Or.inl, fun q => q.elim id (fun e => e ▸ h)⟩
  · simp
def SetsL (M : mx_M) (q : Nat) (L : List Nat) : Prop := ∃ f, SetsAt M q L f
theorem SetsL.fr {M M' : mx_M} {q lo hi : Nat} {L : List Nat} (h : SetsL M q L) (hf : Fr M M' lo hi) (hd : q + 3 ≤ lo ∨ hi ≤ q) : SetsL M' q L := by
  obtain ⟨f, h⟩ := h
  exact ⟨f, h.fr hf hd⟩
theorem k_Sets_addL (G : mx_G) {M : mx_M} {q : Nat} {L : List Nat} (ho : mx_ocl LAY q = 6) (hA : SetsL M q L) {s n : Nat} (hs : s < 256) (hn : 0 < n) (hn2 : n < 2 ^ 31) : sOk G m_Sets_add [.ref q, .int (nI s), .int (nI n)] M (fun r M' => r = some (.int (tf (s ∉ L))) ∧ Fr M M' q (q + 3) ∧ SetsL M' q (ins L s) ∧ (s ∈ L → M' = M)) := by
  obtain ⟨f, hA⟩ := hA
  refine sOk_mono (k_Sets_add G ho hA hs hn hn2) ?_
  rintro r M' ⟨h1, h2, h3, h4⟩
  refine ⟨h1, h2, ?_, h3⟩
  unfold ins
  split
  · rename_i hm
    rw [h3 hm]
    exact ⟨f, hA⟩
  · rename_i hm
    exact ⟨_, h4 hm⟩
theorem k_Sets_clearL (G : mx_G) {M : mx_M} {q : Nat} {L : List Nat} (ho : mx_ocl LAY q = 6) (hA : SetsL M q L) : sOk G m_Sets_clear [.ref q] M (fun r M' => r = none ∧ Fr M M' q (q + 3) ∧ SetsL M' q []) := by
  obtain ⟨f, hA⟩ := hA
  refine sOk_mono (k_Sets_clear G ho hA) ?_
  rintro r M' ⟨h1, h2, h3⟩
  exact ⟨h1, h2, _, h3⟩
theorem k_Sides_clear (G : mx_G) {M : mx_M} {d : Nat} {L R : List Nat} (ho : mx_ocl LAY d = 7) (hL : SetsL M (d + 3) L) (hR : SetsL M (d + 6) R) : sOk G m_Sides_clear [.ref d] M (fun r M' => r = none ∧ Fr M M' (d + 3) (d + 9) ∧ SetsL M' (d + 3) [] ∧ SetsL M' (d + 6) []) := by
  refine sOk_of ⟨by decide +kernel, by decide +kernel, Nat.le_of_ble_eq_true rfl⟩ ?_
  show sW G m_Sides_clear 0 ([], [some (.ref d)], M) _
  refine sW_go b_Sides_clear_0 (st' := ([.ref (d + 3)], [some (.ref d)], M)) (φ := mx_ocl LAY d = 7 ∧ True) rfl ⟨ho, trivial⟩ ?_
  refine sW_callV 6 [] [] d_Sides_clear_4 c_Sides_clear_4 ⟨rfl, rfl, rfl, Nat.le_of_ble_eq_true rfl, rfl, rfl⟩ (oc_Sides_lefts ho) (k_Sets_clearL G (oc_Sides_lefts ho) hL) ?_
  rintro _ M2 ⟨rfl, g1, g2⟩
  have hR2 : SetsL M2 (d + 6) R := hR.fr g1 (by omega)
  show sW G m_Sides_clear 7 ([], [some (.ref d)], M2) _
  refine sW_go b_Sides_clear_7 (st' := ([.ref (d + 6)], [some (.ref d)], M2)) (φ := mx_ocl LAY d = 7 ∧ True) rfl ⟨ho, trivial⟩ ?_
  refine sW_callV 6 [] [] d_Sides_clear_11 c_Sides_clear_11 ⟨rfl, rfl, rfl, Nat.le_of_ble_eq_true rfl, rfl, rfl⟩ (oc_Sides_rights ho) (k_Sets_clearL G (oc_Sides_rights ho) hR2) ?_
  rintro _ M3 ⟨rfl, g3, g4⟩
  show sW G m_Sides_clear 14 ([], [some (.ref d)], M3) _
  refine sW_retV d_Sides_clear_14 rfl ?_
  exact ⟨rfl, (g1.mono (by omega) (by omega)).tr (g3.mono (by omega) (by omega)), g2.fr g3 (by omega), g4⟩
theorem k_Sides_see (G : mx_G) {M : mx_M} {d h t k x : Nat} {hs : Hs} {L R : List Nat} (ho : mx_ocl LAY d = 7) (hh : mx_ocl LAY h = 3) (hA : HsAt M h hs) (hw : HsOk hs) (ht : t < 6) (hx : x < 256) (hk : k < 256) (hL : SetsL M (d + 3) L) (hR : SetsL M (d + 6) R) (hdj : h + 4 ≤ d ∨ d + 9 ≤ h) :
    sOk G m_Sides_see [.ref d, .ref h, .int (nI t), .int (nI k), .int (nI x)] M (fun r M' => r = none ∧ Fr M M' (d + 1) (d + 9) ∧ M' (d + 1) = upd (M (d + 1)) k (nI (bsum (lftB hs t x) hs.1)) ∧ M' (d + 2) = upd (M (d + 2)) k (nI (bsum (rgtB hs t x) hs.1)) ∧ SetsL M' (d + 3) (ins L (bsum (lftB hs t x) hs.1)) ∧ SetsL M' (d + 6) (ins R (bsum (rgtB hs t x) hs.1))) := by
  have bl := bsum_lt8 (lftB_le hs t x) hw.1
  have br := bsum_lt8 (rgtB_le hs t x) hw.1
  generalize el : bsum (lftB hs t x) hs.1 = l at bl ⊢
  generalize er : bsum (rgtB hs t x) hs.1 = r at br ⊢
  have hL2 : SetsL (mx_wr (mx_wr M (d + 1) k (nI l)) (d + 2) k (nI r)) (d + 3) L := hL.fr ((Fr.rf.wr (lo := d + 1) (hi := d + 3) (by omega) (by omega)).wr (by omega) (by omega)) (by omega)
  have hR2 : SetsL (mx_wr (mx_wr M (d + 1) k (nI l)) (d + 2) k (nI r)) (d + 6) R := hR.fr ((Fr.rf.wr (lo := d + 1) (hi := d + 3) (by omega) (by omega)).wr (by omega) (by omega)) (by omega)
  have e3 : (mx_wr (mx_wr M (d + 1) k (nI l)) (d + 2) k (nI r)) (d + 1) k = nI l := by rw [mx_wr_n _ _ _ (by omega), mx_wr_s, pk_us]
  refine sOk_of ⟨by decide +kernel, by decide +kernel, Nat.le_of_ble_eq_true rfl⟩ ?_
  show sW G m_Sides_see 0 ([], [some (.ref d), some (.ref h), some (.int (nI t)), some (.int (nI k)), some (.int (nI x))], M) _
  refine sW_go b_Sides_see_0 (st' := ([.int (nI x), .int (nI t), .ref h, .int (nI k), .ref (d + 1)], [some (.ref d), some (.ref h), some (.int (nI t)), some (.int (nI k)), some (.int (nI x))], M)) (φ := mx_ocl LAY d = 7 ∧ True) rfl ⟨ho, trivial⟩ ?_
  refine sW_callV 3 [.int (nI t), .int (nI x)] [.int (nI k), .ref (d + 1)] d_Sides_see_9 c_Sides_see_9 ⟨rfl, rfl, rfl, Nat.le_of_ble_eq_true rfl, rfl, rfl⟩ hh (el ▸ k_House_withFirstIn G hh hA hw ht hx) ?_
  rintro _ M₁ ⟨rfl, h₁⟩
  rw [h₁]
  show sW G m_Sides_see 12 ([.int (nI l), .int (nI k), .ref (d + 1)], [some (.ref d), some (.ref h), some (.int (nI t)), some (.int (nI k)), some (.int (nI x))], M) _
  refine sW_go b_Sides_see_12 (st' := ([.int (nI x), .int (nI t), .ref h, .int (nI k), .ref (d + 2)], [some (.ref d), some (.ref h), some (.int (nI t)), some (.int (nI k)), some (.int (nI x))], mx_wr M (d + 1) (nI k).toNatClampNeg (nI l))) (φ := vp_in (nI k) (mx_len LAY false (d + 1)) ∧ mx_ocl LAY d = 7 ∧ True) rfl ⟨(by simp (disch := omega) only [(ln_Sides_leftOf ho)]; exact vp_in_nI (by omega) (by decide)), ho, trivial⟩ ?_
  refine sW_eq (st' := ([.int (nI x), .int (nI t), .ref h, .int (nI k), .ref (d + 2)], [some (.ref d), some (.ref h), some (.int (nI t)), some (.int (nI k)), some (.int (nI x))], mx_wr M (d + 1) k (nI l))) (by simp (disch := omega) only [nI_clamp]) ?_
  refine sW_callV 3 [.int (nI t), .int (nI x)] [.int (nI k), .ref (d + 2)] d_Sides_see_22 c_Sides_see_22 ⟨rfl, rfl, rfl, Nat.le_of_ble_eq_true rfl, rfl, rfl⟩ hh (er ▸ k_House_withSecondIn G hh (hA.fr (Fr.rf.wr (lo := d) (hi := d + 9) (by omega) (by omega)) (by omega)) hw ht hx) ?_
  rintro _ M₁ ⟨rfl, h₁⟩
  rw [h₁]
  show sW G m_Sides_see 25 ([.int (nI r), .int (nI k), .ref (d + 2)], [some (.ref d), some (.ref h), some (.int (nI t)), some (.int (nI k)), some (.int (nI x))], mx_wr M (d + 1) k (nI l)) _
  refine sW_go b_Sides_see_25 (st' := ([.int (nI 1), .int ((mx_wr (mx_wr M (d + 1) k (nI l)) (d + 2) (nI k).toNatClampNeg (nI r)) (d + 1) (nI k).toNatClampNeg), .ref (d + 3)], [some (.ref d), some (.ref h), some (.int (nI t)), some (.int (nI k)), some (.int (nI x))], mx_wr (mx_wr M (d + 1) k (nI l)) (d + 2) (nI k).toNatClampNeg (nI r))) (φ := vp_in (nI k) (mx_len LAY false (d + 2)) ∧ mx_ocl LAY d = 7 ∧ mx_ocl LAY d = 7 ∧ vp_in (nI k) (mx_len LAY false (d + 1)) ∧ True) rfl ⟨(by simp (disch := omega) only [(ln_Sides_rightOf ho)]; exact vp_in_nI (by omega) (by decide)), ho, ho, (by simp (disch := omega) only [(ln_Sides_leftOf ho)]; exact vp_in_nI (by omega) (by decide)), trivial⟩ ?_
  refine sW_eq (st' := ([.int (nI 1), .int (nI l), .ref (d + 3)], [some (.ref d), some (.ref h), some (.int (nI t)), some (.int (nI k)), some (.int (nI x))], mx_wr (mx_wr M (d + 1) k (nI l)) (d + 2) k (nI r))) (by simp (disch := omega) only [e3, nI_clamp]) ?_
  refine sW_callV 6 [.int (nI l), .int (nI 1)] [] d_Sides_see_37 c_Sides_see_37 ⟨rfl, rfl, rfl, Nat.le_of_ble_eq_true rfl, rfl, rfl⟩ (oc_Sides_lefts ho) (k_Sets_addL G (oc_Sides_lefts ho) hL2 bl (by decide) (by decide)) ?_
  rintro _ M4 ⟨rfl, g1, g2, _⟩
  have hR4 : SetsL M4 (d + 6) R := hR2.fr g1 (by omega)
  have e4 : M4 (d + 2) k = nI r := by rw [g1 (d + 2) (by omega), mx_wr_s, pk_us]
  show sW G m_Sides_see 40 ([.int (tf (l ∉ L))], [some (.ref d), some (.ref h), some (.int (nI t)), some (.int (nI k)), some (.int (nI x))], M4) _
  refine sW_go b_Sides_see_40 (st' := ([.int (nI 1), .int (M4 (d + 2) (nI k).toNatClampNeg), .ref (d + 6)], [some (.ref d), some (.ref h), some (.int (nI t)), some (.int (nI k)), some (.int (nI x))], M4)) (φ := mx_ocl LAY d = 7 ∧ mx_ocl LAY d = 7 ∧ vp_in (nI k) (mx_len LAY false (d + 2)) ∧ True) rfl ⟨ho, ho, (by simp (disch := omega) only [(ln_Sides_rightOf ho)]; exact vp_in_nI (by omega) (by decide)), trivial⟩ ?_
  refine sW_eq (st' := ([.int (nI 1), .int (nI r), .ref (d + 6)], [some (.ref d), some (.ref h), some (.int (nI t)), some (.int (nI k)), some (.int (nI x))], M4)) (by simp (disch := omega) only [e4, nI_clamp]) ?_
  refine sW_callV 6 [.int (nI r), .int (nI 1)] [] d_Sides_see_52 c_Sides_see_52 ⟨rfl, rfl, rfl, Nat.le_of_ble_eq_true rfl, rfl, rfl⟩ (oc_Sides_rights ho) (k_Sets_addL G (oc_Sides_rights ho) hR4 br (by decide) (by decide)) ?_
  rintro _ M5 ⟨rfl, g3, g4, _⟩
  show sW G m_Sides_see 55 ([.int (tf (r ∉ R))], [some (.ref d), some (.ref h), some (.int (nI t)), some (.int (nI k)), some (.int (nI x))], M5) _
  refine sW_go b_Sides_see_55 (st' := ([], [some (.ref d), some (.ref h), some (.int (nI t)), some (.int (nI k)), some (.int (nI x))], M5)) (φ := True) rfl trivial ?_
  refine sW_retV d_Sides_see_56 rfl ?_
  refine ⟨rfl, ?_, ?_, ?_, g2.fr g3 (by omega), g4⟩
  · exact ((Fr.rf.wr (by omega) (by omega)).wr (by omega) (by omega)).tr ((g1.mono (by omega) (by omega)).tr (g3.mono (by omega) (by omega)))
  · rw [g3 (d + 1) (by omega), g1 (d + 1) (by omega), mx_wr_n _ _ _ (by omega), mx_wr_s]
  · rw [g3 (d + 2) (by omega), g1 (d + 2) (by omega), mx_wr_s, mx_wr_n _ _ _ (by omega)]
end
section
/-! ===== rows ===== -/
noncomputable def cif {α : Type} (c : Prop) (a b : α) : α := @ite _ c (Classical.propDecidable c) a b
theorem cif_t {α : Type} {c : Prop} {a b : α} (h : c) : cif c a b = a := if_pos h
theorem cif_f {α : Type} {c : Prop} {a b : α} (h : ¬ c) : cif c a b = b := if_neg h
/-- lanes (-1: missing), lengths, items -/
abbrev Rw : Type := (Nat → Int32) × (Nat → Nat) × (Nat → Nat → Int32)
def RowsAt (M : mx_M) (la le it : Nat) (R : Rw) : Prop := ∀ r, r < 8 → M la r = R.1 r ∧ (R.1 r = -1 ∨ vp_in (R.1 r) 3) ∧ M le r = nI (R.2.1 r) ∧ R.2.1 r ≤ 40 ∧ (R.1 r ≠ -1 → ∀ i, i < R.2.1 r → M it (r * 40 + i) = R.2.2 r i)
theorem RowsAt.fr {M M' : mx_M} {la le it lo hi : Nat} {R : Rw} (h : RowsAt M la le it R) (hf : Fr M M' lo hi) (hd : (la < lo ∨ hi ≤ la) ∧ (le < lo ∨ hi ≤ le) ∧ (it < lo ∨ hi ≤ it)) : RowsAt M' la le it R := by
  unfold RowsAt
  rw [hf la hd.1, hf le hd.2.1, hf it hd.2.2]
  exact h
def placeP (len : Nat) (i n : Int32) : Prop := 0 ≤ i.toInt ∧ 0 ≤ n.toInt ∧ i.toInt + n.toInt ≤ len
theorem sub_ti {len : Nat} {i : Int32} (hl : len < 2 ^ 30) (h0 : ¬ i < 0) (h1 : ¬ nI len < i) : (nI len - i).toInt = (len : Int) - i.toInt := by
  obtain ⟨j, hj, rfl⟩ := nI_of h0
  rw [nI_ltI (by omega) hj] at h1
  rw [pk_sub_toInt hl (by omega), nI_toInt hj]
theorem k_isNumber (G : mx_G) {M : mx_M} (t : Int32) : sOk G m_Rows_isNumber [.int t] M (fun r M' => r = some (.int (tf (vp_in t 8))) ∧ M' = M) := by
  refine sOk_of ⟨by decide +kernel, by decide +kernel, Nat.le_of_ble_eq_true rfl⟩ ?_
  show sW G m_Rows_isNumber 0 ([], [some (.int t)], M) _
  refine sW_go b_Rows_isNumber_0 (st' := ([.int t], [some (.int t)], M)) (φ := True) rfl trivial ?_
  refine sW_if_lt 14 d_Rows_isNumber_1 (by decide) (fun c_1 => ?_) (fun c_1 => ?_)
  · skip
    refine sW_go b_Rows_isNumber_14 (st' := ([.int (nI 0)], [some (.int t)], M)) (φ := True) rfl trivial ?_
    refine sW_retI d_Rows_isNumber_15 rfl nb_0 ?_
    exact ⟨by rw [tf_f (vi_neg c_1)], rfl⟩
  · skip
    refine sW_go b_Rows_isNumber_4 (st' := ([.int (nI 8), .int t], [some (.int t)], M)) (φ := True) rfl trivial ?_
    refine sW_ic_ge 14 d_Rows_isNumber_7 (by decide) (fun c_7 => ?_) (fun c_7 => ?_)
    · skip
      refine sW_go b_Rows_isNumber_14 (st' := ([.int (nI 0)], [some (.int t)], M)) (φ := True) rfl trivial ?_
      refine sW_retI d_Rows_isNumber_15 rfl nb_0 ?_
      exact ⟨by rw [tf_f (vi_ge (by decide) c_7)], rfl⟩
    · skip
      refine sW_go b_Rows_isNumber_10 (st' := ([.int (nI 1)], [some (.int t)], M)) (φ := True) rfl trivial ?_
      refine sW_goto 15 d_Rows_isNumber_11 (by decide) ?_
      refine sW_retI d_Rows_isNumber_15 rfl nb_1 ?_
      exact ⟨by rw [tf_t (vi_mk (by decide) c_1 c_7)], rfl⟩
theorem k_isLane (G : mx_G) {M : mx_M} (t : Int32) : sOk G m_Rows_isLane [.int t] M (fun r M' => r = some (.int (tf (vp_in t 3))) ∧ M' = M) := by
  refine sOk_of ⟨by decide +kernel, by decide +kernel, Nat.le_of_ble_eq_true rfl⟩ ?_
  show sW G m_Rows_isLane 0 ([], [some (.int t)], M) _
  refine sW_go b_Rows_isLane_0 (st' := ([.int t], [some (.int t)], M)) (φ := True) rfl trivial ?_
  refine sW_if_lt 13 d_Rows_isLane_1 (by decide) (fun c_1 => ?_) (fun c_1 => ?_)
  · skip
    refine sW_go b_Rows_isLane_13 (st' := ([.int (nI 0)], [some (.int t)], M)) (φ := True) rfl trivial ?_
    refine sW_retI d_Rows_isLane_14 rfl nb_0 ?_
    exact ⟨by rw [tf_f (vi_neg c_1)], rfl⟩
  · skip
    refine sW_go b_Rows_isLane_4 (st' := ([.int (nI 2), .int t], [some (.int t)], M)) (φ := True) rfl trivial ?_
    refine sW_ic_gt 13 d_Rows_isLane_6 (by decide) (fun c_6 => ?_) (fun c_6 => ?_)
    · skip
      refine sW_go b_Rows_isLane_13 (st' := ([.int (nI 0)], [some (.int t)], M)) (φ := True) rfl trivial ?_
      refine sW_retI d_Rows_isLane_14 rfl nb_0 ?_
      exact ⟨by rw [tf_f]; (simp (disch := omega) only [vp_in_iff, Int32.lt_iff_toInt_lt, Int32.le_iff_toInt_le, Int32.toInt_zero, nI_toInt] at *; omega), rfl⟩
    · skip
      refine sW_go b_Rows_isLane_9 (st' := ([.int (nI 1)], [some (.int t)], M)) (φ := True) rfl trivial ?_
      refine sW_goto 14 d_Rows_isLane_10 (by decide) ?_
      refine sW_retI d_Rows_isLane_14 rfl nb_1 ?_
      exact ⟨by rw [tf_t]; (simp (disch := omega) only [vp_in_iff, Int32.lt_iff_toInt_lt, Int32.le_iff_toInt_le, Int32.toInt_zero, nI_toInt] at *; omega), rfl⟩
theorem k_isPlace (G : mx_G) {M : mx_M} {r len : Nat} (hr : r < 8) (hl : M 3 r = nI len) (h40 : len ≤ 40) (i n : Int32) : sOk G m_Rows_isPlace [.ref 1, .int (nI r), .int i, .int n] M (fun q M' => q = some (.int (tf (placeP len i n))) ∧ M' = M) := by
  refine sOk_of ⟨by decide +kernel, by decide +kernel, Nat.le_of_ble_eq_true rfl⟩ ?_
  show sW G m_Rows_isPlace 0 ([], [some (.ref 1), some (.int (nI r)), some (.int i), some (.int n)], M) _
  refine sW_go b_Rows_isPlace_0 (st' := ([.int i], [some (.ref 1), some (.int (nI r)), some (.int i), some (.int n)], M)) (φ := True) rfl trivial ?_
  refine sW_if_lt 34 d_Rows_isPlace_1 (by decide) (fun c_1 => ?_) (fun c_1 => ?_)
  · skip
    refine sW_go b_Rows_isPlace_34 (st' := ([.int (nI 0)], [some (.ref 1), some (.int (nI r)), some (.int i), some (.int n)], M)) (φ := True) rfl trivial ?_
    refine sW_retI d_Rows_isPlace_35 rfl nb_0 ?_
    exact ⟨by rw [tf_f]; unfold placeP; (simp (disch := omega) only [vp_in_iff, Int32.lt_iff_toInt_lt, Int32.le_iff_toInt_le, Int32.toInt_zero, nI_toInt] at *; omega), rfl⟩
  · skip
    refine sW_go b_Rows_isPlace_4 (st' := ([.int n], [some (.ref 1), some (.int (nI r)), some (.int i), some (.int n)], M)) (φ := True) rfl trivial ?_
    refine sW_if_lt 34 d_Rows_isPlace_5 (by decide) (fun c_5 => ?_) (fun c_5 => ?_)
    · skip
      refine sW_go b_Rows_isPlace_34 (st' := ([.int (nI 0)], [some (.ref 1), some (.int (nI r)), some (.int i), some (.int n)], M)) (φ := True) rfl trivial ?_
      refine sW_retI d_Rows_isPlace_35 rfl nb_0 ?_
      exact ⟨by rw [tf_f]; unfold placeP; (simp (disch := omega) only [vp_in_iff, Int32.lt_iff_toInt_lt, Int32.le_iff_toInt_le, Int32.toInt_zero, nI_toInt] at *; omega), rfl⟩
    · skip
      refine sW_go b_Rows_isPlace_8 (st' := ([.int (M 3 (nI r).toNatClampNeg), .int i], [some (.ref 1), some (.int (nI r)), some (.int i), some (.int n)], M)) (φ := mx_ocl LAY 1 = 5 ∧ vp_in (nI r) (mx_len LAY false 3) ∧ True) rfl ⟨oc_1, (by simp (disch := omega) only [ln_3]; exact vp_in_nI (by omega) (by decide)), trivial⟩ ?_
      refine sW_eq (st' := ([.int (nI len), .int i], [some (.ref 1), some (.int (nI r)), some (.int i), some (.int n)], M)) (by simp (disch := omega) only [hl, nI_clamp]) ?_
      refine sW_ic_gt 34 d_Rows_isPlace_15 (by decide) (fun c_15 => ?_) (fun c_15 => ?_)
      · skip
        refine sW_go b_Rows_isPlace_34 (st' := ([.int (nI 0)], [some (.ref 1), some (.int (nI r)), some (.int i), some (.int n)], M)) (φ := True) rfl trivial ?_
        refine sW_retI d_Rows_isPlace_35 rfl nb_0 ?_
        exact ⟨by rw [tf_f]; unfold placeP; (simp (disch := omega) only [vp_in_iff, Int32.lt_iff_toInt_lt, Int32.le_iff_toInt_le, Int32.toInt_zero, nI_toInt] at *; omega), rfl⟩
      · skip
        refine sW_go b_Rows_isPlace_18 (st' := ([.int (M 3 (nI r).toNatClampNeg - i), .int n], [some (.ref 1), some (.int (nI r)), some (.int i), some (.int n)], M)) (φ := mx_ocl LAY 1 = 5 ∧ vp_in (nI r) (mx_len LAY false 3) ∧ True) rfl ⟨oc_1, (by simp (disch := omega) only [ln_3]; exact vp_in_nI (by omega) (by decide)), trivial⟩ ?_
        refine sW_eq (st' := ([.int (nI len - i), .int n], [some (.ref 1), some (.int (nI r)), some (.int i), some (.int n)], M)) (by simp (disch := omega) only [hl, nI_clamp]) ?_
        refine sW_ic_gt 34 d_Rows_isPlace_27 (by decide) (fun c_27 => ?_) (fun c_27 => ?_)
        · skip
          refine sW_go b_Rows_isPlace_34 (st' := ([.int (nI 0)], [some (.ref 1), some (.int (nI r)), some (.int i), some (.int n)], M)) (φ := True) rfl trivial ?_
          refine sW_retI d_Rows_isPlace_35 rfl nb_0 ?_
          have e := sub_ti (by omega) c_1 c_15
          exact ⟨by rw [tf_f]; unfold placeP; (simp (disch := omega) only [vp_in_iff, Int32.lt_iff_toInt_lt, Int32.le_iff_toInt_le, Int32.toInt_zero, nI_toInt] at *; omega), rfl⟩
        · skip
          refine sW_go b_Rows_isPlace_30 (st' := ([.int (nI 1)], [some (.ref 1), some (.int (nI r)), some (.int i), some (.int n)], M)) (φ := True) rfl trivial ?_
          refine sW_goto 35 d_Rows_isPlace_31 (by decide) ?_
          refine sW_retI d_Rows_isPlace_35 rfl nb_1 ?_
          have e := sub_ti (by omega) c_1 c_15
          exact ⟨by rw [tf_t]; unfold placeP; (simp (disch := omega) only [vp_in_iff, Int32.lt_iff_toInt_lt, Int32.le_iff_toInt_le, Int32.toInt_zero, nI_toInt] at *; omega), rfl⟩
/-- what is found of n items of a row, from i on -/
noncomputable def fndN (R : Rw) (r : Nat) (i n : Int32) : Nat := cif (R.1 r = -1) 1 (cif (placeP (R.2.1 r) i n) 0 2)
theorem k_findingAt (G : mx_G) {M : mx_M} {R : Rw} (hA : RowsAt M 2 3 4 R) {r : Nat} (hr : r < 8) (i n : Int32) : sOk G m_Rows_findingAt [.ref 1, .int (nI r), .int i, .int n] M (fun q M' => q = some (.int (nI (fndN R r i n))) ∧ M' = M) := by
  obtain ⟨a1, a2, a3, a4, a5⟩ := hA r hr
  refine sOk_of ⟨by decide +kernel, by decide +kernel, Nat.le_of_ble_eq_true rfl⟩ ?_
  show sW G m_Rows_findingAt 0 ([], [some (.ref 1), some (.int (nI r)), some (.int i), some (.int n)], M) _
  refine sW_go b_Rows_findingAt_0 (st' := ([.int (-1), .int (M 2 (nI r).toNatClampNeg)], [some (.ref 1), some (.int (nI r)), some (.int i), some (.int n)], M)) (φ := mx_ocl LAY 1 = 5 ∧ vp_in (nI r) (mx_len LAY false 2) ∧ True) rfl ⟨oc_1, (by simp (disch := omega) only [ln_2]; exact vp_in_nI (by omega) (by decide)), trivial⟩ ?_
  refine sW_eq (st' := ([.int (-1), .int (R.1 r)], [some (.ref 1), some (.int (nI r)), some (.int i), some (.int n)], M)) (by simp (disch := omega) only [a1, nI_clamp]) ?_
  refine sW_ic_ne 12 d_Rows_findingAt_7 (by decide) (fun c_7 => ?_) (fun c_7 => ?_)
  · skip
    refine sW_go b_Rows_findingAt_12 (st' := ([.int n, .int i, .int (nI r), .ref 1], [some (.ref 1), some (.int (nI r)), some (.int i), some (.int n)], M)) (φ := True) rfl trivial ?_
    refine sW_callV 5 [.int (nI r), .int i, .int n] [] d_Rows_findingAt_16 c_Rows_findingAt_16 ⟨rfl, rfl, rfl, Nat.le_of_ble_eq_true rfl, rfl, rfl⟩ oc_1 (k_isPlace G hr a3 a4 i n) ?_
    rintro _ M₁ ⟨rfl, h₁⟩
    rw [h₁]
    show sW G m_Rows_findingAt 19 ([.int (tf (placeP (R.2.1 r) i n))], [some (.ref 1), some (.int (nI r)), some (.int i), some (.int n)], M) _
    refine sW_if_eq 26 d_Rows_findingAt_19 (by decide) (fun c_19 => ?_) (fun c_19 => ?_)
    · skip
      replace c_19 := tf_z.mp c_19
      refine sW_go b_Rows_findingAt_26 (st' := ([.int (nI 2)], [some (.ref 1), some (.int (nI r)), some (.int i), some (.int n)], M)) (φ := True) rfl trivial ?_
      refine sW_retI d_Rows_findingAt_27 rfl (vp_nar_int _) ?_
      exact ⟨by unfold fndN; rw [cif_f c_7, cif_f c_19], rfl⟩
    · skip
      replace c_19 := tf_nz.mp c_19
      refine sW_go b_Rows_findingAt_22 (st' := ([.int (nI 0)], [some (.ref 1), some (.int (nI r)), some (.int i), some (.int n)], M)) (φ := True) rfl trivial ?_
      refine sW_goto 27 d_Rows_findingAt_23 (by decide) ?_
      refine sW_retI d_Rows_findingAt_27 rfl (vp_nar_int _) ?_
      exact ⟨by unfold fndN; rw [cif_f c_7, cif_t c_19], rfl⟩
  · skip
    refine sW_go b_Rows_findingAt_10 (st' := ([.int (nI 1)], [some (.ref 1), some (.int (nI r)), some (.int i), some (.int n)], M)) (φ := True) rfl trivial ?_
    refine sW_retI d_Rows_findingAt_11 rfl (vp_nar_int _) ?_
    exact ⟨by unfold fndN; rw [cif_t c_7], rfl⟩
noncomputable def fndM (R : Rw) (a : Nat) (i : Int32) (b : Nat) (j n : Int32) : Nat := cif (R.1 a = -1 ∨ R.1 b = -1) 1 (cif (R.1 a = R.1 b) (cif (placeP (R.2.1 a) i n ∧ placeP (R.2.1 b) j n) 0 2) 5)
theorem k_findingOfMove (G : mx_G) {M : mx_M} {R : Rw} (hA : RowsAt M 2 3 4 R) {a b : Nat} (ha : a < 8) (hb : b < 8) (i j n : Int32) : sOk G m_Rows_findingOfMove [.ref 1, .int (nI a), .int i, .int (nI b), .int j, .int n] M (fun q M' => q = some (.int (nI (fndM R a i b j n))) ∧ M' = M) := by
  obtain ⟨a1, a2, a3, a4, a5⟩ := hA a ha
  obtain ⟨b1, b2, b3, b4, b5⟩ := hA b hb
  refine sOk_of ⟨by decide +kernel, by decide +kernel, Nat.le_of_ble_eq_true rfl⟩ ?_
  show sW G m_Rows_findingOfMove 0 ([], [some (.ref 1), some (.int (nI a)), some (.int i), some (.int (nI b)), some (.int j), some (.int n)], M) _
  refine sW_go b_Rows_findingOfMove_0 (st' := ([.int (-1), .int (M 2 (nI a).toNatClampNeg)], [some (.ref 1), some (.int (nI a)), some (.int i), some (.int (nI b)), some (.int j), some (.int n)], M)) (φ := mx_ocl LAY 1 = 5 ∧ vp_in (nI a) (mx_len LAY false 2) ∧ True) rfl ⟨oc_1, (by simp (disch := omega) only [ln_2]; exact vp_in_nI (by omega) (by decide)), trivial⟩ ?_
  refine sW_eq (st' := ([.int (-1), .int (R.1 a)], [some (.ref 1), some (.int (nI a)), some (.int i), some (.int (nI b)), some (.int j), some (.int n)], M)) (by simp (disch := omega) only [a1, nI_clamp]) ?_
  refine sW_ic_eq 20 d_Rows_findingOfMove_7 (by decide) (fun c_7 => ?_) (fun c_7 => ?_)
  · skip
    refine sW_go b_Rows_findingOfMove_20 (st' := ([.int (nI 1)], [some (.ref 1), some (.int (nI a)), some (.int i), some (.int (nI b)), some (.int j), some (.int n)], M)) (φ := True) rfl trivial ?_
    refine sW_retI d_Rows_findingOfMove_21 rfl (vp_nar_int _) ?_
    exact ⟨by unfold fndM; rw [cif_t (Or.inl c_7)], rfl⟩
  · skip
    refine sW_go b_Rows_findingOfMove_10 (st' := ([.int (-1), .int (M 2 (nI b).toNatClampNeg)], [some (.ref 1), some (.int (nI a)), some (.int i), some (.int (nI b)), some (.int j), some (.int n)], M)) (φ := mx_ocl LAY 1 = 5 ∧ vp_in (nI b) (mx_len LAY false 2) ∧ True) rfl ⟨oc_1, (by simp (disch := omega) only [ln_2]; exact vp_in_nI (by omega) (by decide)), trivial⟩ ?_
    refine sW_eq (st' := ([.int (-1), .int (R.1 b)], [some (.ref 1), some (.int (nI a)), some (.int i), some (.int (nI b)), some (.int j), some (.int n)], M)) (by simp (disch := omega) only [b1, nI_clamp]) ?_
    refine sW_ic_ne 22 d_Rows_findingOfMove_17 (by decide) (fun c_17 => ?_) (fun c_17 => ?_)
    · skip
      refine sW_go b_Rows_findingOfMove_22 (st' := ([.int (M 2 (nI b).toNatClampNeg), .int (M 2 (nI a).toNatClampNeg)], [some (.ref 1), some (.int (nI a)), some (.int i), some (.int (nI b)), some (.int j), some (.int n)], M)) (φ := mx_ocl LAY 1 = 5 ∧ vp_in (nI a) (mx_len LAY false 2) ∧ mx_ocl LAY 1 = 5 ∧ vp_in (nI b) (mx_len LAY false 2) ∧ True) rfl ⟨oc_1, (by simp (disch := omega) only [ln_2]; exact vp_in_nI (by omega) (by decide)), oc_1, (by simp (disch := omega) only [ln_2]; exact vp_in_nI (by omega) (by decide)), trivial⟩ ?_
      refine sW_eq (st' := ([.int (R.1 b), .int (R.1 a)], [some (.ref 1), some (.int (nI a)), some (.int i), some (.int (nI b)), some (.int j), some (.int n)], M)) (by simp (disch := omega) only [a1, b1, nI_clamp]) ?_
      refine sW_ic_eq 39 d_Rows_findingOfMove_34 (by decide) (fun c_34 => ?_) (fun c_34 => ?_)
      · skip
        refine sW_go b_Rows_findingOfMove_39 (st' := ([.int n, .int i, .int (nI a), .ref 1], [some (.ref 1), some (.int (nI a)), some (.int i), some (.int (nI b)), some (.int j), some (.int n)], M)) (φ := True) rfl trivial ?_
        refine sW_callV 5 [.int (nI a), .int i, .int n] [] d_Rows_findingOfMove_44 c_Rows_findingOfMove_44 ⟨rfl, rfl, rfl, Nat.le_of_ble_eq_true rfl, rfl, rfl⟩ oc_1 (k_isPlace G ha a3 a4 i n) ?_
        rintro _ M₁ ⟨rfl, h₁⟩
        rw [h₁]
        show sW G m_Rows_findingOfMove 47 ([.int (tf (placeP (R.2.1 a) i n))], [some (.ref 1), some (.int (nI a)), some (.int i), some (.int (nI b)), some (.int j), some (.int n)], M) _
        refine sW_if_eq 66 d_Rows_findingOfMove_47 (by decide) (fun c_47 => ?_) (fun c_47 => ?_)
        · skip
          replace c_47 := tf_z.mp c_47
          refine sW_go b_Rows_findingOfMove_66 (st' := ([.int (nI 2)], [some (.ref 1), some (.int (nI a)), some (.int i), some (.int (nI b)), some (.int j), some (.int n)], M)) (φ := True) rfl trivial ?_
          refine sW_retI d_Rows_findingOfMove_67 rfl (vp_nar_int _) ?_
          exact ⟨by unfold fndM; rw [cif_f (fun q => q.elim c_7 c_17), cif_t c_34, cif_f (fun q => c_47 q.1)], rfl⟩
        · skip
          replace c_47 := tf_nz.mp c_47
          refine sW_go b_Rows_findingOfMove_50 (st' := ([.int n, .int j, .int (nI b), .ref 1], [some (.ref 1), some (.int (nI a)), some (.int i), some (.int (nI b)), some (.int j), some (.int n)], M)) (φ := True) rfl trivial ?_
          refine sW_callV 5 [.int (nI b), .int j, .int n] [] d_Rows_findingOfMove_56 c_Rows_findingOfMove_56 ⟨rfl, rfl, rfl, Nat.le_of_ble_eq_true rfl, rfl, rfl⟩ oc_1 (k_isPlace G hb b3 b4 j n) ?_
          rintro _ M₁ ⟨rfl, h₁⟩
          rw [h₁]
          show sW G m_Rows_findingOfMove 59 ([.int (tf (placeP (R.2.1 b) j n))], [some (.ref 1), some (.int (nI a)), some (.int i), some (.int (nI b)), some (.int j), some (.int n)], M) _
          refine sW_if_eq 66 d_Rows_findingOfMove_59 (by decide) (fun c_59 => ?_) (fun c_59 => ?_)
          · skip
            replace c_59 := tf_z.mp c_59
            refine sW_go b_Rows_findingOfMove_66 (st' := ([.int (nI 2)], [some (.ref 1), some (.int (nI a)), some (.int i), some (.int (nI b)), some (.int j), some (.int n)], M)) (φ := True) rfl trivial ?_
            refine sW_retI d_Rows_findingOfMove_67 rfl (vp_nar_int _) ?_
            exact ⟨by unfold fndM; rw [cif_f (fun q => q.elim c_7 c_17), cif_t c_34, cif_f (fun q => c_59 q.2)], rfl⟩
          · skip
            replace c_59 := tf_nz.mp c_59
            refine sW_go b_Rows_findingOfMove_62 (st' := ([.int (nI 0)], [some (.ref 1), some (.int (nI a)), some (.int i), some (.int (nI b)), some (.int j), some (.int n)], M)) (φ := True) rfl trivial ?_
            refine sW_goto 67 d_Rows_findingOfMove_63 (by decide) ?_
            refine sW_retI d_Rows_findingOfMove_67 rfl (vp_nar_int _) ?_
            exact ⟨by unfold fndM; rw [cif_f (fun q => q.elim c_7 c_17), cif_t c_34, cif_t ⟨c_47, c_59⟩], rfl⟩
      · skip
        refine sW_go b_Rows_findingOfMove_37 (st' := ([.int (nI 5)], [some (.ref 1), some (.int (nI a)), some (.int i), some (.int (nI b)), some (.int j), some (.int n)], M)) (φ := True) rfl trivial ?_
        refine sW_retI d_Rows_findingOfMove_38 rfl (vp_nar_int _) ?_
        exact ⟨by unfold fndM; rw [cif_f (fun q => q.elim c_7 c_17), cif_f c_34], rfl⟩
    · skip
      refine sW_go b_Rows_findingOfMove_20 (st' := ([.int (nI 1)], [some (.ref 1), some (.int (nI a)), some (.int i), some (.int (nI b)), some (.int j), some (.int n)], M)) (φ := True) rfl trivial ?_
      refine sW_retI d_Rows_findingOfMove_21 rfl (vp_nar_int _) ?_
      exact ⟨by unfold fndM; rw [cif_t (Or.inr c_17)], rfl⟩
/-- a row is made; an item is put; rows are moved; a row is lost -/
def rwMake (R : Rw) (r : Nat) (l : Int32) (n : Nat) : Rw := (upd R.1 r l, updN R.2.1 r n, fun a => if a = r then fun _ => 0 else R.2.2 a)
def rwPut (R : Rw) (r i : Nat) (v : Int32) : Rw := (R.1, R.2.1, fun a => if a = r then upd (R.2.2 r) i v else R.2.2 a)
def rwMove (R : Rw) (a i b j n : Nat) : Rw := (R.1, R.2.1, fun q => if q = b then va_cpy (R.2.2 a) (R.2.2 b) i j n else R.2.2 q)
def rwLose (R : Rw) (r : Nat) : Rw := (upd R.1 r (-1), R.2.1, R.2.2)
theorem k_make17 (G : mx_G) {M : mx_M} {R : Rw} (hA : RowsAt M 2 3 4 R) {r n : Nat} (hr : r < 8) (hn : n ≤ 40) {l : Int32} (hl : vp_in l 3) (k : Nat) (M2 : mx_M)
    (ih : ∀ M3 : mx_M, n - (k + 1) < n - k → k + 1 ≤ n → M3 2 = upd (M 2) r l → M3 3 = upd (M 3) r (nI n) → Fr M M3 2 5 → (∀ i, i < k + 1 → M3 4 (r * 40 + i) = 0) → (∀ i, (i < r * 40 ∨ r * 40 + 40 ≤ i) → M3 4 i = M 4 i) → sW G m_Rows_make 17 ([], [some (.ref 1), some (.int (nI r)), some (.int l), some (.int (nI n)), some (.int (nI (k + 1)))], M3) (fun q M' => q = none ∧ Fr M M' 2 5 ∧ RowsAt M' 2 3 4 (rwMake R r l n)))
    (hk : k ≤ n) (i1 : M2 2 = upd (M 2) r l) (i2 : M2 3 = upd (M 3) r (nI n)) (i3 : Fr M M2 2 5) (i4 : ∀ i, i < k → M2 4 (r * 40 + i) = 0) (i5 : ∀ i, (i < r * 40 ∨ r * 40 + 40 ≤ i) → M2 4 i = M 4 i) : sW G m_Rows_make 17 ([], [some (.ref 1), some (.int (nI r)), some (.int l), some (.int (nI n)), some (.int (nI k))], M2) (fun q M' => q = none ∧ Fr M M' 2 5 ∧ RowsAt M' 2 3 4 (rwMake R r l n)) := by
  by_cases hkn : k < n
  · skip
    refine sW_go b_Rows_make_17 (st' := ([.int (nI n), .int (nI k)], [some (.ref 1), some (.int (nI r)), some (.int l), some (.int (nI n)), some (.int (nI k))], M2)) (φ := True) rfl trivial ?_
    refine sW_ic_ge 42 d_Rows_make_20 (by decide) (fun c_20 => ?_) (fun c_20 => ?_)
    · skip
      simp (disch := omega) only [nI_leI] at c_20
      refine sW_retV d_Rows_make_42 rfl ?_
      omega
    · skip
      simp (disch := omega) only [nI_leI] at c_20
      refine sW_go b_Rows_make_23 (st' := ([], [some (.ref 1), some (.int (nI r)), some (.int l), some (.int (nI n)), some (.int (nI k + nI 1))], mx_wr M2 4 ((nI r * nI 40) + nI k).toNatClampNeg (nI 0))) (φ := mx_ocl LAY 1 = 5 ∧ vp_in ((nI r * nI 40) + nI k) (mx_len LAY false 4) ∧ True) rfl ⟨oc_1, (by simp (disch := omega) only [nI_add, pk_mul, ln_4]; exact vp_in_nI (by omega) (by decide)), trivial⟩ ?_
      refine sW_eq (st' := ([], [some (.ref 1), some (.int (nI r)), some (.int l), some (.int (nI n)), some (.int (nI (k + 1)))], mx_wr M2 4 ((r * 40) + k) (nI 0))) (by simp (disch := omega) only [nI_add, nI_clamp, pk_mul]) ?_
      refine sW_goto 17 d_Rows_make_39 (by decide) ?_
      refine ih (mx_wr M2 4 ((r * 40) + k) (nI 0)) (by omega) (by omega) ?_ ?_ (i3.wr (by decide) (by decide)) (fun i hi => ?_) (fun i hi => ?_)
      · rw [mx_wr_n _ _ _ (by decide)]; exact i1
      · rw [mx_wr_n _ _ _ (by decide)]; exact i2
      · rw [mx_wr_s]
        by_cases hx : i = k
        · rw [hx, pk_us]; rfl
        · rw [pk_un (by omega)]
          exact i4 i (by omega)
      · rw [mx_wr_s, pk_un (by omega)]
        exact i5 i hi
  · have hke : k = n := by omega
    subst hke
    refine sW_go b_Rows_make_17 (st' := ([.int (nI k), .int (nI k)], [some (.ref 1), some (.int (nI r)), some (.int l), some (.int (nI k)), some (.int (nI k))], M2)) (φ := True) rfl trivial ?_
    refine sW_ic_ge 42 d_Rows_make_20 (by decide) (fun c_20 => ?_) (fun c_20 => ?_)
    · skip
      simp (disch := omega) only [nI_leI] at c_20
      refine sW_retV d_Rows_make_42 rfl ?_
      refine ⟨rfl, i3, fun a ha => ?_⟩
      obtain ⟨a1, a2, a3, a4, a5⟩ := hA a ha
      by_cases hx : a = r
      · subst hx
        refine ⟨by rw [i1, pk_us]; exact pk_us.symm, Or.inr ?_, ?_, ?_, fun _ i hi => ?_⟩
        · show vp_in (upd R.1 a l a) 3
          rw [pk_us]; exact hl
        · rw [i2, pk_us]
          show nI k = nI (updN R.2.1 a k a)
          rw [updN_s]
        · show updN R.2.1 a k a ≤ 40
          rw [updN_s]; exact hn
        · have hi' : i < updN R.2.1 a k a := hi
          rw [updN_s] at hi'
          rw [i4 i hi']
          show (0 : Int32) = (if a = a then fun _ => 0 else R.2.2 a) i
          rw [if_pos rfl]
      · have e1 : (rwMake R r l k).1 a = R.1 a := pk_un hx
        have e2 : (rwMake R r l k).2.1 a = R.2.1 a := updN_n _ _ hx
        have e3 : (rwMake R r l k).2.2 a = R.2.2 a := if_neg hx
        rw [e1, e2, e3, i1, i2, pk_un hx, pk_un hx]
        refine ⟨a1, a2, a3, a4, fun q i hi => ?_⟩
        rw [i5 _ (by omega)]
        exact a5 q i hi
    · skip
      simp (disch := omega) only [nI_leI] at c_20
      exact absurd c_20 (by omega)
theorem k_make (G : mx_G) {M : mx_M} {R : Rw} (hA : RowsAt M 2 3 4 R) {r n : Nat} (hr : r < 8) (hn : n ≤ 40) {l : Int32} (hl : vp_in l 3) : sOk G m_Rows_make [.ref 1, .int (nI r), .int l, .int (nI n)] M (fun q M' => q = none ∧ Fr M M' 2 5 ∧ RowsAt M' 2 3 4 (rwMake R r l n)) := by
  refine sOk_of ⟨by decide +kernel, by decide +kernel, Nat.le_of_ble_eq_true rfl⟩ ?_
  show sW G m_Rows_make 0 ([], [some (.ref 1), some (.int (nI r)), some (.int l), some (.int (nI n)), none], M) _
  refine sW_go b_Rows_make_0 (st' := ([], [some (.ref 1), some (.int (nI r)), some (.int l), some (.int (nI n)), some (.int (nI 0))], mx_wr (mx_wr M 2 (nI r).toNatClampNeg l) 3 (nI r).toNatClampNeg (nI n))) (φ := mx_ocl LAY 1 = 5 ∧ vp_in (nI r) (mx_len LAY false 2) ∧ mx_ocl LAY 1 = 5 ∧ vp_in (nI r) (mx_len LAY false 3) ∧ True) rfl ⟨oc_1, (by simp (disch := omega) only [ln_2]; exact vp_in_nI (by omega) (by decide)), oc_1, (by simp (disch := omega) only [ln_3]; exact vp_in_nI (by omega) (by decide)), trivial⟩ ?_
  refine sW_eq (st' := ([], [some (.ref 1), some (.int (nI r)), some (.int l), some (.int (nI n)), some (.int (nI 0))], mx_wr (mx_wr M 2 r l) 3 r (nI n))) (by simp (disch := omega) only [nI_clamp]) ?_
  refine mx_ind (α := Nat × mx_M) (fun q => n - q.1) (fun q => q.1 ≤ n → q.2 2 = upd (M 2) r l → q.2 3 = upd (M 3) r (nI n) → Fr M q.2 2 5 → (∀ i, i < q.1 → q.2 4 (r * 40 + i) = 0) → (∀ i, (i < r * 40 ∨ r * 40 + 40 ≤ i) → q.2 4 i = M 4 i) → sW G m_Rows_make 17 ([], [some (.ref 1), some (.int (nI r)), some (.int l), some (.int (nI n)), some (.int (nI q.1))], q.2) _) ?_ (0, (mx_wr (mx_wr M 2 r l) 3 r (nI n))) (Nat.zero_le _) ?_ ?_ ?_ (fun i hi => absurd hi (Nat.not_lt_zero i)) (fun i _ => rfl)
  · rintro ⟨k, M2⟩ ih hk i1 i2 i3 i4 i5
    exact k_make17 G hA hr hn hl k M2 (fun M3 => ih (k + 1, M3)) hk i1 i2 i3 i4 i5
  · dsimp only
    rw [mx_wr_n _ _ _ (by decide), mx_wr_s]
  · dsimp only
    rw [mx_wr_s, mx_wr_n _ _ _ (by decide)]
  · exact (Fr.rf.wr (by decide) (by decide)).wr (by decide) (by decide)
end
section
noncomputable def narL (l v : Int32) : Int32 := cif (l = 0) v.toInt8.toInt32 (cif (l = nI 1) v.toInt16.toInt32 v)
theorem RowsAt.put {M : mx_M} {la le it : Nat} {R : Rw} (hA : RowsAt M la le it R) (hd : la ≠ it ∧ le ≠ it) {r i : Nat} (hr : r < 8) (hi : i < R.2.1 r) (v : Int32) : RowsAt (mx_wr M it (r * 40 + i) v) la le it (rwPut R r i v) := by
  intro a ha
  obtain ⟨a1, a2, a3, a4, a5⟩ := hA a ha
  have hr4 := (hA r hr).2.2.2.1
  have e1 : (rwPut R r i v).1 = R.1 := rfl
  have e2 : (rwPut R r i v).2.1 = R.2.1 := rfl
  rw [e1, e2, mx_wr_n _ _ _ hd.1, mx_wr_n _ _ _ hd.2, mx_wr_s]
  refine ⟨a1, a2, a3, a4, fun q k hk => ?_⟩
  show upd (M it) (r * 40 + i) v (a * 40 + k) = (if a = r then upd (R.2.2 r) i v else R.2.2 a) k
  by_cases hx : a = r
  · subst hx
    rw [if_pos rfl]
    by_cases hy : k = i
    · rw [hy, pk_us, pk_us]
    · rw [pk_un (by omega), pk_un hy]
      exact a5 q k hk
  · rw [if_neg hx, pk_un (by omega)]
    exact a5 q k hk
theorem k_put (G : mx_G) {M : mx_M} {R : Rw} (hA : RowsAt M 2 3 4 R) {r i : Nat} (hr : r < 8) (hi : i < R.2.1 r) (v : Int32) : sOk G m_Rows_put [.ref 1, .int (nI r), .int (nI i), .int v] M (fun q M' => q = some (.int (narL (R.1 r) v)) ∧ M' = mx_wr M 4 (r * 40 + i) (narL (R.1 r) v)) := by
  obtain ⟨a1, a2, a3, a4, a5⟩ := hA r hr
  refine sOk_of ⟨by decide +kernel, by decide +kernel, Nat.le_of_ble_eq_true rfl⟩ ?_
  show sW G m_Rows_put 0 ([], [some (.ref 1), some (.int (nI r)), some (.int (nI i)), some (.int v), none, none], M) _
  refine sW_go b_Rows_put_0 (st' := ([.int (M 2 (nI r).toNatClampNeg)], [some (.ref 1), some (.int (nI r)), some (.int (nI i)), some (.int v), some (.int (M 2 (nI r).toNatClampNeg)), none], M)) (φ := mx_ocl LAY 1 = 5 ∧ vp_in (nI r) (mx_len LAY false 2) ∧ True) rfl ⟨oc_1, (by simp (disch := omega) only [ln_2]; exact vp_in_nI (by omega) (by decide)), trivial⟩ ?_
  refine sW_eq (st' := ([.int (R.1 r)], [some (.ref 1), some (.int (nI r)), some (.int (nI i)), some (.int v), some (.int (R.1 r)), none], M)) (by simp (disch := omega) only [a1, nI_clamp]) ?_
  refine sW_if_ne 18 d_Rows_put_10 (by decide) (fun c_10 => ?_) (fun c_10 => ?_)
  · skip
    refine sW_go b_Rows_put_18 (st' := ([.int (nI 1), .int (R.1 r)], [some (.ref 1), some (.int (nI r)), some (.int (nI i)), some (.int v), some (.int (R.1 r)), none], M)) (φ := True) rfl trivial ?_
    refine sW_ic_ne 29 d_Rows_put_21 (by decide) (fun c_21 => ?_) (fun c_21 => ?_)
    · skip
      refine sW_go b_Rows_put_29 (st' := ([.int v], [some (.ref 1), some (.int (nI r)), some (.int (nI i)), some (.int v), some (.int (R.1 r)), none], M)) (φ := True) rfl trivial ?_
      refine sW_go b_Rows_put_30 (st' := ([.int v], [some (.ref 1), some (.int (nI r)), some (.int (nI i)), some (.int v), some (.int (R.1 r)), some (.int v)], mx_wr M 4 ((nI r * nI 40) + nI i).toNatClampNeg v)) (φ := mx_ocl LAY 1 = 5 ∧ vp_in ((nI r * nI 40) + nI i) (mx_len LAY false 4) ∧ True) rfl ⟨oc_1, (by simp (disch := omega) only [nI_add, pk_mul, ln_4]; exact vp_in_nI (by omega) (by decide)), trivial⟩ ?_
      refine sW_eq (st' := ([.int v], [some (.ref 1), some (.int (nI r)), some (.int (nI i)), some (.int v), some (.int (R.1 r)), some (.int v)], mx_wr M 4 (r * 40 + i) v)) (by simp (disch := omega) only [nI_add, nI_clamp, pk_mul]) ?_
      refine sW_retI d_Rows_put_47 rfl (vp_nar_int _) ?_
      have e : narL (R.1 r) v = v := by unfold narL; rw [cif_f c_10, cif_f c_21]
      rw [e]
      exact ⟨rfl, rfl⟩
    · skip
      refine sW_go b_Rows_put_24 (st' := ([.int v.toInt16.toInt32], [some (.ref 1), some (.int (nI r)), some (.int (nI i)), some (.int v), some (.int (R.1 r)), none], M)) (φ := True) rfl trivial ?_
      refine sW_goto 30 d_Rows_put_26 (by decide) ?_
      refine sW_go b_Rows_put_30 (st' := ([.int v.toInt16.toInt32], [some (.ref 1), some (.int (nI r)), some (.int (nI i)), some (.int v), some (.int (R.1 r)), some (.int v.toInt16.toInt32)], mx_wr M 4 ((nI r * nI 40) + nI i).toNatClampNeg v.toInt16.toInt32)) (φ := mx_ocl LAY 1 = 5 ∧ vp_in ((nI r * nI 40) + nI i) (mx_len LAY false 4) ∧ True) rfl ⟨oc_1, (by simp (disch := omega) only [nI_add, pk_mul, ln_4]; exact vp_in_nI (by omega) (by decide)), trivial⟩ ?_
      refine sW_eq (st' := ([.int v.toInt16.toInt32], [some (.ref 1), some (.int (nI r)), some (.int (nI i)), some (.int v), some (.int (R.1 r)), some (.int v.toInt16.toInt32)], mx_wr M 4 (r * 40 + i) v.toInt16.toInt32)) (by simp (disch := omega) only [nI_add, nI_clamp, pk_mul]) ?_
      refine sW_retI d_Rows_put_47 rfl (vp_nar_int _) ?_
      have e : narL (R.1 r) v = v.toInt16.toInt32 := by unfold narL; rw [cif_f c_10, cif_t c_21]
      rw [e]
      exact ⟨rfl, rfl⟩
  · skip
    refine sW_go b_Rows_put_13 (st' := ([.int v.toInt8.toInt32], [some (.ref 1), some (.int (nI r)), some (.int (nI i)), some (.int v), some (.int (R.1 r)), none], M)) (φ := True) rfl trivial ?_
    refine sW_goto 30 d_Rows_put_15 (by decide) ?_
    refine sW_go b_Rows_put_30 (st' := ([.int v.toInt8.toInt32], [some (.ref 1), some (.int (nI r)), some (.int (nI i)), some (.int v), some (.int (R.1 r)), some (.int v.toInt8.toInt32)], mx_wr M 4 ((nI r * nI 40) + nI i).toNatClampNeg v.toInt8.toInt32)) (φ := mx_ocl LAY 1 = 5 ∧ vp_in ((nI r * nI 40) + nI i) (mx_len LAY false 4) ∧ True) rfl ⟨oc_1, (by simp (disch := omega) only [nI_add, pk_mul, ln_4]; exact vp_in_nI (by omega) (by decide)), trivial⟩ ?_
    refine sW_eq (st' := ([.int v.toInt8.toInt32], [some (.ref 1), some (.int (nI r)), some (.int (nI i)), some (.int v), some (.int (R.1 r)), some (.int v.toInt8.toInt32)], mx_wr M 4 (r * 40 + i) v.toInt8.toInt32)) (by simp (disch := omega) only [nI_add, nI_clamp, pk_mul]) ?_
    refine sW_retI d_Rows_put_47 rfl (vp_nar_int _) ?_
    have e : narL (R.1 r) v = v.toInt8.toInt32 := by unfold narL; rw [cif_t c_10]
    rw [e]
    exact ⟨rfl, rfl⟩
theorem RowsAt.move {M M' : mx_M} {la le it : Nat} {R : Rw} (hA : RowsAt M la le it R) (h1 : M' la = M la) (h2 : M' le = M le) {a i b j n : Nat} (ha : a < 8) (hb : b < 8) (hi : i + n ≤ R.2.1 a) (hj : j + n ≤ R.2.1 b) (hla : R.1 a ≠ -1)
    (h3 : ∀ k, M' it k = va_cpy (M it) (M it) (a * 40 + i) (b * 40 + j) n k) : RowsAt M' la le it (rwMove R a i b j n) := by
  intro q hq
  obtain ⟨a1, a2, a3, a4, a5⟩ := hA q hq
  obtain ⟨c1, c2, c3, c4, c5⟩ := hA a ha
  have hb4 := (hA b hb).2.2.2.1
  have e1 : (rwMove R a i b j n).1 = R.1 := rfl
  have e2 : (rwMove R a i b j n).2.1 = R.2.1 := rfl
  rw [e1, e2, h1, h2]
  refine ⟨a1, a2, a3, a4, fun w k hk => ?_⟩
  rw [h3]
  show _ = (if q = b then va_cpy (R.2.2 a) (R.2.2 b) i j n else R.2.2 q) k
  by_cases hx : q = b
  · subst hx
    rw [if_pos rfl]
    by_cases hy : j ≤ k ∧ k < j + n
    · rw [pk_cpy_in (by omega) (by omega), pk_cpy_in hy.1 hy.2, ← c5 hla (i + (k - j)) (by omega)]
      congr 1
      omega
    · rw [pk_cpy_out (by omega), pk_cpy_out (by omega)]
      exact a5 w k hk
  · rw [if_neg hx, pk_cpy_out (by omega)]
    exact a5 w k hk
theorem k_move (G : mx_G) {M : mx_M} {R : Rw} (hA : RowsAt M 2 3 4 R) {a i b j n : Nat} (ha : a < 8) (hb : b < 8) (hi : i + n ≤ R.2.1 a) (hj : j + n ≤ R.2.1 b) : sOk G m_Rows_move [.ref 1, .int (nI a), .int (nI i), .int (nI b), .int (nI j), .int (nI n)] M (fun q M' => q = none ∧ M' = mx_cp M 4 4 (a * 40 + i) (b * 40 + j) n) := by
  have ha4 := (hA a ha).2.2.2.1
  have hb4 := (hA b hb).2.2.2.1
  refine sOk_of ⟨by decide +kernel, by decide +kernel, Nat.le_of_ble_eq_true rfl⟩ ?_
  show sW G m_Rows_move 0 ([], [some (.ref 1), some (.int (nI a)), some (.int (nI i)), some (.int (nI b)), some (.int (nI j)), some (.int (nI n))], M) _
  refine sW_go b_Rows_move_0 (st' := ([.int (nI n), .int ((nI b * nI 40) + nI j), .ref 4, .int ((nI a * nI 40) + nI i), .ref 4], [some (.ref 1), some (.int (nI a)), some (.int (nI i)), some (.int (nI b)), some (.int (nI j)), some (.int (nI n))], M)) (φ := mx_ocl LAY 1 = 5 ∧ mx_ocl LAY 1 = 5 ∧ True) rfl ⟨oc_1, oc_1, trivial⟩ ?_
  refine sW_eq (st' := ([.int (nI n), .int (nI (b * 40 + j)), .ref 4, .int (nI (a * 40 + i)), .ref 4], [some (.ref 1), some (.int (nI a)), some (.int (nI i)), some (.int (nI b)), some (.int (nI j)), some (.int (nI n))], M)) (by simp (disch := omega) only [nI_add, pk_mul]) ?_
  refine sW_copy d_Rows_move_23 c_Rows_move_23 ⟨rfl, Nat.le_of_ble_eq_true rfl⟩ (by rw [ln_4]; decide) (by rw [ln_4]; decide) (by first | exact nI_pos (by omega) | (rw [nI_clamp (by omega), nI_clamp (by omega), ln_4]; omega)) (by first | exact nI_pos (by omega) | (rw [nI_clamp (by omega), nI_clamp (by omega), ln_4]; omega)) (by first | exact nI_pos (by omega) | (rw [nI_clamp (by omega), nI_clamp (by omega), ln_4]; omega)) (by first | exact nI_pos (by omega) | (rw [nI_clamp (by omega), nI_clamp (by omega), ln_4]; omega)) (by first | exact nI_pos (by omega) | (rw [nI_clamp (by omega), nI_clamp (by omega), ln_4]; omega)) ?_
  refine sW_eq (st' := ([], [some (.ref 1), some (.int (nI a)), some (.int (nI i)), some (.int (nI b)), some (.int (nI j)), some (.int (nI n))], mx_cp M 4 4 (a * 40 + i) (b * 40 + j) n)) (by simp (disch := omega) only [nI_clamp]) ?_
  refine sW_retV d_Rows_move_26 rfl ?_
  exact ⟨rfl, rfl⟩
theorem k_lose (G : mx_G) {M : mx_M} {R : Rw} (hA : RowsAt M 2 3 4 R) {r : Nat} (hr : r < 8) : sOk G m_Rows_lose [.ref 1, .int (nI r)] M (fun q M' => q = some (.int (nI (R.2.1 r))) ∧ M' = mx_wr M 2 r (-1)) := by
  obtain ⟨a1, a2, a3, a4, a5⟩ := hA r hr
  have e : (mx_wr M 2 r (-1)) 3 r = nI (R.2.1 r) := by rw [mx_wr_n _ _ _ (by decide)]; exact a3
  refine sOk_of ⟨by decide +kernel, by decide +kernel, Nat.le_of_ble_eq_true rfl⟩ ?_
  show sW G m_Rows_lose 0 ([], [some (.ref 1), some (.int (nI r))], M) _
  refine sW_go b_Rows_lose_0 (st' := ([.int ((mx_wr M 2 (nI r).toNatClampNeg (-1)) 3 (nI r).toNatClampNeg)], [some (.ref 1), some (.int (nI r))], mx_wr M 2 (nI r).toNatClampNeg (-1))) (φ := mx_ocl LAY 1 = 5 ∧ vp_in (nI r) (mx_len LAY false 2) ∧ mx_ocl LAY 1 = 5 ∧ vp_in (nI r) (mx_len LAY false 3) ∧ True) rfl ⟨oc_1, (by simp (disch := omega) only [ln_2]; exact vp_in_nI (by omega) (by decide)), oc_1, (by simp (disch := omega) only [ln_3]; exact vp_in_nI (by omega) (by decide)), trivial⟩ ?_
  refine sW_eq (st' := ([.int (nI (R.2.1 r))], [some (.ref 1), some (.int (nI r))], mx_wr M 2 r (-1))) (by simp (disch := omega) only [e, nI_clamp]) ?_
  refine sW_retI d_Rows_lose_13 rfl (vp_nar_int _) ?_
  exact ⟨rfl, rfl⟩
theorem RowsAt.lose {M : mx_M} {la le it : Nat} {R : Rw} (hA : RowsAt M la le it R) (hd : le ≠ la ∧ it ≠ la) (r : Nat) : RowsAt (mx_wr M la r (-1)) la le it (rwLose R r) := by
  intro a ha
  obtain ⟨a1, a2, a3, a4, a5⟩ := hA a ha
  have e2 : (rwLose R r).2.1 = R.2.1 := rfl
  have e3 : (rwLose R r).2.2 = R.2.2 := rfl
  rw [e2, e3, mx_wr_s, mx_wr_n _ _ _ hd.1, mx_wr_n _ _ _ hd.2]
  show upd (M la) r (-1) a = upd R.1 r (-1) a ∧ _
  by_cases hx : a = r
  · subst hx
    have e1 : (rwLose R a).1 a = -1 := pk_us
    rw [e1, pk_us, pk_us]
    exact ⟨rfl, Or.inl rfl, a3, a4, fun q => absurd rfl q⟩
  · have e1 : (rwLose R r).1 a = R.1 a := pk_un hx
    rw [e1, pk_un hx, pk_un hx]
    exact ⟨a1, a2, a3, a4, a5⟩
/-- how many rows there are below k -/
noncomputable def rwCnt (R : Rw) : Nat → Nat
  | 0 => 0
  | k + 1 => rwCnt R k + cif (R.1 k = -1) 0 1
theorem rwCnt_le (R : Rw) : ∀ k, rwCnt R k ≤ k
  | 0 => Nat.le_refl _
  | k + 1 => by
    have h1 := rwCnt_le R k
    have h2 : (cif (R.1 k = -1) 0 1 : Nat) ≤ 1 := by
      by_cases h : R.1 k = -1
      · rw [cif_t h]; omega
      · rw [cif_f h]; omega
    show rwCnt R k + _ ≤ k + 1
    omega
theorem k_present (G : mx_G) {M : mx_M} {R : Rw} (hA : RowsAt M 2 3 4 R) : sOk G m_Rows_present [.ref 1] M (fun q M' => q = some (.int (nI (rwCnt R 8))) ∧ M' = M) := by
  refine sOk_of ⟨by decide +kernel, by decide +kernel, Nat.le_of_ble_eq_true rfl⟩ ?_
  show sW G m_Rows_present 0 ([], [some (.ref 1), none, none], M) _
  refine sW_go b_Rows_present_0 (st' := ([], [some (.ref 1), some (.int (nI 0)), some (.int (nI 0))], M)) (φ := True) rfl trivial ?_
  refine mx_ind (α := Nat × Nat) (fun a => 8 - a.1) (fun a => a.1 ≤ 8 → a.2 = rwCnt R a.1 → sW G m_Rows_present 4 ([], [some (.ref 1), some (.int (nI a.2)), some (.int (nI a.1))], M) _) ?_ (0, 0) (Nat.zero_le _) rfl
  rintro ⟨k, c⟩ ih hk hc
  dsimp only at ih hk hc ⊢
  by_cases hkn : k < 8
  · have a1 := (hA k hkn).1
    refine sW_go b_Rows_present_4 (st' := ([.int (nI 8), .int (nI k)], [some (.ref 1), some (.int (nI c)), some (.int (nI k))], M)) (φ := True) rfl trivial ?_
    refine sW_ic_ge 34 d_Rows_present_7 (by decide) (fun c_7 => ?_) (fun c_7 => ?_)
    · skip
      simp (disch := omega) only [nI_leI] at c_7
      refine sW_go b_Rows_present_34 (st' := ([.int (nI c)], [some (.ref 1), some (.int (nI c)), some (.int (nI k))], M)) (φ := True) rfl trivial ?_
      refine sW_retI d_Rows_present_35 rfl (vp_nar_int _) ?_
      omega
    · skip
      simp (disch := omega) only [nI_leI] at c_7
      refine sW_go b_Rows_present_10 (st' := ([.int (-1), .int (M 2 (nI k).toNatClampNeg), .int (nI c)], [some (.ref 1), some (.int (nI c)), some (.int (nI k))], M)) (φ := mx_ocl LAY 1 = 5 ∧ vp_in (nI k) (mx_len LAY false 2) ∧ True) rfl ⟨oc_1, (by simp (disch := omega) only [ln_2]; exact vp_in_nI (by omega) (by decide)), trivial⟩ ?_
      refine sW_eq (st' := ([.int (-1), .int (R.1 k), .int (nI c)], [some (.ref 1), some (.int (nI c)), some (.int (nI k))], M)) (by simp (disch := omega) only [a1, nI_clamp]) ?_
      refine sW_ic_eq 25 d_Rows_present_18 (by decide) (fun c_18 => ?_) (fun c_18 => ?_)
      · skip
        refine sW_go b_Rows_present_25 (st' := ([.int (nI 0), .int (nI c)], [some (.ref 1), some (.int (nI c)), some (.int (nI k))], M)) (φ := True) rfl trivial ?_
        refine sW_go b_Rows_present_26 (st' := ([], [some (.ref 1), some (.int (nI c + nI 0)), some (.int (nI k + nI 1))], M)) (φ := True) rfl trivial ?_
        refine sW_eq (st' := ([], [some (.ref 1), some (.int (nI c)), some (.int (nI (k + 1)))], M)) (by simp (disch := omega) only [Nat.add_zero, nI_add]) ?_
        refine sW_goto 4 d_Rows_present_31 (by decide) ?_
        exact ih (k + 1, c) (by dsimp only; omega) (by dsimp only; omega) (by dsimp only; rw [hc]; show _ = rwCnt R k + _; rw [cif_t c_18]; rfl)
      · skip
        refine sW_go b_Rows_present_21 (st' := ([.int (nI 1), .int (nI c)], [some (.ref 1), some (.int (nI c)), some (.int (nI k))], M)) (φ := True) rfl trivial ?_
        refine sW_goto 26 d_Rows_present_22 (by decide) ?_
        refine sW_go b_Rows_present_26 (st' := ([], [some (.ref 1), some (.int (nI c + nI 1)), some (.int (nI k + nI 1))], M)) (φ := True) rfl trivial ?_
        refine sW_eq (st' := ([], [some (.ref 1), some (.int (nI (c + 1))), some (.int (nI (k + 1)))], M)) (by simp (disch := omega) only [nI_add]) ?_
        refine sW_goto 4 d_Rows_present_31 (by decide) ?_
        exact ih (k + 1, c + 1) (by dsimp only; omega) (by dsimp only; omega) (by dsimp only; rw [hc]; show _ = rwCnt R k + _; rw [cif_f c_18])
  · have hke : k = 8 := by omega
    subst hke
    refine sW_go b_Rows_present_4 (st' := ([.int (nI 8), .int (nI 8)], [some (.ref 1), some (.int (nI c)), some (.int (nI 8))], M)) (φ := True) rfl trivial ?_
    refine sW_ic_ge 34 d_Rows_present_7 (by decide) (fun c_7 => ?_) (fun c_7 => ?_)
    · skip
      simp (disch := omega) only [nI_leI] at c_7
      refine sW_go b_Rows_present_34 (st' := ([.int (nI c)], [some (.ref 1), some (.int (nI c)), some (.int (nI 8))], M)) (φ := True) rfl trivial ?_
      refine sW_retI d_Rows_present_35 rfl (vp_nar_int _) ?_
      exact ⟨by rw [hc], rfl⟩
    · skip
      simp (disch := omega) only [nI_leI] at c_7
      exact absurd c_7 (by decide)
noncomputable def rwBit (R : Rw) (r i k : Nat) : Nat := cif (R.2.2 r (i + k) = 0) 0 1
theorem rwBit_le (R : Rw) (r i k : Nat) : rwBit R r i k ≤ 1 := by
  unfold rwBit
  by_cases h : R.2.2 r (i + k) = 0
  · rw [cif_t h]; omega
  · rw [cif_f h]; omega
theorem k_bits (G : mx_G) {M : mx_M} {R : Rw} (hA : RowsAt M 2 3 4 R) {r i n : Nat} (hr : r < 8) (hl : R.1 r ≠ -1) (hn : n ≤ 8) (hi : i + n ≤ R.2.1 r) : sOk G m_Rows_bits [.ref 1, .int (nI r), .int (nI i), .int (nI n)] M (fun q M' => q = some (.int (nI (bsum (rwBit R r i) n))) ∧ M' = M) := by
  obtain ⟨a1, a2, a3, a4, a5⟩ := hA r hr
  refine sOk_of ⟨by decide +kernel, by decide +kernel, Nat.le_of_ble_eq_true rfl⟩ ?_
  show sW G m_Rows_bits 0 ([], [some (.ref 1), some (.int (nI r)), some (.int (nI i)), some (.int (nI n)), none, none], M) _
  refine sW_go b_Rows_bits_0 (st' := ([], [some (.ref 1), some (.int (nI r)), some (.int (nI i)), some (.int (nI n)), some (.int (nI 0)), some (.int (nI 0))], M)) (φ := True) rfl trivial ?_
  refine mx_ind (α := Nat × Nat) (fun a => n - a.1) (fun a => a.1 ≤ n → a.2 = bsum (rwBit R r i) a.1 → sW G m_Rows_bits 6 ([], [some (.ref 1), some (.int (nI r)), some (.int (nI i)), some (.int (nI n)), some (.int (nI a.2)), some (.int (nI a.1))], M) _) ?_ (0, 0) (Nat.zero_le _) rfl
  rintro ⟨k, c⟩ ih hk hc
  dsimp only at ih hk hc ⊢
  by_cases hkn : k < n
  · have e1 : M 4 (r * 40 + i + k) = R.2.2 r (i + k) := by rw [Nat.add_assoc]; exact a5 hl (i + k) (by omega)
    have q3 : nI 1 <<< (nI k &&& 31) = nI (1 * 2 ^ k) := sh_l (Nat.le_refl _) (by omega)
    have hst : ∀ x, rwBit R r i k = x → c ||| x * 2 ^ k = bsum (rwBit R r i) (k + 1) := by
      intro x hx
      subst hx
      subst hc
      rfl
    refine sW_go b_Rows_bits_6 (st' := ([.int (nI n), .int (nI k)], [some (.ref 1), some (.int (nI r)), some (.int (nI i)), some (.int (nI n)), some (.int (nI c)), some (.int (nI k))], M)) (φ := True) rfl trivial ?_
    refine sW_ic_ge 48 d_Rows_bits_9 (by decide) (fun c_9 => ?_) (fun c_9 => ?_)
    · skip
      simp (disch := omega) only [nI_leI] at c_9
      refine sW_go b_Rows_bits_48 (st' := ([.int (nI c)], [some (.ref 1), some (.int (nI r)), some (.int (nI i)), some (.int (nI n)), some (.int (nI c)), some (.int (nI k))], M)) (φ := True) rfl trivial ?_
      refine sW_retI d_Rows_bits_50 rfl (vp_nar_int _) ?_
      omega
    · skip
      simp (disch := omega) only [nI_leI] at c_9
      refine sW_go b_Rows_bits_12 (st' := ([.int (M 4 (((nI r * nI 40) + nI i) + nI k).toNatClampNeg), .int (nI c)], [some (.ref 1), some (.int (nI r)), some (.int (nI i)), some (.int (nI n)), some (.int (nI c)), some (.int (nI k))], M)) (φ := mx_ocl LAY 1 = 5 ∧ vp_in (((nI r * nI 40) + nI i) + nI k) (mx_len LAY false 4) ∧ True) rfl ⟨oc_1, (by simp (disch := omega) only [nI_add, pk_mul, ln_4]; exact vp_in_nI (by omega) (by decide)), trivial⟩ ?_
      refine sW_eq (st' := ([.int (R.2.2 r (i + k)), .int (nI c)], [some (.ref 1), some (.int (nI r)), some (.int (nI i)), some (.int (nI n)), some (.int (nI c)), some (.int (nI k))], M)) (by simp (disch := omega) only [e1, nI_add, nI_clamp, pk_mul]) ?_
      refine sW_if_eq 38 d_Rows_bits_28 (by decide) (fun c_28 => ?_) (fun c_28 => ?_)
      · skip
        refine sW_go b_Rows_bits_38 (st' := ([.int (nI 0), .int (nI c)], [some (.ref 1), some (.int (nI r)), some (.int (nI i)), some (.int (nI n)), some (.int (nI c)), some (.int (nI k))], M)) (φ := True) rfl trivial ?_
        refine sW_go b_Rows_bits_39 (st' := ([], [some (.ref 1), some (.int (nI r)), some (.int (nI i)), some (.int (nI n)), some (.int (nI c ||| nI 0)), some (.int (nI k + nI 1))], M)) (φ := True) rfl trivial ?_
        refine sW_eq (st' := ([], [some (.ref 1), some (.int (nI r)), some (.int (nI i)), some (.int (nI n)), some (.int (nI (c ||| 0))), some (.int (nI (k + 1)))], M)) (by simp (disch := omega) only [nI_add, nx_or]) ?_
        refine sW_goto 6 d_Rows_bits_45 (by decide) ?_
        refine ih (k + 1, c ||| 0) (by dsimp only; omega) (by dsimp only; omega) ?_
        have := hst 0 (by unfold rwBit; rw [cif_t c_28])
        simpa using this
      · skip
        refine sW_go b_Rows_bits_31 (st' := ([.int (nI 1 <<< (nI k &&& 31)), .int (nI c)], [some (.ref 1), some (.int (nI r)), some (.int (nI i)), some (.int (nI n)), some (.int (nI c)), some (.int (nI k))], M)) (φ := True) rfl trivial ?_
        refine sW_eq (st' := ([.int (nI (1 * 2 ^ k)), .int (nI c)], [some (.ref 1), some (.int (nI r)), some (.int (nI i)), some (.int (nI n)), some (.int (nI c)), some (.int (nI k))], M)) (by simp (disch := omega) only [q3]) ?_
        refine sW_goto 39 d_Rows_bits_35 (by decide) ?_
        refine sW_go b_Rows_bits_39 (st' := ([], [some (.ref 1), some (.int (nI r)), some (.int (nI i)), some (.int (nI n)), some (.int (nI c ||| nI (1 * 2 ^ k))), some (.int (nI k + nI 1))], M)) (φ := True) rfl trivial ?_
        refine sW_eq (st' := ([], [some (.ref 1), some (.int (nI r)), some (.int (nI i)), some (.int (nI n)), some (.int (nI (c ||| (1 * 2 ^ k)))), some (.int (nI (k + 1)))], M)) (by simp (disch := omega) only [nI_add, nx_or]) ?_
        refine sW_goto 6 d_Rows_bits_45 (by decide) ?_
        exact ih (k + 1, _) (by dsimp only; omega) (by dsimp only; omega) (hst 1 (by unfold rwBit; rw [cif_f c_28]))
  · have hke : k = n := by omega
    subst hke
    refine sW_go b_Rows_bits_6 (st' := ([.int (nI k), .int (nI k)], [some (.ref 1), some (.int (nI r)), some (.int (nI i)), some (.int (nI k)), some (.int (nI c)), some (.int (nI k))], M)) (φ := True) rfl trivial ?_
    refine sW_ic_ge 48 d_Rows_bits_9 (by decide) (fun c_9 => ?_) (fun c_9 => ?_)
    · skip
      simp (disch := omega) only [nI_leI] at c_9
      refine sW_go b_Rows_bits_48 (st' := ([.int (nI c)], [some (.ref 1), some (.int (nI r)), some (.int (nI i)), some (.int (nI k)), some (.int (nI c)), some (.int (nI k))], M)) (φ := True) rfl trivial ?_
      refine sW_retI d_Rows_bits_50 rfl (vp_nar_int _) ?_
      exact ⟨by rw [hc], rfl⟩
    · skip
      simp (disch := omega) only [nI_leI] at c_9
      exact absurd c_9 (by omega)
end
section
/-! ===== Cells: what it holds ===== -/
def andn (a b : Nat) : Nat := a ^^^ (a &&& b)
theorem andn_tb (a b i : Nat) : (andn a b).testBit i = (a.testBit i && !b.testBit i) := by
  unfold andn
  rw [Nat.testBit_xor, Nat.testBit_and]
  cases a.testBit i <;> cases b.testBit i <;> rfl
theorem andn_le (a b : Nat) : andn a b ≤ a := by
  apply Nat.le_of_testBit
  intro i h
  rw [andn_tb] at h
  simp at h
  exact h.1
theorem an_i (a b : Nat) : nI a &&& (nI b ^^^ (-1)) = nI (andn a b) := by
  apply Int32.toBitVec_inj.1
  have e : ((-1 : Int32)).toBitVec = BitVec.allOnes 32 := by decide
  show BitVec.ofNat 32 a &&& (BitVec.ofNat 32 b ^^^ ((-1 : Int32)).toBitVec) = BitVec.ofNat 32 (andn a b)
  rw [e]
  apply BitVec.eq_of_getLsbD_eq
  intro i hi
  simp only [BitVec.getLsbD_and, BitVec.getLsbD_xor, BitVec.getLsbD_allOnes, BitVec.getLsbD_ofNat, hi, decide_true, Bool.true_and, andn_tb, Bool.xor_true]
/-- found cells and their heights; of pairs: lefts, rights; of cases: lefts, rights; the pairs' sets; what functions miss; of which types are constants, pairs, functions -/
abbrev Cx : Type := (List Nat × (Nat → Nat)) × (List Nat × List Nat) × (List Nat × List Nat) × List Nat × List Nat × (Nat × Nat × Nat)
abbrev cF (X : Cx) : List Nat := X.1.1
abbrev cf (X : Cx) : Nat → Nat := X.1.2
abbrev cPL (X : Cx) : List Nat := X.2.1.1
abbrev cPR (X : Cx) : List Nat := X.2.1.2
abbrev cQL (X : Cx) : List Nat := X.2.2.1.1
abbrev cQR (X : Cx) : List Nat := X.2.2.1.2
abbrev cPS (X : Cx) : List Nat := X.2.2.2.1
abbrev cMS (X : Cx) : List Nat := X.2.2.2.2.1
abbrev cwc (X : Cx) : Nat := X.2.2.2.2.2.1
abbrev cwp (X : Cx) : Nat := X.2.2.2.2.2.2.1
abbrev cwf (X : Cx) : Nat := X.2.2.2.2.2.2.2
def funC (hs : Hs) (v : Nat) : Nat := cellOf hs (andn (bsum (sortB hs 2) hs.1) v)
theorem funT_lt {hs : Hs} (hw : HsOk hs) (v : Nat) : andn (bsum (sortB hs 2) hs.1) v < 256 := Nat.lt_of_le_of_lt (andn_le _ _) (bsum_lt8 (sortB_le hs 2) hw.1)
theorem funC_lt {hs : Hs} (hw : HsOk hs) (v : Nat) : funC hs v < 256 := cellOf_lt hw (funT_lt hw v)
theorem constCell_lt {hs : Hs} (hw : HsOk hs) (v : Nat) : constCell hs v < 256 := cellOf_lt hw (bsum_lt8 (spanB_le hs v) hw.1)
/-- how found cells and masks come from constants (the first cc), pairs' sets, what functions miss -/
def CxI (hs : Hs) (cc : Nat) (X : Cx) : Prop :=
  (∀ s, s ∈ cF X ↔ (∃ i, i < cc ∧ s = constCell hs i) ∨ (∃ t, t ∈ cPS X ∧ s = cellOf hs t) ∨ ∃ v, v ∈ cMS X ∧ s = funC hs v) ∧
  (cwc X < 256 ∧ ∀ k, bt (cwc X) k = 1 ↔ ∃ i, i < cc ∧ bt (constCell hs i) k = 1) ∧
  (cwp X < 256 ∧ ∀ k, bt (cwp X) k = 1 ↔ ∃ t, t ∈ cPS X ∧ bt (cellOf hs t) k = 1) ∧
  (cwf X < 256 ∧ ∀ k, bt (cwf X) k = 1 ↔ ∃ v, v ∈ cMS X ∧ bt (funC hs v) k = 1)
def CxM (M : mx_M) (c : Nat) (hs : Hs) (X : Cx) : Prop :=
  HsAt M (c + 1) hs ∧ M c 1 = nI (2 ^ hs.1 - 1) ∧ M c 2 = nI (bsum (sortB hs 2) hs.1) ∧ M c 3 = nI (cwc X) ∧ M c 4 = nI (cwp X) ∧ M c 5 = nI (cwf X) ∧
  SetsAt M (c + 5) (cF X) (cf X) ∧ SetsL M (c + 11) (cPL X) ∧ SetsL M (c + 14) (cPR X) ∧ SetsL M (c + 20) (cQL X) ∧ SetsL M (c + 23) (cQR X) ∧ SetsL M (c + 26) (cPS X) ∧ SetsL M (c + 29) (cMS X) ∧
  (∀ t, t ∈ cPS X → M (c + 32) t = nI (cellOf hs t)) ∧ ∀ v, v ∈ cMS X → M (c + 33) v = nI (funC hs v)
/-- Y has come from X, what is new at height h -/
def Ext (h : Nat) (X Y : Cx) : Prop := Y.2.1 = X.2.1 ∧ Y.2.2.1 = X.2.2.1 ∧ (∃ l, cF Y = cF X ++ l) ∧ (∃ l, cPS Y = cPS X ++ l) ∧ (∃ l, cMS Y = cMS X ++ l) ∧ (∀ s, s ∈ cF X → cf Y s = cf X s) ∧ ∀ s, s ∈ cF Y → s ∉ cF X → cf Y s = h
theorem Ext.rf {h : Nat} {X : Cx} : Ext h X X := ⟨rfl, rfl, ⟨[], by simp⟩, ⟨[], by simp⟩, ⟨[], by simp⟩, fun _ _ => rfl, fun _ a b => absurd a b⟩
theorem Ext.tr {h : Nat} {X Y Z : Cx} (a : Ext h X Y) (b : Ext h Y Z) : Ext h X Z := by
  obtain ⟨a1, a2, ⟨l3, a3⟩, ⟨l4, a4⟩, ⟨l5, a5⟩, a6, a7⟩ := a
  obtain ⟨b1, b2, ⟨m3, b3⟩, ⟨m4, b4⟩, ⟨m5, b5⟩, b6, b7⟩ := b
  refine ⟨b1.trans a1, b2.trans a2, ⟨l3 ++ m3, by rw [b3, a3, List.append_assoc]⟩, ⟨l4 ++ m4, by rw [b4, a4, List.append_assoc]⟩, ⟨l5 ++ m5, by rw [b5, a5, List.append_assoc]⟩, fun s hs => ?_, fun s hs hn => ?_⟩
  · rw [b6 s (by rw [a3]; exact List.mem_append_left _ hs)]
    exact a6 s hs
  · by_cases hy : s ∈ cF Y
    · rw [b6 s hy]
      exact a7 s hy hn
    · exact b7 s hs hy
theorem bt_or (a b k : Nat) : bt (a ||| b) k = 1 ↔ bt a k = 1 ∨ bt b k = 1 := by
  have h1 := bt_tb (a ||| b) k
  rw [Nat.testBit_or, bt_tb a k, bt_tb b k] at h1
  have h2 : (decide (bt a k = 1) || decide (bt b k = 1)) = true ↔ decide (bt (a ||| b) k = 1) = true := by rw [h1]
  simp at h2
  exact h2.symm
theorem or256 {a b : Nat} (ha : a < 256) (hb : b < 256) : a ||| b < 256 := or_lt (k := 8) ha hb
/-- a found cell comes -/
def xAdd (X : Cx) (s n : Nat) : List Nat × (Nat → Nat) := if s ∈ cF X then X.1 else (cF X ++ [s], updN (cf X) s n)
def xPair (hs : Hs) (h : Nat) (X : Cx) (t : Nat) : Cx := (xAdd X (cellOf hs t) h, X.2.1, X.2.2.1, cPS X ++ [t], cMS X, (cwc X, cwp X ||| cellOf hs t, cwf X))
def xFun (hs : Hs) (h : Nat) (X : Cx) (v : Nat) : Cx := (xAdd X (funC hs v) h, X.2.1, X.2.2.1, cPS X, cMS X ++ [v], (cwc X, cwp X, cwf X ||| funC hs v))
theorem xAdd_mem {X : Cx} {s n x : Nat} : x ∈ (xAdd X s n).1 ↔ x ∈ cF X ∨ x = s := by
  unfold xAdd
  split
  · rename_i h
    exact ⟨Or.inl, fun q => q.elim id (fun e => e ▸ h)⟩
  · simp
theorem xAdd_ext {X : Cx} {s n : Nat} : (∃ l, (xAdd X s n).1 = cF X ++ l) ∧ (∀ x, x ∈ cF X → (xAdd X s n).2 x = cf X x) ∧ ∀ x, x ∈ (xAdd X s n).1 → x ∉ cF X → (xAdd X s n).2 x = n := by
  unfold xAdd
  split
  · exact ⟨⟨[], by simp⟩, fun _ _ => rfl, fun _ a b => absurd a b⟩
  · rename_i hm
    refine ⟨⟨[s], rfl⟩, fun x hx => updN_n _ _ (fun e => hm (e ▸ hx)), fun x hx hn => ?_⟩
    have : x = s := by simpa [hn] using hx
    rw [this]
    exact updN_s _ _ _
theorem xPair_ext (hs : Hs) (h : Nat) (X : Cx) (t : Nat) : Ext h X (xPair hs h X t) := by
  obtain ⟨a, b, c⟩ := xAdd_ext (X := X) (s := cellOf hs t) (n := h)
  exact ⟨rfl, rfl, a, ⟨[t], rfl⟩, ⟨[], by simp [xPair]⟩, b, c⟩
theorem xFun_ext (hs : Hs) (h : Nat) (X : Cx) (v : Nat) : Ext h X (xFun hs h X v) := by
  obtain ⟨a, b, c⟩ := xAdd_ext (X := X) (s := funC hs v) (n := h)
  exact ⟨rfl, rfl, a, ⟨[], by simp [xFun]⟩, ⟨[v], rfl⟩, b, c⟩
theorem xPair_I {hs : Hs} {cc h : Nat} {X : Cx} (hw : HsOk hs) (hI : CxI hs cc X) {t : Nat} (ht : t < 256) : CxI hs cc (xPair hs h X t) := by
  obtain ⟨h1, h2, ⟨h3, h4⟩, h5⟩ := hI
  refine ⟨fun s => ?_, h2, ⟨or256 h3 (cellOf_lt hw ht), fun k => ?_⟩, h5⟩
  · show s ∈ (xAdd X (cellOf hs t) h).1 ↔ _ ∨ (∃ u, u ∈ cPS X ++ [t] ∧ _) ∨ _
    rw [xAdd_mem, h1 s]
    constructor
    · rintro ((a | ⟨u, a, b⟩ | a) | a)
      · exact Or.inl a
      · exact Or.inr (Or.inl ⟨u, List.mem_append_left _ a, b⟩)
      · exact Or.inr (Or.inr a)
      · exact Or.inr (Or.inl ⟨t, by simp, a⟩)
    · rintro (a | ⟨u, a, b⟩ | a)
      · exact Or.inl (Or.inl a)
      · rcases List.mem_append.mp a with q | q
        · exact Or.inl (Or.inr (Or.inl ⟨u, q, b⟩))
        · simp only [List.mem_singleton] at q
          exact Or.inr (q ▸ b)
      · exact Or.inl (Or.inr (Or.inr a))
  · show bt (cwp X ||| cellOf hs t) k = 1 ↔ ∃ u, u ∈ cPS X ++ [t] ∧ _
    rw [bt_or, h4 k]
    constructor
    · rintro (⟨u, a, b⟩ | a)
      · exact ⟨u, List.mem_append_left _ a, b⟩
      · exact ⟨t, by simp, a⟩
    · rintro ⟨u, a, b⟩
      rcases List.mem_append.mp a with q | q
      · exact Or.inl ⟨u, q, b⟩
      · simp only [List.mem_singleton] at q
        exact Or.inr (q ▸ b)
theorem xFun_I {hs : Hs} {cc h : Nat} {X : Cx} (hw : HsOk hs) (hI : CxI hs cc X) (v : Nat) : CxI hs cc (xFun hs h X v) := by
  obtain ⟨h1, h2, h5, ⟨h3, h4⟩⟩ := hI
  refine ⟨fun s => ?_, h2, h5, ⟨or256 h3 (funC_lt hw v), fun k => ?_⟩⟩
  · show s ∈ (xAdd X (funC hs v) h).1 ↔ _ ∨ _ ∨ (∃ u, u ∈ cMS X ++ [v] ∧ _)
    rw [xAdd_mem, h1 s]
    constructor
    · rintro ((a | a | ⟨u, a, b⟩) | a)
      · exact Or.inl a
      · exact Or.inr (Or.inl a)
      · exact Or.inr (Or.inr ⟨u, List.mem_append_left _ a, b⟩)
      · exact Or.inr (Or.inr ⟨v, by simp, a⟩)
    · rintro (a | a | ⟨u, a, b⟩)
      · exact Or.inl (Or.inl a)
      · exact Or.inl (Or.inr (Or.inl a))
      · rcases List.mem_append.mp a with q | q
        · exact Or.inl (Or.inr (Or.inr ⟨u, q, b⟩))
        · simp only [List.mem_singleton] at q
          exact Or.inr (q ▸ b)
  · show bt (cwf X ||| funC hs v) k = 1 ↔ ∃ u, u ∈ cMS X ++ [v] ∧ _
    rw [bt_or, h4 k]
    constructor
    · rintro (⟨u, a, b⟩ | a)
      · exact ⟨u, List.mem_append_left _ a, b⟩
      · exact ⟨v, by simp, a⟩
    · rintro ⟨u, a, b⟩
      rcases List.mem_append.mp a with q | q
      · exact Or.inl ⟨u, q, b⟩
      · simp only [List.mem_singleton] at q
        exact Or.inr (q ▸ b)
theorem SetsAt.xadd {M M' : mx_M} {q s n : Nat} {X : Cx} (h : s ∈ cF X → M' = M) (h2 : s ∉ cF X → SetsAt M' q (cF X ++ [s]) (updN (cf X) s n)) (h0 : SetsAt M q (cF X) (cf X)) : SetsAt M' q (xAdd X s n).1 (xAdd X s n).2 := by
  unfold xAdd
  split
  · rename_i hm
    rw [h hm]
    exact h0
  · rename_i hm
    exact h2 hm
end
section
theorem SetsL.eq {M M' : mx_M} {q : Nat} {L : List Nat} (h : SetsL M q L) (h1 : M' q = M q) (h2 : M' (q + 1) = M (q + 1)) (h3 : M' (q + 2) = M (q + 2)) : SetsL M' q L := by
  obtain ⟨f, h⟩ := h
  refine ⟨f, ?_⟩
  unfold SetsAt
  rw [h1, h2, h3]
  exact h
theorem SetsAt.eq {M M' : mx_M} {q : Nat} {L : List Nat} {f : Nat → Nat} (h : SetsAt M q L f) (h1 : M' q = M q) (h2 : M' (q + 1) = M (q + 1)) (h3 : M' (q + 2) = M (q + 2)) : SetsAt M' q L f := by
  unfold SetsAt
  rw [h1, h2, h3]
  exact h
theorem k_addPair (G : mx_G) {M : mx_M} {c cc t h : Nat} {hs : Hs} {X : Cx} (ho : mx_ocl LAY c = 2) (hw : HsOk hs) (hM : CxM M c hs X) (hI : CxI hs cc X) (ht : t < 256) (hh : 0 < h) (hh2 : h < 2 ^ 31) :
    sOk G m_Cells_addPair [.ref c, .int (nI t), .int (nI h)] M (fun r M' => r = none ∧ Fr M M' c (c + 37) ∧ (∀ a, c + 8 ≤ a → a < c + 26 → M' a = M a) ∧ ∃ Y, CxM M' c hs Y ∧ CxI hs cc Y ∧ Ext h X Y ∧ (∀ u, u ∈ cPS Y ↔ u ∈ cPS X ∨ u = t) ∧ cMS Y = cMS X) := by
  obtain ⟨m0, m1, m2, m3, m4, m5, m6, m7, m8, m9, m10, m11, m12, m13, m14⟩ := id hM
  refine sOk_of ⟨by decide +kernel, by decide +kernel, Nat.le_of_ble_eq_true rfl⟩ ?_
  show sW G m_Cells_addPair 0 ([], [some (.ref c), some (.int (nI t)), some (.int (nI h)), none], M) _
  refine sW_go b_Cells_addPair_0 (st' := ([.int (nI 1), .int (nI t), .ref (c + 26)], [some (.ref c), some (.int (nI t)), some (.int (nI h)), none], M)) (φ := mx_ocl LAY c = 2 ∧ True) rfl ⟨ho, trivial⟩ ?_
  refine sW_callV 6 [.int (nI t), .int (nI 1)] [] d_Cells_addPair_6 c_Cells_addPair_6 ⟨rfl, rfl, rfl, Nat.le_of_ble_eq_true rfl, rfl, rfl⟩ (oc_Cells_pairSets ho) (k_Sets_addL G (oc_Cells_pairSets ho) m11 ht (by decide) (by decide)) ?_
  rintro _ M2 ⟨rfl, g1, g2, g3⟩
  show sW G m_Cells_addPair 9 ([.int (tf (t ∉ cPS X))], [some (.ref c), some (.int (nI t)), some (.int (nI h)), none], M2) _
  refine sW_if_eq 48 d_Cells_addPair_9 (by decide) (fun c_9 => ?_) (fun c_9 => ?_)
  · skip
    replace c_9 := tf_z.mp c_9
    refine sW_retV d_Cells_addPair_48 rfl ?_
    have hm : t ∈ cPS X := Classical.not_not.mp c_9
    have e2 := g3 hm
    subst e2
    exact ⟨rfl, Fr.rf, fun _ _ _ => rfl, X, hM, hI, Ext.rf, fun u => ⟨Or.inl, fun q => q.elim id (fun e => e ▸ hm)⟩, rfl⟩
  · skip
    replace c_9 := tf_nz.mp c_9
    have hm : t ∉ cPS X := c_9
    have hc := cellOf_lt hw ht
    have n0 : HsAt M2 (c + 1) hs := m0.fr g1 (by omega)
    have e4 : (mx_wr M2 (c + 32) t (nI (cellOf hs t))) c 4 = nI (cwp X) := by rw [mx_wr_n _ _ _ (by omega), g1 c (by omega)]; exact m4
    have f0 : Fr M (mx_wr (mx_wr M2 (c + 32) t (nI (cellOf hs t))) c 4 (nI (cwp X ||| cellOf hs t))) c (c + 37) := ((g1.mono (by omega) (by omega)).wr (by omega) (by omega)).wr (by omega) (by omega)
    have n6 : SetsAt (mx_wr (mx_wr M2 (c + 32) t (nI (cellOf hs t))) c 4 (nI (cwp X ||| cellOf hs t))) (c + 5) (cF X) (cf X) := by
      refine SetsAt.fr (lo := c + 32) (hi := c + 33) (SetsAt.fr (M := M2) (M' := mx_wr M2 c 4 (nI (cwp X ||| cellOf hs t))) (lo := c) (hi := c + 1) (m6.fr g1 (by omega)) (Fr.rf.wr (by omega) (by omega)) (by omega)) (fun a ha => ?_) (by omega)
      by_cases hac : a = c
      · subst hac
        rw [mx_wr_s, mx_wr_s, mx_wr_n _ _ _ (by omega)]
      · rw [mx_wr_n _ _ _ hac, mx_wr_n _ _ _ (by omega), mx_wr_n _ _ _ hac]
    refine sW_go b_Cells_addPair_12 (st' := ([.int (nI t), .ref (c + 1)], [some (.ref c), some (.int (nI t)), some (.int (nI h)), none], M2)) (φ := mx_ocl LAY c = 2 ∧ True) rfl ⟨ho, trivial⟩ ?_
    refine sW_callV 3 [.int (nI t)] [] d_Cells_addPair_17 c_Cells_addPair_17 ⟨rfl, rfl, rfl, Nat.le_of_ble_eq_true rfl, rfl, rfl⟩ (oc_Cells_house ho) (k_House_cellOf G (oc_Cells_house ho) n0 hw ht) ?_
    rintro _ M₁ ⟨rfl, h₁⟩
    rw [h₁]
    show sW G m_Cells_addPair 20 ([.int (nI (cellOf hs t))], [some (.ref c), some (.int (nI t)), some (.int (nI h)), none], M2) _
    refine sW_go b_Cells_addPair_20 (st' := ([.int (nI h), .int (nI (cellOf hs t)), .ref (c + 5)], [some (.ref c), some (.int (nI t)), some (.int (nI h)), some (.int (nI (cellOf hs t)))], mx_wr (mx_wr M2 (c + 32) (nI t).toNatClampNeg (nI (cellOf hs t))) c 4 ((mx_wr M2 (c + 32) (nI t).toNatClampNeg (nI (cellOf hs t))) c 4 ||| nI (cellOf hs t)))) (φ := mx_ocl LAY c = 2 ∧ vp_in (nI t) (mx_len LAY false (c + 32)) ∧ mx_ocl LAY c = 2 ∧ mx_ocl LAY c = 2 ∧ mx_ocl LAY c = 2 ∧ True) rfl ⟨ho, (by simp (disch := omega) only [(ln_Cells_cellOfPair ho)]; exact vp_in_nI (by omega) (by decide)), ho, ho, ho, trivial⟩ ?_
    refine sW_eq (st' := ([.int (nI h), .int (nI (cellOf hs t)), .ref (c + 5)], [some (.ref c), some (.int (nI t)), some (.int (nI h)), some (.int (nI (cellOf hs t)))], mx_wr (mx_wr M2 (c + 32) t (nI (cellOf hs t))) c 4 (nI (cwp X ||| cellOf hs t)))) (by simp (disch := omega) only [e4, nI_clamp, nx_or]) ?_
    refine sW_callV 6 [.int (nI (cellOf hs t)), .int (nI h)] [] d_Cells_addPair_44 c_Cells_addPair_44 ⟨rfl, rfl, rfl, Nat.le_of_ble_eq_true rfl, rfl, rfl⟩ (oc_Cells_found ho) (k_Sets_add G (oc_Cells_found ho) n6 hc hh hh2) ?_
    rintro _ M4 ⟨rfl, g4, g5, g6⟩
    show sW G m_Cells_addPair 47 ([.int (tf (cellOf hs t ∉ cF X))], [some (.ref c), some (.int (nI t)), some (.int (nI h)), some (.int (nI (cellOf hs t)))], M4) _
    refine sW_go b_Cells_addPair_47 (st' := ([], [some (.ref c), some (.int (nI t)), some (.int (nI h)), some (.int (nI (cellOf hs t)))], M4)) (φ := True) rfl trivial ?_
    refine sW_retV d_Cells_addPair_48 rfl ?_
    have e1 : ∀ a, (c + 8 ≤ a ∧ a < c + 26) ∨ (c + 29 ≤ a ∧ a < c + 32) ∨ (c + 33 ≤ a) ∨ (c < a ∧ a < c + 5) → M4 a = M a := by
      intro a ha
      rw [g4 a (by omega), mx_wr_n _ _ _ (by omega), mx_wr_n _ _ _ (by omega), g1 a (by omega)]
    have ec : M4 c = upd (M c) 4 (nI (cwp X ||| cellOf hs t)) := by
      rw [g4 c (by omega), mx_wr_s, mx_wr_n _ _ _ (by omega), g1 c (by omega)]
    refine ⟨rfl, f0.tr (g4.mono (by omega) (by omega)), fun a h1 h2 => e1 a (by omega), xPair hs h X t, ⟨?_, ?_, ?_, ?_, ?_, ?_, ?_, ?_, ?_, ?_, ?_, ?_, ?_, ?_, ?_⟩, xPair_I hw hI ht, xPair_ext hs h X t, fun u => by show u ∈ cPS X ++ [t] ↔ _; simp, rfl⟩
    · unfold HsAt
      rw [e1 (c + 1) (by omega), e1 (c + 1 + 1) (by omega), e1 (c + 1 + 2) (by omega), e1 (c + 1 + 3) (by omega)]
      exact m0
    · rw [ec, pk_un (by decide)]; exact m1
    · rw [ec, pk_un (by decide)]; exact m2
    · rw [ec, pk_un (by decide)]; exact m3
    · rw [ec, pk_us]; rfl
    · rw [ec, pk_un (by decide)]; exact m5
    · exact SetsAt.xadd g5 g6 n6
    · exact m7.eq (e1 _ (by omega)) (e1 _ (by omega)) (e1 _ (by omega))
    · exact m8.eq (e1 _ (by omega)) (e1 _ (by omega)) (e1 _ (by omega))
    · exact m9.eq (e1 _ (by omega)) (e1 _ (by omega)) (e1 _ (by omega))
    · exact m10.eq (e1 _ (by omega)) (e1 _ (by omega)) (e1 _ (by omega))
    · have q1 : ins (cPS X) t = cPS X ++ [t] := if_neg hm
      rw [q1] at g2
      have q2 : ∀ a, c + 26 ≤ a → a < c + 29 → M4 a = M2 a := fun a h1 h2 => by rw [g4 a (by omega), mx_wr_n _ _ _ (by omega), mx_wr_n _ _ _ (by omega)]
      exact g2.eq (q2 _ (by omega) (by omega)) (q2 _ (by omega) (by omega)) (q2 _ (by omega) (by omega))
    · exact m12.eq (e1 _ (by omega)) (e1 _ (by omega)) (e1 _ (by omega))
    · intro u hu
      rw [g4 _ (by omega), mx_wr_n _ _ _ (by omega), mx_wr_s]
      by_cases hx : u = t
      · rw [hx, pk_us]
      · rw [pk_un hx, g1 _ (by omega)]
        have hu' : u ∈ cPS X ++ [t] := hu
        exact m13 u (by simpa [hx] using hu')
    · intro v hv
      rw [e1 (c + 33) (by omega)]
      exact m14 v hv
theorem k_addFunction (G : mx_G) {M : mx_M} {c cc v h : Nat} {hs : Hs} {X : Cx} (ho : mx_ocl LAY c = 2) (hw : HsOk hs) (hM : CxM M c hs X) (hI : CxI hs cc X) (ht : v < 256) (hh : 0 < h) (hh2 : h < 2 ^ 31) :
    sOk G m_Cells_addFunction [.ref c, .int (nI v), .int (nI h)] M (fun r M' => r = none ∧ Fr M M' c (c + 37) ∧ (∀ a, c + 8 ≤ a → a < c + 26 → M' a = M a) ∧ ∃ Y, CxM M' c hs Y ∧ CxI hs cc Y ∧ Ext h X Y ∧ (∀ u, u ∈ cMS Y ↔ u ∈ cMS X ∨ u = v) ∧ cPS Y = cPS X) := by
  obtain ⟨m0, m1, m2, m3, m4, m5, m6, m7, m8, m9, m10, m11, m12, m13, m14⟩ := id hM
  have ea := an_i (bsum (sortB hs 2) hs.1) v
  refine sOk_of ⟨by decide +kernel, by decide +kernel, Nat.le_of_ble_eq_true rfl⟩ ?_
  show sW G m_Cells_addFunction 0 ([], [some (.ref c), some (.int (nI v)), some (.int (nI h)), none], M) _
  refine sW_go b_Cells_addFunction_0 (st' := ([.int (nI 1), .int (nI v), .ref (c + 29)], [some (.ref c), some (.int (nI v)), some (.int (nI h)), none], M)) (φ := mx_ocl LAY c = 2 ∧ True) rfl ⟨ho, trivial⟩ ?_
  refine sW_callV 6 [.int (nI v), .int (nI 1)] [] d_Cells_addFunction_6 c_Cells_addFunction_6 ⟨rfl, rfl, rfl, Nat.le_of_ble_eq_true rfl, rfl, rfl⟩ (oc_Cells_missed ho) (k_Sets_addL G (oc_Cells_missed ho) m12 ht (by decide) (by decide)) ?_
  rintro _ M2 ⟨rfl, g1, g2, g3⟩
  show sW G m_Cells_addFunction 9 ([.int (tf (v ∉ cMS X))], [some (.ref c), some (.int (nI v)), some (.int (nI h)), none], M2) _
  refine sW_if_eq 55 d_Cells_addFunction_9 (by decide) (fun c_9 => ?_) (fun c_9 => ?_)
  · skip
    replace c_9 := tf_z.mp c_9
    refine sW_retV d_Cells_addFunction_55 rfl ?_
    have hm : v ∈ cMS X := Classical.not_not.mp c_9
    have e2 := g3 hm
    subst e2
    exact ⟨rfl, Fr.rf, fun _ _ _ => rfl, X, hM, hI, Ext.rf, fun u => ⟨Or.inl, fun q => q.elim id (fun e => e ▸ hm)⟩, rfl⟩
  · skip
    replace c_9 := tf_nz.mp c_9
    have hm : v ∉ cMS X := c_9
    have hc := funC_lt hw v
    have n0 : HsAt M2 (c + 1) hs := m0.fr g1 (by omega)
    have n2 : M2 c 2 = nI (bsum (sortB hs 2) hs.1) := by rw [g1 c (by omega)]; exact m2
    have e4 : (mx_wr M2 (c + 33) v (nI (funC hs v))) c 5 = nI (cwf X) := by rw [mx_wr_n _ _ _ (by omega), g1 c (by omega)]; exact m5
    have f0 : Fr M (mx_wr (mx_wr M2 (c + 33) v (nI (funC hs v))) c 5 (nI (cwf X ||| funC hs v))) c (c + 37) := ((g1.mono (by omega) (by omega)).wr (by omega) (by omega)).wr (by omega) (by omega)
    have n6 : SetsAt (mx_wr (mx_wr M2 (c + 33) v (nI (funC hs v))) c 5 (nI (cwf X ||| funC hs v))) (c + 5) (cF X) (cf X) := by
      have q : ∀ a, c + 5 ≤ a → a < c + 8 → (mx_wr (mx_wr M2 (c + 33) v (nI (funC hs v))) c 5 (nI (cwf X ||| funC hs v))) a = M a := fun a h1 h2 => by rw [mx_wr_n _ _ _ (by omega), mx_wr_n _ _ _ (by omega), g1 a (by omega)]
      exact m6.eq (q _ (by omega) (by omega)) (q _ (by omega) (by omega)) (q _ (by omega) (by omega))
    refine sW_go b_Cells_addFunction_12 (st' := ([.int (M2 c 2 &&& (nI v ^^^ (-1))), .ref (c + 1)], [some (.ref c), some (.int (nI v)), some (.int (nI h)), none], M2)) (φ := mx_ocl LAY c = 2 ∧ mx_ocl LAY c = 2 ∧ True) rfl ⟨ho, ho, trivial⟩ ?_
    refine sW_eq (st' := ([.int (nI (andn (bsum (sortB hs 2) hs.1) v)), .ref (c + 1)], [some (.ref c), some (.int (nI v)), some (.int (nI h)), none], M2)) (by simp (disch := omega) only [ea, n2]) ?_
    refine sW_callV 3 [.int (nI (andn (bsum (sortB hs 2) hs.1) v))] [] d_Cells_addFunction_24 c_Cells_addFunction_24 ⟨rfl, rfl, rfl, Nat.le_of_ble_eq_true rfl, rfl, rfl⟩ (oc_Cells_house ho) (k_House_cellOf G (oc_Cells_house ho) n0 hw (funT_lt hw v)) ?_
    rintro _ M₁ ⟨rfl, h₁⟩
    rw [h₁]
    show sW G m_Cells_addFunction 27 ([.int (nI (funC hs v))], [some (.ref c), some (.int (nI v)), some (.int (nI h)), none], M2) _
    refine sW_go b_Cells_addFunction_27 (st' := ([.int (nI h), .int (nI (funC hs v)), .ref (c + 5)], [some (.ref c), some (.int (nI v)), some (.int (nI h)), some (.int (nI (funC hs v)))], mx_wr (mx_wr M2 (c + 33) (nI v).toNatClampNeg (nI (funC hs v))) c 5 ((mx_wr M2 (c + 33) (nI v).toNatClampNeg (nI (funC hs v))) c 5 ||| nI (funC hs v)))) (φ := mx_ocl LAY c = 2 ∧ vp_in (nI v) (mx_len LAY false (c + 33)) ∧ mx_ocl LAY c = 2 ∧ mx_ocl LAY c = 2 ∧ mx_ocl LAY c = 2 ∧ True) rfl ⟨ho, (by simp (disch := omega) only [(ln_Cells_cellMissing ho)]; exact vp_in_nI (by omega) (by decide)), ho, ho, ho, trivial⟩ ?_
    refine sW_eq (st' := ([.int (nI h), .int (nI (funC hs v)), .ref (c + 5)], [some (.ref c), some (.int (nI v)), some (.int (nI h)), some (.int (nI (funC hs v)))], mx_wr (mx_wr M2 (c + 33) v (nI (funC hs v))) c 5 (nI (cwf X ||| funC hs v)))) (by simp (disch := omega) only [e4, nI_clamp, nx_or]) ?_
    refine sW_callV 6 [.int (nI (funC hs v)), .int (nI h)] [] d_Cells_addFunction_51 c_Cells_addFunction_51 ⟨rfl, rfl, rfl, Nat.le_of_ble_eq_true rfl, rfl, rfl⟩ (oc_Cells_found ho) (k_Sets_add G (oc_Cells_found ho) n6 hc hh hh2) ?_
    rintro _ M4 ⟨rfl, g4, g5, g6⟩
    show sW G m_Cells_addFunction 54 ([.int (tf (funC hs v ∉ cF X))], [some (.ref c), some (.int (nI v)), some (.int (nI h)), some (.int (nI (funC hs v)))], M4) _
    refine sW_go b_Cells_addFunction_54 (st' := ([], [some (.ref c), some (.int (nI v)), some (.int (nI h)), some (.int (nI (funC hs v)))], M4)) (φ := True) rfl trivial ?_
    refine sW_retV d_Cells_addFunction_55 rfl ?_
    have e1 : ∀ a, (c + 8 ≤ a ∧ a < c + 29) ∨ (c + 32 ≤ a ∧ a < c + 33) ∨ (c + 34 ≤ a) ∨ (c < a ∧ a < c + 5) → M4 a = M a := by
      intro a ha
      rw [g4 a (by omega), mx_wr_n _ _ _ (by omega), mx_wr_n _ _ _ (by omega), g1 a (by omega)]
    have ec : M4 c = upd (M c) 5 (nI (cwf X ||| funC hs v)) := by
      rw [g4 c (by omega), mx_wr_s, mx_wr_n _ _ _ (by omega), g1 c (by omega)]
    refine ⟨rfl, f0.tr (g4.mono (by omega) (by omega)), fun a h1 h2 => e1 a (by omega), xFun hs h X v, ⟨?_, ?_, ?_, ?_, ?_, ?_, ?_, ?_, ?_, ?_, ?_, ?_, ?_, ?_, ?_⟩, xFun_I hw hI v, xFun_ext hs h X v, fun u => by show u ∈ cMS X ++ [v] ↔ _; simp, rfl⟩
    · unfold HsAt
      rw [e1 (c + 1) (by omega), e1 (c + 1 + 1) (by omega), e1 (c + 1 + 2) (by omega), e1 (c + 1 + 3) (by omega)]
      exact m0
    · rw [ec, pk_un (by decide)]; exact m1
    · rw [ec, pk_un (by decide)]; exact m2
    · rw [ec, pk_un (by decide)]; exact m3
    · rw [ec, pk_un (by decide)]; exact m4
    · rw [ec, pk_us]; rfl
    · exact SetsAt.xadd g5 g6 n6
    · exact m7.eq (e1 _ (by omega)) (e1 _ (by omega)) (e1 _ (by omega))
    · exact m8.eq (e1 _ (by omega)) (e1 _ (by omega)) (e1 _ (by omega))
    · exact m9.eq (e1 _ (by omega)) (e1 _ (by omega)) (e1 _ (by omega))
    · exact m10.eq (e1 _ (by omega)) (e1 _ (by omega)) (e1 _ (by omega))
    · exact m11.eq (e1 _ (by omega)) (e1 _ (by omega)) (e1 _ (by omega))
    · have q1 : ins (cMS X) v = cMS X ++ [v] := if_neg hm
      rw [q1] at g2
      have q2 : ∀ a, c + 29 ≤ a → a < c + 32 → M4 a = M2 a := fun a h1 h2 => by rw [g4 a (by omega), mx_wr_n _ _ _ (by omega), mx_wr_n _ _ _ (by omega)]
      exact g2.eq (q2 _ (by omega) (by omega)) (q2 _ (by omega) (by omega)) (q2 _ (by omega) (by omega))
    · intro u hu
      rw [e1 (c + 32) (by omega)]
      exact m13 u hu
    · intro u hu
      rw [g4 _ (by omega), mx_wr_n _ _ _ (by omega), mx_wr_s]
      by_cases hx : u = v
      · rw [hx, pk_us]
      · rw [pk_un hx, g1 _ (by omega)]
        have hu' : u ∈ cMS X ++ [v] := hu
        exact m14 u (by simpa [hx] using hu')
end
section
theorem SetsL.l256 {M : mx_M} {q : Nat} {L : List Nat} (h : SetsL M q L) {s : Nat} (hs : s ∈ L) : s < 256 := by
  obtain ⟨f, h⟩ := h
  exact h.2.2.1 s hs
theorem SetsL.len {M : mx_M} {q : Nat} {L : List Nat} (h : SetsL M q L) : L.length ≤ 256 := by
  obtain ⟨f, h⟩ := h
  exact h.len
theorem SetsL.size {M : mx_M} {q : Nat} {L : List Nat} (h : SetsL M q L) : M q 2 = nI L.length := by
  obtain ⟨f, h⟩ := h
  exact h.1
theorem SetsL.at {M : mx_M} {q : Nat} {L : List Nat} (h : SetsL M q L) {i : Nat} (hi : i < L.length) : M (q + 1) i = nI (L.getD i 0) ∧ L.getD i 0 < 256 ∧ L.getD i 0 ∈ L := by
  obtain ⟨f, h⟩ := h
  exact ⟨h.2.2.2.1 i hi, h.lt hi⟩
theorem getD_app {L l : List Nat} {i : Nat} (hi : i < L.length) : (L ++ l).getD i 0 = L.getD i 0 := by
  simp [List.getD_eq_getElem?_getD, List.getElem?_append_left hi]
theorem k_addCase (G : mx_G) {M : mx_M} {c cc t h : Nat} {hs : Hs} {X : Cx} (ho : mx_ocl LAY c = 2) (hw : HsOk hs) (hM : CxM M c hs X) (hI : CxI hs cc X) (ht : t < 256) (hh : 0 < h) (hh2 : h < 2 ^ 31) (hcl : t ∈ cMS X → ∀ m, m ∈ cMS X → m ||| t ∈ cMS X) :
    sOk G m_Cells_addCase [.ref c, .int (nI t), .int (nI h)] M (fun r M' => r = none ∧ Fr M M' c (c + 37) ∧ (∀ a, c + 8 ≤ a → a < c + 26 → M' a = M a) ∧ ∃ Y, CxM M' c hs Y ∧ CxI hs cc Y ∧ Ext h X Y ∧ (∀ u, u ∈ cMS Y ↔ u ∈ cMS X ∨ ∃ m, m ∈ cMS X ∧ u = m ||| t) ∧ cPS Y = cPS X) := by
  obtain ⟨m0, m1, m2, m3, m4, m5, m6, m7, m8, m9, m10, m11, m12, m13, m14⟩ := id hM
  have hl := m12.len
  have e1 := m12.size
  obtain ⟨f, hf⟩ := id m12
  obtain ⟨f1, f2⟩ := hf.2.2.2.2.1 t ht
  have f3 := hf.2.2.2.2.2 t ht
  have e2 : M (c + 31) t = nI (f t) := f1
  refine sOk_of ⟨by decide +kernel, by decide +kernel, Nat.le_of_ble_eq_true rfl⟩ ?_
  show sW G m_Cells_addCase 0 ([], [some (.ref c), some (.int (nI t)), some (.int (nI h)), none, none], M) _
  refine sW_go b_Cells_addCase_0 (st' := ([.int (M (c + 31) (nI t).toNatClampNeg)], [some (.ref c), some (.int (nI t)), some (.int (nI h)), none, none], M)) (φ := mx_ocl LAY c = 2 ∧ mx_ocl LAY (c + 29) = 6 ∧ vp_in (nI t) (mx_len LAY false (c + 31)) ∧ True) rfl ⟨ho, (oc_Cells_missed ho), (by simp (disch := omega) only [(ln_Sets_number (oc_Cells_missed ho))]; exact vp_in_nI (by omega) (by decide)), trivial⟩ ?_
  refine sW_eq (st' := ([.int (nI (f t))], [some (.ref c), some (.int (nI t)), some (.int (nI h)), none, none], M)) (by simp (disch := omega) only [e2, nI_clamp]) ?_
  refine sW_if_eq 13 d_Cells_addCase_9 (by decide) (fun c_9 => ?_) (fun c_9 => ?_)
  · skip
    simp (disch := omega) only [nI_z] at c_9
    refine sW_go b_Cells_addCase_13 (st' := ([], [some (.ref c), some (.int (nI t)), some (.int (nI h)), some (.int (M (c + 29) 2)), some (.int (nI 0))], M)) (φ := mx_ocl LAY c = 2 ∧ mx_ocl LAY (c + 29) = 6 ∧ True) rfl ⟨ho, (oc_Cells_missed ho), trivial⟩ ?_
    refine sW_eq (st' := ([], [some (.ref c), some (.int (nI t)), some (.int (nI h)), some (.int (nI (cMS X).length)), some (.int (nI 0))], M)) (by simp (disch := omega) only [e1]) ?_
    have hm : t ∉ cMS X := fun q => f3.mpr q c_9
    refine mx_ind (α := Nat × mx_M × Cx) (fun q => (cMS X).length - q.1) (fun q => q.1 ≤ (cMS X).length → Fr M q.2.1 c (c + 37) → (∀ a, c + 8 ≤ a → a < c + 26 → q.2.1 a = M a) → CxM q.2.1 c hs q.2.2 → CxI hs cc q.2.2 → Ext h X q.2.2 → (∀ u, u ∈ cMS q.2.2 ↔ u ∈ cMS X ∨ ∃ j, j < q.1 ∧ u = (cMS X).getD j 0 ||| t) → cPS q.2.2 = cPS X → sW G m_Cells_addCase 24 ([], [some (.ref c), some (.int (nI t)), some (.int (nI h)), some (.int (nI (cMS X).length)), some (.int (nI q.1))], q.2.1) _) ?_ (0, M, X) (Nat.zero_le _) Fr.rf (fun _ _ _ => rfl) hM hI Ext.rf (fun u => by simp) rfl
    rintro ⟨k, M2, Y⟩ ih hk i1 i2 i3 i4 i5 i6 i7
    dsimp only at ih hk i1 i2 i3 i4 i5 i6 i7 ⊢
    by_cases hkn : k < (cMS X).length
    · obtain ⟨l, el⟩ := i5.2.2.2.2.1
      obtain ⟨p0, p1, p2, p3, p4, p5, p6, p7, p8, p9, p10, p11, p12, p13, p14⟩ := id i3
      have hkl : k < (cMS Y).length := by rw [el]; simp; omega
      obtain ⟨q1, q2, q3⟩ := p12.at hkl
      have q4 : (cMS Y).getD k 0 = (cMS X).getD k 0 := by rw [el]; exact getD_app hkn
      have q5 : M2 (c + 30) k = nI ((cMS X).getD k 0) := by rw [← q4]; exact q1
      rw [q4] at q2
      refine sW_go b_Cells_addCase_24 (st' := ([.int (nI (cMS X).length), .int (nI k)], [some (.ref c), some (.int (nI t)), some (.int (nI h)), some (.int (nI (cMS X).length)), some (.int (nI k))], M2)) (φ := True) rfl trivial ?_
      refine sW_ic_ge 53 d_Cells_addCase_27 (by decide) (fun c_27 => ?_) (fun c_27 => ?_)
      · skip
        simp (disch := omega) only [nI_leI] at c_27
        refine sW_retV d_Cells_addCase_53 rfl ?_
        omega
      · skip
        simp (disch := omega) only [nI_leI] at c_27
        refine sW_go b_Cells_addCase_30 (st' := ([.int (nI h), .int (M2 (c + 30) (nI k).toNatClampNeg ||| nI t), .ref c], [some (.ref c), some (.int (nI t)), some (.int (nI h)), some (.int (nI (cMS X).length)), some (.int (nI k))], M2)) (φ := mx_ocl LAY c = 2 ∧ mx_ocl LAY (c + 29) = 6 ∧ vp_in (nI k) (mx_len LAY false (c + 30)) ∧ True) rfl ⟨ho, (oc_Cells_missed ho), (by simp (disch := omega) only [(ln_Sets_at (oc_Cells_missed ho))]; exact vp_in_nI (by omega) (by decide)), trivial⟩ ?_
        refine sW_eq (st' := ([.int (nI h), .int (nI ((cMS X).getD k 0 ||| t)), .ref c], [some (.ref c), some (.int (nI t)), some (.int (nI h)), some (.int (nI (cMS X).length)), some (.int (nI k))], M2)) (by simp (disch := omega) only [nI_clamp, nx_or, q5]) ?_
        refine sW_callV 2 [.int (nI ((cMS X).getD k 0 ||| t)), .int (nI h)] [] d_Cells_addCase_44 c_Cells_addCase_44 ⟨rfl, rfl, rfl, Nat.le_of_ble_eq_true rfl, rfl, rfl⟩ ho (k_addFunction G ho hw i3 i4 (or256 q2 ht) hh hh2) ?_
        rintro _ M3 ⟨rfl, g1, g2, Z, g3, g4, g5, g6, g7⟩
        show sW G m_Cells_addCase 47 ([], [some (.ref c), some (.int (nI t)), some (.int (nI h)), some (.int (nI (cMS X).length)), some (.int (nI k))], M3) _
        refine sW_go b_Cells_addCase_47 (st' := ([], [some (.ref c), some (.int (nI t)), some (.int (nI h)), some (.int (nI (cMS X).length)), some (.int (nI k + nI 1))], M3)) (φ := True) rfl trivial ?_
        refine sW_eq (st' := ([], [some (.ref c), some (.int (nI t)), some (.int (nI h)), some (.int (nI (cMS X).length)), some (.int (nI (k + 1)))], M3)) (by simp (disch := omega) only [nI_add]) ?_
        refine sW_goto 24 d_Cells_addCase_50 (by decide) ?_
        refine ih (k + 1, M3, Z) (by dsimp only; omega) (by dsimp only; omega) (i1.tr g1) (fun a h1 h2 => (g2 a h1 h2).trans (i2 a h1 h2)) g3 g4 (i5.tr g5) (fun u => ?_) (g7.trans i7)
        dsimp only
        rw [g6 u, i6 u]
        constructor
        · rintro ((a | ⟨j, a, b⟩) | a)
          · exact Or.inl a
          · exact Or.inr ⟨j, by omega, b⟩
          · exact Or.inr ⟨k, by omega, a⟩
        · rintro (a | ⟨j, a, b⟩)
          · exact Or.inl (Or.inl a)
          · rcases Nat.lt_or_ge j k with w | w
            · exact Or.inl (Or.inr ⟨j, w, b⟩)
            · obtain rfl : j = k := by omega
              exact Or.inr b
    · have hke : k = (cMS X).length := by omega
      refine sW_go b_Cells_addCase_24 (st' := ([.int (nI (cMS X).length), .int (nI k)], [some (.ref c), some (.int (nI t)), some (.int (nI h)), some (.int (nI (cMS X).length)), some (.int (nI k))], M2)) (φ := True) rfl trivial ?_
      refine sW_ic_ge 53 d_Cells_addCase_27 (by decide) (fun c_27 => ?_) (fun c_27 => ?_)
      · skip
        simp (disch := omega) only [nI_leI] at c_27
        refine sW_retV d_Cells_addCase_53 rfl ?_
        refine ⟨rfl, i1, i2, Y, i3, i4, i5, fun u => ?_, i7⟩
        rw [i6 u, hke]
        refine or_congr Iff.rfl ⟨fun ⟨j, a, b⟩ => ⟨(cMS X).getD j 0, (m12.at a).2.2, b⟩, fun ⟨m, a, b⟩ => ?_⟩
        obtain ⟨j, hj, rfl⟩ := List.getElem_of_mem a
        exact ⟨j, hj, by rw [b]; simp [hj]⟩
      · skip
        simp (disch := omega) only [nI_leI] at c_27
        exact absurd c_27 (by omega)
  · skip
    simp (disch := omega) only [nI_z] at c_9
    refine sW_retV d_Cells_addCase_12 rfl ?_
    have hm : t ∈ cMS X := f3.mp c_9
    refine ⟨rfl, Fr.rf, fun _ _ _ => rfl, X, hM, hI, Ext.rf, fun u => ⟨Or.inl, ?_⟩, rfl⟩
    rintro (a | ⟨m, a, b⟩)
    · exact a
    · rw [b]
      exact hcl hm m a
def prs (X : Cx) (ol orr n : Nat) (u : Nat) : Prop := ∃ i j, i < n ∧ j < (cPR X).length ∧ (i < ol → orr ≤ j) ∧ u = (cPL X).getD i 0 &&& (cPR X).getD j 0
theorem k_addPairsQ (G : mx_G) {M : mx_M} {c cc h ol orr : Nat} {hs : Hs} {X : Cx} (ho : mx_ocl LAY c = 2) (hw : HsOk hs) (hM : CxM M c hs X) (hI : CxI hs cc X) (hh : 0 < h) (hh2 : h < 2 ^ 31) (hol : ol ≤ 256) (hor : orr ≤ 256) {Q : Option Value → mx_M → Prop}
    (hQ : ∀ M' Y, Fr M M' c (c + 37) → (∀ a, c + 8 ≤ a → a < c + 26 → M' a = M a) → CxM M' c hs Y → CxI hs cc Y → Ext h X Y → (∀ u, u ∈ cPS Y ↔ u ∈ cPS X ∨ prs X ol orr (cPL X).length u) → cMS Y = cMS X → Q none M') :
    sOk G m_Cells_addPairs [.ref c, .int (nI ol), .int (nI orr), .int (nI h)] M Q := by
  obtain ⟨m0, m1, m2, m3, m4, m5, m6, m7, m8, m9, m10, m11, m12, m13, m14⟩ := id hM
  have hlL := m7.len
  have hlR := m8.len
  refine sOk_of ⟨by decide +kernel, by decide +kernel, Nat.le_of_ble_eq_true rfl⟩ ?_
  show sW G m_Cells_addPairs 0 ([], [some (.ref c), some (.int (nI ol)), some (.int (nI orr)), some (.int (nI h)), none, none], M) _
  refine sW_go b_Cells_addPairs_0 (st' := ([], [some (.ref c), some (.int (nI ol)), some (.int (nI orr)), some (.int (nI h)), some (.int (nI 0)), none], M)) (φ := True) rfl trivial ?_
  refine mx_ind (α := Nat × mx_M × Cx) (fun q => (cPL X).length - q.1) (fun q => q.1 ≤ (cPL X).length → Fr M q.2.1 c (c + 37) → (∀ a, c + 8 ≤ a → a < c + 26 → q.2.1 a = M a) → CxM q.2.1 c hs q.2.2 → CxI hs cc q.2.2 → Ext h X q.2.2 → (∀ u, u ∈ cPS q.2.2 ↔ u ∈ cPS X ∨ prs X ol orr q.1 u) → cMS q.2.2 = cMS X → sW G m_Cells_addPairs 3 ([], [some (.ref c), some (.int (nI ol)), some (.int (nI orr)), some (.int (nI h)), some (.int (nI q.1)), none], q.2.1) Q) ?_ (0, M, X) (Nat.zero_le _) Fr.rf (fun _ _ _ => rfl) hM hI Ext.rf (fun u => ⟨Or.inl, fun q => q.elim id (fun ⟨i, j, a, _⟩ => absurd a (Nat.not_lt_zero i))⟩) rfl
  rintro ⟨i, M2, Y⟩ ih hk i1 i2 i3 i4 i5 i6 i7
  dsimp only at ih hk i1 i2 i3 i4 i5 i6 i7 ⊢
  have eL : cPL Y = cPL X := by show Y.2.1.1 = X.2.1.1; rw [i5.1]
  have z1 : M2 (c + 11) 2 = nI (cPL X).length := by rw [← eL]; exact i3.2.2.2.2.2.2.2.1.size
  have inner : ∀ start : Nat, i < (cPL X).length → (∀ j, start ≤ j ↔ (i < ol → orr ≤ j)) → ∀ q : Nat × mx_M × Cx, start ≤ q.1 → Fr M q.2.1 c (c + 37) → (∀ a, c + 8 ≤ a → a < c + 26 → q.2.1 a = M a) → CxM q.2.1 c hs q.2.2 → CxI hs cc q.2.2 → Ext h X q.2.2 → (∀ u, u ∈ cPS q.2.2 ↔ (u ∈ cPS X ∨ prs X ol orr i u) ∨ ∃ j, start ≤ j ∧ j < q.1 ∧ j < (cPR X).length ∧ u = (cPL X).getD i 0 &&& (cPR X).getD j 0) → cMS q.2.2 = cMS X → q.1 ≤ 256 → sW G m_Cells_addPairs 31 ([], [some (.ref c), some (.int (nI ol)), some (.int (nI orr)), some (.int (nI h)), some (.int (nI i)), some (.int (nI q.1))], q.2.1) Q := by
    intro start hi hst
    refine mx_ind (α := Nat × mx_M × Cx) (fun q => (cPR X).length - q.1) (fun q => start ≤ q.1 → Fr M q.2.1 c (c + 37) → (∀ a, c + 8 ≤ a → a < c + 26 → q.2.1 a = M a) → CxM q.2.1 c hs q.2.2 → CxI hs cc q.2.2 → Ext h X q.2.2 → (∀ u, u ∈ cPS q.2.2 ↔ (u ∈ cPS X ∨ prs X ol orr i u) ∨ ∃ j, start ≤ j ∧ j < q.1 ∧ j < (cPR X).length ∧ u = (cPL X).getD i 0 &&& (cPR X).getD j 0) → cMS q.2.2 = cMS X → q.1 ≤ 256 → sW G m_Cells_addPairs 31 ([], [some (.ref c), some (.int (nI ol)), some (.int (nI orr)), some (.int (nI h)), some (.int (nI i)), some (.int (nI q.1))], q.2.1) Q) ?_
    rintro ⟨j, M3, Z⟩ ihj hj j1 j2 j3 j4 j5 j6 j7 j8
    dsimp only at ihj hj j1 j2 j3 j4 j5 j6 j7 j8 ⊢
    have eL3 : cPL Z = cPL X := by show Z.2.1.1 = X.2.1.1; rw [j5.1]
    have eR3 : cPR Z = cPR X := by show Z.2.1.2 = X.2.1.2; rw [j5.1]
    have y1 : M3 (c + 14) 2 = nI (cPR X).length := by rw [← eR3]; exact j3.2.2.2.2.2.2.2.2.1.size
    have y2 : M3 (c + 12) i = nI ((cPL X).getD i 0) ∧ (cPL X).getD i 0 < 256 := by
      have := j3.2.2.2.2.2.2.2.1.at (i := i) (by rw [eL3]; exact hi)
      rw [eL3] at this
      exact ⟨this.1, this.2.1⟩
    have y3 : j < (cPR X).length → M3 (c + 15) j = nI ((cPR X).getD j 0) := fun w => by
      have := j3.2.2.2.2.2.2.2.2.1.at (i := j) (by rw [eR3]; exact w)
      rw [eR3] at this
      exact this.1
    obtain ⟨y4, y5⟩ := y2
    by_cases hjn : j < (cPR X).length
    · have y6 := y3 hjn
      have y7 : (cPL X).getD i 0 &&& (cPR X).getD j 0 < 256 := Nat.lt_of_le_of_lt Nat.and_le_left y5
      refine sW_go b_Cells_addPairs_31 (st' := ([.int (M3 (c + 14) 2), .int (nI j)], [some (.ref c), some (.int (nI ol)), some (.int (nI orr)), some (.int (nI h)), some (.int (nI i)), some (.int (nI j))], M3)) (φ := mx_ocl LAY c = 2 ∧ mx_ocl LAY (c + 8) = 7 ∧ mx_ocl LAY (c + 14) = 6 ∧ True) rfl ⟨ho, (oc_Cells_ofPairs ho), (oc_Sides_rights (oc_Cells_ofPairs ho)), trivial⟩ ?_
      refine sW_eq (st' := ([.int (nI (cPR X).length), .int (nI j)], [some (.ref c), some (.int (nI ol)), some (.int (nI orr)), some (.int (nI h)), some (.int (nI i)), some (.int (nI j))], M3)) (by simp (disch := omega) only [y1]) ?_
      refine sW_ic_ge 84 d_Cells_addPairs_43 (by decide) (fun c_43 => ?_) (fun c_43 => ?_)
      · skip
        simp (disch := omega) only [nI_leI] at c_43
        refine sW_go b_Cells_addPairs_84 (st' := ([], [some (.ref c), some (.int (nI ol)), some (.int (nI orr)), some (.int (nI h)), some (.int (nI i + nI 1)), some (.int (nI j))], M3)) (φ := True) rfl trivial ?_
        refine sW_eq (st' := ([], [some (.ref c), some (.int (nI ol)), some (.int (nI orr)), some (.int (nI h)), some (.int (nI (i + 1))), some (.int (nI j))], M3)) (by simp (disch := omega) only [nI_add]) ?_
        refine sW_goto 3 d_Cells_addPairs_87 (by decide) ?_
        omega
      · skip
        simp (disch := omega) only [nI_leI] at c_43
        refine sW_go b_Cells_addPairs_46 (st' := ([.int (nI h), .int (M3 (c + 12) (nI i).toNatClampNeg &&& M3 (c + 15) (nI j).toNatClampNeg), .ref c], [some (.ref c), some (.int (nI ol)), some (.int (nI orr)), some (.int (nI h)), some (.int (nI i)), some (.int (nI j))], M3)) (φ := mx_ocl LAY c = 2 ∧ mx_ocl LAY (c + 8) = 7 ∧ mx_ocl LAY (c + 11) = 6 ∧ vp_in (nI i) (mx_len LAY false (c + 12)) ∧ mx_ocl LAY c = 2 ∧ mx_ocl LAY (c + 8) = 7 ∧ mx_ocl LAY (c + 14) = 6 ∧ vp_in (nI j) (mx_len LAY false (c + 15)) ∧ True) rfl ⟨ho, (oc_Cells_ofPairs ho), (oc_Sides_lefts (oc_Cells_ofPairs ho)), (by simp (disch := omega) only [(ln_Sets_at (oc_Sides_lefts (oc_Cells_ofPairs ho)))]; exact vp_in_nI (by omega) (by decide)), ho, (oc_Cells_ofPairs ho), (oc_Sides_rights (oc_Cells_ofPairs ho)), (by simp (disch := omega) only [(ln_Sets_at (oc_Sides_rights (oc_Cells_ofPairs ho)))]; exact vp_in_nI (by omega) (by decide)), trivial⟩ ?_
        refine sW_eq (st' := ([.int (nI h), .int (nI ((cPL X).getD i 0 &&& (cPR X).getD j 0)), .ref c], [some (.ref c), some (.int (nI ol)), some (.int (nI orr)), some (.int (nI h)), some (.int (nI i)), some (.int (nI j))], M3)) (by simp (disch := omega) only [nI_clamp, nx_and, y4, y6]) ?_
        refine sW_callV 2 [.int (nI ((cPL X).getD i 0 &&& (cPR X).getD j 0)), .int (nI h)] [] d_Cells_addPairs_75 c_Cells_addPairs_75 ⟨rfl, rfl, rfl, Nat.le_of_ble_eq_true rfl, rfl, rfl⟩ ho (k_addPair G ho hw j3 j4 y7 hh hh2) ?_
        rintro _ M4 ⟨rfl, g1, g2, Z2, g3, g4, g5, g6, g7⟩
        show sW G m_Cells_addPairs 78 ([], [some (.ref c), some (.int (nI ol)), some (.int (nI orr)), some (.int (nI h)), some (.int (nI i)), some (.int (nI j))], M4) _
        refine sW_go b_Cells_addPairs_78 (st' := ([], [some (.ref c), some (.int (nI ol)), some (.int (nI orr)), some (.int (nI h)), some (.int (nI i)), some (.int (nI j + nI 1))], M4)) (φ := True) rfl trivial ?_
        refine sW_eq (st' := ([], [some (.ref c), some (.int (nI ol)), some (.int (nI orr)), some (.int (nI h)), some (.int (nI i)), some (.int (nI (j + 1)))], M4)) (by simp (disch := omega) only [nI_add]) ?_
        refine sW_goto 31 d_Cells_addPairs_81 (by decide) ?_
        refine ihj (j + 1, M4, Z2) (by dsimp only; omega) (by dsimp only; omega) (j1.tr g1) (fun a h1 h2 => (g2 a h1 h2).trans (j2 a h1 h2)) g3 g4 (j5.tr g5) (fun u => ?_) (g7.trans j7) (by dsimp only; omega)
        dsimp only
        rw [g6 u, j6 u]
        constructor
        · rintro ((a | ⟨j', a, b, d, e⟩) | a)
          · exact Or.inl a
          · exact Or.inr ⟨j', a, by omega, d, e⟩
          · exact Or.inr ⟨j, hj, by omega, hjn, a⟩
        · rintro (a | ⟨j', a, b, d, e⟩)
          · exact Or.inl (Or.inl a)
          · rcases Nat.lt_or_ge j' j with w | w
            · exact Or.inl (Or.inr ⟨j', a, w, d, e⟩)
            · obtain rfl : j' = j := by omega
              exact Or.inr e
    · skip
      refine sW_go b_Cells_addPairs_31 (st' := ([.int (M3 (c + 14) 2), .int (nI j)], [some (.ref c), some (.int (nI ol)), some (.int (nI orr)), some (.int (nI h)), some (.int (nI i)), some (.int (nI j))], M3)) (φ := mx_ocl LAY c = 2 ∧ mx_ocl LAY (c + 8) = 7 ∧ mx_ocl LAY (c + 14) = 6 ∧ True) rfl ⟨ho, (oc_Cells_ofPairs ho), (oc_Sides_rights (oc_Cells_ofPairs ho)), trivial⟩ ?_
      refine sW_eq (st' := ([.int (nI (cPR X).length), .int (nI j)], [some (.ref c), some (.int (nI ol)), some (.int (nI orr)), some (.int (nI h)), some (.int (nI i)), some (.int (nI j))], M3)) (by simp (disch := omega) only [y1]) ?_
      refine sW_ic_ge 84 d_Cells_addPairs_43 (by decide) (fun c_43 => ?_) (fun c_43 => ?_)
      · skip
        simp (disch := omega) only [nI_leI] at c_43
        refine sW_go b_Cells_addPairs_84 (st' := ([], [some (.ref c), some (.int (nI ol)), some (.int (nI orr)), some (.int (nI h)), some (.int (nI i + nI 1)), some (.int (nI j))], M3)) (φ := True) rfl trivial ?_
        refine sW_eq (st' := ([], [some (.ref c), some (.int (nI ol)), some (.int (nI orr)), some (.int (nI h)), some (.int (nI (i + 1))), some (.int (nI j))], M3)) (by simp (disch := omega) only [nI_add]) ?_
        refine sW_goto 3 d_Cells_addPairs_87 (by decide) ?_
        refine sW_fg [false, false, false, false, false, true] ?_
        show sW G m_Cells_addPairs 3 ([], [some (.ref c), some (.int (nI ol)), some (.int (nI orr)), some (.int (nI h)), some (.int (nI (i + 1))), none], M3) _
        refine ih (i + 1, M3, Z) (by dsimp only; omega) (by dsimp only; omega) j1 j2 j3 j4 j5 (fun u => ?_) j7
        dsimp only
        rw [j6 u, or_assoc]
        refine or_congr Iff.rfl ⟨?_, ?_⟩
        · rintro (⟨i', j', a, b, d, e⟩ | ⟨j', a, b, d, e⟩)
          · exact ⟨i', j', by omega, b, d, e⟩
          · exact ⟨i, j', by omega, d, (hst j').mp a, e⟩
        · rintro ⟨i', j', a, b, d, e⟩
          rcases Nat.lt_or_ge i' i with w | w
          · exact Or.inl ⟨i', j', w, b, d, e⟩
          · obtain rfl : i' = i := by omega
            exact Or.inr ⟨j', (hst j').mpr d, by omega, b, e⟩
      · skip
        simp (disch := omega) only [nI_leI] at c_43
        exact absurd c_43 (by omega)
  refine sW_go b_Cells_addPairs_3 (st' := ([.int (M2 (c + 11) 2), .int (nI i)], [some (.ref c), some (.int (nI ol)), some (.int (nI orr)), some (.int (nI h)), some (.int (nI i)), none], M2)) (φ := mx_ocl LAY c = 2 ∧ mx_ocl LAY (c + 8) = 7 ∧ mx_ocl LAY (c + 11) = 6 ∧ True) rfl ⟨ho, (oc_Cells_ofPairs ho), (oc_Sides_lefts (oc_Cells_ofPairs ho)), trivial⟩ ?_
  refine sW_eq (st' := ([.int (nI (cPL X).length), .int (nI i)], [some (.ref c), some (.int (nI ol)), some (.int (nI orr)), some (.int (nI h)), some (.int (nI i)), none], M2)) (by simp (disch := omega) only [z1]) ?_
  refine sW_ic_ge 90 d_Cells_addPairs_15 (by decide) (fun c_15 => ?_) (fun c_15 => ?_)
  · skip
    simp (disch := omega) only [nI_leI] at c_15
    refine sW_retV d_Cells_addPairs_90 rfl ?_
    have hke : i = (cPL X).length := by omega
    subst hke
    exact hQ M2 Y i1 i2 i3 i4 i5 i6 i7
  · skip
    simp (disch := omega) only [nI_leI] at c_15
    refine sW_go b_Cells_addPairs_18 (st' := ([.int (nI ol), .int (nI i)], [some (.ref c), some (.int (nI ol)), some (.int (nI orr)), some (.int (nI h)), some (.int (nI i)), none], M2)) (φ := True) rfl trivial ?_
    refine sW_ic_ge 28 d_Cells_addPairs_21 (by decide) (fun c_21 => ?_) (fun c_21 => ?_)
    · skip
      simp (disch := omega) only [nI_leI] at c_21
      refine sW_go b_Cells_addPairs_28 (st' := ([.int (nI 0)], [some (.ref c), some (.int (nI ol)), some (.int (nI orr)), some (.int (nI h)), some (.int (nI i)), none], M2)) (φ := True) rfl trivial ?_
      refine sW_go b_Cells_addPairs_29 (st' := ([], [some (.ref c), some (.int (nI ol)), some (.int (nI orr)), some (.int (nI h)), some (.int (nI i)), some (.int (nI 0))], M2)) (φ := True) rfl trivial ?_
      exact inner 0 (by omega) (fun j => by constructor <;> intro _ <;> omega) (0, M2, Y) (Nat.zero_le _) i1 i2 i3 i4 i5 (fun u => ⟨fun q => Or.inl ((i6 u).mp q), fun q => q.elim (i6 u).mpr (fun ⟨j', _, b, _⟩ => absurd b (Nat.not_lt_zero j'))⟩) i7 (Nat.zero_le _)
    · skip
      simp (disch := omega) only [nI_leI] at c_21
      refine sW_go b_Cells_addPairs_24 (st' := ([.int (nI orr)], [some (.ref c), some (.int (nI ol)), some (.int (nI orr)), some (.int (nI h)), some (.int (nI i)), none], M2)) (φ := True) rfl trivial ?_
      refine sW_goto 29 d_Cells_addPairs_25 (by decide) ?_
      refine sW_go b_Cells_addPairs_29 (st' := ([], [some (.ref c), some (.int (nI ol)), some (.int (nI orr)), some (.int (nI h)), some (.int (nI i)), some (.int (nI orr))], M2)) (φ := True) rfl trivial ?_
      exact inner orr (by omega) (fun j => by constructor <;> intro w <;> omega) (orr, M2, Y) (Nat.le_refl _) i1 i2 i3 i4 i5 (fun u => ⟨fun q => Or.inl ((i6 u).mp q), fun q => q.elim (i6 u).mpr (fun ⟨j', a, b, _⟩ => absurd b (by dsimp only; omega))⟩) i7 (by dsimp only; omega)
end
section
/-! ===== what functions miss: unions of what their cases take ===== -/
def joinl : List Nat → Nat
  | [] => 0
  | a :: l => a ||| joinl l
theorem joinl_app (a b : List Nat) : joinl (a ++ b) = joinl a ||| joinl b := by
  induction a with
  | nil => simp [joinl]
  | cons x a ih => simp only [List.cons_append, joinl, ih, Nat.or_assoc]
def Jn (T : Nat → Prop) (v : Nat) : Prop := ∃ l : List Nat, (∀ t, t ∈ l → T t) ∧ v = joinl l
theorem Jn_0 {T : Nat → Prop} : Jn T 0 := ⟨[], fun _ h => by simp at h, rfl⟩
theorem Jn_1 {T : Nat → Prop} {t : Nat} (h : T t) : Jn T t := ⟨[t], fun x hx => by simp at hx; exact hx ▸ h, by simp [joinl]⟩
theorem Jn_or {T : Nat → Prop} {a b : Nat} (ha : Jn T a) (hb : Jn T b) : Jn T (a ||| b) := by
  obtain ⟨l, h1, h2⟩ := ha
  obtain ⟨m, h3, h4⟩ := hb
  exact ⟨l ++ m, fun t ht => (List.mem_append.mp ht).elim (h1 t) (h3 t), by rw [joinl_app, h2, h4]⟩
theorem Jn_mono {T T' : Nat → Prop} (h : ∀ t, T t → T' t) {v : Nat} (hv : Jn T v) : Jn T' v := by
  obtain ⟨l, h1, h2⟩ := hv
  exact ⟨l, fun t ht => h t (h1 t ht), h2⟩
theorem Jn_congr {T T' : Nat → Prop} (h : ∀ t, T t ↔ T' t) {v : Nat} : Jn T v ↔ Jn T' v := ⟨Jn_mono (fun t => (h t).mp), Jn_mono (fun t => (h t).mpr)⟩
theorem Jn_add {T : Nat → Prop} {t v : Nat} : (Jn T v ∨ ∃ m, Jn T m ∧ v = m ||| t) ↔ Jn (fun u => T u ∨ u = t) v := by
  constructor
  · rintro (h | ⟨m, h, rfl⟩)
    · exact Jn_mono (fun _ => Or.inl) h
    · exact Jn_or (Jn_mono (fun _ => Or.inl) h) (Jn_1 (Or.inr rfl))
  · rintro ⟨l, h1, rfl⟩
    induction l with
    | nil => exact Or.inl Jn_0
    | cons a l ih =>
      have h2 := ih (fun u hu => h1 u (List.mem_cons_of_mem _ hu))
      rcases h1 a List.mem_cons_self with ha | ha
      · rcases h2 with h3 | ⟨m, h3, h4⟩
        · exact Or.inl (Jn_or (Jn_1 ha) h3)
        · refine Or.inr ⟨a ||| m, Jn_or (Jn_1 ha) h3, ?_⟩
          show a ||| joinl l = _
          rw [h4, Nat.or_assoc]
      · subst ha
        rcases h2 with h3 | ⟨m, h3, h4⟩
        · exact Or.inr ⟨joinl l, h3, Nat.or_comm _ _⟩
        · refine Or.inr ⟨m, h3, ?_⟩
          show a ||| joinl l = _
          rw [h4, Nat.or_comm, Nat.or_assoc, Nat.or_self]
def css (X : Cx) (ol orr n : Nat) (u : Nat) : Prop := ∃ i j, i < n ∧ j < (cQR X).length ∧ (i < ol → orr ≤ j) ∧ u = andn ((cQL X).getD i 0) ((cQR X).getD j 0)
theorem k_addCasesQ (G : mx_G) {M : mx_M} {c cc h ol orr : Nat} {hs : Hs} {X : Cx} (ho : mx_ocl LAY c = 2) (hw : HsOk hs) (hM : CxM M c hs X) (hI : CxI hs cc X) (hh : 0 < h) (hh2 : h < 2 ^ 31) {T0 : Nat → Prop} (hT : ∀ u, u ∈ cMS X ↔ Jn T0 u) (hol : ol ≤ 256) (hor : orr ≤ 256) {Q : Option Value → mx_M → Prop}
    (hQ : ∀ M' Y, Fr M M' c (c + 37) → (∀ a, c + 8 ≤ a → a < c + 26 → M' a = M a) → CxM M' c hs Y → CxI hs cc Y → Ext h X Y → (∀ u, u ∈ cMS Y ↔ Jn (fun t => T0 t ∨ css X ol orr (cQL X).length t) u) → cPS Y = cPS X → Q none M') :
    sOk G m_Cells_addCases [.ref c, .int (nI ol), .int (nI orr), .int (nI h)] M Q := by
  obtain ⟨m0, m1, m2, m3, m4, m5, m6, m7, m8, m9, m10, m11, m12, m13, m14⟩ := id hM
  have hlL := m9.len
  have hlR := m10.len
  refine sOk_of ⟨by decide +kernel, by decide +kernel, Nat.le_of_ble_eq_true rfl⟩ ?_
  show sW G m_Cells_addCases 0 ([], [some (.ref c), some (.int (nI ol)), some (.int (nI orr)), some (.int (nI h)), none, none], M) _
  refine sW_go b_Cells_addCases_0 (st' := ([], [some (.ref c), some (.int (nI ol)), some (.int (nI orr)), some (.int (nI h)), some (.int (nI 0)), none], M)) (φ := True) rfl trivial ?_
  refine mx_ind (α := Nat × mx_M × Cx) (fun q => (cQL X).length - q.1) (fun q => q.1 ≤ (cQL X).length → Fr M q.2.1 c (c + 37) → (∀ a, c + 8 ≤ a → a < c + 26 → q.2.1 a = M a) → CxM q.2.1 c hs q.2.2 → CxI hs cc q.2.2 → Ext h X q.2.2 → (∀ u, u ∈ cMS q.2.2 ↔ Jn (fun t => T0 t ∨ css X ol orr q.1 t) u) → cPS q.2.2 = cPS X → sW G m_Cells_addCases 3 ([], [some (.ref c), some (.int (nI ol)), some (.int (nI orr)), some (.int (nI h)), some (.int (nI q.1)), none], q.2.1) Q) ?_ (0, M, X) (Nat.zero_le _) Fr.rf (fun _ _ _ => rfl) hM hI Ext.rf (fun u => (hT u).trans (Jn_congr (fun t => ⟨Or.inl, fun q => q.elim id (fun ⟨i, j, a, _⟩ => absurd a (Nat.not_lt_zero i))⟩))) rfl
  rintro ⟨i, M2, Y⟩ ih hk i1 i2 i3 i4 i5 i6 i7
  dsimp only at ih hk i1 i2 i3 i4 i5 i6 i7 ⊢
  have eL : cQL Y = cQL X := by show Y.2.2.1.1 = X.2.2.1.1; rw [i5.2.1]
  have z1 : M2 (c + 20) 2 = nI (cQL X).length := by rw [← eL]; exact i3.2.2.2.2.2.2.2.2.2.1.size
  have inner : ∀ start : Nat, i < (cQL X).length → (∀ j, start ≤ j ↔ (i < ol → orr ≤ j)) → ∀ q : Nat × mx_M × Cx, start ≤ q.1 → Fr M q.2.1 c (c + 37) → (∀ a, c + 8 ≤ a → a < c + 26 → q.2.1 a = M a) → CxM q.2.1 c hs q.2.2 → CxI hs cc q.2.2 → Ext h X q.2.2 → (∀ u, u ∈ cMS q.2.2 ↔ Jn (fun t => (T0 t ∨ css X ol orr i t) ∨ ∃ j, start ≤ j ∧ j < q.1 ∧ j < (cQR X).length ∧ t = andn ((cQL X).getD i 0) ((cQR X).getD j 0)) u) → cPS q.2.2 = cPS X → q.1 ≤ 256 → sW G m_Cells_addCases 31 ([], [some (.ref c), some (.int (nI ol)), some (.int (nI orr)), some (.int (nI h)), some (.int (nI i)), some (.int (nI q.1))], q.2.1) Q := by
    intro start hi hst
    refine mx_ind (α := Nat × mx_M × Cx) (fun q => (cQR X).length - q.1) (fun q => start ≤ q.1 → Fr M q.2.1 c (c + 37) → (∀ a, c + 8 ≤ a → a < c + 26 → q.2.1 a = M a) → CxM q.2.1 c hs q.2.2 → CxI hs cc q.2.2 → Ext h X q.2.2 → (∀ u, u ∈ cMS q.2.2 ↔ Jn (fun t => (T0 t ∨ css X ol orr i t) ∨ ∃ j, start ≤ j ∧ j < q.1 ∧ j < (cQR X).length ∧ t = andn ((cQL X).getD i 0) ((cQR X).getD j 0)) u) → cPS q.2.2 = cPS X → q.1 ≤ 256 → sW G m_Cells_addCases 31 ([], [some (.ref c), some (.int (nI ol)), some (.int (nI orr)), some (.int (nI h)), some (.int (nI i)), some (.int (nI q.1))], q.2.1) Q) ?_
    rintro ⟨j, M3, Z⟩ ihj hj j1 j2 j3 j4 j5 j6 j7 j8
    dsimp only at ihj hj j1 j2 j3 j4 j5 j6 j7 j8 ⊢
    have eL3 : cQL Z = cQL X := by show Z.2.2.1.1 = X.2.2.1.1; rw [j5.2.1]
    have eR3 : cQR Z = cQR X := by show Z.2.2.1.2 = X.2.2.1.2; rw [j5.2.1]
    have y1 : M3 (c + 23) 2 = nI (cQR X).length := by rw [← eR3]; exact j3.2.2.2.2.2.2.2.2.2.2.1.size
    have y2 : M3 (c + 21) i = nI ((cQL X).getD i 0) ∧ (cQL X).getD i 0 < 256 := by
      have := j3.2.2.2.2.2.2.2.2.2.1.at (i := i) (by rw [eL3]; exact hi)
      rw [eL3] at this
      exact ⟨this.1, this.2.1⟩
    have y3 : j < (cQR X).length → M3 (c + 24) j = nI ((cQR X).getD j 0) := fun w => by
      have := j3.2.2.2.2.2.2.2.2.2.2.1.at (i := j) (by rw [eR3]; exact w)
      rw [eR3] at this
      exact this.1
    obtain ⟨y4, y5⟩ := y2
    by_cases hjn : j < (cQR X).length
    · have y6 := y3 hjn
      have y7 : andn ((cQL X).getD i 0) ((cQR X).getD j 0) < 256 := Nat.lt_of_le_of_lt (andn_le _ _) y5
      have y8 := an_i ((cQL X).getD i 0) ((cQR X).getD j 0)
      refine sW_go b_Cells_addCases_31 (st' := ([.int (M3 (c + 23) 2), .int (nI j)], [some (.ref c), some (.int (nI ol)), some (.int (nI orr)), some (.int (nI h)), some (.int (nI i)), some (.int (nI j))], M3)) (φ := mx_ocl LAY c = 2 ∧ mx_ocl LAY (c + 17) = 7 ∧ mx_ocl LAY (c + 23) = 6 ∧ True) rfl ⟨ho, (oc_Cells_ofCases ho), (oc_Sides_rights (oc_Cells_ofCases ho)), trivial⟩ ?_
      refine sW_eq (st' := ([.int (nI (cQR X).length), .int (nI j)], [some (.ref c), some (.int (nI ol)), some (.int (nI orr)), some (.int (nI h)), some (.int (nI i)), some (.int (nI j))], M3)) (by simp (disch := omega) only [y1]) ?_
      refine sW_ic_ge 86 d_Cells_addCases_43 (by decide) (fun c_43 => ?_) (fun c_43 => ?_)
      · skip
        simp (disch := omega) only [nI_leI] at c_43
        refine sW_go b_Cells_addCases_86 (st' := ([], [some (.ref c), some (.int (nI ol)), some (.int (nI orr)), some (.int (nI h)), some (.int (nI i + nI 1)), some (.int (nI j))], M3)) (φ := True) rfl trivial ?_
        refine sW_eq (st' := ([], [some (.ref c), some (.int (nI ol)), some (.int (nI orr)), some (.int (nI h)), some (.int (nI (i + 1))), some (.int (nI j))], M3)) (by simp (disch := omega) only [nI_add]) ?_
        refine sW_goto 3 d_Cells_addCases_89 (by decide) ?_
        omega
      · skip
        simp (disch := omega) only [nI_leI] at c_43
        refine sW_go b_Cells_addCases_46 (st' := ([.int (nI h), .int (M3 (c + 21) (nI i).toNatClampNeg &&& (M3 (c + 24) (nI j).toNatClampNeg ^^^ (-1))), .ref c], [some (.ref c), some (.int (nI ol)), some (.int (nI orr)), some (.int (nI h)), some (.int (nI i)), some (.int (nI j))], M3)) (φ := mx_ocl LAY c = 2 ∧ mx_ocl LAY (c + 17) = 7 ∧ mx_ocl LAY (c + 20) = 6 ∧ vp_in (nI i) (mx_len LAY false (c + 21)) ∧ mx_ocl LAY c = 2 ∧ mx_ocl LAY (c + 17) = 7 ∧ mx_ocl LAY (c + 23) = 6 ∧ vp_in (nI j) (mx_len LAY false (c + 24)) ∧ True) rfl ⟨ho, (oc_Cells_ofCases ho), (oc_Sides_lefts (oc_Cells_ofCases ho)), (by simp (disch := omega) only [(ln_Sets_at (oc_Sides_lefts (oc_Cells_ofCases ho)))]; exact vp_in_nI (by omega) (by decide)), ho, (oc_Cells_ofCases ho), (oc_Sides_rights (oc_Cells_ofCases ho)), (by simp (disch := omega) only [(ln_Sets_at (oc_Sides_rights (oc_Cells_ofCases ho)))]; exact vp_in_nI (by omega) (by decide)), trivial⟩ ?_
        refine sW_eq (st' := ([.int (nI h), .int (nI (andn ((cQL X).getD i 0) ((cQR X).getD j 0))), .ref c], [some (.ref c), some (.int (nI ol)), some (.int (nI orr)), some (.int (nI h)), some (.int (nI i)), some (.int (nI j))], M3)) (by simp (disch := omega) only [nI_clamp, y4, y6, y8]) ?_
        refine sW_callV 2 [.int (nI (andn ((cQL X).getD i 0) ((cQR X).getD j 0))), .int (nI h)] [] d_Cells_addCases_77 c_Cells_addCases_77 ⟨rfl, rfl, rfl, Nat.le_of_ble_eq_true rfl, rfl, rfl⟩ ho (k_addCase G ho hw j3 j4 y7 hh hh2 (fun w m hm => (j6 _).mpr (Jn_or ((j6 m).mp hm) ((j6 _).mp w)))) ?_
        rintro _ M4 ⟨rfl, g1, g2, Z2, g3, g4, g5, g6, g7⟩
        show sW G m_Cells_addCases 80 ([], [some (.ref c), some (.int (nI ol)), some (.int (nI orr)), some (.int (nI h)), some (.int (nI i)), some (.int (nI j))], M4) _
        refine sW_go b_Cells_addCases_80 (st' := ([], [some (.ref c), some (.int (nI ol)), some (.int (nI orr)), some (.int (nI h)), some (.int (nI i)), some (.int (nI j + nI 1))], M4)) (φ := True) rfl trivial ?_
        refine sW_eq (st' := ([], [some (.ref c), some (.int (nI ol)), some (.int (nI orr)), some (.int (nI h)), some (.int (nI i)), some (.int (nI (j + 1)))], M4)) (by simp (disch := omega) only [nI_add]) ?_
        refine sW_goto 31 d_Cells_addCases_83 (by decide) ?_
        refine ihj (j + 1, M4, Z2) (by dsimp only; omega) (by dsimp only; omega) (j1.tr g1) (fun a h1 h2 => (g2 a h1 h2).trans (j2 a h1 h2)) g3 g4 (j5.tr g5) (fun u => ?_) (g7.trans j7) (by dsimp only; omega)
        dsimp only
        rw [g6 u]
        have q1 : (u ∈ cMS Z ∨ ∃ m, m ∈ cMS Z ∧ u = m ||| andn ((cQL X).getD i 0) ((cQR X).getD j 0)) ↔ (Jn (fun t => (T0 t ∨ css X ol orr i t) ∨ ∃ j', start ≤ j' ∧ j' < j ∧ j' < (cQR X).length ∧ t = andn ((cQL X).getD i 0) ((cQR X).getD j' 0)) u ∨ ∃ m, Jn (fun t => (T0 t ∨ css X ol orr i t) ∨ ∃ j', start ≤ j' ∧ j' < j ∧ j' < (cQR X).length ∧ t = andn ((cQL X).getD i 0) ((cQR X).getD j' 0)) m ∧ u = m ||| andn ((cQL X).getD i 0) ((cQR X).getD j 0)) :=
          or_congr (j6 u) ⟨fun ⟨m, a, b⟩ => ⟨m, (j6 m).mp a, b⟩, fun ⟨m, a, b⟩ => ⟨m, (j6 m).mpr a, b⟩⟩
        rw [q1, Jn_add]
        refine Jn_congr (fun t => ?_)
        constructor
        · rintro ((a | ⟨j', a, b, d, e⟩) | a)
          · exact Or.inl a
          · exact Or.inr ⟨j', a, by omega, d, e⟩
          · exact Or.inr ⟨j, hj, by omega, hjn, a⟩
        · rintro (a | ⟨j', a, b, d, e⟩)
          · exact Or.inl (Or.inl a)
          · rcases Nat.lt_or_ge j' j with w | w
            · exact Or.inl (Or.inr ⟨j', a, w, d, e⟩)
            · obtain rfl : j' = j := by omega
              exact Or.inr e
    · skip
      refine sW_go b_Cells_addCases_31 (st' := ([.int (M3 (c + 23) 2), .int (nI j)], [some (.ref c), some (.int (nI ol)), some (.int (nI orr)), some (.int (nI h)), some (.int (nI i)), some (.int (nI j))], M3)) (φ := mx_ocl LAY c = 2 ∧ mx_ocl LAY (c + 17) = 7 ∧ mx_ocl LAY (c + 23) = 6 ∧ True) rfl ⟨ho, (oc_Cells_ofCases ho), (oc_Sides_rights (oc_Cells_ofCases ho)), trivial⟩ ?_
      refine sW_eq (st' := ([.int (nI (cQR X).length), .int (nI j)], [some (.ref c), some (.int (nI ol)), some (.int (nI orr)), some (.int (nI h)), some (.int (nI i)), some (.int (nI j))], M3)) (by simp (disch := omega) only [y1]) ?_
      refine sW_ic_ge 86 d_Cells_addCases_43 (by decide) (fun c_43 => ?_) (fun c_43 => ?_)
      · skip
        simp (disch := omega) only [nI_leI] at c_43
        refine sW_go b_Cells_addCases_86 (st' := ([], [some (.ref c), some (.int (nI ol)), some (.int (nI orr)), some (.int (nI h)), some (.int (nI i + nI 1)), some (.int (nI j))], M3)) (φ := True) rfl trivial ?_
        refine sW_eq (st' := ([], [some (.ref c), some (.int (nI ol)), some (.int (nI orr)), some (.int (nI h)), some (.int (nI (i + 1))), some (.int (nI j))], M3)) (by simp (disch := omega) only [nI_add]) ?_
        refine sW_goto 3 d_Cells_addCases_89 (by decide) ?_
        refine sW_fg [false, false, false, false, false, true] ?_
        show sW G m_Cells_addCases 3 ([], [some (.ref c), some (.int (nI ol)), some (.int (nI orr)), some (.int (nI h)), some (.int (nI (i + 1))), none], M3) _
        refine ih (i + 1, M3, Z) (by dsimp only; omega) (by dsimp only; omega) j1 j2 j3 j4 j5 (fun u => ?_) j7
        dsimp only
        rw [j6 u]
        refine Jn_congr (fun t => ?_)
        rw [or_assoc]
        refine or_congr Iff.rfl ⟨?_, ?_⟩
        · rintro (⟨i', j', a, b, d, e⟩ | ⟨j', a, b, d, e⟩)
          · exact ⟨i', j', by omega, b, d, e⟩
          · exact ⟨i, j', by omega, d, (hst j').mp a, e⟩
        · rintro ⟨i', j', a, b, d, e⟩
          rcases Nat.lt_or_ge i' i with w | w
          · exact Or.inl ⟨i', j', w, b, d, e⟩
          · obtain rfl : i' = i := by omega
            exact Or.inr ⟨j', (hst j').mpr d, by omega, b, e⟩
      · skip
        simp (disch := omega) only [nI_leI] at c_43
        exact absurd c_43 (by omega)
  refine sW_go b_Cells_addCases_3 (st' := ([.int (M2 (c + 20) 2), .int (nI i)], [some (.ref c), some (.int (nI ol)), some (.int (nI orr)), some (.int (nI h)), some (.int (nI i)), none], M2)) (φ := mx_ocl LAY c = 2 ∧ mx_ocl LAY (c + 17) = 7 ∧ mx_ocl LAY (c + 20) = 6 ∧ True) rfl ⟨ho, (oc_Cells_ofCases ho), (oc_Sides_lefts (oc_Cells_ofCases ho)), trivial⟩ ?_
  refine sW_eq (st' := ([.int (nI (cQL X).length), .int (nI i)], [some (.ref c), some (.int (nI ol)), some (.int (nI orr)), some (.int (nI h)), some (.int (nI i)), none], M2)) (by simp (disch := omega) only [z1]) ?_
  refine sW_ic_ge 92 d_Cells_addCases_15 (by decide) (fun c_15 => ?_) (fun c_15 => ?_)
  · skip
    simp (disch := omega) only [nI_leI] at c_15
    refine sW_retV d_Cells_addCases_92 rfl ?_
    have hke : i = (cQL X).length := by omega
    subst hke
    exact hQ M2 Y i1 i2 i3 i4 i5 i6 i7
  · skip
    simp (disch := omega) only [nI_leI] at c_15
    refine sW_go b_Cells_addCases_18 (st' := ([.int (nI ol), .int (nI i)], [some (.ref c), some (.int (nI ol)), some (.int (nI orr)), some (.int (nI h)), some (.int (nI i)), none], M2)) (φ := True) rfl trivial ?_
    refine sW_ic_ge 28 d_Cells_addCases_21 (by decide) (fun c_21 => ?_) (fun c_21 => ?_)
    · skip
      simp (disch := omega) only [nI_leI] at c_21
      refine sW_go b_Cells_addCases_28 (st' := ([.int (nI 0)], [some (.ref c), some (.int (nI ol)), some (.int (nI orr)), some (.int (nI h)), some (.int (nI i)), none], M2)) (φ := True) rfl trivial ?_
      refine sW_go b_Cells_addCases_29 (st' := ([], [some (.ref c), some (.int (nI ol)), some (.int (nI orr)), some (.int (nI h)), some (.int (nI i)), some (.int (nI 0))], M2)) (φ := True) rfl trivial ?_
      exact inner 0 (by omega) (fun j => by constructor <;> intro _ <;> omega) (0, M2, Y) (Nat.zero_le _) i1 i2 i3 i4 i5 (fun u => (i6 u).trans (Jn_congr (fun t => ⟨Or.inl, fun q => q.elim id (fun ⟨j', _, b, _⟩ => absurd b (Nat.not_lt_zero j'))⟩))) i7 (Nat.zero_le _)
    · skip
      simp (disch := omega) only [nI_leI] at c_21
      refine sW_go b_Cells_addCases_24 (st' := ([.int (nI orr)], [some (.ref c), some (.int (nI ol)), some (.int (nI orr)), some (.int (nI h)), some (.int (nI i)), none], M2)) (φ := True) rfl trivial ?_
      refine sW_goto 29 d_Cells_addCases_25 (by decide) ?_
      refine sW_go b_Cells_addCases_29 (st' := ([], [some (.ref c), some (.int (nI ol)), some (.int (nI orr)), some (.int (nI h)), some (.int (nI i)), some (.int (nI orr))], M2)) (φ := True) rfl trivial ?_
      exact inner orr (by omega) (fun j => by constructor <;> intro w <;> omega) (orr, M2, Y) (Nat.le_refl _) i1 i2 i3 i4 i5 (fun u => (i6 u).trans (Jn_congr (fun t => ⟨Or.inl, fun q => q.elim id (fun ⟨j', a, b, _⟩ => absurd b (by dsimp only; omega))⟩))) i7 (by dsimp only; omega)
end
