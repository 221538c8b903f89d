theorem b_Mo_anew_0 : mx_ck m_Mo_anew 0 [(.aload_n 0, [], 0), (.iconst 0, [], nI 0), (.putfield 68, [10, 0, 0, 940], 0), (.aload_n 0, [], 0), (.iload_n 1, [], 0)] = some 7 := by decide +kernel
theorem b_Mo_anew_13 : mx_ck m_Mo_anew 13 [(.iload_n 2, [], 0), (.i2l, [], 0), (.lconst 0, [0], 0), (.ldc2_w 224, [5, 1143], 0)] = some 19 := by decide +kernel
theorem b_Mo_anew_25 : mx_ck m_Mo_anew 25 [(.aload_n 0, [], 0), (.getfield 19, [10, 5, 5, 945], 0), (.iconst 0, [], nI 0), (.iaload, [], 0), (.iload_n 1, [], 0), (.iload_n 2, [], 0), (.iload_n 3, [], 0), (.iload 4, [], 0)] = some 36 := by decide +kernel
theorem b_Mo_anew_42 : mx_ck m_Mo_anew 42 [(.ldc 88, [1050], (-1000001))] = some 44 := by decide +kernel
theorem b_Mo_anew_45 : mx_ck m_Mo_anew 45 [(.aload_n 0, [], 0)] = some 46 := by decide +kernel
theorem b_Mo_anew_49 : mx_ck m_Mo_anew 49 [(.iconst 2, [], nI 2), (.iconst 3, [], nI 3), (.iload_n 1, [], 0), (.imul, [], 0), (.iadd, [], 0), (.istore 5, [], 0), (.aload_n 0, [], 0), (.getfield 19, [10, 5, 5, 945], 0), (.iload 5, [], 0), (.iaload, [], 0), (.istore 6, [], 0), (.aload_n 0, [], 0), (.getfield 19, [10, 5, 5, 945], 0), (.iload 5, [], 0), (.iload_n 2, [], 0), (.iastore, [], 0), (.aload_n 0, [], 0), (.getfield 19, [10, 5, 5, 945], 0), (.iload 5, [], 0), (.iconst 1, [], nI 1), (.iadd, [], 0), (.iload_n 3, [], 0), (.iastore, [], 0), (.aload_n 0, [], 0), (.getfield 19, [10, 5, 5, 945], 0), (.iload 5, [], 0), (.iconst 2, [], nI 2), (.iadd, [], 0), (.iload 4, [], 0), (.iastore, [], 0), (.iload 6, [], 0)] = some 96 := by decide +kernel
theorem d_Mo_anew_7 : decode m_Mo_anew.2.1 7 = .ok (.invokevirtual 221, 3) := by decide +kernel
theorem c_Mo_anew_7 : mx_cv m_Mo_anew m_Mo_isType 221 1 [1139, 1141, 50, 90, 1142] = true := by decide +kernel
theorem d_Mo_anew_10 : decode m_Mo_anew.2.1 10 = .ok (.ifCond .eq 32, 3) := by decide +kernel
theorem d_Mo_anew_19 : decode m_Mo_anew.2.1 19 = .ok (.invokestatic 78, 3) := by decide +kernel
theorem c_Mo_anew_19 : mx_cs m_Mo_anew m_Mo_in 78 3 [1046, 1047, 90, 1048] = true := by decide +kernel
theorem d_Mo_anew_22 : decode m_Mo_anew.2.1 22 = .ok (.ifCond .eq 20, 3) := by decide +kernel
theorem d_Mo_anew_36 : decode m_Mo_anew.2.1 36 = .ok (.invokestatic 226, 3) := by decide +kernel
theorem c_Mo_anew_36 : mx_cs m_Mo_anew m_Mo_may 226 5 [1144, 1145, 90, 1146] = true := by decide +kernel
theorem d_Mo_anew_39 : decode m_Mo_anew.2.1 39 = .ok (.ifCond .ne 6, 3) := by decide +kernel
theorem d_Mo_anew_44 : decode m_Mo_anew.2.1 44 = .ok (.ireturn, 1) := by decide +kernel
theorem d_Mo_anew_46 : decode m_Mo_anew.2.1 46 = .ok (.invokevirtual 230, 3) := by decide +kernel
theorem c_Mo_anew_46 : mx_cv m_Mo_anew m_Mo_keep 230 0 [1147, 1149, 51, 90, 1150] = true := by decide +kernel
theorem d_Mo_anew_96 : decode m_Mo_anew.2.1 96 = .ok (.ireturn, 1) := by decide +kernel
theorem b_Mo_answers_0 : mx_ck m_Mo_answers 0 [(.aload_n 0, [], 0), (.iconst 0, [], nI 0), (.putfield 68, [10, 0, 0, 940], 0), (.aload_n 0, [], 0), (.iload_n 1, [], 0)] = some 7 := by decide +kernel
theorem b_Mo_answers_13 : mx_ck m_Mo_answers 13 [(.aload_n 0, [], 0), (.iload_n 2, [], 0)] = some 15 := by decide +kernel
theorem b_Mo_answers_21 : mx_ck m_Mo_answers 21 [(.ldc 88, [1050], (-1000001))] = some 23 := by decide +kernel
theorem b_Mo_answers_24 : mx_ck m_Mo_answers 24 [(.aload_n 0, [], 0), (.aload_n 0, [], 0), (.getfield 19, [10, 5, 5, 945], 0)] = some 29 := by decide +kernel
theorem b_Mo_answers_32 : mx_ck m_Mo_answers 32 [(.aload_n 0, [], 0), (.iload_n 1, [], 0)] = some 34 := by decide +kernel
theorem b_Mo_answers_40 : mx_ck m_Mo_answers 40 [(.aload_n 0, [], 0)] = some 41 := by decide +kernel
theorem b_Mo_answers_45 : mx_ck m_Mo_answers 45 [(.iconst 0, [], nI 0), (.istore_n 3, [], 0), (.iconst 0, [], nI 0), (.istore 4, [], 0)] = some 50 := by decide +kernel
theorem b_Mo_answers_50 : mx_ck m_Mo_answers 50 [(.iload 4, [], 0), (.aload_n 0, [], 0), (.getfield 19, [10, 5, 5, 945], 0), (.iconst 0, [], nI 0), (.iaload, [], 0)] = some 58 := by decide +kernel
theorem b_Mo_answers_61 : mx_ck m_Mo_answers 61 [(.aload_n 0, [], 0), (.iload_n 1, [], 0)] = some 63 := by decide +kernel
theorem b_Mo_answers_66 : mx_ck m_Mo_answers 66 [(.iconst 4, [], nI 4)] = some 67 := by decide +kernel
theorem b_Mo_answers_70 : mx_ck m_Mo_answers 70 [(.aload_n 0, [], 0), (.aload_n 0, [], 0), (.getfield 19, [10, 5, 5, 945], 0), (.iload_n 2, [], 0), (.iload 4, [], 0)] = some 78 := by decide +kernel
theorem b_Mo_answers_81 : mx_ck m_Mo_answers 81 [(.iload_n 3, [], 0), (.aload_n 0, [], 0), (.iload_n 1, [], 0)] = some 84 := by decide +kernel
theorem b_Mo_answers_90 : mx_ck m_Mo_answers 90 [(.iconst 0, [], nI 0)] = some 91 := by decide +kernel
theorem b_Mo_answers_94 : mx_ck m_Mo_answers 94 [(.iconst 1, [], nI 1), (.iload 4, [], 0), (.ishl, [], 0)] = some 98 := by decide +kernel
theorem b_Mo_answers_98 : mx_ck m_Mo_answers 98 [(.ior, [], 0), (.istore_n 3, [], 0), (.iinc 4 1, [], nI 1)] = some 103 := by decide +kernel
theorem b_Mo_answers_106 : mx_ck m_Mo_answers 106 [(.iload_n 3, [], 0)] = some 107 := by decide +kernel
theorem d_Mo_answers_7 : decode m_Mo_answers.2.1 7 = .ok (.invokevirtual 221, 3) := by decide +kernel
theorem c_Mo_answers_7 : mx_cv m_Mo_answers m_Mo_isType 221 1 [1139, 1141, 50, 90, 1142] = true := by decide +kernel
theorem d_Mo_answers_10 : decode m_Mo_answers.2.1 10 = .ok (.ifCond .eq 11, 3) := by decide +kernel
theorem d_Mo_answers_15 : decode m_Mo_answers.2.1 15 = .ok (.invokevirtual 221, 3) := by decide +kernel
theorem c_Mo_answers_15 : mx_cv m_Mo_answers m_Mo_isType 221 1 [1139, 1141, 50, 90, 1142] = true := by decide +kernel
theorem d_Mo_answers_18 : decode m_Mo_answers.2.1 18 = .ok (.ifCond .ne 6, 3) := by decide +kernel
theorem d_Mo_answers_23 : decode m_Mo_answers.2.1 23 = .ok (.ireturn, 1) := by decide +kernel
theorem d_Mo_answers_29 : decode m_Mo_answers.2.1 29 = .ok (.invokevirtual 240, 3) := by decide +kernel
theorem c_Mo_answers_29 : mx_cv m_Mo_answers m_Mo_reckon 240 1 [1175, 1177, 54, 90, 1178] = true := by decide +kernel
theorem d_Mo_answers_34 : decode m_Mo_answers.2.1 34 = .ok (.invokevirtual 250, 3) := by decide +kernel
theorem c_Mo_answers_34 : mx_cv m_Mo_answers m_Mo_isEmpty 250 1 [1241, 1243, 63, 90, 1244] = true := by decide +kernel
theorem d_Mo_answers_37 : decode m_Mo_answers.2.1 37 = .ok (.ifCond .eq 8, 3) := by decide +kernel
theorem d_Mo_answers_41 : decode m_Mo_answers.2.1 41 = .ok (.invokevirtual 257, 3) := by decide +kernel
theorem c_Mo_answers_41 : mx_cv m_Mo_answers m_Mo_everyType 257 0 [1257, 1259, 65, 90, 1260] = true := by decide +kernel
theorem d_Mo_answers_44 : decode m_Mo_answers.2.1 44 = .ok (.ireturn, 1) := by decide +kernel
theorem d_Mo_answers_58 : decode m_Mo_answers.2.1 58 = .ok (.if_icmp .ge 48, 3) := by decide +kernel
theorem d_Mo_answers_63 : decode m_Mo_answers.2.1 63 = .ok (.invokevirtual 218, 3) := by decide +kernel
theorem c_Mo_answers_63 : mx_cv m_Mo_answers m_Mo_sortsOf 218 1 [1245, 1247, 64, 90, 1248] = true := by decide +kernel
theorem d_Mo_answers_67 : decode m_Mo_answers.2.1 67 = .ok (.if_icmp .ne 39, 3) := by decide +kernel
theorem d_Mo_answers_78 : decode m_Mo_answers.2.1 78 = .ok (.invokevirtual 261, 3) := by decide +kernel
theorem c_Mo_answers_78 : mx_cv m_Mo_answers m_Mo_layCases 261 3 [1261, 1263, 66, 90, 1264] = true := by decide +kernel
theorem d_Mo_answers_84 : decode m_Mo_answers.2.1 84 = .ok (.invokevirtual 264, 3) := by decide +kernel
theorem c_Mo_answers_84 : mx_cv m_Mo_answers m_Mo_isMarked 264 1 [1265, 1267, 67, 90, 1268] = true := by decide +kernel
theorem d_Mo_answers_87 : decode m_Mo_answers.2.1 87 = .ok (.ifCond .eq 7, 3) := by decide +kernel
theorem d_Mo_answers_91 : decode m_Mo_answers.2.1 91 = .ok (.goto 7, 3) := by decide +kernel
theorem d_Mo_answers_103 : decode m_Mo_answers.2.1 103 = .ok (.goto (-53), 3) := by decide +kernel
theorem d_Mo_answers_107 : decode m_Mo_answers.2.1 107 = .ok (.ireturn, 1) := by decide +kernel
theorem b_Mo_areApart_0 : mx_ck m_Mo_areApart 0 [(.iconst 0, [], nI 0), (.istore_n 3, [], 0)] = some 2 := by decide +kernel
theorem b_Mo_areApart_2 : mx_ck m_Mo_areApart 2 [(.iload_n 3, [], 0), (.aload_n 0, [], 0), (.getfield 185, [10, 22, 0, 962], 0)] = some 7 := by decide +kernel
theorem b_Mo_areApart_10 : mx_ck m_Mo_areApart 10 [(.aload_n 0, [], 0), (.getfield 40, [10, 21, 12, 961], 0), (.iload_n 3, [], 0), (.iaload, [], 0), (.iload_n 1, [], 0)] = some 17 := by decide +kernel
theorem b_Mo_areApart_23 : mx_ck m_Mo_areApart 23 [(.aload_n 0, [], 0), (.getfield 40, [10, 21, 12, 961], 0), (.iload_n 3, [], 0), (.iaload, [], 0), (.iload_n 2, [], 0)] = some 30 := by decide +kernel
theorem b_Mo_areApart_36 : mx_ck m_Mo_areApart 36 [(.iconst 0, [], nI 0)] = some 37 := by decide +kernel
theorem b_Mo_areApart_38 : mx_ck m_Mo_areApart 38 [(.iinc 3 1, [], nI 1)] = some 41 := by decide +kernel
theorem b_Mo_areApart_44 : mx_ck m_Mo_areApart 44 [(.iconst 1, [], nI 1)] = some 45 := by decide +kernel
theorem d_Mo_areApart_7 : decode m_Mo_areApart.2.1 7 = .ok (.if_icmp .ge 37, 3) := by decide +kernel
theorem d_Mo_areApart_17 : decode m_Mo_areApart.2.1 17 = .ok (.invokestatic 177, 3) := by decide +kernel
theorem c_Mo_areApart_17 : mx_cs m_Mo_areApart m_Mo_has 177 2 [1189, 1190, 90, 1191] = true := by decide +kernel
theorem d_Mo_areApart_20 : decode m_Mo_areApart.2.1 20 = .ok (.ifCond .eq 18, 3) := by decide +kernel
theorem d_Mo_areApart_30 : decode m_Mo_areApart.2.1 30 = .ok (.invokestatic 177, 3) := by decide +kernel
theorem c_Mo_areApart_30 : mx_cs m_Mo_areApart m_Mo_has 177 2 [1189, 1190, 90, 1191] = true := by decide +kernel
theorem d_Mo_areApart_33 : decode m_Mo_areApart.2.1 33 = .ok (.ifCond .eq 5, 3) := by decide +kernel
theorem d_Mo_areApart_37 : decode m_Mo_areApart.2.1 37 = .ok (.ireturn, 1) := by decide +kernel
theorem d_Mo_areApart_41 : decode m_Mo_areApart.2.1 41 = .ok (.goto (-39), 3) := by decide +kernel
theorem d_Mo_areApart_45 : decode m_Mo_areApart.2.1 45 = .ok (.ireturn, 1) := by decide +kernel
theorem b_Mo_areNamed_0 : mx_ck m_Mo_areNamed 0 [(.iconst 0, [], nI 0), (.istore_n 1, [], 0)] = some 2 := by decide +kernel
theorem b_Mo_areNamed_2 : mx_ck m_Mo_areNamed 2 [(.iload_n 1, [], 0), (.aload_n 0, [], 0), (.getfield 22, [10, 6, 6, 946], 0), (.iconst 0, [], nI 0), (.iaload, [], 0)] = some 9 := by decide +kernel
theorem b_Mo_areNamed_12 : mx_ck m_Mo_areNamed 12 [(.iconst 2, [], nI 2), (.iconst 3, [], nI 3), (.iload_n 1, [], 0), (.imul, [], 0), (.iadd, [], 0), (.istore_n 2, [], 0), (.aload_n 0, [], 0), (.getfield 22, [10, 6, 6, 946], 0), (.iload_n 2, [], 0), (.iaload, [], 0), (.iconst 1, [], nI 1)] = some 25 := by decide +kernel
theorem b_Mo_areNamed_28 : mx_ck m_Mo_areNamed 28 [(.aload_n 0, [], 0), (.getfield 22, [10, 6, 6, 946], 0), (.iload_n 2, [], 0), (.iaload, [], 0), (.iconst 2, [], nI 2)] = some 35 := by decide +kernel
theorem b_Mo_areNamed_38 : mx_ck m_Mo_areNamed 38 [(.iconst 1, [], nI 1)] = some 39 := by decide +kernel
theorem b_Mo_areNamed_42 : mx_ck m_Mo_areNamed 42 [(.iconst 0, [], nI 0)] = some 43 := by decide +kernel
theorem b_Mo_areNamed_43 : mx_ck m_Mo_areNamed 43 [(.istore_n 3, [], 0), (.iload_n 3, [], 0)] = some 45 := by decide +kernel
theorem b_Mo_areNamed_48 : mx_ck m_Mo_areNamed 48 [(.aload_n 0, [], 0), (.getfield 22, [10, 6, 6, 946], 0), (.iload_n 2, [], 0), (.iconst 1, [], nI 1), (.iadd, [], 0), (.iaload, [], 0), (.aload_n 0, [], 0), (.getfield 22, [10, 6, 6, 946], 0), (.iconst 0, [], nI 0), (.iaload, [], 0)] = some 62 := by decide +kernel
theorem b_Mo_areNamed_65 : mx_ck m_Mo_areNamed 65 [(.aload_n 0, [], 0), (.getfield 22, [10, 6, 6, 946], 0), (.iload_n 2, [], 0), (.iconst 2, [], nI 2), (.iadd, [], 0), (.iaload, [], 0), (.aload_n 0, [], 0), (.getfield 22, [10, 6, 6, 946], 0), (.iconst 0, [], nI 0), (.iaload, [], 0)] = some 79 := by decide +kernel
theorem b_Mo_areNamed_82 : mx_ck m_Mo_areNamed 82 [(.iconst 0, [], nI 0)] = some 83 := by decide +kernel
theorem b_Mo_areNamed_84 : mx_ck m_Mo_areNamed 84 [(.iinc 1 1, [], nI 1)] = some 87 := by decide +kernel
theorem b_Mo_areNamed_90 : mx_ck m_Mo_areNamed 90 [(.iconst 1, [], nI 1)] = some 91 := by decide +kernel
theorem d_Mo_areNamed_9 : decode m_Mo_areNamed.2.1 9 = .ok (.if_icmp .ge 81, 3) := by decide +kernel
theorem d_Mo_areNamed_25 : decode m_Mo_areNamed.2.1 25 = .ok (.if_icmp .eq 13, 3) := by decide +kernel
theorem d_Mo_areNamed_35 : decode m_Mo_areNamed.2.1 35 = .ok (.if_icmp .ne 7, 3) := by decide +kernel
theorem d_Mo_areNamed_39 : decode m_Mo_areNamed.2.1 39 = .ok (.goto 4, 3) := by decide +kernel
theorem d_Mo_areNamed_45 : decode m_Mo_areNamed.2.1 45 = .ok (.ifCond .eq 39, 3) := by decide +kernel
theorem d_Mo_areNamed_62 : decode m_Mo_areNamed.2.1 62 = .ok (.if_icmp .ge 20, 3) := by decide +kernel
theorem d_Mo_areNamed_79 : decode m_Mo_areNamed.2.1 79 = .ok (.if_icmp .lt 5, 3) := by decide +kernel
theorem d_Mo_areNamed_83 : decode m_Mo_areNamed.2.1 83 = .ok (.ireturn, 1) := by decide +kernel
theorem d_Mo_areNamed_87 : decode m_Mo_areNamed.2.1 87 = .ok (.goto (-85), 3) := by decide +kernel
theorem d_Mo_areNamed_91 : decode m_Mo_areNamed.2.1 91 = .ok (.ireturn, 1) := by decide +kernel
theorem b_Mo_as_0 : mx_ck m_Mo_as 0 [(.aload_n 0, [], 0), (.iconst 0, [], nI 0), (.putfield 68, [10, 0, 0, 940], 0), (.aload_n 0, [], 0), (.iload_n 1, [], 0)] = some 7 := by decide +kernel
theorem b_Mo_as_13 : mx_ck m_Mo_as 13 [(.iload_n 2, [], 0), (.i2l, [], 0), (.lconst 0, [0], 0), (.ldc2_w 224, [5, 1143], 0)] = some 19 := by decide +kernel
theorem b_Mo_as_25 : mx_ck m_Mo_as 25 [(.ldc 88, [1050], (-1000001))] = some 27 := by decide +kernel
theorem b_Mo_as_28 : mx_ck m_Mo_as 28 [(.aload_n 0, [], 0), (.iconst 0, [], nI 0), (.putfield 72, [10, 1, 0, 941], 0), (.aload_n 0, [], 0), (.iload_n 1, [], 0)] = some 35 := by decide +kernel
theorem b_Mo_as_38 : mx_ck m_Mo_as 38 [(.iload_n 2, [], 0)] = some 39 := by decide +kernel
theorem b_Mo_as_45 : mx_ck m_Mo_as 45 [(.iload_n 1, [], 0)] = some 46 := by decide +kernel
theorem b_Mo_as_49 : mx_ck m_Mo_as 49 [(.aload_n 0, [], 0), (.iconst 3, [], nI 3)] = some 51 := by decide +kernel
theorem d_Mo_as_7 : decode m_Mo_as.2.1 7 = .ok (.invokevirtual 221, 3) := by decide +kernel
theorem c_Mo_as_7 : mx_cv m_Mo_as m_Mo_isType 221 1 [1139, 1141, 50, 90, 1142] = true := by decide +kernel
theorem d_Mo_as_10 : decode m_Mo_as.2.1 10 = .ok (.ifCond .eq 15, 3) := by decide +kernel
theorem d_Mo_as_19 : decode m_Mo_as.2.1 19 = .ok (.invokestatic 78, 3) := by decide +kernel
theorem c_Mo_as_19 : mx_cs m_Mo_as m_Mo_in 78 3 [1046, 1047, 90, 1048] = true := by decide +kernel
theorem d_Mo_as_22 : decode m_Mo_as.2.1 22 = .ok (.ifCond .ne 6, 3) := by decide +kernel
theorem d_Mo_as_27 : decode m_Mo_as.2.1 27 = .ok (.ireturn, 1) := by decide +kernel
theorem d_Mo_as_35 : decode m_Mo_as.2.1 35 = .ok (.invokevirtual 301, 3) := by decide +kernel
theorem c_Mo_as_35 : mx_cv m_Mo_as m_Mo_kindOf 301 1 [1333, 1335, 72, 90, 1336] = true := by decide +kernel
theorem d_Mo_as_39 : decode m_Mo_as.2.1 39 = .ok (.invokestatic 304, 3) := by decide +kernel
theorem c_Mo_as_39 : mx_cs m_Mo_as m_Mo_isOf 304 2 [1341, 1342, 90, 1343] = true := by decide +kernel
theorem d_Mo_as_42 : decode m_Mo_as.2.1 42 = .ok (.ifCond .eq 7, 3) := by decide +kernel
theorem d_Mo_as_46 : decode m_Mo_as.2.1 46 = .ok (.goto 8, 3) := by decide +kernel
theorem d_Mo_as_51 : decode m_Mo_as.2.1 51 = .ok (.invokevirtual 89, 3) := by decide +kernel
theorem c_Mo_as_51 : mx_cv m_Mo_as m_Mo_finding 89 1 [1051, 1053, 38, 90, 1054] = true := by decide +kernel
theorem d_Mo_as_54 : decode m_Mo_as.2.1 54 = .ok (.ireturn, 1) := by decide +kernel
theorem b_Mo_ask_0 : mx_ck m_Mo_ask 0 [(.aload_n 0, [], 0), (.iconst 0, [], nI 0), (.putfield 68, [10, 0, 0, 940], 0), (.aload_n 0, [], 0), (.iload_n 1, [], 0)] = some 7 := by decide +kernel
theorem b_Mo_ask_13 : mx_ck m_Mo_ask 13 [(.iload_n 2, [], 0), (.i2l, [], 0), (.lconst 0, [0], 0), (.lconst 1, [1], 0)] = some 17 := by decide +kernel
theorem b_Mo_ask_23 : mx_ck m_Mo_ask 23 [(.ldc 88, [1050], (-1000001))] = some 25 := by decide +kernel
theorem b_Mo_ask_26 : mx_ck m_Mo_ask 26 [(.aload_n 0, [], 0), (.iconst 0, [], nI 0), (.putfield 307, [10, 31, 0, 971], 0), (.iload_n 2, [], 0)] = some 32 := by decide +kernel
theorem b_Mo_ask_35 : mx_ck m_Mo_ask 35 [(.aload_n 0, [], 0), (.iload_n 1, [], 0)] = some 37 := by decide +kernel
theorem b_Mo_ask_43 : mx_ck m_Mo_ask 43 [(.aload_n 0, [], 0), (.iload_n 1, [], 0)] = some 45 := by decide +kernel
theorem d_Mo_ask_7 : decode m_Mo_ask.2.1 7 = .ok (.invokevirtual 221, 3) := by decide +kernel
theorem c_Mo_ask_7 : mx_cv m_Mo_ask m_Mo_isType 221 1 [1139, 1141, 50, 90, 1142] = true := by decide +kernel
theorem d_Mo_ask_10 : decode m_Mo_ask.2.1 10 = .ok (.ifCond .eq 13, 3) := by decide +kernel
theorem d_Mo_ask_17 : decode m_Mo_ask.2.1 17 = .ok (.invokestatic 78, 3) := by decide +kernel
theorem c_Mo_ask_17 : mx_cs m_Mo_ask m_Mo_in 78 3 [1046, 1047, 90, 1048] = true := by decide +kernel
theorem d_Mo_ask_20 : decode m_Mo_ask.2.1 20 = .ok (.ifCond .ne 6, 3) := by decide +kernel
theorem d_Mo_ask_25 : decode m_Mo_ask.2.1 25 = .ok (.ireturn, 1) := by decide +kernel
theorem d_Mo_ask_32 : decode m_Mo_ask.2.1 32 = .ok (.ifCond .ne 11, 3) := by decide +kernel
theorem d_Mo_ask_37 : decode m_Mo_ask.2.1 37 = .ok (.invokevirtual 322, 3) := by decide +kernel
theorem c_Mo_ask_37 : mx_cv m_Mo_ask m_Mo_sizeOf 322 1 [1348, 1350, 73, 90, 1351] = true := by decide +kernel
theorem d_Mo_ask_40 : decode m_Mo_ask.2.1 40 = .ok (.goto 8, 3) := by decide +kernel
theorem d_Mo_ask_45 : decode m_Mo_ask.2.1 45 = .ok (.invokevirtual 319, 3) := by decide +kernel
theorem c_Mo_ask_45 : mx_cv m_Mo_ask m_Mo_markOf 319 1 [1364, 1366, 77, 90, 1367] = true := by decide +kernel
theorem d_Mo_ask_48 : decode m_Mo_ask.2.1 48 = .ok (.ireturn, 1) := by decide +kernel
theorem b_Mo_askable_0 : mx_ck m_Mo_askable 0 [(.aload_n 0, [], 0), (.iconst 0, [], nI 0), (.putfield 68, [10, 0, 0, 940], 0), (.aload_n 0, [], 0), (.iload_n 1, [], 0)] = some 7 := by decide +kernel
theorem b_Mo_askable_13 : mx_ck m_Mo_askable 13 [(.ldc 88, [1050], (-1000001))] = some 15 := by decide +kernel
theorem b_Mo_askable_16 : mx_ck m_Mo_askable 16 [(.aload_n 0, [], 0), (.aload_n 0, [], 0), (.getfield 19, [10, 5, 5, 945], 0)] = some 21 := by decide +kernel
theorem b_Mo_askable_24 : mx_ck m_Mo_askable 24 [(.aload_n 0, [], 0), (.iload_n 1, [], 0)] = some 26 := by decide +kernel
theorem b_Mo_askable_32 : mx_ck m_Mo_askable 32 [(.aload_n 0, [], 0)] = some 33 := by decide +kernel
theorem b_Mo_askable_37 : mx_ck m_Mo_askable 37 [(.iconst 0, [], nI 0), (.istore_n 2, [], 0), (.iconst 0, [], nI 0), (.istore_n 3, [], 0)] = some 41 := by decide +kernel
theorem b_Mo_askable_41 : mx_ck m_Mo_askable 41 [(.iload_n 3, [], 0), (.aload_n 0, [], 0), (.getfield 19, [10, 5, 5, 945], 0), (.iconst 0, [], nI 0), (.iaload, [], 0)] = some 48 := by decide +kernel
theorem b_Mo_askable_51 : mx_ck m_Mo_askable 51 [(.aload_n 0, [], 0), (.iload_n 1, [], 0)] = some 53 := by decide +kernel
theorem b_Mo_askable_56 : mx_ck m_Mo_askable 56 [(.iconst 4, [], nI 4)] = some 57 := by decide +kernel
theorem b_Mo_askable_60 : mx_ck m_Mo_askable 60 [(.aload_n 0, [], 0), (.aload_n 0, [], 0), (.getfield 19, [10, 5, 5, 945], 0), (.iload_n 3, [], 0), (.iconst (-1), [], (-1))] = some 67 := by decide +kernel
theorem b_Mo_askable_70 : mx_ck m_Mo_askable 70 [(.iload_n 2, [], 0), (.aload_n 0, [], 0), (.iload_n 1, [], 0)] = some 73 := by decide +kernel
theorem b_Mo_askable_79 : mx_ck m_Mo_askable 79 [(.iconst 0, [], nI 0)] = some 80 := by decide +kernel
theorem b_Mo_askable_83 : mx_ck m_Mo_askable 83 [(.iconst 1, [], nI 1), (.iload_n 3, [], 0), (.ishl, [], 0)] = some 86 := by decide +kernel
theorem b_Mo_askable_86 : mx_ck m_Mo_askable 86 [(.ior, [], 0), (.istore_n 2, [], 0), (.iinc 3 1, [], nI 1)] = some 91 := by decide +kernel
theorem b_Mo_askable_94 : mx_ck m_Mo_askable 94 [(.iload_n 2, [], 0)] = some 95 := by decide +kernel
theorem d_Mo_askable_7 : decode m_Mo_askable.2.1 7 = .ok (.invokevirtual 221, 3) := by decide +kernel
theorem c_Mo_askable_7 : mx_cv m_Mo_askable m_Mo_isType 221 1 [1139, 1141, 50, 90, 1142] = true := by decide +kernel
theorem d_Mo_askable_10 : decode m_Mo_askable.2.1 10 = .ok (.ifCond .ne 6, 3) := by decide +kernel
theorem d_Mo_askable_15 : decode m_Mo_askable.2.1 15 = .ok (.ireturn, 1) := by decide +kernel
theorem d_Mo_askable_21 : decode m_Mo_askable.2.1 21 = .ok (.invokevirtual 240, 3) := by decide +kernel
theorem c_Mo_askable_21 : mx_cv m_Mo_askable m_Mo_reckon 240 1 [1175, 1177, 54, 90, 1178] = true := by decide +kernel
theorem d_Mo_askable_26 : decode m_Mo_askable.2.1 26 = .ok (.invokevirtual 250, 3) := by decide +kernel
theorem c_Mo_askable_26 : mx_cv m_Mo_askable m_Mo_isEmpty 250 1 [1241, 1243, 63, 90, 1244] = true := by decide +kernel
theorem d_Mo_askable_29 : decode m_Mo_askable.2.1 29 = .ok (.ifCond .eq 8, 3) := by decide +kernel
theorem d_Mo_askable_33 : decode m_Mo_askable.2.1 33 = .ok (.invokevirtual 257, 3) := by decide +kernel
theorem c_Mo_askable_33 : mx_cv m_Mo_askable m_Mo_everyType 257 0 [1257, 1259, 65, 90, 1260] = true := by decide +kernel
theorem d_Mo_askable_36 : decode m_Mo_askable.2.1 36 = .ok (.ireturn, 1) := by decide +kernel
theorem d_Mo_askable_48 : decode m_Mo_askable.2.1 48 = .ok (.if_icmp .ge 46, 3) := by decide +kernel
theorem d_Mo_askable_53 : decode m_Mo_askable.2.1 53 = .ok (.invokevirtual 218, 3) := by decide +kernel
theorem c_Mo_askable_53 : mx_cv m_Mo_askable m_Mo_sortsOf 218 1 [1245, 1247, 64, 90, 1248] = true := by decide +kernel
theorem d_Mo_askable_57 : decode m_Mo_askable.2.1 57 = .ok (.if_icmp .ne 37, 3) := by decide +kernel
theorem d_Mo_askable_67 : decode m_Mo_askable.2.1 67 = .ok (.invokevirtual 261, 3) := by decide +kernel
theorem c_Mo_askable_67 : mx_cv m_Mo_askable m_Mo_layCases 261 3 [1261, 1263, 66, 90, 1264] = true := by decide +kernel
theorem d_Mo_askable_73 : decode m_Mo_askable.2.1 73 = .ok (.invokevirtual 264, 3) := by decide +kernel
theorem c_Mo_askable_73 : mx_cv m_Mo_askable m_Mo_isMarked 264 1 [1265, 1267, 67, 90, 1268] = true := by decide +kernel
theorem d_Mo_askable_76 : decode m_Mo_askable.2.1 76 = .ok (.ifCond .eq 7, 3) := by decide +kernel
theorem d_Mo_askable_80 : decode m_Mo_askable.2.1 80 = .ok (.goto 6, 3) := by decide +kernel
theorem d_Mo_askable_91 : decode m_Mo_askable.2.1 91 = .ok (.goto (-50), 3) := by decide +kernel
theorem d_Mo_askable_95 : decode m_Mo_askable.2.1 95 = .ok (.ireturn, 1) := by decide +kernel
theorem b_Mo_bad_0 : mx_ck m_Mo_bad 0 [(.aload_n 0, [], 0), (.getfield 99, [10, 16, 0, 956], 0)] = some 4 := by decide +kernel
theorem b_Mo_bad_7 : mx_ck m_Mo_bad 7 [(.aload_n 0, [], 0), (.iload_n 1, [], 0), (.putfield 99, [10, 16, 0, 956], 0), (.aload_n 0, [], 0), (.aload_n 0, [], 0), (.getfield 102, [10, 13, 0, 953], 0), (.putfield 105, [10, 17, 0, 957], 0)] = some 20 := by decide +kernel
theorem d_Mo_bad_4 : decode m_Mo_bad.2.1 4 = .ok (.ifCond .ne 16, 3) := by decide +kernel
theorem d_Mo_bad_20 : decode m_Mo_bad.2.1 20 = .ok (.return_, 1) := by decide +kernel
theorem b_Mo_began_0 : mx_ck m_Mo_began 0 [(.aload_n 0, [], 0), (.getfield 307, [10, 31, 0, 971], 0), (.bipush 16, [], nI 16)] = some 6 := by decide +kernel
theorem b_Mo_began_9 : mx_ck m_Mo_began 9 [(.aload_n 0, [], 0), (.getfield 65, [10, 30, 20, 970], 0), (.aload_n 0, [], 0), (.getfield 307, [10, 31, 0, 971], 0), (.iload_n 1, [], 0), (.iastore, [], 0), (.aload_n 0, [], 0), (.dup, [], 0), (.getfield 307, [10, 31, 0, 971], 0), (.iconst 1, [], nI 1), (.iadd, [], 0), (.putfield 307, [10, 31, 0, 971], 0)] = some 29 := by decide +kernel
theorem d_Mo_began_6 : decode m_Mo_began.2.1 6 = .ok (.if_icmp .ge 23, 3) := by decide +kernel
theorem d_Mo_began_29 : decode m_Mo_began.2.1 29 = .ok (.return_, 1) := by decide +kernel
theorem b_Mo_begin_0 : mx_ck m_Mo_begin 0 [(.aload_n 0, [], 0), (.iconst 0, [], nI 0), (.putfield 108, [10, 12, 0, 952], 0), (.aload_n 0, [], 0), (.iconst 0, [], nI 0), (.putfield 99, [10, 16, 0, 956], 0), (.aload_n 0, [], 0)] = some 11 := by decide +kernel
theorem d_Mo_begin_11 : decode m_Mo_begin.2.1 11 = .ok (.invokevirtual 130, 3) := by decide +kernel
theorem c_Mo_begin_11 : mx_cv m_Mo_begin m_Mo_nextToken 130 0 [1086, 1088, 40, 90, 1089] = true := by decide +kernel
theorem d_Mo_begin_14 : decode m_Mo_begin.2.1 14 = .ok (.return_, 1) := by decide +kernel
theorem b_Mo_bits_0 : mx_ck m_Mo_bits 0 [(.iconst 0, [], nI 0), (.istore_n 1, [], 0), (.iconst 0, [], nI 0), (.istore_n 2, [], 0)] = some 4 := by decide +kernel
theorem b_Mo_bits_4 : mx_ck m_Mo_bits 4 [(.iload_n 2, [], 0), (.bipush 8, [], nI 8)] = some 7 := by decide +kernel
theorem b_Mo_bits_10 : mx_ck m_Mo_bits 10 [(.iload_n 1, [], 0), (.iload_n 0, [], 0), (.iload_n 2, [], 0), (.ishr, [], 0), (.iconst 1, [], nI 1), (.iand, [], 0), (.iadd, [], 0), (.istore_n 1, [], 0), (.iinc 2 1, [], nI 1)] = some 21 := by decide +kernel
theorem b_Mo_bits_24 : mx_ck m_Mo_bits 24 [(.iload_n 1, [], 0)] = some 25 := by decide +kernel
theorem d_Mo_bits_7 : decode m_Mo_bits.2.1 7 = .ok (.if_icmp .ge 17, 3) := by decide +kernel
theorem d_Mo_bits_21 : decode m_Mo_bits.2.1 21 = .ok (.goto (-17), 3) := by decide +kernel
theorem d_Mo_bits_25 : decode m_Mo_bits.2.1 25 = .ok (.ireturn, 1) := by decide +kernel
theorem b_Mo_breaks_0 : mx_ck m_Mo_breaks 0 [(.iconst 0, [], nI 0), (.istore_n 3, [], 0), (.iconst 0, [], nI 0), (.istore 4, [], 0)] = some 5 := by decide +kernel
theorem b_Mo_breaks_5 : mx_ck m_Mo_breaks 5 [(.iload 4, [], 0), (.aload_n 0, [], 0), (.iconst 0, [], nI 0), (.iaload, [], 0)] = some 10 := by decide +kernel
theorem b_Mo_breaks_13 : mx_ck m_Mo_breaks 13 [(.aload_n 0, [], 0), (.iload 4, [], 0), (.iconst 0, [], nI 0)] = some 17 := by decide +kernel
theorem b_Mo_breaks_20 : mx_ck m_Mo_breaks 20 [(.iconst 2, [], nI 2)] = some 21 := by decide +kernel
theorem b_Mo_breaks_24 : mx_ck m_Mo_breaks 24 [(.iload_n 1, [], 0), (.aload_n 0, [], 0), (.iload 4, [], 0), (.iconst 1, [], nI 1)] = some 29 := by decide +kernel
theorem b_Mo_breaks_38 : mx_ck m_Mo_breaks 38 [(.iload_n 2, [], 0)] = some 39 := by decide +kernel
theorem b_Mo_breaks_42 : mx_ck m_Mo_breaks 42 [(.iload_n 2, [], 0), (.aload_n 0, [], 0), (.iload 4, [], 0), (.iconst 2, [], nI 2)] = some 47 := by decide +kernel
theorem b_Mo_breaks_56 : mx_ck m_Mo_breaks 56 [(.iconst 1, [], nI 1)] = some 57 := by decide +kernel
theorem b_Mo_breaks_60 : mx_ck m_Mo_breaks 60 [(.iconst 0, [], nI 0)] = some 61 := by decide +kernel
theorem b_Mo_breaks_61 : mx_ck m_Mo_breaks 61 [(.istore 5, [], 0), (.iload_n 3, [], 0), (.iload 5, [], 0)] = some 66 := by decide +kernel
theorem b_Mo_breaks_69 : mx_ck m_Mo_breaks 69 [(.iconst 1, [], nI 1), (.iload 4, [], 0), (.ishl, [], 0)] = some 73 := by decide +kernel
theorem b_Mo_breaks_76 : mx_ck m_Mo_breaks 76 [(.iconst 0, [], nI 0)] = some 77 := by decide +kernel
theorem b_Mo_breaks_77 : mx_ck m_Mo_breaks 77 [(.ior, [], 0), (.istore_n 3, [], 0), (.iinc 4 1, [], nI 1)] = some 82 := by decide +kernel
theorem b_Mo_breaks_85 : mx_ck m_Mo_breaks 85 [(.iload_n 3, [], 0)] = some 86 := by decide +kernel
theorem d_Mo_breaks_10 : decode m_Mo_breaks.2.1 10 = .ok (.if_icmp .ge 75, 3) := by decide +kernel
theorem d_Mo_breaks_17 : decode m_Mo_breaks.2.1 17 = .ok (.invokestatic 173, 3) := by decide +kernel
theorem c_Mo_breaks_17 : mx_cs m_Mo_breaks m_Mo_of 173 3 [1160, 1161, 90, 1162] = true := by decide +kernel
theorem d_Mo_breaks_21 : decode m_Mo_breaks.2.1 21 = .ok (.if_icmp .ne 39, 3) := by decide +kernel
theorem d_Mo_breaks_29 : decode m_Mo_breaks.2.1 29 = .ok (.invokestatic 173, 3) := by decide +kernel
theorem c_Mo_breaks_29 : mx_cs m_Mo_breaks m_Mo_of 173 3 [1160, 1161, 90, 1162] = true := by decide +kernel
theorem d_Mo_breaks_32 : decode m_Mo_breaks.2.1 32 = .ok (.invokestatic 177, 3) := by decide +kernel
theorem c_Mo_breaks_32 : mx_cs m_Mo_breaks m_Mo_has 177 2 [1189, 1190, 90, 1191] = true := by decide +kernel
theorem d_Mo_breaks_35 : decode m_Mo_breaks.2.1 35 = .ok (.ifCond .eq 25, 3) := by decide +kernel
theorem d_Mo_breaks_39 : decode m_Mo_breaks.2.1 39 = .ok (.ifCond .lt 17, 3) := by decide +kernel
theorem d_Mo_breaks_47 : decode m_Mo_breaks.2.1 47 = .ok (.invokestatic 173, 3) := by decide +kernel
theorem c_Mo_breaks_47 : mx_cs m_Mo_breaks m_Mo_of 173 3 [1160, 1161, 90, 1162] = true := by decide +kernel
theorem d_Mo_breaks_50 : decode m_Mo_breaks.2.1 50 = .ok (.invokestatic 177, 3) := by decide +kernel
theorem c_Mo_breaks_50 : mx_cs m_Mo_breaks m_Mo_has 177 2 [1189, 1190, 90, 1191] = true := by decide +kernel
theorem d_Mo_breaks_53 : decode m_Mo_breaks.2.1 53 = .ok (.ifCond .ne 7, 3) := by decide +kernel
theorem d_Mo_breaks_57 : decode m_Mo_breaks.2.1 57 = .ok (.goto 4, 3) := by decide +kernel
theorem d_Mo_breaks_66 : decode m_Mo_breaks.2.1 66 = .ok (.ifCond .eq 10, 3) := by decide +kernel
theorem d_Mo_breaks_73 : decode m_Mo_breaks.2.1 73 = .ok (.goto 4, 3) := by decide +kernel
theorem d_Mo_breaks_82 : decode m_Mo_breaks.2.1 82 = .ok (.goto (-77), 3) := by decide +kernel
theorem d_Mo_breaks_86 : decode m_Mo_breaks.2.1 86 = .ok (.ireturn, 1) := by decide +kernel
theorem b_Mo_cellAt_0 : mx_ck m_Mo_cellAt 0 [(.aload_n 0, [], 0), (.iconst 0, [], nI 0), (.putfield 68, [10, 0, 0, 940], 0), (.aload_n 0, [], 0)] = some 6 := by decide +kernel
theorem b_Mo_cellAt_12 : mx_ck m_Mo_cellAt 12 [(.ldc 233, [1155], (-1000002))] = some 14 := by decide +kernel
theorem b_Mo_cellAt_15 : mx_ck m_Mo_cellAt 15 [(.iload_n 1, [], 0), (.iconst (-1), [], (-1))] = some 17 := by decide +kernel
theorem b_Mo_cellAt_20 : mx_ck m_Mo_cellAt 20 [(.ldc 88, [1050], (-1000001))] = some 22 := by decide +kernel
theorem b_Mo_cellAt_23 : mx_ck m_Mo_cellAt 23 [(.aload_n 0, [], 0), (.aload_n 0, [], 0), (.getfield 19, [10, 5, 5, 945], 0)] = some 28 := by decide +kernel
theorem b_Mo_cellAt_31 : mx_ck m_Mo_cellAt 31 [(.iload_n 1, [], 0), (.iconst (-1), [], (-1))] = some 33 := by decide +kernel
theorem b_Mo_cellAt_36 : mx_ck m_Mo_cellAt 36 [(.aload_n 0, [], 0), (.getfield 185, [10, 22, 0, 962], 0)] = some 40 := by decide +kernel
theorem b_Mo_cellAt_43 : mx_ck m_Mo_cellAt 43 [(.iload_n 1, [], 0), (.aload_n 0, [], 0), (.getfield 185, [10, 22, 0, 962], 0)] = some 48 := by decide +kernel
theorem b_Mo_cellAt_51 : mx_ck m_Mo_cellAt 51 [(.aload_n 0, [], 0), (.getfield 40, [10, 21, 12, 961], 0), (.iload_n 1, [], 0), (.iaload, [], 0)] = some 57 := by decide +kernel
theorem b_Mo_cellAt_60 : mx_ck m_Mo_cellAt 60 [(.ldc 111, [1090], (-1000000))] = some 62 := by decide +kernel
theorem d_Mo_cellAt_6 : decode m_Mo_cellAt.2.1 6 = .ok (.invokevirtual 234, 3) := by decide +kernel
theorem c_Mo_cellAt_6 : mx_cv m_Mo_cellAt m_Mo_isThere 234 0 [1167, 1169, 52, 90, 1170] = true := by decide +kernel
theorem d_Mo_cellAt_9 : decode m_Mo_cellAt.2.1 9 = .ok (.ifCond .ne 6, 3) := by decide +kernel
theorem d_Mo_cellAt_14 : decode m_Mo_cellAt.2.1 14 = .ok (.ireturn, 1) := by decide +kernel
theorem d_Mo_cellAt_17 : decode m_Mo_cellAt.2.1 17 = .ok (.if_icmp .ge 6, 3) := by decide +kernel
theorem d_Mo_cellAt_22 : decode m_Mo_cellAt.2.1 22 = .ok (.ireturn, 1) := by decide +kernel
theorem d_Mo_cellAt_28 : decode m_Mo_cellAt.2.1 28 = .ok (.invokevirtual 240, 3) := by decide +kernel
theorem c_Mo_cellAt_28 : mx_cv m_Mo_cellAt m_Mo_reckon 240 1 [1175, 1177, 54, 90, 1178] = true := by decide +kernel
theorem d_Mo_cellAt_33 : decode m_Mo_cellAt.2.1 33 = .ok (.if_icmp .ne 10, 3) := by decide +kernel
theorem d_Mo_cellAt_40 : decode m_Mo_cellAt.2.1 40 = .ok (.goto 22, 3) := by decide +kernel
theorem d_Mo_cellAt_48 : decode m_Mo_cellAt.2.1 48 = .ok (.if_icmp .ge 12, 3) := by decide +kernel
theorem d_Mo_cellAt_57 : decode m_Mo_cellAt.2.1 57 = .ok (.goto 5, 3) := by decide +kernel
theorem d_Mo_cellAt_62 : decode m_Mo_cellAt.2.1 62 = .ok (.ireturn, 1) := by decide +kernel
theorem b_Mo_cellOf_0 : mx_ck m_Mo_cellOf 0 [(.iload_n 1, [], 0), (.istore_n 2, [], 0), (.iconst 0, [], nI 0), (.istore_n 3, [], 0)] = some 4 := by decide +kernel
theorem b_Mo_cellOf_4 : mx_ck m_Mo_cellOf 4 [(.iload_n 3, [], 0), (.aload_n 0, [], 0), (.iconst 0, [], nI 0), (.iaload, [], 0)] = some 8 := by decide +kernel
theorem b_Mo_cellOf_11 : mx_ck m_Mo_cellOf 11 [(.iload_n 2, [], 0), (.aload_n 0, [], 0), (.iload_n 3, [], 0), (.iconst 1, [], nI 1)] = some 15 := by decide +kernel
theorem b_Mo_cellOf_21 : mx_ck m_Mo_cellOf 21 [(.istore 4, [], 0), (.iload_n 2, [], 0), (.aload_n 0, [], 0), (.iload_n 3, [], 0), (.iconst 2, [], nI 2)] = some 27 := by decide +kernel
theorem b_Mo_cellOf_33 : mx_ck m_Mo_cellOf 33 [(.istore 5, [], 0), (.aload_n 0, [], 0), (.iload_n 3, [], 0), (.iconst 0, [], nI 0)] = some 38 := by decide +kernel
theorem b_Mo_cellOf_41 : mx_ck m_Mo_cellOf 41 [(.istore 6, [], 0), (.iload 6, [], 0), (.iconst 3, [], nI 3)] = some 46 := by decide +kernel
theorem b_Mo_cellOf_49 : mx_ck m_Mo_cellOf 49 [(.iload 4, [], 0)] = some 51 := by decide +kernel
theorem b_Mo_cellOf_54 : mx_ck m_Mo_cellOf 54 [(.iload 5, [], 0)] = some 56 := by decide +kernel
theorem b_Mo_cellOf_59 : mx_ck m_Mo_cellOf 59 [(.iload 6, [], 0), (.iconst 4, [], nI 4)] = some 62 := by decide +kernel
theorem b_Mo_cellOf_65 : mx_ck m_Mo_cellOf 65 [(.iload 4, [], 0)] = some 67 := by decide +kernel
theorem b_Mo_cellOf_70 : mx_ck m_Mo_cellOf 70 [(.iload 5, [], 0)] = some 72 := by decide +kernel
theorem b_Mo_cellOf_75 : mx_ck m_Mo_cellOf 75 [(.iload 6, [], 0), (.iconst 5, [], nI 5)] = some 78 := by decide +kernel
theorem b_Mo_cellOf_81 : mx_ck m_Mo_cellOf 81 [(.iload 4, [], 0)] = some 83 := by decide +kernel
theorem b_Mo_cellOf_86 : mx_ck m_Mo_cellOf 86 [(.iload 5, [], 0)] = some 88 := by decide +kernel
theorem b_Mo_cellOf_91 : mx_ck m_Mo_cellOf 91 [(.iconst 1, [], nI 1)] = some 92 := by decide +kernel
theorem b_Mo_cellOf_95 : mx_ck m_Mo_cellOf 95 [(.iconst 0, [], nI 0)] = some 96 := by decide +kernel
theorem b_Mo_cellOf_96 : mx_ck m_Mo_cellOf 96 [(.istore 7, [], 0), (.iload_n 2, [], 0), (.iload 7, [], 0)] = some 101 := by decide +kernel
theorem b_Mo_cellOf_104 : mx_ck m_Mo_cellOf 104 [(.iconst 1, [], nI 1), (.iload_n 3, [], 0), (.ishl, [], 0)] = some 107 := by decide +kernel
theorem b_Mo_cellOf_110 : mx_ck m_Mo_cellOf 110 [(.iconst 0, [], nI 0)] = some 111 := by decide +kernel
theorem b_Mo_cellOf_111 : mx_ck m_Mo_cellOf 111 [(.ior, [], 0), (.istore_n 2, [], 0), (.iinc 3 1, [], nI 1)] = some 116 := by decide +kernel
theorem b_Mo_cellOf_119 : mx_ck m_Mo_cellOf 119 [(.iload_n 2, [], 0)] = some 120 := by decide +kernel
theorem d_Mo_cellOf_8 : decode m_Mo_cellOf.2.1 8 = .ok (.if_icmp .ge 111, 3) := by decide +kernel
theorem d_Mo_cellOf_15 : decode m_Mo_cellOf.2.1 15 = .ok (.invokestatic 173, 3) := by decide +kernel
theorem c_Mo_cellOf_15 : mx_cs m_Mo_cellOf m_Mo_of 173 3 [1160, 1161, 90, 1162] = true := by decide +kernel
theorem d_Mo_cellOf_18 : decode m_Mo_cellOf.2.1 18 = .ok (.invokestatic 177, 3) := by decide +kernel
theorem c_Mo_cellOf_18 : mx_cs m_Mo_cellOf m_Mo_has 177 2 [1189, 1190, 90, 1191] = true := by decide +kernel
theorem d_Mo_cellOf_27 : decode m_Mo_cellOf.2.1 27 = .ok (.invokestatic 173, 3) := by decide +kernel
theorem c_Mo_cellOf_27 : mx_cs m_Mo_cellOf m_Mo_of 173 3 [1160, 1161, 90, 1162] = true := by decide +kernel
theorem d_Mo_cellOf_30 : decode m_Mo_cellOf.2.1 30 = .ok (.invokestatic 177, 3) := by decide +kernel
theorem c_Mo_cellOf_30 : mx_cs m_Mo_cellOf m_Mo_has 177 2 [1189, 1190, 90, 1191] = true := by decide +kernel
theorem d_Mo_cellOf_38 : decode m_Mo_cellOf.2.1 38 = .ok (.invokestatic 173, 3) := by decide +kernel
theorem c_Mo_cellOf_38 : mx_cs m_Mo_cellOf m_Mo_of 173 3 [1160, 1161, 90, 1162] = true := by decide +kernel
theorem d_Mo_cellOf_46 : decode m_Mo_cellOf.2.1 46 = .ok (.if_icmp .ne 13, 3) := by decide +kernel
theorem d_Mo_cellOf_51 : decode m_Mo_cellOf.2.1 51 = .ok (.ifCond .ne 40, 3) := by decide +kernel
theorem d_Mo_cellOf_56 : decode m_Mo_cellOf.2.1 56 = .ok (.ifCond .ne 35, 3) := by decide +kernel
theorem d_Mo_cellOf_62 : decode m_Mo_cellOf.2.1 62 = .ok (.if_icmp .ne 13, 3) := by decide +kernel
theorem d_Mo_cellOf_67 : decode m_Mo_cellOf.2.1 67 = .ok (.ifCond .eq 8, 3) := by decide +kernel
theorem d_Mo_cellOf_72 : decode m_Mo_cellOf.2.1 72 = .ok (.ifCond .ne 19, 3) := by decide +kernel
theorem d_Mo_cellOf_78 : decode m_Mo_cellOf.2.1 78 = .ok (.if_icmp .ne 17, 3) := by decide +kernel
theorem d_Mo_cellOf_83 : decode m_Mo_cellOf.2.1 83 = .ok (.ifCond .eq 12, 3) := by decide +kernel
theorem d_Mo_cellOf_88 : decode m_Mo_cellOf.2.1 88 = .ok (.ifCond .ne 7, 3) := by decide +kernel
theorem d_Mo_cellOf_92 : decode m_Mo_cellOf.2.1 92 = .ok (.goto 4, 3) := by decide +kernel
theorem d_Mo_cellOf_101 : decode m_Mo_cellOf.2.1 101 = .ok (.ifCond .eq 9, 3) := by decide +kernel
theorem d_Mo_cellOf_107 : decode m_Mo_cellOf.2.1 107 = .ok (.goto 4, 3) := by decide +kernel
theorem d_Mo_cellOf_116 : decode m_Mo_cellOf.2.1 116 = .ok (.goto (-112), 3) := by decide +kernel
theorem d_Mo_cellOf_120 : decode m_Mo_cellOf.2.1 120 = .ok (.ireturn, 1) := by decide +kernel
theorem b_Mo_comes_0 : mx_ck m_Mo_comes 0 [(.aload_n 0, [], 0), (.getfield 37, [10, 20, 11, 960], 0), (.iload_n 1, [], 0), (.dup2, [], 0), (.iaload, [], 0), (.iload_n 2, [], 0), (.ior, [], 0), (.iastore, [], 0), (.aload_n 0, [], 0), (.getfield 34, [10, 19, 10, 959], 0), (.iload_n 1, [], 0), (.iaload, [], 0)] = some 16 := by decide +kernel
theorem b_Mo_comes_19 : mx_ck m_Mo_comes 19 [(.aload_n 0, [], 0), (.getfield 34, [10, 19, 10, 959], 0), (.iload_n 1, [], 0), (.iload_n 3, [], 0), (.iastore, [], 0)] = some 26 := by decide +kernel
theorem d_Mo_comes_16 : decode m_Mo_comes.2.1 16 = .ok (.ifCond .ne 10, 3) := by decide +kernel
theorem d_Mo_comes_26 : decode m_Mo_comes.2.1 26 = .ok (.return_, 1) := by decide +kernel
theorem b_Mo_constantCell_0 : mx_ck m_Mo_constantCell 0 [(.iconst 0, [], nI 0), (.istore_n 2, [], 0), (.iconst 0, [], nI 0), (.istore_n 3, [], 0)] = some 4 := by decide +kernel
theorem b_Mo_constantCell_4 : mx_ck m_Mo_constantCell 4 [(.iload_n 3, [], 0), (.aload_n 0, [], 0), (.iconst 0, [], nI 0), (.iaload, [], 0)] = some 8 := by decide +kernel
theorem b_Mo_constantCell_11 : mx_ck m_Mo_constantCell 11 [(.iload_n 2, [], 0), (.aload_n 0, [], 0), (.iload_n 3, [], 0), (.iconst 0, [], nI 0)] = some 15 := by decide +kernel
theorem b_Mo_constantCell_21 : mx_ck m_Mo_constantCell 21 [(.iload_n 1, [], 0), (.i2l, [], 0), (.aload_n 0, [], 0), (.iload_n 3, [], 0), (.iconst 1, [], nI 1)] = some 26 := by decide +kernel
theorem b_Mo_constantCell_29 : mx_ck m_Mo_constantCell 29 [(.i2l, [], 0), (.aload_n 0, [], 0), (.iload_n 3, [], 0), (.iconst 2, [], nI 2)] = some 33 := by decide +kernel
theorem b_Mo_constantCell_36 : mx_ck m_Mo_constantCell 36 [(.i2l, [], 0)] = some 37 := by decide +kernel
theorem b_Mo_constantCell_43 : mx_ck m_Mo_constantCell 43 [(.iconst 1, [], nI 1), (.iload_n 3, [], 0), (.ishl, [], 0)] = some 46 := by decide +kernel
theorem b_Mo_constantCell_49 : mx_ck m_Mo_constantCell 49 [(.iconst 0, [], nI 0)] = some 50 := by decide +kernel
theorem b_Mo_constantCell_50 : mx_ck m_Mo_constantCell 50 [(.ior, [], 0), (.istore_n 2, [], 0), (.iinc 3 1, [], nI 1)] = some 55 := by decide +kernel
theorem b_Mo_constantCell_58 : mx_ck m_Mo_constantCell 58 [(.aload_n 0, [], 0), (.iload_n 2, [], 0)] = some 60 := by decide +kernel
theorem d_Mo_constantCell_8 : decode m_Mo_constantCell.2.1 8 = .ok (.if_icmp .ge 50, 3) := by decide +kernel
theorem d_Mo_constantCell_15 : decode m_Mo_constantCell.2.1 15 = .ok (.invokestatic 173, 3) := by decide +kernel
theorem c_Mo_constantCell_15 : mx_cs m_Mo_constantCell m_Mo_of 173 3 [1160, 1161, 90, 1162] = true := by decide +kernel
theorem d_Mo_constantCell_18 : decode m_Mo_constantCell.2.1 18 = .ok (.ifCond .ne 31, 3) := by decide +kernel
theorem d_Mo_constantCell_26 : decode m_Mo_constantCell.2.1 26 = .ok (.invokestatic 173, 3) := by decide +kernel
theorem c_Mo_constantCell_26 : mx_cs m_Mo_constantCell m_Mo_of 173 3 [1160, 1161, 90, 1162] = true := by decide +kernel
theorem d_Mo_constantCell_33 : decode m_Mo_constantCell.2.1 33 = .ok (.invokestatic 173, 3) := by decide +kernel
theorem c_Mo_constantCell_33 : mx_cs m_Mo_constantCell m_Mo_of 173 3 [1160, 1161, 90, 1162] = true := by decide +kernel
theorem d_Mo_constantCell_37 : decode m_Mo_constantCell.2.1 37 = .ok (.invokestatic 78, 3) := by decide +kernel
theorem c_Mo_constantCell_37 : mx_cs m_Mo_constantCell m_Mo_in 78 3 [1046, 1047, 90, 1048] = true := by decide +kernel
theorem d_Mo_constantCell_40 : decode m_Mo_constantCell.2.1 40 = .ok (.ifCond .eq 9, 3) := by decide +kernel
theorem d_Mo_constantCell_46 : decode m_Mo_constantCell.2.1 46 = .ok (.goto 4, 3) := by decide +kernel
theorem d_Mo_constantCell_55 : decode m_Mo_constantCell.2.1 55 = .ok (.goto (-51), 3) := by decide +kernel
theorem d_Mo_constantCell_60 : decode m_Mo_constantCell.2.1 60 = .ok (.invokestatic 181, 3) := by decide +kernel
theorem c_Mo_constantCell_60 : mx_cs m_Mo_constantCell m_Mo_cellOf 181 2 [1186, 1187, 90, 1188] = true := by decide +kernel
theorem d_Mo_constantCell_63 : decode m_Mo_constantCell.2.1 63 = .ok (.ireturn, 1) := by decide +kernel
theorem b_Mo_copy_0 : mx_ck m_Mo_copy 0 [(.aload_n 0, [], 0), (.iconst 0, [], nI 0), (.putfield 68, [10, 0, 0, 940], 0), (.iload_n 1, [], 0)] = some 6 := by decide +kernel
theorem b_Mo_copy_12 : mx_ck m_Mo_copy 12 [(.iload_n 3, [], 0)] = some 13 := by decide +kernel
theorem b_Mo_copy_19 : mx_ck m_Mo_copy 19 [(.ldc 88, [1050], (-1000001))] = some 21 := by decide +kernel
theorem b_Mo_copy_22 : mx_ck m_Mo_copy 22 [(.aload_n 0, [], 0), (.iconst 0, [], nI 0), (.putfield 72, [10, 1, 0, 941], 0), (.aload_n 0, [], 0), (.getfield 7, [10, 2, 2, 942], 0), (.iload_n 1, [], 0), (.iaload, [], 0)] = some 33 := by decide +kernel
theorem b_Mo_copy_36 : mx_ck m_Mo_copy 36 [(.aload_n 0, [], 0), (.getfield 7, [10, 2, 2, 942], 0), (.iload_n 3, [], 0), (.iaload, [], 0)] = some 42 := by decide +kernel
theorem b_Mo_copy_45 : mx_ck m_Mo_copy 45 [(.aload_n 0, [], 0), (.iconst 1, [], nI 1)] = some 47 := by decide +kernel
theorem b_Mo_copy_51 : mx_ck m_Mo_copy 51 [(.aload_n 0, [], 0), (.getfield 7, [10, 2, 2, 942], 0), (.iload_n 1, [], 0), (.iaload, [], 0), (.aload_n 0, [], 0), (.getfield 7, [10, 2, 2, 942], 0), (.iload_n 3, [], 0), (.iaload, [], 0)] = some 63 := by decide +kernel
theorem b_Mo_copy_66 : mx_ck m_Mo_copy 66 [(.aload_n 0, [], 0), (.iconst 5, [], nI 5)] = some 68 := by decide +kernel
theorem b_Mo_copy_72 : mx_ck m_Mo_copy 72 [(.iload_n 2, [], 0)] = some 73 := by decide +kernel
theorem b_Mo_copy_76 : mx_ck m_Mo_copy 76 [(.iload 4, [], 0)] = some 78 := by decide +kernel
theorem b_Mo_copy_81 : mx_ck m_Mo_copy 81 [(.iload 5, [], 0)] = some 83 := by decide +kernel
theorem b_Mo_copy_86 : mx_ck m_Mo_copy 86 [(.iload_n 2, [], 0), (.i2l, [], 0), (.iload 5, [], 0), (.i2l, [], 0), (.ladd, [], 0), (.aload_n 0, [], 0), (.getfield 13, [10, 3, 3, 943], 0), (.iload_n 1, [], 0), (.iaload, [], 0), (.i2l, [], 0), (.lcmp, [], 0)] = some 100 := by decide +kernel
theorem b_Mo_copy_103 : mx_ck m_Mo_copy 103 [(.iload 4, [], 0), (.i2l, [], 0), (.iload 5, [], 0), (.i2l, [], 0), (.ladd, [], 0), (.aload_n 0, [], 0), (.getfield 13, [10, 3, 3, 943], 0), (.iload_n 3, [], 0), (.iaload, [], 0), (.i2l, [], 0), (.lcmp, [], 0)] = some 118 := by decide +kernel
theorem b_Mo_copy_121 : mx_ck m_Mo_copy 121 [(.aload_n 0, [], 0), (.iconst 2, [], nI 2)] = some 123 := by decide +kernel
theorem b_Mo_copy_127 : mx_ck m_Mo_copy 127 [(.iload_n 2, [], 0), (.iload 4, [], 0)] = some 130 := by decide +kernel
theorem b_Mo_copy_133 : mx_ck m_Mo_copy 133 [(.iconst 1, [], nI 1)] = some 134 := by decide +kernel
theorem b_Mo_copy_137 : mx_ck m_Mo_copy 137 [(.iconst 0, [], nI 0)] = some 138 := by decide +kernel
theorem b_Mo_copy_138 : mx_ck m_Mo_copy 138 [(.istore 6, [], 0), (.iconst 0, [], nI 0), (.istore 7, [], 0)] = some 143 := by decide +kernel
theorem b_Mo_copy_143 : mx_ck m_Mo_copy 143 [(.iload 7, [], 0), (.iload 5, [], 0)] = some 147 := by decide +kernel
theorem b_Mo_copy_150 : mx_ck m_Mo_copy 150 [(.iload 6, [], 0)] = some 152 := by decide +kernel
theorem b_Mo_copy_155 : mx_ck m_Mo_copy 155 [(.iload 7, [], 0)] = some 157 := by decide +kernel
theorem b_Mo_copy_160 : mx_ck m_Mo_copy 160 [(.iload 5, [], 0), (.iconst 1, [], nI 1), (.isub, [], 0), (.iload 7, [], 0), (.isub, [], 0)] = some 167 := by decide +kernel
theorem b_Mo_copy_167 : mx_ck m_Mo_copy 167 [(.istore 8, [], 0), (.aload_n 0, [], 0), (.getfield 16, [10, 4, 4, 944], 0), (.bipush 40, [], nI 40), (.iload_n 3, [], 0), (.imul, [], 0), (.iload 4, [], 0), (.iadd, [], 0), (.iload 8, [], 0), (.iadd, [], 0), (.aload_n 0, [], 0), (.getfield 16, [10, 4, 4, 944], 0), (.bipush 40, [], nI 40), (.iload_n 1, [], 0), (.imul, [], 0), (.iload_n 2, [], 0), (.iadd, [], 0), (.iload 8, [], 0), (.iadd, [], 0), (.iaload, [], 0), (.iastore, [], 0), (.iinc 7 1, [], nI 1)] = some 201 := by decide +kernel
theorem b_Mo_copy_204 : mx_ck m_Mo_copy 204 [(.iload 5, [], 0)] = some 206 := by decide +kernel
theorem d_Mo_copy_6 : decode m_Mo_copy.2.1 6 = .ok (.invokestatic 82, 3) := by decide +kernel
theorem c_Mo_copy_6 : mx_cs m_Mo_copy m_Mo_isRow 82 1 [1042, 1043, 90, 1044] = true := by decide +kernel
theorem d_Mo_copy_9 : decode m_Mo_copy.2.1 9 = .ok (.ifCond .eq 10, 3) := by decide +kernel
theorem d_Mo_copy_13 : decode m_Mo_copy.2.1 13 = .ok (.invokestatic 82, 3) := by decide +kernel
theorem c_Mo_copy_13 : mx_cs m_Mo_copy m_Mo_isRow 82 1 [1042, 1043, 90, 1044] = true := by decide +kernel
theorem d_Mo_copy_16 : decode m_Mo_copy.2.1 16 = .ok (.ifCond .ne 6, 3) := by decide +kernel
theorem d_Mo_copy_21 : decode m_Mo_copy.2.1 21 = .ok (.ireturn, 1) := by decide +kernel
theorem d_Mo_copy_33 : decode m_Mo_copy.2.1 33 = .ok (.ifCond .lt 12, 3) := by decide +kernel
theorem d_Mo_copy_42 : decode m_Mo_copy.2.1 42 = .ok (.ifCond .ge 9, 3) := by decide +kernel
theorem d_Mo_copy_47 : decode m_Mo_copy.2.1 47 = .ok (.invokevirtual 89, 3) := by decide +kernel
theorem c_Mo_copy_47 : mx_cv m_Mo_copy m_Mo_finding 89 1 [1051, 1053, 38, 90, 1054] = true := by decide +kernel
theorem d_Mo_copy_50 : decode m_Mo_copy.2.1 50 = .ok (.ireturn, 1) := by decide +kernel
theorem d_Mo_copy_63 : decode m_Mo_copy.2.1 63 = .ok (.if_icmp .eq 9, 3) := by decide +kernel
theorem d_Mo_copy_68 : decode m_Mo_copy.2.1 68 = .ok (.invokevirtual 89, 3) := by decide +kernel
theorem c_Mo_copy_68 : mx_cv m_Mo_copy m_Mo_finding 89 1 [1051, 1053, 38, 90, 1054] = true := by decide +kernel
theorem d_Mo_copy_71 : decode m_Mo_copy.2.1 71 = .ok (.ireturn, 1) := by decide +kernel
theorem d_Mo_copy_73 : decode m_Mo_copy.2.1 73 = .ok (.ifCond .lt 48, 3) := by decide +kernel
theorem d_Mo_copy_78 : decode m_Mo_copy.2.1 78 = .ok (.ifCond .lt 43, 3) := by decide +kernel
theorem d_Mo_copy_83 : decode m_Mo_copy.2.1 83 = .ok (.ifCond .lt 38, 3) := by decide +kernel
theorem d_Mo_copy_100 : decode m_Mo_copy.2.1 100 = .ok (.ifCond .gt 21, 3) := by decide +kernel
theorem d_Mo_copy_118 : decode m_Mo_copy.2.1 118 = .ok (.ifCond .le 9, 3) := by decide +kernel
theorem d_Mo_copy_123 : decode m_Mo_copy.2.1 123 = .ok (.invokevirtual 89, 3) := by decide +kernel
theorem c_Mo_copy_123 : mx_cv m_Mo_copy m_Mo_finding 89 1 [1051, 1053, 38, 90, 1054] = true := by decide +kernel
theorem d_Mo_copy_126 : decode m_Mo_copy.2.1 126 = .ok (.ireturn, 1) := by decide +kernel
theorem d_Mo_copy_130 : decode m_Mo_copy.2.1 130 = .ok (.if_icmp .lt 7, 3) := by decide +kernel
theorem d_Mo_copy_134 : decode m_Mo_copy.2.1 134 = .ok (.goto 4, 3) := by decide +kernel
theorem d_Mo_copy_147 : decode m_Mo_copy.2.1 147 = .ok (.if_icmp .ge 57, 3) := by decide +kernel
theorem d_Mo_copy_152 : decode m_Mo_copy.2.1 152 = .ok (.ifCond .eq 8, 3) := by decide +kernel
theorem d_Mo_copy_157 : decode m_Mo_copy.2.1 157 = .ok (.goto 10, 3) := by decide +kernel
theorem d_Mo_copy_201 : decode m_Mo_copy.2.1 201 = .ok (.goto (-58), 3) := by decide +kernel
theorem d_Mo_copy_206 : decode m_Mo_copy.2.1 206 = .ok (.ireturn, 1) := by decide +kernel
theorem b_Mo_count_0 : mx_ck m_Mo_count 0 [(.aload_n 0, [], 0), (.iconst 0, [], nI 0), (.putfield 68, [10, 0, 0, 940], 0), (.iconst 0, [], nI 0), (.istore_n 2, [], 0), (.iload_n 1, [], 0)] = some 8 := by decide +kernel
theorem b_Mo_count_48 : mx_ck m_Mo_count 48 [(.iconst 0, [], nI 0), (.istore_n 3, [], 0)] = some 50 := by decide +kernel
theorem b_Mo_count_50 : mx_ck m_Mo_count 50 [(.iload_n 3, [], 0), (.bipush 8, [], nI 8)] = some 53 := by decide +kernel
theorem b_Mo_count_56 : mx_ck m_Mo_count 56 [(.iload_n 2, [], 0), (.aload_n 0, [], 0), (.getfield 7, [10, 2, 2, 942], 0), (.iload_n 3, [], 0), (.iaload, [], 0)] = some 63 := by decide +kernel
theorem b_Mo_count_66 : mx_ck m_Mo_count 66 [(.iconst 1, [], nI 1)] = some 67 := by decide +kernel
theorem b_Mo_count_70 : mx_ck m_Mo_count 70 [(.iconst 0, [], nI 0)] = some 71 := by decide +kernel
theorem b_Mo_count_71 : mx_ck m_Mo_count 71 [(.iadd, [], 0), (.istore_n 2, [], 0), (.iinc 3 1, [], nI 1)] = some 76 := by decide +kernel
theorem b_Mo_count_79 : mx_ck m_Mo_count 79 [(.iload_n 2, [], 0)] = some 80 := by decide +kernel
theorem b_Mo_count_81 : mx_ck m_Mo_count 81 [(.aload_n 0, [], 0), (.getfield 19, [10, 5, 5, 945], 0), (.iconst 0, [], nI 0), (.iaload, [], 0)] = some 87 := by decide +kernel
theorem b_Mo_count_88 : mx_ck m_Mo_count 88 [(.aload_n 0, [], 0), (.getfield 19, [10, 5, 5, 945], 0), (.iconst 1, [], nI 1), (.iaload, [], 0)] = some 94 := by decide +kernel
theorem b_Mo_count_95 : mx_ck m_Mo_count 95 [(.aload_n 0, [], 0), (.aload_n 0, [], 0), (.getfield 19, [10, 5, 5, 945], 0)] = some 100 := by decide +kernel
theorem b_Mo_count_103 : mx_ck m_Mo_count 103 [(.aload_n 0, [], 0), (.aload_n 0, [], 0), (.getfield 19, [10, 5, 5, 945], 0)] = some 108 := by decide +kernel
theorem b_Mo_count_115 : mx_ck m_Mo_count 115 [(.aload_n 0, [], 0), (.getfield 170, [10, 9, 0, 949], 0)] = some 119 := by decide +kernel
theorem b_Mo_count_120 : mx_ck m_Mo_count 120 [(.aload_n 0, [], 0), (.getfield 95, [10, 11, 0, 951], 0)] = some 124 := by decide +kernel
theorem b_Mo_count_125 : mx_ck m_Mo_count 125 [(.ldc 88, [1050], (-1000001))] = some 127 := by decide +kernel
theorem d_Mo_count_8 : decode m_Mo_count.2.1 8 = .ok (.tableswitch 117 0 5 #[40, 73, 80, 87, 107, 112], 40) := by decide +kernel
theorem d_Mo_count_53 : decode m_Mo_count.2.1 53 = .ok (.if_icmp .ge 26, 3) := by decide +kernel
theorem d_Mo_count_63 : decode m_Mo_count.2.1 63 = .ok (.ifCond .lt 7, 3) := by decide +kernel
theorem d_Mo_count_67 : decode m_Mo_count.2.1 67 = .ok (.goto 4, 3) := by decide +kernel
theorem d_Mo_count_76 : decode m_Mo_count.2.1 76 = .ok (.goto (-26), 3) := by decide +kernel
theorem d_Mo_count_80 : decode m_Mo_count.2.1 80 = .ok (.ireturn, 1) := by decide +kernel
theorem d_Mo_count_87 : decode m_Mo_count.2.1 87 = .ok (.ireturn, 1) := by decide +kernel
theorem d_Mo_count_94 : decode m_Mo_count.2.1 94 = .ok (.ireturn, 1) := by decide +kernel
theorem d_Mo_count_100 : decode m_Mo_count.2.1 100 = .ok (.invokevirtual 240, 3) := by decide +kernel
theorem c_Mo_count_100 : mx_cv m_Mo_count m_Mo_reckon 240 1 [1175, 1177, 54, 90, 1178] = true := by decide +kernel
theorem d_Mo_count_108 : decode m_Mo_count.2.1 108 = .ok (.invokevirtual 253, 3) := by decide +kernel
theorem c_Mo_count_108 : mx_cv m_Mo_count m_Mo_emptySet 253 1 [1237, 1239, 62, 90, 1240] = true := by decide +kernel
theorem d_Mo_count_111 : decode m_Mo_count.2.1 111 = .ok (.invokestatic 298, 3) := by decide +kernel
theorem c_Mo_count_111 : mx_cs m_Mo_count m_Mo_bits 298 1 [1318, 1319, 90, 1320] = true := by decide +kernel
theorem d_Mo_count_114 : decode m_Mo_count.2.1 114 = .ok (.ireturn, 1) := by decide +kernel
theorem d_Mo_count_119 : decode m_Mo_count.2.1 119 = .ok (.ireturn, 1) := by decide +kernel
theorem d_Mo_count_124 : decode m_Mo_count.2.1 124 = .ok (.ireturn, 1) := by decide +kernel
theorem d_Mo_count_127 : decode m_Mo_count.2.1 127 = .ok (.ireturn, 1) := by decide +kernel
theorem b_Mo_drawn_0 : mx_ck m_Mo_drawn 0 [(.aload_n 0, [], 0), (.iconst 0, [], nI 0), (.putfield 68, [10, 0, 0, 940], 0), (.aload_n 0, [], 0)] = some 6 := by decide +kernel
theorem b_Mo_drawn_12 : mx_ck m_Mo_drawn 12 [(.ldc 233, [1155], (-1000002))] = some 14 := by decide +kernel
theorem b_Mo_drawn_15 : mx_ck m_Mo_drawn 15 [(.iload_n 1, [], 0), (.i2l, [], 0), (.lconst 0, [0], 0), (.ldc2_w 282, [20, 1310], 0)] = some 21 := by decide +kernel
theorem b_Mo_drawn_27 : mx_ck m_Mo_drawn 27 [(.iload_n 2, [], 0), (.i2l, [], 0), (.lconst 1, [1], 0), (.ldc2_w 284, [999999, 1311], 0)] = some 33 := by decide +kernel
theorem b_Mo_drawn_39 : mx_ck m_Mo_drawn 39 [(.iload_n 3, [], 0), (.i2l, [], 0), (.lconst 0, [0], 0), (.lconst 1, [1], 0)] = some 43 := by decide +kernel
theorem b_Mo_drawn_49 : mx_ck m_Mo_drawn 49 [(.ldc 88, [1050], (-1000001))] = some 51 := by decide +kernel
theorem b_Mo_drawn_52 : mx_ck m_Mo_drawn 52 [(.aload_n 0, [], 0)] = some 53 := by decide +kernel
theorem b_Mo_drawn_56 : mx_ck m_Mo_drawn 56 [(.iload_n 2, [], 0), (.i2l, [], 0), (.lstore 4, [], 0), (.iconst 0, [], nI 0), (.istore 6, [], 0)] = some 63 := by decide +kernel
theorem b_Mo_drawn_63 : mx_ck m_Mo_drawn 63 [(.iload 6, [], 0), (.iload_n 1, [], 0)] = some 66 := by decide +kernel
theorem b_Mo_drawn_69 : mx_ck m_Mo_drawn 69 [(.lload 4, [], 0), (.ldc2_w 286, [16807, 1312], 0), (.lmul, [], 0), (.ldc2_w 288, [2147483647, 1313], 0), (.lrem, [], 0), (.lstore 4, [], 0), (.lload 4, [], 0), (.aload_n 0, [], 0), (.getfield 25, [10, 7, 7, 947], 0), (.iconst 0, [], nI 0), (.iaload, [], 0), (.i2l, [], 0), (.lrem, [], 0), (.l2i, [], 0), (.istore 7, [], 0), (.lload 4, [], 0), (.ldc2_w 290, [8, 1314], 0), (.ldiv, [], 0), (.ldc2_w 292, [6, 1315], 0), (.lrem, [], 0), (.l2i, [], 0), (.istore 8, [], 0), (.lload 4, [], 0), (.ldc2_w 294, [64, 1316], 0), (.ldiv, [], 0), (.ldc2_w 290, [8, 1314], 0), (.lrem, [], 0), (.l2i, [], 0), (.istore 9, [], 0), (.lload 4, [], 0), (.ldc2_w 296, [512, 1317], 0), (.ldiv, [], 0), (.ldc2_w 290, [8, 1314], 0), (.lrem, [], 0), (.l2i, [], 0), (.istore 10, [], 0), (.aload_n 0, [], 0), (.getfield 25, [10, 7, 7, 947], 0), (.iconst 0, [], nI 0), (.iaload, [], 0), (.iload 7, [], 0), (.iload 8, [], 0), (.iload 9, [], 0), (.iload 10, [], 0)] = some 147 := by decide +kernel
theorem b_Mo_drawn_153 : mx_ck m_Mo_drawn 153 [(.aload_n 0, [], 0), (.getfield 25, [10, 7, 7, 947], 0), (.iconst 2, [], nI 2), (.iconst 3, [], nI 3), (.iload 7, [], 0), (.imul, [], 0), (.iadd, [], 0), (.iload 8, [], 0), (.iastore, [], 0), (.aload_n 0, [], 0), (.getfield 25, [10, 7, 7, 947], 0), (.iconst 2, [], nI 2), (.iconst 3, [], nI 3), (.iload 7, [], 0), (.imul, [], 0), (.iadd, [], 0), (.iconst 1, [], nI 1), (.iadd, [], 0), (.iload 9, [], 0), (.iastore, [], 0), (.aload_n 0, [], 0), (.getfield 25, [10, 7, 7, 947], 0), (.iconst 2, [], nI 2), (.iconst 3, [], nI 3), (.iload 7, [], 0), (.imul, [], 0), (.iadd, [], 0), (.iconst 2, [], nI 2), (.iadd, [], 0), (.iload 10, [], 0), (.iastore, [], 0)] = some 196 := by decide +kernel
theorem b_Mo_drawn_196 : mx_ck m_Mo_drawn 196 [(.iinc 6 1, [], nI 1)] = some 199 := by decide +kernel
theorem b_Mo_drawn_202 : mx_ck m_Mo_drawn 202 [(.aload_n 0, [], 0), (.aload_n 0, [], 0), (.getfield 25, [10, 7, 7, 947], 0)] = some 207 := by decide +kernel
theorem b_Mo_drawn_210 : mx_ck m_Mo_drawn 210 [(.iload_n 3, [], 0)] = some 211 := by decide +kernel
theorem b_Mo_drawn_214 : mx_ck m_Mo_drawn 214 [(.aload_n 0, [], 0), (.getfield 25, [10, 7, 7, 947], 0), (.iconst 0, [], nI 0), (.iaload, [], 0), (.aload_n 0, [], 0), (.aload_n 0, [], 0), (.getfield 25, [10, 7, 7, 947], 0)] = some 225 := by decide +kernel
theorem b_Mo_drawn_231 : mx_ck m_Mo_drawn 231 [(.isub, [], 0)] = some 232 := by decide +kernel
theorem b_Mo_drawn_235 : mx_ck m_Mo_drawn 235 [(.aload_n 0, [], 0), (.getfield 185, [10, 22, 0, 962], 0)] = some 239 := by decide +kernel
theorem d_Mo_drawn_6 : decode m_Mo_drawn.2.1 6 = .ok (.invokevirtual 234, 3) := by decide +kernel
theorem c_Mo_drawn_6 : mx_cv m_Mo_drawn m_Mo_isThere 234 0 [1167, 1169, 52, 90, 1170] = true := by decide +kernel
theorem d_Mo_drawn_9 : decode m_Mo_drawn.2.1 9 = .ok (.ifCond .ne 6, 3) := by decide +kernel
theorem d_Mo_drawn_14 : decode m_Mo_drawn.2.1 14 = .ok (.ireturn, 1) := by decide +kernel
theorem d_Mo_drawn_21 : decode m_Mo_drawn.2.1 21 = .ok (.invokestatic 78, 3) := by decide +kernel
theorem c_Mo_drawn_21 : mx_cs m_Mo_drawn m_Mo_in 78 3 [1046, 1047, 90, 1048] = true := by decide +kernel
theorem d_Mo_drawn_24 : decode m_Mo_drawn.2.1 24 = .ok (.ifCond .eq 25, 3) := by decide +kernel
theorem d_Mo_drawn_33 : decode m_Mo_drawn.2.1 33 = .ok (.invokestatic 78, 3) := by decide +kernel
theorem c_Mo_drawn_33 : mx_cs m_Mo_drawn m_Mo_in 78 3 [1046, 1047, 90, 1048] = true := by decide +kernel
theorem d_Mo_drawn_36 : decode m_Mo_drawn.2.1 36 = .ok (.ifCond .eq 13, 3) := by decide +kernel
theorem d_Mo_drawn_43 : decode m_Mo_drawn.2.1 43 = .ok (.invokestatic 78, 3) := by decide +kernel
theorem c_Mo_drawn_43 : mx_cs m_Mo_drawn m_Mo_in 78 3 [1046, 1047, 90, 1048] = true := by decide +kernel
theorem d_Mo_drawn_46 : decode m_Mo_drawn.2.1 46 = .ok (.ifCond .ne 6, 3) := by decide +kernel
theorem d_Mo_drawn_51 : decode m_Mo_drawn.2.1 51 = .ok (.ireturn, 1) := by decide +kernel
theorem d_Mo_drawn_53 : decode m_Mo_drawn.2.1 53 = .ok (.invokevirtual 279, 3) := by decide +kernel
theorem c_Mo_drawn_53 : mx_cv m_Mo_drawn m_Mo_layThen 279 0 [1302, 1304, 71, 90, 1305] = true := by decide +kernel
theorem d_Mo_drawn_66 : decode m_Mo_drawn.2.1 66 = .ok (.if_icmp .ge 136, 3) := by decide +kernel
theorem d_Mo_drawn_147 : decode m_Mo_drawn.2.1 147 = .ok (.invokestatic 226, 3) := by decide +kernel
theorem c_Mo_drawn_147 : mx_cs m_Mo_drawn m_Mo_may 226 5 [1144, 1145, 90, 1146] = true := by decide +kernel
theorem d_Mo_drawn_150 : decode m_Mo_drawn.2.1 150 = .ok (.ifCond .eq 46, 3) := by decide +kernel
theorem d_Mo_drawn_199 : decode m_Mo_drawn.2.1 199 = .ok (.goto (-136), 3) := by decide +kernel
theorem d_Mo_drawn_207 : decode m_Mo_drawn.2.1 207 = .ok (.invokevirtual 240, 3) := by decide +kernel
theorem c_Mo_drawn_207 : mx_cv m_Mo_drawn m_Mo_reckon 240 1 [1175, 1177, 54, 90, 1178] = true := by decide +kernel
theorem d_Mo_drawn_211 : decode m_Mo_drawn.2.1 211 = .ok (.ifCond .ne 24, 3) := by decide +kernel
theorem d_Mo_drawn_225 : decode m_Mo_drawn.2.1 225 = .ok (.invokevirtual 253, 3) := by decide +kernel
theorem c_Mo_drawn_225 : mx_cv m_Mo_drawn m_Mo_emptySet 253 1 [1237, 1239, 62, 90, 1240] = true := by decide +kernel
theorem d_Mo_drawn_228 : decode m_Mo_drawn.2.1 228 = .ok (.invokestatic 298, 3) := by decide +kernel
theorem c_Mo_drawn_228 : mx_cs m_Mo_drawn m_Mo_bits 298 1 [1318, 1319, 90, 1320] = true := by decide +kernel
theorem d_Mo_drawn_232 : decode m_Mo_drawn.2.1 232 = .ok (.goto 7, 3) := by decide +kernel
theorem d_Mo_drawn_239 : decode m_Mo_drawn.2.1 239 = .ok (.ireturn, 1) := by decide +kernel
theorem b_Mo_drop_0 : mx_ck m_Mo_drop 0 [(.aload_n 0, [], 0), (.iconst 0, [], nI 0), (.putfield 68, [10, 0, 0, 940], 0), (.iload_n 1, [], 0)] = some 6 := by decide +kernel
theorem b_Mo_drop_12 : mx_ck m_Mo_drop 12 [(.ldc 88, [1050], (-1000001))] = some 14 := by decide +kernel
theorem b_Mo_drop_15 : mx_ck m_Mo_drop 15 [(.aload_n 0, [], 0), (.iconst 0, [], nI 0), (.putfield 72, [10, 1, 0, 941], 0), (.aload_n 0, [], 0), (.getfield 7, [10, 2, 2, 942], 0), (.iload_n 1, [], 0), (.iaload, [], 0)] = some 26 := by decide +kernel
theorem b_Mo_drop_29 : mx_ck m_Mo_drop 29 [(.aload_n 0, [], 0), (.iconst 1, [], nI 1)] = some 31 := by decide +kernel
theorem b_Mo_drop_35 : mx_ck m_Mo_drop 35 [(.aload_n 0, [], 0), (.getfield 7, [10, 2, 2, 942], 0), (.iload_n 1, [], 0), (.iconst (-1), [], (-1)), (.iastore, [], 0), (.aload_n 0, [], 0), (.getfield 13, [10, 3, 3, 943], 0), (.iload_n 1, [], 0), (.iaload, [], 0)] = some 48 := by decide +kernel
theorem d_Mo_drop_6 : decode m_Mo_drop.2.1 6 = .ok (.invokestatic 82, 3) := by decide +kernel
theorem c_Mo_drop_6 : mx_cs m_Mo_drop m_Mo_isRow 82 1 [1042, 1043, 90, 1044] = true := by decide +kernel
theorem d_Mo_drop_9 : decode m_Mo_drop.2.1 9 = .ok (.ifCond .ne 6, 3) := by decide +kernel
theorem d_Mo_drop_14 : decode m_Mo_drop.2.1 14 = .ok (.ireturn, 1) := by decide +kernel
theorem d_Mo_drop_26 : decode m_Mo_drop.2.1 26 = .ok (.ifCond .ge 9, 3) := by decide +kernel
theorem d_Mo_drop_31 : decode m_Mo_drop.2.1 31 = .ok (.invokevirtual 89, 3) := by decide +kernel
theorem c_Mo_drop_31 : mx_cv m_Mo_drop m_Mo_finding 89 1 [1051, 1053, 38, 90, 1054] = true := by decide +kernel
theorem d_Mo_drop_34 : decode m_Mo_drop.2.1 34 = .ok (.ireturn, 1) := by decide +kernel
theorem d_Mo_drop_48 : decode m_Mo_drop.2.1 48 = .ok (.ireturn, 1) := by decide +kernel
theorem b_Mo_empties_0 : mx_ck m_Mo_empties 0 [(.aload_n 0, [], 0), (.iconst 0, [], nI 0), (.putfield 68, [10, 0, 0, 940], 0), (.aload_n 0, [], 0)] = some 6 := by decide +kernel
theorem b_Mo_empties_12 : mx_ck m_Mo_empties 12 [(.ldc 233, [1155], (-1000002))] = some 14 := by decide +kernel
theorem b_Mo_empties_15 : mx_ck m_Mo_empties 15 [(.aload_n 0, [], 0), (.aload_n 0, [], 0), (.getfield 19, [10, 5, 5, 945], 0)] = some 20 := by decide +kernel
theorem b_Mo_empties_23 : mx_ck m_Mo_empties 23 [(.aload_n 0, [], 0), (.aload_n 0, [], 0), (.getfield 19, [10, 5, 5, 945], 0)] = some 28 := by decide +kernel
theorem d_Mo_empties_6 : decode m_Mo_empties.2.1 6 = .ok (.invokevirtual 234, 3) := by decide +kernel
theorem c_Mo_empties_6 : mx_cv m_Mo_empties m_Mo_isThere 234 0 [1167, 1169, 52, 90, 1170] = true := by decide +kernel
theorem d_Mo_empties_9 : decode m_Mo_empties.2.1 9 = .ok (.ifCond .ne 6, 3) := by decide +kernel
theorem d_Mo_empties_14 : decode m_Mo_empties.2.1 14 = .ok (.ireturn, 1) := by decide +kernel
theorem d_Mo_empties_20 : decode m_Mo_empties.2.1 20 = .ok (.invokevirtual 240, 3) := by decide +kernel
theorem c_Mo_empties_20 : mx_cv m_Mo_empties m_Mo_reckon 240 1 [1175, 1177, 54, 90, 1178] = true := by decide +kernel
theorem d_Mo_empties_28 : decode m_Mo_empties.2.1 28 = .ok (.invokevirtual 253, 3) := by decide +kernel
theorem c_Mo_empties_28 : mx_cv m_Mo_empties m_Mo_emptySet 253 1 [1237, 1239, 62, 90, 1240] = true := by decide +kernel
theorem d_Mo_empties_31 : decode m_Mo_empties.2.1 31 = .ok (.ireturn, 1) := by decide +kernel
theorem b_Mo_emptySet_0 : mx_ck m_Mo_emptySet 0 [(.iconst 0, [], nI 0), (.istore_n 2, [], 0), (.iconst 0, [], nI 0), (.istore_n 3, [], 0)] = some 4 := by decide +kernel
theorem b_Mo_emptySet_4 : mx_ck m_Mo_emptySet 4 [(.iload_n 3, [], 0), (.aload_n 1, [], 0), (.iconst 0, [], nI 0), (.iaload, [], 0)] = some 8 := by decide +kernel
theorem b_Mo_emptySet_11 : mx_ck m_Mo_emptySet 11 [(.iload_n 2, [], 0), (.aload_n 0, [], 0), (.iload_n 3, [], 0)] = some 14 := by decide +kernel
theorem b_Mo_emptySet_20 : mx_ck m_Mo_emptySet 20 [(.iconst 1, [], nI 1), (.iload_n 3, [], 0), (.ishl, [], 0)] = some 23 := by decide +kernel
theorem b_Mo_emptySet_26 : mx_ck m_Mo_emptySet 26 [(.iconst 0, [], nI 0)] = some 27 := by decide +kernel
theorem b_Mo_emptySet_27 : mx_ck m_Mo_emptySet 27 [(.ior, [], 0), (.istore_n 2, [], 0), (.iinc 3 1, [], nI 1)] = some 32 := by decide +kernel
theorem b_Mo_emptySet_35 : mx_ck m_Mo_emptySet 35 [(.iload_n 2, [], 0)] = some 36 := by decide +kernel
theorem d_Mo_emptySet_8 : decode m_Mo_emptySet.2.1 8 = .ok (.if_icmp .ge 27, 3) := by decide +kernel
theorem d_Mo_emptySet_14 : decode m_Mo_emptySet.2.1 14 = .ok (.invokevirtual 250, 3) := by decide +kernel
theorem c_Mo_emptySet_14 : mx_cv m_Mo_emptySet m_Mo_isEmpty 250 1 [1241, 1243, 63, 90, 1244] = true := by decide +kernel
theorem d_Mo_emptySet_17 : decode m_Mo_emptySet.2.1 17 = .ok (.ifCond .eq 9, 3) := by decide +kernel
theorem d_Mo_emptySet_23 : decode m_Mo_emptySet.2.1 23 = .ok (.goto 4, 3) := by decide +kernel
theorem d_Mo_emptySet_32 : decode m_Mo_emptySet.2.1 32 = .ok (.goto (-28), 3) := by decide +kernel
theorem d_Mo_emptySet_36 : decode m_Mo_emptySet.2.1 36 = .ok (.ireturn, 1) := by decide +kernel
theorem b_Mo_ends_0 : mx_ck m_Mo_ends 0 [(.aload_n 0, [], 0), (.iconst 0, [], nI 0), (.putfield 68, [10, 0, 0, 940], 0), (.aload_n 0, [], 0), (.iload_n 1, [], 0)] = some 7 := by decide +kernel
theorem b_Mo_ends_13 : mx_ck m_Mo_ends 13 [(.iload_n 2, [], 0), (.i2l, [], 0), (.lconst 0, [0], 0), (.lconst 1, [1], 0)] = some 17 := by decide +kernel
theorem b_Mo_ends_23 : mx_ck m_Mo_ends 23 [(.ldc 88, [1050], (-1000001))] = some 25 := by decide +kernel
theorem b_Mo_ends_26 : mx_ck m_Mo_ends 26 [(.aload_n 0, [], 0), (.aload_n 0, [], 0), (.getfield 19, [10, 5, 5, 945], 0)] = some 31 := by decide +kernel
theorem b_Mo_ends_34 : mx_ck m_Mo_ends 34 [(.aload_n 0, [], 0), (.iload_n 1, [], 0)] = some 36 := by decide +kernel
theorem b_Mo_ends_42 : mx_ck m_Mo_ends 42 [(.aload_n 0, [], 0)] = some 43 := by decide +kernel
theorem b_Mo_ends_47 : mx_ck m_Mo_ends 47 [(.aload_n 0, [], 0), (.iload_n 1, [], 0)] = some 49 := by decide +kernel
theorem b_Mo_ends_52 : mx_ck m_Mo_ends 52 [(.iconst 2, [], nI 2)] = some 53 := by decide +kernel
theorem b_Mo_ends_56 : mx_ck m_Mo_ends 56 [(.iconst 0, [], nI 0)] = some 57 := by decide +kernel
theorem b_Mo_ends_58 : mx_ck m_Mo_ends 58 [(.aload_n 0, [], 0)] = some 59 := by decide +kernel
theorem b_Mo_ends_62 : mx_ck m_Mo_ends 62 [(.istore_n 3, [], 0), (.iconst 0, [], nI 0), (.istore 4, [], 0)] = some 66 := by decide +kernel
theorem b_Mo_ends_66 : mx_ck m_Mo_ends 66 [(.iload 4, [], 0), (.aload_n 0, [], 0), (.getfield 185, [10, 22, 0, 962], 0)] = some 72 := by decide +kernel
theorem b_Mo_ends_75 : mx_ck m_Mo_ends 75 [(.iconst 0, [], nI 0), (.istore 5, [], 0)] = some 78 := by decide +kernel
theorem b_Mo_ends_78 : mx_ck m_Mo_ends 78 [(.iload 5, [], 0), (.aload_n 0, [], 0), (.getfield 185, [10, 22, 0, 962], 0)] = some 84 := by decide +kernel
theorem b_Mo_ends_87 : mx_ck m_Mo_ends 87 [(.aload_n 0, [], 0), (.getfield 19, [10, 5, 5, 945], 0), (.aload_n 0, [], 0), (.getfield 40, [10, 21, 12, 961], 0), (.iload 4, [], 0), (.iaload, [], 0), (.aload_n 0, [], 0), (.getfield 40, [10, 21, 12, 961], 0), (.iload 5, [], 0), (.iaload, [], 0)] = some 105 := by decide +kernel
theorem b_Mo_ends_108 : mx_ck m_Mo_ends 108 [(.iload_n 1, [], 0)] = some 109 := by decide +kernel
theorem b_Mo_ends_115 : mx_ck m_Mo_ends 115 [(.iload_n 3, [], 0), (.aload_n 0, [], 0), (.getfield 40, [10, 21, 12, 961], 0), (.iload_n 2, [], 0)] = some 121 := by decide +kernel
theorem b_Mo_ends_124 : mx_ck m_Mo_ends 124 [(.iload 4, [], 0)] = some 126 := by decide +kernel
theorem b_Mo_ends_129 : mx_ck m_Mo_ends 129 [(.iload 5, [], 0)] = some 131 := by decide +kernel
theorem b_Mo_ends_131 : mx_ck m_Mo_ends 131 [(.iaload, [], 0), (.iand, [], 0), (.istore_n 3, [], 0)] = some 134 := by decide +kernel
theorem b_Mo_ends_134 : mx_ck m_Mo_ends 134 [(.iinc 5 1, [], nI 1)] = some 137 := by decide +kernel
theorem b_Mo_ends_140 : mx_ck m_Mo_ends 140 [(.iinc 4 1, [], nI 1)] = some 143 := by decide +kernel
theorem b_Mo_ends_146 : mx_ck m_Mo_ends 146 [(.iload_n 3, [], 0)] = some 147 := by decide +kernel
theorem d_Mo_ends_7 : decode m_Mo_ends.2.1 7 = .ok (.invokevirtual 221, 3) := by decide +kernel
theorem c_Mo_ends_7 : mx_cv m_Mo_ends m_Mo_isType 221 1 [1139, 1141, 50, 90, 1142] = true := by decide +kernel
theorem d_Mo_ends_10 : decode m_Mo_ends.2.1 10 = .ok (.ifCond .eq 13, 3) := by decide +kernel
theorem d_Mo_ends_17 : decode m_Mo_ends.2.1 17 = .ok (.invokestatic 78, 3) := by decide +kernel
theorem c_Mo_ends_17 : mx_cs m_Mo_ends m_Mo_in 78 3 [1046, 1047, 90, 1048] = true := by decide +kernel
theorem d_Mo_ends_20 : decode m_Mo_ends.2.1 20 = .ok (.ifCond .ne 6, 3) := by decide +kernel
theorem d_Mo_ends_25 : decode m_Mo_ends.2.1 25 = .ok (.ireturn, 1) := by decide +kernel
theorem d_Mo_ends_31 : decode m_Mo_ends.2.1 31 = .ok (.invokevirtual 240, 3) := by decide +kernel
theorem c_Mo_ends_31 : mx_cv m_Mo_ends m_Mo_reckon 240 1 [1175, 1177, 54, 90, 1178] = true := by decide +kernel
theorem d_Mo_ends_36 : decode m_Mo_ends.2.1 36 = .ok (.invokevirtual 250, 3) := by decide +kernel
theorem c_Mo_ends_36 : mx_cv m_Mo_ends m_Mo_isEmpty 250 1 [1241, 1243, 63, 90, 1244] = true := by decide +kernel
theorem d_Mo_ends_39 : decode m_Mo_ends.2.1 39 = .ok (.ifCond .eq 8, 3) := by decide +kernel
theorem d_Mo_ends_43 : decode m_Mo_ends.2.1 43 = .ok (.invokevirtual 257, 3) := by decide +kernel
theorem c_Mo_ends_43 : mx_cv m_Mo_ends m_Mo_everyType 257 0 [1257, 1259, 65, 90, 1260] = true := by decide +kernel
theorem d_Mo_ends_46 : decode m_Mo_ends.2.1 46 = .ok (.ireturn, 1) := by decide +kernel
theorem d_Mo_ends_49 : decode m_Mo_ends.2.1 49 = .ok (.invokevirtual 218, 3) := by decide +kernel
theorem c_Mo_ends_49 : mx_cv m_Mo_ends m_Mo_sortsOf 218 1 [1245, 1247, 64, 90, 1248] = true := by decide +kernel
theorem d_Mo_ends_53 : decode m_Mo_ends.2.1 53 = .ok (.if_icmp .eq 5, 3) := by decide +kernel
theorem d_Mo_ends_57 : decode m_Mo_ends.2.1 57 = .ok (.ireturn, 1) := by decide +kernel
theorem d_Mo_ends_59 : decode m_Mo_ends.2.1 59 = .ok (.invokevirtual 257, 3) := by decide +kernel
theorem c_Mo_ends_59 : mx_cv m_Mo_ends m_Mo_everyType 257 0 [1257, 1259, 65, 90, 1260] = true := by decide +kernel
theorem d_Mo_ends_72 : decode m_Mo_ends.2.1 72 = .ok (.if_icmp .ge 74, 3) := by decide +kernel
theorem d_Mo_ends_84 : decode m_Mo_ends.2.1 84 = .ok (.if_icmp .ge 56, 3) := by decide +kernel
theorem d_Mo_ends_105 : decode m_Mo_ends.2.1 105 = .ok (.invokestatic 215, 3) := by decide +kernel
theorem c_Mo_ends_105 : mx_cs m_Mo_ends m_Mo_pairCell 215 3 [1210, 1211, 90, 1212] = true := by decide +kernel
theorem d_Mo_ends_109 : decode m_Mo_ends.2.1 109 = .ok (.invokestatic 177, 3) := by decide +kernel
theorem c_Mo_ends_109 : mx_cs m_Mo_ends m_Mo_has 177 2 [1189, 1190, 90, 1191] = true := by decide +kernel
theorem d_Mo_ends_112 : decode m_Mo_ends.2.1 112 = .ok (.ifCond .eq 22, 3) := by decide +kernel
theorem d_Mo_ends_121 : decode m_Mo_ends.2.1 121 = .ok (.ifCond .ne 8, 3) := by decide +kernel
theorem d_Mo_ends_126 : decode m_Mo_ends.2.1 126 = .ok (.goto 5, 3) := by decide +kernel
theorem d_Mo_ends_137 : decode m_Mo_ends.2.1 137 = .ok (.goto (-59), 3) := by decide +kernel
theorem d_Mo_ends_143 : decode m_Mo_ends.2.1 143 = .ok (.goto (-77), 3) := by decide +kernel
theorem d_Mo_ends_147 : decode m_Mo_ends.2.1 147 = .ok (.ireturn, 1) := by decide +kernel
theorem b_Mo_everyType_0 : mx_ck m_Mo_everyType 0 [(.iconst 1, [], nI 1), (.aload_n 0, [], 0), (.getfield 19, [10, 5, 5, 945], 0), (.iconst 0, [], nI 0), (.iaload, [], 0), (.ishl, [], 0), (.iconst 1, [], nI 1), (.isub, [], 0)] = some 10 := by decide +kernel
theorem d_Mo_everyType_10 : decode m_Mo_everyType.2.1 10 = .ok (.ireturn, 1) := by decide +kernel
theorem b_Mo_failed_0 : mx_ck m_Mo_failed 0 [(.aload_n 0, [], 0), (.getfield 99, [10, 16, 0, 956], 0)] = some 4 := by decide +kernel
theorem b_Mo_failed_7 : mx_ck m_Mo_failed 7 [(.aload_n 0, [], 0), (.getfield 123, [10, 14, 0, 954], 0), (.iconst 1, [], nI 1)] = some 12 := by decide +kernel
theorem b_Mo_failed_15 : mx_ck m_Mo_failed 15 [(.aload_n 0, [], 0), (.iconst 1, [], nI 1)] = some 17 := by decide +kernel
theorem b_Mo_failed_20 : mx_ck m_Mo_failed 20 [(.aload_n 0, [], 0), (.iconst 0, [], nI 0), (.putfield 95, [10, 11, 0, 951], 0), (.aload_n 0, [], 0), (.aload_n 0, [], 0), (.getfield 99, [10, 16, 0, 956], 0)] = some 30 := by decide +kernel
theorem b_Mo_failed_33 : mx_ck m_Mo_failed 33 [(.aload_n 0, [], 0), (.getfield 99, [10, 16, 0, 956], 0)] = some 37 := by decide +kernel
theorem b_Mo_failed_40 : mx_ck m_Mo_failed 40 [(.aload_n 0, [], 0), (.getfield 137, [10, 18, 0, 958], 0)] = some 44 := by decide +kernel
theorem b_Mo_failed_44 : mx_ck m_Mo_failed 44 [(.putfield 137, [10, 18, 0, 958], 0), (.aload_n 0, [], 0), (.getfield 99, [10, 16, 0, 956], 0)] = some 51 := by decide +kernel
theorem b_Mo_failed_54 : mx_ck m_Mo_failed 54 [(.iconst 1, [], nI 1)] = some 55 := by decide +kernel
theorem b_Mo_failed_58 : mx_ck m_Mo_failed 58 [(.iconst 0, [], nI 0)] = some 59 := by decide +kernel
theorem d_Mo_failed_4 : decode m_Mo_failed.2.1 4 = .ok (.ifCond .ne 16, 3) := by decide +kernel
theorem d_Mo_failed_12 : decode m_Mo_failed.2.1 12 = .ok (.if_icmp .eq 8, 3) := by decide +kernel
theorem d_Mo_failed_17 : decode m_Mo_failed.2.1 17 = .ok (.invokevirtual 126, 3) := by decide +kernel
theorem c_Mo_failed_17 : mx_cv m_Mo_failed m_Mo_bad 126 1 [1103, 1105, 43, 90, 1106] = true := by decide +kernel
theorem d_Mo_failed_30 : decode m_Mo_failed.2.1 30 = .ok (.ifCond .le 10, 3) := by decide +kernel
theorem d_Mo_failed_37 : decode m_Mo_failed.2.1 37 = .ok (.goto 7, 3) := by decide +kernel
theorem d_Mo_failed_51 : decode m_Mo_failed.2.1 51 = .ok (.ifCond .le 7, 3) := by decide +kernel
theorem d_Mo_failed_55 : decode m_Mo_failed.2.1 55 = .ok (.goto 4, 3) := by decide +kernel
theorem d_Mo_failed_59 : decode m_Mo_failed.2.1 59 = .ok (.ireturn, 1) := by decide +kernel
theorem b_Mo_fault_0 : mx_ck m_Mo_fault 0 [(.aload_n 0, [], 0), (.iconst 0, [], nI 0), (.putfield 68, [10, 0, 0, 940], 0), (.aload_n 0, [], 0), (.getfield 137, [10, 18, 0, 958], 0)] = some 9 := by decide +kernel
theorem d_Mo_fault_9 : decode m_Mo_fault.2.1 9 = .ok (.ireturn, 1) := by decide +kernel
theorem b_Mo_feed_0 : mx_ck m_Mo_feed 0 [(.aload_n 0, [], 0), (.iconst 0, [], nI 0), (.putfield 68, [10, 0, 0, 940], 0), (.iload_n 1, [], 0), (.i2l, [], 0), (.lconst 0, [0], 0), (.ldc2_w 93, [255, 1072], 0)] = some 11 := by decide +kernel
theorem b_Mo_feed_17 : mx_ck m_Mo_feed 17 [(.ldc 88, [1050], (-1000001))] = some 19 := by decide +kernel
theorem b_Mo_feed_20 : mx_ck m_Mo_feed 20 [(.aload_n 0, [], 0), (.getfield 95, [10, 11, 0, 951], 0), (.bipush 80, [], nI 80)] = some 26 := by decide +kernel
theorem b_Mo_feed_29 : mx_ck m_Mo_feed 29 [(.ldc 98, [1073], (-1000003))] = some 31 := by decide +kernel
theorem b_Mo_feed_32 : mx_ck m_Mo_feed 32 [(.aload_n 0, [], 0), (.getfield 31, [10, 10, 9, 950], 0), (.aload_n 0, [], 0), (.getfield 95, [10, 11, 0, 951], 0), (.iload_n 1, [], 0), (.iastore, [], 0), (.aload_n 0, [], 0), (.dup, [], 0), (.getfield 95, [10, 11, 0, 951], 0), (.iconst 1, [], nI 1), (.iadd, [], 0), (.putfield 95, [10, 11, 0, 951], 0), (.aload_n 0, [], 0), (.getfield 95, [10, 11, 0, 951], 0)] = some 56 := by decide +kernel
theorem d_Mo_feed_11 : decode m_Mo_feed.2.1 11 = .ok (.invokestatic 78, 3) := by decide +kernel
theorem c_Mo_feed_11 : mx_cs m_Mo_feed m_Mo_in 78 3 [1046, 1047, 90, 1048] = true := by decide +kernel
theorem d_Mo_feed_14 : decode m_Mo_feed.2.1 14 = .ok (.ifCond .ne 6, 3) := by decide +kernel
theorem d_Mo_feed_19 : decode m_Mo_feed.2.1 19 = .ok (.ireturn, 1) := by decide +kernel
theorem d_Mo_feed_26 : decode m_Mo_feed.2.1 26 = .ok (.if_icmp .ne 6, 3) := by decide +kernel
theorem d_Mo_feed_31 : decode m_Mo_feed.2.1 31 = .ok (.ireturn, 1) := by decide +kernel
theorem d_Mo_feed_56 : decode m_Mo_feed.2.1 56 = .ok (.ireturn, 1) := by decide +kernel
theorem b_Mo_finding_0 : mx_ck m_Mo_finding 0 [(.aload_n 0, [], 0), (.iload_n 1, [], 0), (.putfield 72, [10, 1, 0, 941], 0), (.ldc 75, [1055], (-1000010)), (.iload_n 1, [], 0), (.isub, [], 0)] = some 9 := by decide +kernel
theorem d_Mo_finding_9 : decode m_Mo_finding.2.1 9 = .ok (.ireturn, 1) := by decide +kernel
theorem b_Mo_functionCell_0 : mx_ck m_Mo_functionCell 0 [(.iconst 0, [], nI 0), (.istore_n 2, [], 0), (.iconst 0, [], nI 0), (.istore_n 3, [], 0)] = some 4 := by decide +kernel
theorem b_Mo_functionCell_4 : mx_ck m_Mo_functionCell 4 [(.iload_n 3, [], 0), (.aload_n 0, [], 0), (.iconst 0, [], nI 0), (.iaload, [], 0)] = some 8 := by decide +kernel
theorem b_Mo_functionCell_11 : mx_ck m_Mo_functionCell 11 [(.iload_n 2, [], 0), (.aload_n 0, [], 0), (.iload_n 3, [], 0), (.iconst 0, [], nI 0)] = some 15 := by decide +kernel
theorem b_Mo_functionCell_18 : mx_ck m_Mo_functionCell 18 [(.iconst 2, [], nI 2)] = some 19 := by decide +kernel
theorem b_Mo_functionCell_22 : mx_ck m_Mo_functionCell 22 [(.iload_n 1, [], 0), (.iload_n 3, [], 0)] = some 24 := by decide +kernel
theorem b_Mo_functionCell_30 : mx_ck m_Mo_functionCell 30 [(.iconst 1, [], nI 1), (.iload_n 3, [], 0), (.ishl, [], 0)] = some 33 := by decide +kernel
theorem b_Mo_functionCell_36 : mx_ck m_Mo_functionCell 36 [(.iconst 0, [], nI 0)] = some 37 := by decide +kernel
theorem b_Mo_functionCell_37 : mx_ck m_Mo_functionCell 37 [(.ior, [], 0), (.istore_n 2, [], 0), (.iinc 3 1, [], nI 1)] = some 42 := by decide +kernel
theorem b_Mo_functionCell_45 : mx_ck m_Mo_functionCell 45 [(.aload_n 0, [], 0), (.iload_n 2, [], 0)] = some 47 := by decide +kernel
theorem d_Mo_functionCell_8 : decode m_Mo_functionCell.2.1 8 = .ok (.if_icmp .ge 37, 3) := by decide +kernel
theorem d_Mo_functionCell_15 : decode m_Mo_functionCell.2.1 15 = .ok (.invokestatic 173, 3) := by decide +kernel
theorem c_Mo_functionCell_15 : mx_cs m_Mo_functionCell m_Mo_of 173 3 [1160, 1161, 90, 1162] = true := by decide +kernel
theorem d_Mo_functionCell_19 : decode m_Mo_functionCell.2.1 19 = .ok (.if_icmp .ne 17, 3) := by decide +kernel
theorem d_Mo_functionCell_24 : decode m_Mo_functionCell.2.1 24 = .ok (.invokestatic 177, 3) := by decide +kernel
theorem c_Mo_functionCell_24 : mx_cs m_Mo_functionCell m_Mo_has 177 2 [1189, 1190, 90, 1191] = true := by decide +kernel
theorem d_Mo_functionCell_27 : decode m_Mo_functionCell.2.1 27 = .ok (.ifCond .ne 9, 3) := by decide +kernel
theorem d_Mo_functionCell_33 : decode m_Mo_functionCell.2.1 33 = .ok (.goto 4, 3) := by decide +kernel
theorem d_Mo_functionCell_42 : decode m_Mo_functionCell.2.1 42 = .ok (.goto (-38), 3) := by decide +kernel
theorem d_Mo_functionCell_47 : decode m_Mo_functionCell.2.1 47 = .ok (.invokestatic 181, 3) := by decide +kernel
theorem c_Mo_functionCell_47 : mx_cs m_Mo_functionCell m_Mo_cellOf 181 2 [1186, 1187, 90, 1188] = true := by decide +kernel
theorem d_Mo_functionCell_50 : decode m_Mo_functionCell.2.1 50 = .ok (.ireturn, 1) := by decide +kernel
theorem b_Mo_gather_0 : mx_ck m_Mo_gather 0 [(.aload_n 0, [], 0), (.iconst 0, [], nI 0), (.putfield 185, [10, 22, 0, 962], 0), (.iconst 0, [], nI 0), (.istore_n 1, [], 0)] = some 7 := by decide +kernel
theorem b_Mo_gather_7 : mx_ck m_Mo_gather 7 [(.iload_n 1, [], 0), (.sipush 256, [], nI 256)] = some 11 := by decide +kernel
theorem b_Mo_gather_14 : mx_ck m_Mo_gather 14 [(.aload_n 0, [], 0), (.getfield 34, [10, 19, 10, 959], 0), (.iload_n 1, [], 0), (.iaload, [], 0)] = some 20 := by decide +kernel
theorem b_Mo_gather_23 : mx_ck m_Mo_gather 23 [(.aload_n 0, [], 0), (.getfield 40, [10, 21, 12, 961], 0), (.aload_n 0, [], 0), (.getfield 185, [10, 22, 0, 962], 0), (.iload_n 1, [], 0), (.iastore, [], 0), (.aload_n 0, [], 0), (.dup, [], 0), (.getfield 185, [10, 22, 0, 962], 0), (.iconst 1, [], nI 1), (.iadd, [], 0), (.putfield 185, [10, 22, 0, 962], 0)] = some 43 := by decide +kernel
theorem b_Mo_gather_43 : mx_ck m_Mo_gather 43 [(.iinc 1 1, [], nI 1)] = some 46 := by decide +kernel
theorem d_Mo_gather_11 : decode m_Mo_gather.2.1 11 = .ok (.if_icmp .ge 38, 3) := by decide +kernel
theorem d_Mo_gather_20 : decode m_Mo_gather.2.1 20 = .ok (.ifCond .le 23, 3) := by decide +kernel
theorem d_Mo_gather_46 : decode m_Mo_gather.2.1 46 = .ok (.goto (-39), 3) := by decide +kernel
theorem d_Mo_gather_49 : decode m_Mo_gather.2.1 49 = .ok (.return_, 1) := by decide +kernel
theorem b_Mo_goOn_0 : mx_ck m_Mo_goOn 0 [(.aload_n 0, [], 0), (.getfield 34, [10, 19, 10, 959], 0), (.iload_n 2, [], 0), (.iaload, [], 0), (.iload_n 3, [], 0), (.iconst 1, [], nI 1), (.isub, [], 0)] = some 9 := by decide +kernel
theorem b_Mo_goOn_12 : mx_ck m_Mo_goOn 12 [(.iconst 1, [], nI 1)] = some 13 := by decide +kernel
theorem b_Mo_goOn_16 : mx_ck m_Mo_goOn 16 [(.iconst 0, [], nI 0)] = some 17 := by decide +kernel
theorem b_Mo_goOn_17 : mx_ck m_Mo_goOn 17 [(.istore 4, [], 0), (.iload 4, [], 0)] = some 21 := by decide +kernel
theorem b_Mo_goOn_24 : mx_ck m_Mo_goOn 24 [(.aload_n 0, [], 0), (.getfield 43, [10, 23, 13, 963], 0), (.aload_n 1, [], 0), (.iload_n 2, [], 0), (.iconst (-1), [], (-1))] = some 31 := by decide +kernel
theorem b_Mo_goOn_34 : mx_ck m_Mo_goOn 34 [(.iconst 1, [], nI 1), (.bastore, [], 0)] = some 36 := by decide +kernel
theorem b_Mo_goOn_36 : mx_ck m_Mo_goOn 36 [(.iconst 0, [], nI 0), (.istore 5, [], 0)] = some 39 := by decide +kernel
theorem b_Mo_goOn_39 : mx_ck m_Mo_goOn 39 [(.iload 5, [], 0), (.aload_n 0, [], 0), (.getfield 185, [10, 22, 0, 962], 0)] = some 45 := by decide +kernel
theorem b_Mo_goOn_48 : mx_ck m_Mo_goOn 48 [(.aload_n 0, [], 0), (.getfield 40, [10, 21, 12, 961], 0), (.iload 5, [], 0), (.iaload, [], 0), (.istore 6, [], 0), (.iload 4, [], 0)] = some 59 := by decide +kernel
theorem b_Mo_goOn_62 : mx_ck m_Mo_goOn 62 [(.aload_n 0, [], 0), (.getfield 34, [10, 19, 10, 959], 0), (.iload 6, [], 0), (.iaload, [], 0), (.iload_n 3, [], 0), (.iconst 1, [], nI 1), (.isub, [], 0)] = some 72 := by decide +kernel
theorem b_Mo_goOn_75 : mx_ck m_Mo_goOn 75 [(.aload_n 0, [], 0), (.aload_n 1, [], 0), (.iload_n 2, [], 0), (.iload 6, [], 0)] = some 80 := by decide +kernel
theorem b_Mo_goOn_83 : mx_ck m_Mo_goOn 83 [(.iconst 2, [], nI 2), (.iload_n 3, [], 0)] = some 85 := by decide +kernel
theorem b_Mo_goOn_88 : mx_ck m_Mo_goOn 88 [(.aload_n 0, [], 0), (.getfield 43, [10, 23, 13, 963], 0), (.aload_n 1, [], 0), (.iload_n 2, [], 0), (.iload 6, [], 0)] = some 96 := by decide +kernel
theorem b_Mo_goOn_99 : mx_ck m_Mo_goOn 99 [(.iconst 1, [], nI 1), (.bastore, [], 0)] = some 101 := by decide +kernel
theorem b_Mo_goOn_101 : mx_ck m_Mo_goOn 101 [(.iinc 5 1, [], nI 1)] = some 104 := by decide +kernel
theorem d_Mo_goOn_9 : decode m_Mo_goOn.2.1 9 = .ok (.if_icmp .ne 7, 3) := by decide +kernel
theorem d_Mo_goOn_13 : decode m_Mo_goOn.2.1 13 = .ok (.goto 4, 3) := by decide +kernel
theorem d_Mo_goOn_21 : decode m_Mo_goOn.2.1 21 = .ok (.ifCond .eq 15, 3) := by decide +kernel
theorem d_Mo_goOn_31 : decode m_Mo_goOn.2.1 31 = .ok (.invokestatic 188, 3) := by decide +kernel
theorem c_Mo_goOn_31 : mx_cs m_Mo_goOn m_Mo_breaks 188 3 [1207, 1208, 90, 1209] = true := by decide +kernel
theorem d_Mo_goOn_45 : decode m_Mo_goOn.2.1 45 = .ok (.if_icmp .ge 62, 3) := by decide +kernel
theorem d_Mo_goOn_59 : decode m_Mo_goOn.2.1 59 = .ok (.ifCond .ne 16, 3) := by decide +kernel
theorem d_Mo_goOn_72 : decode m_Mo_goOn.2.1 72 = .ok (.if_icmp .ne 29, 3) := by decide +kernel
theorem d_Mo_goOn_80 : decode m_Mo_goOn.2.1 80 = .ok (.invokestatic 215, 3) := by decide +kernel
theorem c_Mo_goOn_80 : mx_cs m_Mo_goOn m_Mo_pairCell 215 3 [1210, 1211, 90, 1212] = true := by decide +kernel
theorem d_Mo_goOn_85 : decode m_Mo_goOn.2.1 85 = .ok (.invokevirtual 201, 3) := by decide +kernel
theorem c_Mo_goOn_85 : mx_cv m_Mo_goOn m_Mo_comes 201 3 [1192, 1194, 56, 90, 1195] = true := by decide +kernel
theorem d_Mo_goOn_96 : decode m_Mo_goOn.2.1 96 = .ok (.invokestatic 188, 3) := by decide +kernel
theorem c_Mo_goOn_96 : mx_cs m_Mo_goOn m_Mo_breaks 188 3 [1207, 1208, 90, 1209] = true := by decide +kernel
theorem d_Mo_goOn_104 : decode m_Mo_goOn.2.1 104 = .ok (.goto (-65), 3) := by decide +kernel
theorem d_Mo_goOn_107 : decode m_Mo_goOn.2.1 107 = .ok (.return_, 1) := by decide +kernel
theorem b_Mo_has_0 : mx_ck m_Mo_has 0 [(.iload_n 0, [], 0), (.iload_n 1, [], 0), (.ishr, [], 0), (.iconst 1, [], nI 1), (.iand, [], 0), (.iconst 1, [], nI 1)] = some 6 := by decide +kernel
theorem b_Mo_has_9 : mx_ck m_Mo_has 9 [(.iconst 1, [], nI 1)] = some 10 := by decide +kernel
theorem b_Mo_has_13 : mx_ck m_Mo_has 13 [(.iconst 0, [], nI 0)] = some 14 := by decide +kernel
theorem d_Mo_has_6 : decode m_Mo_has.2.1 6 = .ok (.if_icmp .ne 7, 3) := by decide +kernel
theorem d_Mo_has_10 : decode m_Mo_has.2.1 10 = .ok (.goto 4, 3) := by decide +kernel
theorem d_Mo_has_14 : decode m_Mo_has.2.1 14 = .ok (.ireturn, 1) := by decide +kernel
theorem b_Mo_house_0 : mx_ck m_Mo_house 0 [(.aload_n 0, [], 0), (.iconst 0, [], nI 0), (.putfield 68, [10, 0, 0, 940], 0), (.aload_n 0, [], 0)] = some 6 := by decide +kernel
theorem b_Mo_house_9 : mx_ck m_Mo_house 9 [(.iconst 0, [], nI 0), (.istore_n 1, [], 0)] = some 11 := by decide +kernel
theorem b_Mo_house_11 : mx_ck m_Mo_house 11 [(.iload_n 1, [], 0), (.bipush 26, [], nI 26)] = some 14 := by decide +kernel
theorem b_Mo_house_17 : mx_ck m_Mo_house 17 [(.aload_n 0, [], 0), (.getfield 22, [10, 6, 6, 946], 0), (.iload_n 1, [], 0), (.iconst 0, [], nI 0), (.iastore, [], 0), (.iinc 1 1, [], nI 1)] = some 27 := by decide +kernel
theorem b_Mo_house_30 : mx_ck m_Mo_house 30 [(.aload_n 0, [], 0), (.aload_n 0, [], 0), (.bipush 115, [], nI 115)] = some 34 := by decide +kernel
theorem b_Mo_house_40 : mx_ck m_Mo_house 40 [(.aload_n 0, [], 0), (.getfield 22, [10, 6, 6, 946], 0), (.iconst 1, [], nI 1), (.aload_n 0, [], 0), (.iconst 1, [], nI 1), (.iconst 4, [], nI 4)] = some 48 := by decide +kernel
theorem b_Mo_house_51 : mx_ck m_Mo_house 51 [(.iastore, [], 0), (.aload_n 0, [], 0), (.bipush 59, [], nI 59)] = some 55 := by decide +kernel
theorem b_Mo_house_58 : mx_ck m_Mo_house 58 [(.aload_n 0, [], 0)] = some 59 := by decide +kernel
theorem b_Mo_house_65 : mx_ck m_Mo_house 65 [(.aload_n 0, [], 0), (.iconst 1, [], nI 1)] = some 67 := by decide +kernel
theorem b_Mo_house_70 : mx_ck m_Mo_house 70 [(.aload_n 0, [], 0)] = some 71 := by decide +kernel
theorem b_Mo_house_77 : mx_ck m_Mo_house 77 [(.aload_n 0, [], 0)] = some 78 := by decide +kernel
theorem b_Mo_house_84 : mx_ck m_Mo_house 84 [(.aload_n 0, [], 0), (.getfield 99, [10, 16, 0, 956], 0)] = some 88 := by decide +kernel
theorem b_Mo_house_91 : mx_ck m_Mo_house 91 [(.aload_n 0, [], 0), (.getfield 123, [10, 14, 0, 954], 0), (.iconst 1, [], nI 1)] = some 96 := by decide +kernel
theorem b_Mo_house_99 : mx_ck m_Mo_house 99 [(.aload_n 0, [], 0)] = some 100 := by decide +kernel
theorem b_Mo_house_106 : mx_ck m_Mo_house 106 [(.aload_n 0, [], 0), (.iconst 4, [], nI 4)] = some 108 := by decide +kernel
theorem b_Mo_house_111 : mx_ck m_Mo_house 111 [(.aload_n 0, [], 0)] = some 112 := by decide +kernel
theorem b_Mo_house_118 : mx_ck m_Mo_house 118 [(.ldc 169, [1134], (-1000100)), (.aload_n 0, [], 0), (.getfield 105, [10, 17, 0, 957], 0), (.isub, [], 0)] = some 125 := by decide +kernel
theorem b_Mo_house_126 : mx_ck m_Mo_house 126 [(.aload_n 0, [], 0), (.iconst 0, [], nI 0), (.putfield 170, [10, 9, 0, 949], 0), (.iconst 0, [], nI 0), (.istore_n 1, [], 0)] = some 133 := by decide +kernel
theorem b_Mo_house_133 : mx_ck m_Mo_house 133 [(.iload_n 1, [], 0), (.bipush 26, [], nI 26)] = some 136 := by decide +kernel
theorem b_Mo_house_139 : mx_ck m_Mo_house 139 [(.aload_n 0, [], 0), (.getfield 19, [10, 5, 5, 945], 0), (.iload_n 1, [], 0), (.aload_n 0, [], 0), (.getfield 22, [10, 6, 6, 946], 0), (.iload_n 1, [], 0), (.iaload, [], 0), (.iastore, [], 0), (.iinc 1 1, [], nI 1)] = some 154 := by decide +kernel
theorem b_Mo_house_157 : mx_ck m_Mo_house 157 [(.aload_n 0, [], 0), (.getfield 19, [10, 5, 5, 945], 0), (.iconst 0, [], nI 0), (.iaload, [], 0)] = some 163 := by decide +kernel
theorem d_Mo_house_6 : decode m_Mo_house.2.1 6 = .ok (.invokevirtual 150, 3) := by decide +kernel
theorem c_Mo_house_6 : mx_cv m_Mo_house m_Mo_begin 150 0 [1082, 1084, 39, 90, 1085] = true := by decide +kernel
theorem d_Mo_house_14 : decode m_Mo_house.2.1 14 = .ok (.if_icmp .ge 16, 3) := by decide +kernel
theorem d_Mo_house_27 : decode m_Mo_house.2.1 27 = .ok (.goto (-16), 3) := by decide +kernel
theorem d_Mo_house_34 : decode m_Mo_house.2.1 34 = .ok (.invokevirtual 153, 3) := by decide +kernel
theorem c_Mo_house_34 : mx_cv m_Mo_house m_Mo_isLetter 153 1 [1095, 1097, 41, 90, 1098] = true := by decide +kernel
theorem d_Mo_house_37 : decode m_Mo_house.2.1 37 = .ok (.invokevirtual 133, 3) := by decide +kernel
theorem c_Mo_house_37 : mx_cv m_Mo_house m_Mo_must 133 1 [1099, 1101, 42, 90, 1102] = true := by decide +kernel
theorem d_Mo_house_48 : decode m_Mo_house.2.1 48 = .ok (.invokevirtual 143, 3) := by decide +kernel
theorem c_Mo_house_48 : mx_cv m_Mo_house m_Mo_number 143 2 [1107, 1109, 44, 90, 1110] = true := by decide +kernel
theorem d_Mo_house_55 : decode m_Mo_house.2.1 55 = .ok (.invokevirtual 147, 3) := by decide +kernel
theorem c_Mo_house_55 : mx_cv m_Mo_house m_Mo_mustSign 147 1 [1111, 1113, 45, 90, 1114] = true := by decide +kernel
theorem d_Mo_house_59 : decode m_Mo_house.2.1 59 = .ok (.invokevirtual 156, 3) := by decide +kernel
theorem c_Mo_house_59 : mx_cv m_Mo_house m_Mo_isSort 156 0 [1115, 1117, 46, 90, 1118] = true := by decide +kernel
theorem d_Mo_house_62 : decode m_Mo_house.2.1 62 = .ok (.ifCond .ne 8, 3) := by decide +kernel
theorem d_Mo_house_67 : decode m_Mo_house.2.1 67 = .ok (.invokevirtual 126, 3) := by decide +kernel
theorem c_Mo_house_67 : mx_cv m_Mo_house m_Mo_bad 126 1 [1103, 1105, 43, 90, 1106] = true := by decide +kernel
theorem d_Mo_house_71 : decode m_Mo_house.2.1 71 = .ok (.invokevirtual 156, 3) := by decide +kernel
theorem c_Mo_house_71 : mx_cv m_Mo_house m_Mo_isSort 156 0 [1115, 1117, 46, 90, 1118] = true := by decide +kernel
theorem d_Mo_house_74 : decode m_Mo_house.2.1 74 = .ok (.ifCond .eq 10, 3) := by decide +kernel
theorem d_Mo_house_78 : decode m_Mo_house.2.1 78 = .ok (.invokevirtual 160, 3) := by decide +kernel
theorem c_Mo_house_78 : mx_cv m_Mo_house m_Mo_readType 160 0 [1122, 1124, 47, 90, 1125] = true := by decide +kernel
theorem d_Mo_house_81 : decode m_Mo_house.2.1 81 = .ok (.goto (-11), 3) := by decide +kernel
theorem d_Mo_house_88 : decode m_Mo_house.2.1 88 = .ok (.ifCond .ne 23, 3) := by decide +kernel
theorem d_Mo_house_96 : decode m_Mo_house.2.1 96 = .ok (.if_icmp .ne 15, 3) := by decide +kernel
theorem d_Mo_house_100 : decode m_Mo_house.2.1 100 = .ok (.invokevirtual 163, 3) := by decide +kernel
theorem c_Mo_house_100 : mx_cv m_Mo_house m_Mo_areNamed 163 0 [1126, 1128, 48, 90, 1129] = true := by decide +kernel
theorem d_Mo_house_103 : decode m_Mo_house.2.1 103 = .ok (.ifCond .ne 8, 3) := by decide +kernel
theorem d_Mo_house_108 : decode m_Mo_house.2.1 108 = .ok (.invokevirtual 126, 3) := by decide +kernel
theorem c_Mo_house_108 : mx_cv m_Mo_house m_Mo_bad 126 1 [1103, 1105, 43, 90, 1106] = true := by decide +kernel
theorem d_Mo_house_112 : decode m_Mo_house.2.1 112 = .ok (.invokevirtual 166, 3) := by decide +kernel
theorem c_Mo_house_112 : mx_cv m_Mo_house m_Mo_failed 166 0 [1130, 1132, 49, 90, 1133] = true := by decide +kernel
theorem d_Mo_house_115 : decode m_Mo_house.2.1 115 = .ok (.ifCond .eq 11, 3) := by decide +kernel
theorem d_Mo_house_125 : decode m_Mo_house.2.1 125 = .ok (.ireturn, 1) := by decide +kernel
theorem d_Mo_house_136 : decode m_Mo_house.2.1 136 = .ok (.if_icmp .ge 21, 3) := by decide +kernel
theorem d_Mo_house_154 : decode m_Mo_house.2.1 154 = .ok (.goto (-21), 3) := by decide +kernel
theorem d_Mo_house_163 : decode m_Mo_house.2.1 163 = .ok (.ireturn, 1) := by decide +kernel
theorem b_Mo_image_0 : mx_ck m_Mo_image 0 [(.aload_n 0, [], 0), (.iconst 0, [], nI 0), (.putfield 68, [10, 0, 0, 940], 0), (.iload_n 1, [], 0), (.i2l, [], 0), (.lconst 0, [0], 0), (.lconst 1, [1], 0)] = some 9 := by decide +kernel
theorem b_Mo_image_15 : mx_ck m_Mo_image 15 [(.ldc 88, [1050], (-1000001))] = some 17 := by decide +kernel
theorem b_Mo_image_18 : mx_ck m_Mo_image 18 [(.aload_n 0, [], 0)] = some 19 := by decide +kernel
theorem b_Mo_image_25 : mx_ck m_Mo_image 25 [(.ldc 233, [1155], (-1000002))] = some 27 := by decide +kernel
theorem b_Mo_image_28 : mx_ck m_Mo_image 28 [(.iconst 0, [], nI 0), (.istore_n 2, [], 0)] = some 30 := by decide +kernel
theorem b_Mo_image_30 : mx_ck m_Mo_image 30 [(.iload_n 2, [], 0), (.bipush 26, [], nI 26)] = some 33 := by decide +kernel
theorem b_Mo_image_36 : mx_ck m_Mo_image 36 [(.aload_n 0, [], 0), (.getfield 62, [10, 29, 19, 969], 0), (.bipush 26, [], nI 26), (.iload_n 1, [], 0), (.imul, [], 0), (.iload_n 2, [], 0), (.iadd, [], 0), (.aload_n 0, [], 0), (.getfield 19, [10, 5, 5, 945], 0), (.iload_n 2, [], 0), (.iaload, [], 0), (.iastore, [], 0), (.iinc 2 1, [], nI 1)] = some 56 := by decide +kernel
theorem b_Mo_image_59 : mx_ck m_Mo_image 59 [(.aload_n 0, [], 0), (.getfield 59, [10, 28, 18, 968], 0), (.iload_n 1, [], 0), (.iconst 1, [], nI 1), (.bastore, [], 0), (.iconst 1, [], nI 1)] = some 67 := by decide +kernel
theorem d_Mo_image_9 : decode m_Mo_image.2.1 9 = .ok (.invokestatic 78, 3) := by decide +kernel
theorem c_Mo_image_9 : mx_cs m_Mo_image m_Mo_in 78 3 [1046, 1047, 90, 1048] = true := by decide +kernel
theorem d_Mo_image_12 : decode m_Mo_image.2.1 12 = .ok (.ifCond .ne 6, 3) := by decide +kernel
theorem d_Mo_image_17 : decode m_Mo_image.2.1 17 = .ok (.ireturn, 1) := by decide +kernel
theorem d_Mo_image_19 : decode m_Mo_image.2.1 19 = .ok (.invokevirtual 234, 3) := by decide +kernel
theorem c_Mo_image_19 : mx_cv m_Mo_image m_Mo_isThere 234 0 [1167, 1169, 52, 90, 1170] = true := by decide +kernel
theorem d_Mo_image_22 : decode m_Mo_image.2.1 22 = .ok (.ifCond .ne 6, 3) := by decide +kernel
theorem d_Mo_image_27 : decode m_Mo_image.2.1 27 = .ok (.ireturn, 1) := by decide +kernel
theorem d_Mo_image_33 : decode m_Mo_image.2.1 33 = .ok (.if_icmp .ge 26, 3) := by decide +kernel
theorem d_Mo_image_56 : decode m_Mo_image.2.1 56 = .ok (.goto (-26), 3) := by decide +kernel
theorem d_Mo_image_67 : decode m_Mo_image.2.1 67 = .ok (.ireturn, 1) := by decide +kernel
theorem b_Mo_in_0 : mx_ck m_Mo_in 0 [(.lload_n 0, [], 0), (.lload_n 2, [], 0), (.lcmp, [], 0)] = some 3 := by decide +kernel
theorem b_Mo_in_6 : mx_ck m_Mo_in 6 [(.lload_n 0, [], 0), (.lload 4, [], 0), (.lcmp, [], 0)] = some 10 := by decide +kernel
theorem b_Mo_in_13 : mx_ck m_Mo_in 13 [(.iconst 1, [], nI 1)] = some 14 := by decide +kernel
theorem b_Mo_in_17 : mx_ck m_Mo_in 17 [(.iconst 0, [], nI 0)] = some 18 := by decide +kernel
theorem d_Mo_in_3 : decode m_Mo_in.2.1 3 = .ok (.ifCond .lt 14, 3) := by decide +kernel
theorem d_Mo_in_10 : decode m_Mo_in.2.1 10 = .ok (.ifCond .gt 7, 3) := by decide +kernel
theorem d_Mo_in_14 : decode m_Mo_in.2.1 14 = .ok (.goto 4, 3) := by decide +kernel
theorem d_Mo_in_18 : decode m_Mo_in.2.1 18 = .ok (.ireturn, 1) := by decide +kernel
theorem b_Mo_init_0 : mx_ck m_Mo_init 0 [(.aload_n 0, [], 0)] = some 1 := by decide +kernel
theorem b_Mo_init_4 : mx_ck m_Mo_init 4 [(.aload_n 0, [], 0), (.bipush 8, [], nI 8)] = some 7 := by decide +kernel
theorem b_Mo_init_9 : mx_ck m_Mo_init 9 [(.dup, [], 0), (.iconst 0, [], nI 0), (.iconst (-1), [], (-1)), (.iastore, [], 0), (.dup, [], 0), (.iconst 1, [], nI 1), (.iconst (-1), [], (-1)), (.iastore, [], 0), (.dup, [], 0), (.iconst 2, [], nI 2), (.iconst (-1), [], (-1)), (.iastore, [], 0), (.dup, [], 0), (.iconst 3, [], nI 3), (.iconst (-1), [], (-1)), (.iastore, [], 0), (.dup, [], 0), (.iconst 4, [], nI 4), (.iconst (-1), [], (-1)), (.iastore, [], 0), (.dup, [], 0), (.iconst 5, [], nI 5), (.iconst (-1), [], (-1)), (.iastore, [], 0), (.dup, [], 0), (.bipush 6, [], nI 6), (.iconst (-1), [], (-1)), (.iastore, [], 0), (.dup, [], 0), (.bipush 7, [], nI 7), (.iconst (-1), [], (-1)), (.iastore, [], 0)] = some 43 := by decide +kernel
theorem b_Mo_init_46 : mx_ck m_Mo_init 46 [(.aload_n 0, [], 0), (.bipush 8, [], nI 8)] = some 49 := by decide +kernel
theorem b_Mo_init_54 : mx_ck m_Mo_init 54 [(.aload_n 0, [], 0), (.sipush 320, [], nI 320)] = some 58 := by decide +kernel
theorem b_Mo_init_63 : mx_ck m_Mo_init 63 [(.aload_n 0, [], 0), (.bipush 26, [], nI 26)] = some 66 := by decide +kernel
theorem b_Mo_init_71 : mx_ck m_Mo_init 71 [(.aload_n 0, [], 0), (.bipush 26, [], nI 26)] = some 74 := by decide +kernel
theorem b_Mo_init_79 : mx_ck m_Mo_init 79 [(.aload_n 0, [], 0), (.bipush 26, [], nI 26)] = some 82 := by decide +kernel
theorem b_Mo_init_87 : mx_ck m_Mo_init 87 [(.aload_n 0, [], 0), (.sipush 624, [], nI 624)] = some 91 := by decide +kernel
theorem b_Mo_init_96 : mx_ck m_Mo_init 96 [(.aload_n 0, [], 0), (.bipush 80, [], nI 80)] = some 99 := by decide +kernel
theorem b_Mo_init_104 : mx_ck m_Mo_init 104 [(.aload_n 0, [], 0), (.sipush 256, [], nI 256)] = some 108 := by decide +kernel
theorem b_Mo_init_113 : mx_ck m_Mo_init 113 [(.aload_n 0, [], 0), (.sipush 256, [], nI 256)] = some 117 := by decide +kernel
theorem b_Mo_init_122 : mx_ck m_Mo_init 122 [(.aload_n 0, [], 0), (.sipush 256, [], nI 256)] = some 126 := by decide +kernel
theorem b_Mo_init_131 : mx_ck m_Mo_init 131 [(.aload_n 0, [], 0), (.sipush 512, [], nI 512)] = some 135 := by decide +kernel
theorem b_Mo_init_140 : mx_ck m_Mo_init 140 [(.aload_n 0, [], 0), (.sipush 512, [], nI 512)] = some 144 := by decide +kernel
theorem b_Mo_init_149 : mx_ck m_Mo_init 149 [(.aload_n 0, [], 0), (.bipush 26, [], nI 26)] = some 152 := by decide +kernel
theorem b_Mo_init_157 : mx_ck m_Mo_init 157 [(.aload_n 0, [], 0), (.sipush 256, [], nI 256)] = some 161 := by decide +kernel
theorem b_Mo_init_166 : mx_ck m_Mo_init 166 [(.aload_n 0, [], 0), (.sipush 256, [], nI 256)] = some 170 := by decide +kernel
theorem b_Mo_init_175 : mx_ck m_Mo_init 175 [(.aload_n 0, [], 0), (.iconst 2, [], nI 2)] = some 177 := by decide +kernel
theorem b_Mo_init_182 : mx_ck m_Mo_init 182 [(.aload_n 0, [], 0), (.bipush 52, [], nI 52)] = some 185 := by decide +kernel
theorem b_Mo_init_190 : mx_ck m_Mo_init 190 [(.aload_n 0, [], 0), (.bipush 16, [], nI 16)] = some 193 := by decide +kernel
theorem d_Mo_init_1 : decode m_Mo_init.2.1 1 = .ok (.invokespecial 1, 3) := by decide +kernel
theorem d_Mo_init_7 : decode m_Mo_init.2.1 7 = .ok (.newarray .int, 2) := by decide +kernel
theorem d_Mo_init_43 : decode m_Mo_init.2.1 43 = .ok (.putfield 7, 3) := by decide +kernel
theorem d_Mo_init_49 : decode m_Mo_init.2.1 49 = .ok (.newarray .int, 2) := by decide +kernel
theorem d_Mo_init_51 : decode m_Mo_init.2.1 51 = .ok (.putfield 13, 3) := by decide +kernel
theorem d_Mo_init_58 : decode m_Mo_init.2.1 58 = .ok (.newarray .int, 2) := by decide +kernel
theorem d_Mo_init_60 : decode m_Mo_init.2.1 60 = .ok (.putfield 16, 3) := by decide +kernel
theorem d_Mo_init_66 : decode m_Mo_init.2.1 66 = .ok (.newarray .int, 2) := by decide +kernel
theorem d_Mo_init_68 : decode m_Mo_init.2.1 68 = .ok (.putfield 19, 3) := by decide +kernel
theorem d_Mo_init_74 : decode m_Mo_init.2.1 74 = .ok (.newarray .int, 2) := by decide +kernel
theorem d_Mo_init_76 : decode m_Mo_init.2.1 76 = .ok (.putfield 22, 3) := by decide +kernel
theorem d_Mo_init_82 : decode m_Mo_init.2.1 82 = .ok (.newarray .int, 2) := by decide +kernel
theorem d_Mo_init_84 : decode m_Mo_init.2.1 84 = .ok (.putfield 25, 3) := by decide +kernel
theorem d_Mo_init_91 : decode m_Mo_init.2.1 91 = .ok (.newarray .int, 2) := by decide +kernel
theorem d_Mo_init_93 : decode m_Mo_init.2.1 93 = .ok (.putfield 28, 3) := by decide +kernel
theorem d_Mo_init_99 : decode m_Mo_init.2.1 99 = .ok (.newarray .int, 2) := by decide +kernel
theorem d_Mo_init_101 : decode m_Mo_init.2.1 101 = .ok (.putfield 31, 3) := by decide +kernel
theorem d_Mo_init_108 : decode m_Mo_init.2.1 108 = .ok (.newarray .int, 2) := by decide +kernel
theorem d_Mo_init_110 : decode m_Mo_init.2.1 110 = .ok (.putfield 34, 3) := by decide +kernel
theorem d_Mo_init_117 : decode m_Mo_init.2.1 117 = .ok (.newarray .int, 2) := by decide +kernel
theorem d_Mo_init_119 : decode m_Mo_init.2.1 119 = .ok (.putfield 37, 3) := by decide +kernel
theorem d_Mo_init_126 : decode m_Mo_init.2.1 126 = .ok (.newarray .int, 2) := by decide +kernel
theorem d_Mo_init_128 : decode m_Mo_init.2.1 128 = .ok (.putfield 40, 3) := by decide +kernel
theorem d_Mo_init_135 : decode m_Mo_init.2.1 135 = .ok (.newarray .boolean, 2) := by decide +kernel
theorem d_Mo_init_137 : decode m_Mo_init.2.1 137 = .ok (.putfield 43, 3) := by decide +kernel
theorem d_Mo_init_144 : decode m_Mo_init.2.1 144 = .ok (.newarray .boolean, 2) := by decide +kernel
theorem d_Mo_init_146 : decode m_Mo_init.2.1 146 = .ok (.putfield 47, 3) := by decide +kernel
theorem d_Mo_init_152 : decode m_Mo_init.2.1 152 = .ok (.newarray .int, 2) := by decide +kernel
theorem d_Mo_init_154 : decode m_Mo_init.2.1 154 = .ok (.putfield 50, 3) := by decide +kernel
theorem d_Mo_init_161 : decode m_Mo_init.2.1 161 = .ok (.newarray .int, 2) := by decide +kernel
theorem d_Mo_init_163 : decode m_Mo_init.2.1 163 = .ok (.putfield 53, 3) := by decide +kernel
theorem d_Mo_init_170 : decode m_Mo_init.2.1 170 = .ok (.newarray .int, 2) := by decide +kernel
theorem d_Mo_init_172 : decode m_Mo_init.2.1 172 = .ok (.putfield 56, 3) := by decide +kernel
theorem d_Mo_init_177 : decode m_Mo_init.2.1 177 = .ok (.newarray .boolean, 2) := by decide +kernel
theorem d_Mo_init_179 : decode m_Mo_init.2.1 179 = .ok (.putfield 59, 3) := by decide +kernel
theorem d_Mo_init_185 : decode m_Mo_init.2.1 185 = .ok (.newarray .int, 2) := by decide +kernel
theorem d_Mo_init_187 : decode m_Mo_init.2.1 187 = .ok (.putfield 62, 3) := by decide +kernel
theorem d_Mo_init_193 : decode m_Mo_init.2.1 193 = .ok (.newarray .int, 2) := by decide +kernel
theorem d_Mo_init_195 : decode m_Mo_init.2.1 195 = .ok (.putfield 65, 3) := by decide +kernel
theorem d_Mo_init_198 : decode m_Mo_init.2.1 198 = .ok (.return_, 1) := by decide +kernel
theorem b_Mo_isEmpty_0 : mx_ck m_Mo_isEmpty 0 [(.aload_n 0, [], 0), (.iload_n 1, [], 0)] = some 2 := by decide +kernel
theorem b_Mo_isEmpty_8 : mx_ck m_Mo_isEmpty 8 [(.iconst 1, [], nI 1)] = some 9 := by decide +kernel
theorem b_Mo_isEmpty_12 : mx_ck m_Mo_isEmpty 12 [(.iconst 0, [], nI 0)] = some 13 := by decide +kernel
theorem d_Mo_isEmpty_2 : decode m_Mo_isEmpty.2.1 2 = .ok (.invokevirtual 218, 3) := by decide +kernel
theorem c_Mo_isEmpty_2 : mx_cv m_Mo_isEmpty m_Mo_sortsOf 218 1 [1245, 1247, 64, 90, 1248] = true := by decide +kernel
theorem d_Mo_isEmpty_5 : decode m_Mo_isEmpty.2.1 5 = .ok (.ifCond .ne 7, 3) := by decide +kernel
theorem d_Mo_isEmpty_9 : decode m_Mo_isEmpty.2.1 9 = .ok (.goto 4, 3) := by decide +kernel
theorem d_Mo_isEmpty_13 : decode m_Mo_isEmpty.2.1 13 = .ok (.ireturn, 1) := by decide +kernel
theorem b_Mo_isKnown_0 : mx_ck m_Mo_isKnown 0 [(.iconst 1, [], nI 1), (.istore_n 2, [], 0), (.iconst 0, [], nI 0), (.istore_n 3, [], 0)] = some 4 := by decide +kernel
theorem b_Mo_isKnown_4 : mx_ck m_Mo_isKnown 4 [(.iload_n 3, [], 0), (.bipush 26, [], nI 26)] = some 7 := by decide +kernel
theorem b_Mo_isKnown_10 : mx_ck m_Mo_isKnown 10 [(.iload_n 2, [], 0)] = some 11 := by decide +kernel
theorem b_Mo_isKnown_14 : mx_ck m_Mo_isKnown 14 [(.aload_n 0, [], 0), (.getfield 50, [10, 25, 15, 965], 0), (.iload_n 3, [], 0), (.iaload, [], 0), (.aload_n 1, [], 0), (.iload_n 3, [], 0), (.iaload, [], 0)] = some 23 := by decide +kernel
theorem b_Mo_isKnown_26 : mx_ck m_Mo_isKnown 26 [(.iconst 1, [], nI 1)] = some 27 := by decide +kernel
theorem b_Mo_isKnown_30 : mx_ck m_Mo_isKnown 30 [(.iconst 0, [], nI 0)] = some 31 := by decide +kernel
theorem b_Mo_isKnown_31 : mx_ck m_Mo_isKnown 31 [(.istore_n 2, [], 0), (.aload_n 0, [], 0), (.getfield 50, [10, 25, 15, 965], 0), (.iload_n 3, [], 0), (.aload_n 1, [], 0), (.iload_n 3, [], 0), (.iaload, [], 0), (.iastore, [], 0), (.iinc 3 1, [], nI 1)] = some 44 := by decide +kernel
theorem b_Mo_isKnown_47 : mx_ck m_Mo_isKnown 47 [(.iload_n 2, [], 0)] = some 48 := by decide +kernel
theorem d_Mo_isKnown_7 : decode m_Mo_isKnown.2.1 7 = .ok (.if_icmp .ge 40, 3) := by decide +kernel
theorem d_Mo_isKnown_11 : decode m_Mo_isKnown.2.1 11 = .ok (.ifCond .eq 19, 3) := by decide +kernel
theorem d_Mo_isKnown_23 : decode m_Mo_isKnown.2.1 23 = .ok (.if_icmp .ne 7, 3) := by decide +kernel
theorem d_Mo_isKnown_27 : decode m_Mo_isKnown.2.1 27 = .ok (.goto 4, 3) := by decide +kernel
theorem d_Mo_isKnown_44 : decode m_Mo_isKnown.2.1 44 = .ok (.goto (-40), 3) := by decide +kernel
theorem d_Mo_isKnown_48 : decode m_Mo_isKnown.2.1 48 = .ok (.ireturn, 1) := by decide +kernel
theorem b_Mo_isLetter_0 : mx_ck m_Mo_isLetter 0 [(.aload_n 0, [], 0), (.getfield 99, [10, 16, 0, 956], 0)] = some 4 := by decide +kernel
theorem b_Mo_isLetter_7 : mx_ck m_Mo_isLetter 7 [(.aload_n 0, [], 0), (.getfield 123, [10, 14, 0, 954], 0), (.iconst 2, [], nI 2)] = some 12 := by decide +kernel
theorem b_Mo_isLetter_15 : mx_ck m_Mo_isLetter 15 [(.aload_n 0, [], 0), (.getfield 112, [10, 15, 0, 955], 0), (.iload_n 1, [], 0)] = some 20 := by decide +kernel
theorem b_Mo_isLetter_23 : mx_ck m_Mo_isLetter 23 [(.iconst 1, [], nI 1)] = some 24 := by decide +kernel
theorem b_Mo_isLetter_27 : mx_ck m_Mo_isLetter 27 [(.iconst 0, [], nI 0)] = some 28 := by decide +kernel
theorem d_Mo_isLetter_4 : decode m_Mo_isLetter.2.1 4 = .ok (.ifCond .ne 23, 3) := by decide +kernel
theorem d_Mo_isLetter_12 : decode m_Mo_isLetter.2.1 12 = .ok (.if_icmp .ne 15, 3) := by decide +kernel
theorem d_Mo_isLetter_20 : decode m_Mo_isLetter.2.1 20 = .ok (.if_icmp .ne 7, 3) := by decide +kernel
theorem d_Mo_isLetter_24 : decode m_Mo_isLetter.2.1 24 = .ok (.goto 4, 3) := by decide +kernel
theorem d_Mo_isLetter_28 : decode m_Mo_isLetter.2.1 28 = .ok (.ireturn, 1) := by decide +kernel
theorem b_Mo_isMarked_0 : mx_ck m_Mo_isMarked 0 [(.iconst 0, [], nI 0), (.istore_n 2, [], 0)] = some 2 := by decide +kernel
theorem b_Mo_isMarked_2 : mx_ck m_Mo_isMarked 2 [(.iload_n 2, [], 0), (.sipush 256, [], nI 256)] = some 6 := by decide +kernel
theorem b_Mo_isMarked_9 : mx_ck m_Mo_isMarked 9 [(.aload_n 0, [], 0), (.getfield 47, [10, 24, 14, 964], 0), (.iload_n 2, [], 0), (.sipush 256, [], nI 256), (.iadd, [], 0), (.baload, [], 0)] = some 19 := by decide +kernel
theorem b_Mo_isMarked_22 : mx_ck m_Mo_isMarked 22 [(.aload_n 0, [], 0), (.getfield 19, [10, 5, 5, 945], 0), (.iload_n 2, [], 0)] = some 27 := by decide +kernel
theorem b_Mo_isMarked_30 : mx_ck m_Mo_isMarked 30 [(.iload_n 1, [], 0)] = some 31 := by decide +kernel
theorem b_Mo_isMarked_37 : mx_ck m_Mo_isMarked 37 [(.iconst 1, [], nI 1)] = some 38 := by decide +kernel
theorem b_Mo_isMarked_39 : mx_ck m_Mo_isMarked 39 [(.iinc 2 1, [], nI 1)] = some 42 := by decide +kernel
theorem b_Mo_isMarked_45 : mx_ck m_Mo_isMarked 45 [(.iconst 0, [], nI 0)] = some 46 := by decide +kernel
theorem d_Mo_isMarked_6 : decode m_Mo_isMarked.2.1 6 = .ok (.if_icmp .ge 39, 3) := by decide +kernel
theorem d_Mo_isMarked_19 : decode m_Mo_isMarked.2.1 19 = .ok (.ifCond .eq 20, 3) := by decide +kernel
theorem d_Mo_isMarked_27 : decode m_Mo_isMarked.2.1 27 = .ok (.invokestatic 205, 3) := by decide +kernel
theorem c_Mo_isMarked_27 : mx_cs m_Mo_isMarked m_Mo_functionCell 205 2 [1196, 1197, 90, 1198] = true := by decide +kernel
theorem d_Mo_isMarked_31 : decode m_Mo_isMarked.2.1 31 = .ok (.invokestatic 177, 3) := by decide +kernel
theorem c_Mo_isMarked_31 : mx_cs m_Mo_isMarked m_Mo_has 177 2 [1189, 1190, 90, 1191] = true := by decide +kernel
theorem d_Mo_isMarked_34 : decode m_Mo_isMarked.2.1 34 = .ok (.ifCond .eq 5, 3) := by decide +kernel
theorem d_Mo_isMarked_38 : decode m_Mo_isMarked.2.1 38 = .ok (.ireturn, 1) := by decide +kernel
theorem d_Mo_isMarked_42 : decode m_Mo_isMarked.2.1 42 = .ok (.goto (-40), 3) := by decide +kernel
theorem d_Mo_isMarked_46 : decode m_Mo_isMarked.2.1 46 = .ok (.ireturn, 1) := by decide +kernel
theorem b_Mo_isOf_0 : mx_ck m_Mo_isOf 0 [(.iload_n 1, [], 0)] = some 1 := by decide +kernel
theorem b_Mo_isOf_4 : mx_ck m_Mo_isOf 4 [(.iload_n 0, [], 0), (.iload_n 1, [], 0)] = some 6 := by decide +kernel
theorem b_Mo_isOf_9 : mx_ck m_Mo_isOf 9 [(.iload_n 1, [], 0), (.iconst 1, [], nI 1)] = some 11 := by decide +kernel
theorem b_Mo_isOf_14 : mx_ck m_Mo_isOf 14 [(.iload_n 0, [], 0), (.iconst 2, [], nI 2)] = some 16 := by decide +kernel
theorem b_Mo_isOf_19 : mx_ck m_Mo_isOf 19 [(.iload_n 0, [], 0), (.iconst 3, [], nI 3)] = some 21 := by decide +kernel
theorem b_Mo_isOf_24 : mx_ck m_Mo_isOf 24 [(.iload_n 1, [], 0), (.iconst 4, [], nI 4)] = some 26 := by decide +kernel
theorem b_Mo_isOf_29 : mx_ck m_Mo_isOf 29 [(.iload_n 0, [], 0), (.iconst 5, [], nI 5)] = some 31 := by decide +kernel
theorem b_Mo_isOf_34 : mx_ck m_Mo_isOf 34 [(.iconst 1, [], nI 1)] = some 35 := by decide +kernel
theorem b_Mo_isOf_38 : mx_ck m_Mo_isOf 38 [(.iconst 0, [], nI 0)] = some 39 := by decide +kernel
theorem d_Mo_isOf_1 : decode m_Mo_isOf.2.1 1 = .ok (.ifCond .eq 33, 3) := by decide +kernel
theorem d_Mo_isOf_6 : decode m_Mo_isOf.2.1 6 = .ok (.if_icmp .eq 28, 3) := by decide +kernel
theorem d_Mo_isOf_11 : decode m_Mo_isOf.2.1 11 = .ok (.if_icmp .ne 13, 3) := by decide +kernel
theorem d_Mo_isOf_16 : decode m_Mo_isOf.2.1 16 = .ok (.if_icmp .eq 18, 3) := by decide +kernel
theorem d_Mo_isOf_21 : decode m_Mo_isOf.2.1 21 = .ok (.if_icmp .eq 13, 3) := by decide +kernel
theorem d_Mo_isOf_26 : decode m_Mo_isOf.2.1 26 = .ok (.if_icmp .ne 12, 3) := by decide +kernel
theorem d_Mo_isOf_31 : decode m_Mo_isOf.2.1 31 = .ok (.if_icmp .ne 7, 3) := by decide +kernel
theorem d_Mo_isOf_35 : decode m_Mo_isOf.2.1 35 = .ok (.goto 4, 3) := by decide +kernel
theorem d_Mo_isOf_39 : decode m_Mo_isOf.2.1 39 = .ok (.ireturn, 1) := by decide +kernel
theorem b_Mo_isRow_0 : mx_ck m_Mo_isRow 0 [(.iload_n 0, [], 0), (.i2l, [], 0), (.lconst 0, [0], 0), (.ldc2_w 76, [7, 1045], 0)] = some 6 := by decide +kernel
theorem d_Mo_isRow_6 : decode m_Mo_isRow.2.1 6 = .ok (.invokestatic 78, 3) := by decide +kernel
theorem c_Mo_isRow_6 : mx_cs m_Mo_isRow m_Mo_in 78 3 [1046, 1047, 90, 1048] = true := by decide +kernel
theorem d_Mo_isRow_9 : decode m_Mo_isRow.2.1 9 = .ok (.ireturn, 1) := by decide +kernel
theorem b_Mo_isSet_0 : mx_ck m_Mo_isSet 0 [(.iload_n 1, [], 0), (.i2l, [], 0), (.lconst 0, [0], 0), (.iconst 1, [], nI 1), (.aload_n 0, [], 0), (.getfield 19, [10, 5, 5, 945], 0), (.iconst 0, [], nI 0), (.iaload, [], 0), (.ishl, [], 0), (.iconst 1, [], nI 1), (.isub, [], 0), (.i2l, [], 0)] = some 14 := by decide +kernel
theorem d_Mo_isSet_14 : decode m_Mo_isSet.2.1 14 = .ok (.invokestatic 78, 3) := by decide +kernel
theorem c_Mo_isSet_14 : mx_cs m_Mo_isSet m_Mo_in 78 3 [1046, 1047, 90, 1048] = true := by decide +kernel
theorem d_Mo_isSet_17 : decode m_Mo_isSet.2.1 17 = .ok (.ireturn, 1) := by decide +kernel
theorem b_Mo_isSort_0 : mx_ck m_Mo_isSort 0 [(.aload_n 0, [], 0), (.getfield 99, [10, 16, 0, 956], 0)] = some 4 := by decide +kernel
theorem b_Mo_isSort_7 : mx_ck m_Mo_isSort 7 [(.aload_n 0, [], 0), (.getfield 123, [10, 14, 0, 954], 0), (.iconst 2, [], nI 2)] = some 12 := by decide +kernel
theorem b_Mo_isSort_15 : mx_ck m_Mo_isSort 15 [(.aload_n 0, [], 0), (.getfield 112, [10, 15, 0, 955], 0)] = some 19 := by decide +kernel
theorem b_Mo_isSort_22 : mx_ck m_Mo_isSort 22 [(.ldc 111, [1090], (-1000000))] = some 24 := by decide +kernel
theorem b_Mo_isSort_27 : mx_ck m_Mo_isSort 27 [(.iconst 1, [], nI 1)] = some 28 := by decide +kernel
theorem b_Mo_isSort_31 : mx_ck m_Mo_isSort 31 [(.iconst 0, [], nI 0)] = some 32 := by decide +kernel
theorem d_Mo_isSort_4 : decode m_Mo_isSort.2.1 4 = .ok (.ifCond .ne 27, 3) := by decide +kernel
theorem d_Mo_isSort_12 : decode m_Mo_isSort.2.1 12 = .ok (.if_icmp .ne 19, 3) := by decide +kernel
theorem d_Mo_isSort_19 : decode m_Mo_isSort.2.1 19 = .ok (.invokestatic 140, 3) := by decide +kernel
theorem c_Mo_isSort_19 : mx_cs m_Mo_isSort m_Mo_sortBy 140 1 [1119, 1120, 90, 1121] = true := by decide +kernel
theorem d_Mo_isSort_24 : decode m_Mo_isSort.2.1 24 = .ok (.if_icmp .eq 7, 3) := by decide +kernel
theorem d_Mo_isSort_28 : decode m_Mo_isSort.2.1 28 = .ok (.goto 4, 3) := by decide +kernel
theorem d_Mo_isSort_32 : decode m_Mo_isSort.2.1 32 = .ok (.ireturn, 1) := by decide +kernel
theorem b_Mo_isThere_0 : mx_ck m_Mo_isThere 0 [(.aload_n 0, [], 0), (.getfield 19, [10, 5, 5, 945], 0), (.iconst 0, [], nI 0), (.iaload, [], 0)] = some 6 := by decide +kernel
theorem b_Mo_isThere_9 : mx_ck m_Mo_isThere 9 [(.iconst 1, [], nI 1)] = some 10 := by decide +kernel
theorem b_Mo_isThere_13 : mx_ck m_Mo_isThere 13 [(.iconst 0, [], nI 0)] = some 14 := by decide +kernel
theorem d_Mo_isThere_6 : decode m_Mo_isThere.2.1 6 = .ok (.ifCond .le 7, 3) := by decide +kernel
theorem d_Mo_isThere_10 : decode m_Mo_isThere.2.1 10 = .ok (.goto 4, 3) := by decide +kernel
theorem d_Mo_isThere_14 : decode m_Mo_isThere.2.1 14 = .ok (.ireturn, 1) := by decide +kernel
theorem b_Mo_isType_0 : mx_ck m_Mo_isType 0 [(.iload_n 1, [], 0), (.i2l, [], 0), (.lconst 0, [0], 0), (.aload_n 0, [], 0), (.getfield 19, [10, 5, 5, 945], 0), (.iconst 0, [], nI 0), (.iaload, [], 0), (.iconst 1, [], nI 1), (.isub, [], 0), (.i2l, [], 0)] = some 12 := by decide +kernel
theorem d_Mo_isType_12 : decode m_Mo_isType.2.1 12 = .ok (.invokestatic 78, 3) := by decide +kernel
theorem c_Mo_isType_12 : mx_cs m_Mo_isType m_Mo_in 78 3 [1046, 1047, 90, 1048] = true := by decide +kernel
theorem d_Mo_isType_15 : decode m_Mo_isType.2.1 15 = .ok (.ireturn, 1) := by decide +kernel
theorem b_Mo_join_0 : mx_ck m_Mo_join 0 [(.iconst 0, [], nI 0), (.istore_n 1, [], 0)] = some 2 := by decide +kernel
theorem b_Mo_join_2 : mx_ck m_Mo_join 2 [(.iload_n 1, [], 0), (.sipush 512, [], nI 512)] = some 6 := by decide +kernel
theorem b_Mo_join_9 : mx_ck m_Mo_join 9 [(.aload_n 0, [], 0), (.getfield 47, [10, 24, 14, 964], 0), (.iload_n 1, [], 0), (.iload_n 1, [], 0)] = some 15 := by decide +kernel
theorem b_Mo_join_18 : mx_ck m_Mo_join 18 [(.iconst 1, [], nI 1)] = some 19 := by decide +kernel
theorem b_Mo_join_22 : mx_ck m_Mo_join 22 [(.iconst 0, [], nI 0)] = some 23 := by decide +kernel
theorem b_Mo_join_23 : mx_ck m_Mo_join 23 [(.bastore, [], 0), (.iinc 1 1, [], nI 1)] = some 27 := by decide +kernel
theorem b_Mo_join_30 : mx_ck m_Mo_join 30 [(.iconst 0, [], nI 0), (.istore_n 1, [], 0)] = some 32 := by decide +kernel
theorem b_Mo_join_32 : mx_ck m_Mo_join 32 [(.iload_n 1, [], 0), (.sipush 512, [], nI 512)] = some 36 := by decide +kernel
theorem b_Mo_join_39 : mx_ck m_Mo_join 39 [(.aload_n 0, [], 0), (.getfield 43, [10, 23, 13, 963], 0), (.iload_n 1, [], 0), (.baload, [], 0)] = some 45 := by decide +kernel
theorem b_Mo_join_48 : mx_ck m_Mo_join 48 [(.iconst 0, [], nI 0), (.istore_n 2, [], 0)] = some 50 := by decide +kernel
theorem b_Mo_join_50 : mx_ck m_Mo_join 50 [(.iload_n 2, [], 0), (.sipush 512, [], nI 512)] = some 54 := by decide +kernel
theorem b_Mo_join_57 : mx_ck m_Mo_join 57 [(.aload_n 0, [], 0), (.getfield 47, [10, 24, 14, 964], 0), (.iload_n 2, [], 0), (.baload, [], 0)] = some 63 := by decide +kernel
theorem b_Mo_join_66 : mx_ck m_Mo_join 66 [(.aload_n 0, [], 0), (.getfield 47, [10, 24, 14, 964], 0), (.iload_n 2, [], 0), (.iload_n 1, [], 0), (.ior, [], 0), (.iconst 1, [], nI 1), (.bastore, [], 0)] = some 75 := by decide +kernel
theorem b_Mo_join_75 : mx_ck m_Mo_join 75 [(.iinc 2 1, [], nI 1)] = some 78 := by decide +kernel
theorem b_Mo_join_81 : mx_ck m_Mo_join 81 [(.iinc 1 1, [], nI 1)] = some 84 := by decide +kernel
theorem d_Mo_join_6 : decode m_Mo_join.2.1 6 = .ok (.if_icmp .ge 24, 3) := by decide +kernel
theorem d_Mo_join_15 : decode m_Mo_join.2.1 15 = .ok (.ifCond .ne 7, 3) := by decide +kernel
theorem d_Mo_join_19 : decode m_Mo_join.2.1 19 = .ok (.goto 4, 3) := by decide +kernel
theorem d_Mo_join_27 : decode m_Mo_join.2.1 27 = .ok (.goto (-25), 3) := by decide +kernel
theorem d_Mo_join_36 : decode m_Mo_join.2.1 36 = .ok (.if_icmp .ge 51, 3) := by decide +kernel
theorem d_Mo_join_45 : decode m_Mo_join.2.1 45 = .ok (.ifCond .eq 36, 3) := by decide +kernel
theorem d_Mo_join_54 : decode m_Mo_join.2.1 54 = .ok (.if_icmp .ge 27, 3) := by decide +kernel
theorem d_Mo_join_63 : decode m_Mo_join.2.1 63 = .ok (.ifCond .eq 12, 3) := by decide +kernel
theorem d_Mo_join_78 : decode m_Mo_join.2.1 78 = .ok (.goto (-28), 3) := by decide +kernel
theorem d_Mo_join_84 : decode m_Mo_join.2.1 84 = .ok (.goto (-52), 3) := by decide +kernel
theorem d_Mo_join_87 : decode m_Mo_join.2.1 87 = .ok (.return_, 1) := by decide +kernel
theorem b_Mo_keep_0 : mx_ck m_Mo_keep 0 [(.aload_n 0, [], 0), (.getfield 170, [10, 9, 0, 949], 0), (.bipush 24, [], nI 24)] = some 6 := by decide +kernel
theorem b_Mo_keep_9 : mx_ck m_Mo_keep 9 [(.iconst 0, [], nI 0), (.istore_n 1, [], 0)] = some 11 := by decide +kernel
theorem b_Mo_keep_11 : mx_ck m_Mo_keep 11 [(.iload_n 1, [], 0), (.sipush 598, [], nI 598)] = some 15 := by decide +kernel
theorem b_Mo_keep_18 : mx_ck m_Mo_keep 18 [(.aload_n 0, [], 0), (.getfield 28, [10, 8, 8, 948], 0), (.iload_n 1, [], 0), (.aload_n 0, [], 0), (.getfield 28, [10, 8, 8, 948], 0), (.iload_n 1, [], 0), (.bipush 26, [], nI 26), (.iadd, [], 0), (.iaload, [], 0), (.iastore, [], 0), (.iinc 1 1, [], nI 1)] = some 36 := by decide +kernel
theorem b_Mo_keep_39 : mx_ck m_Mo_keep 39 [(.aload_n 0, [], 0), (.dup, [], 0), (.getfield 170, [10, 9, 0, 949], 0), (.iconst 1, [], nI 1), (.isub, [], 0), (.putfield 170, [10, 9, 0, 949], 0)] = some 49 := by decide +kernel
theorem b_Mo_keep_49 : mx_ck m_Mo_keep 49 [(.iconst 0, [], nI 0), (.istore_n 1, [], 0)] = some 51 := by decide +kernel
theorem b_Mo_keep_51 : mx_ck m_Mo_keep 51 [(.iload_n 1, [], 0), (.bipush 26, [], nI 26)] = some 54 := by decide +kernel
theorem b_Mo_keep_57 : mx_ck m_Mo_keep 57 [(.aload_n 0, [], 0), (.getfield 28, [10, 8, 8, 948], 0), (.bipush 26, [], nI 26), (.aload_n 0, [], 0), (.getfield 170, [10, 9, 0, 949], 0), (.imul, [], 0), (.iload_n 1, [], 0), (.iadd, [], 0), (.aload_n 0, [], 0), (.getfield 19, [10, 5, 5, 945], 0), (.iload_n 1, [], 0), (.iaload, [], 0), (.iastore, [], 0), (.iinc 1 1, [], nI 1)] = some 80 := by decide +kernel
theorem b_Mo_keep_83 : mx_ck m_Mo_keep 83 [(.aload_n 0, [], 0), (.dup, [], 0), (.getfield 170, [10, 9, 0, 949], 0), (.iconst 1, [], nI 1), (.iadd, [], 0), (.putfield 170, [10, 9, 0, 949], 0)] = some 93 := by decide +kernel
theorem d_Mo_keep_6 : decode m_Mo_keep.2.1 6 = .ok (.if_icmp .ne 43, 3) := by decide +kernel
theorem d_Mo_keep_15 : decode m_Mo_keep.2.1 15 = .ok (.if_icmp .ge 24, 3) := by decide +kernel
theorem d_Mo_keep_36 : decode m_Mo_keep.2.1 36 = .ok (.goto (-25), 3) := by decide +kernel
theorem d_Mo_keep_54 : decode m_Mo_keep.2.1 54 = .ok (.if_icmp .ge 29, 3) := by decide +kernel
theorem d_Mo_keep_80 : decode m_Mo_keep.2.1 80 = .ok (.goto (-29), 3) := by decide +kernel
theorem d_Mo_keep_93 : decode m_Mo_keep.2.1 93 = .ok (.return_, 1) := by decide +kernel
theorem b_Mo_kind_0 : mx_ck m_Mo_kind 0 [(.aload_n 0, [], 0), (.iconst 0, [], nI 0), (.putfield 68, [10, 0, 0, 940], 0), (.aload_n 0, [], 0), (.iload_n 1, [], 0)] = some 7 := by decide +kernel
theorem b_Mo_kind_13 : mx_ck m_Mo_kind 13 [(.aload_n 0, [], 0), (.iload_n 1, [], 0)] = some 15 := by decide +kernel
theorem b_Mo_kind_21 : mx_ck m_Mo_kind 21 [(.ldc 88, [1050], (-1000001))] = some 23 := by decide +kernel
theorem d_Mo_kind_7 : decode m_Mo_kind.2.1 7 = .ok (.invokevirtual 221, 3) := by decide +kernel
theorem c_Mo_kind_7 : mx_cv m_Mo_kind m_Mo_isType 221 1 [1139, 1141, 50, 90, 1142] = true := by decide +kernel
theorem d_Mo_kind_10 : decode m_Mo_kind.2.1 10 = .ok (.ifCond .eq 11, 3) := by decide +kernel
theorem d_Mo_kind_15 : decode m_Mo_kind.2.1 15 = .ok (.invokevirtual 301, 3) := by decide +kernel
theorem c_Mo_kind_15 : mx_cv m_Mo_kind m_Mo_kindOf 301 1 [1333, 1335, 72, 90, 1336] = true := by decide +kernel
theorem d_Mo_kind_18 : decode m_Mo_kind.2.1 18 = .ok (.goto 5, 3) := by decide +kernel
theorem d_Mo_kind_23 : decode m_Mo_kind.2.1 23 = .ok (.ireturn, 1) := by decide +kernel
theorem b_Mo_kindOf_0 : mx_ck m_Mo_kindOf 0 [(.aload_n 0, [], 0), (.getfield 19, [10, 5, 5, 945], 0), (.iload_n 1, [], 0), (.iconst 0, [], nI 0)] = some 6 := by decide +kernel
theorem b_Mo_kindOf_9 : mx_ck m_Mo_kindOf 9 [(.istore_n 2, [], 0), (.iload_n 2, [], 0)] = some 11 := by decide +kernel
theorem b_Mo_kindOf_14 : mx_ck m_Mo_kindOf 14 [(.iconst 0, [], nI 0)] = some 15 := by decide +kernel
theorem b_Mo_kindOf_18 : mx_ck m_Mo_kindOf 18 [(.iload_n 2, [], 0), (.iconst 1, [], nI 1)] = some 20 := by decide +kernel
theorem b_Mo_kindOf_23 : mx_ck m_Mo_kindOf 23 [(.iconst 4, [], nI 4)] = some 24 := by decide +kernel
theorem b_Mo_kindOf_27 : mx_ck m_Mo_kindOf 27 [(.iload_n 2, [], 0), (.iconst 2, [], nI 2)] = some 29 := by decide +kernel
theorem b_Mo_kindOf_32 : mx_ck m_Mo_kindOf 32 [(.iconst 5, [], nI 5)] = some 33 := by decide +kernel
theorem b_Mo_kindOf_36 : mx_ck m_Mo_kindOf 36 [(.iload_n 2, [], 0), (.iconst 2, [], nI 2), (.isub, [], 0)] = some 39 := by decide +kernel
theorem d_Mo_kindOf_6 : decode m_Mo_kindOf.2.1 6 = .ok (.invokestatic 173, 3) := by decide +kernel
theorem c_Mo_kindOf_6 : mx_cs m_Mo_kindOf m_Mo_of 173 3 [1160, 1161, 90, 1162] = true := by decide +kernel
theorem d_Mo_kindOf_11 : decode m_Mo_kindOf.2.1 11 = .ok (.ifCond .ne 7, 3) := by decide +kernel
theorem d_Mo_kindOf_15 : decode m_Mo_kindOf.2.1 15 = .ok (.goto 24, 3) := by decide +kernel
theorem d_Mo_kindOf_20 : decode m_Mo_kindOf.2.1 20 = .ok (.if_icmp .ne 7, 3) := by decide +kernel
theorem d_Mo_kindOf_24 : decode m_Mo_kindOf.2.1 24 = .ok (.goto 15, 3) := by decide +kernel
theorem d_Mo_kindOf_29 : decode m_Mo_kindOf.2.1 29 = .ok (.if_icmp .ne 7, 3) := by decide +kernel
theorem d_Mo_kindOf_33 : decode m_Mo_kindOf.2.1 33 = .ok (.goto 6, 3) := by decide +kernel
theorem d_Mo_kindOf_39 : decode m_Mo_kindOf.2.1 39 = .ok (.ireturn, 1) := by decide +kernel
theorem b_Mo_layCases_0 : mx_ck m_Mo_layCases 0 [(.iconst 0, [], nI 0), (.istore 4, [], 0)] = some 3 := by decide +kernel
theorem b_Mo_layCases_3 : mx_ck m_Mo_layCases 3 [(.iload 4, [], 0), (.sipush 512, [], nI 512)] = some 8 := by decide +kernel
theorem b_Mo_layCases_11 : mx_ck m_Mo_layCases 11 [(.aload_n 0, [], 0), (.getfield 43, [10, 23, 13, 963], 0), (.iload 4, [], 0), (.iconst 0, [], nI 0), (.bastore, [], 0), (.iinc 4 1, [], nI 1)] = some 22 := by decide +kernel
theorem b_Mo_layCases_25 : mx_ck m_Mo_layCases 25 [(.iconst 0, [], nI 0), (.istore 4, [], 0)] = some 28 := by decide +kernel
theorem b_Mo_layCases_28 : mx_ck m_Mo_layCases 28 [(.iload 4, [], 0), (.aload_n 0, [], 0), (.getfield 185, [10, 22, 0, 962], 0)] = some 34 := by decide +kernel
theorem b_Mo_layCases_37 : mx_ck m_Mo_layCases 37 [(.aload_n 0, [], 0), (.getfield 40, [10, 21, 12, 961], 0), (.iload 4, [], 0), (.iaload, [], 0), (.istore 5, [], 0), (.iload_n 2, [], 0)] = some 47 := by decide +kernel
theorem b_Mo_layCases_50 : mx_ck m_Mo_layCases 50 [(.iload 5, [], 0), (.iload_n 2, [], 0)] = some 53 := by decide +kernel
theorem b_Mo_layCases_59 : mx_ck m_Mo_layCases 59 [(.iconst 1, [], nI 1)] = some 60 := by decide +kernel
theorem b_Mo_layCases_63 : mx_ck m_Mo_layCases 63 [(.iconst 0, [], nI 0)] = some 64 := by decide +kernel
theorem b_Mo_layCases_64 : mx_ck m_Mo_layCases 64 [(.istore 6, [], 0), (.aload_n 0, [], 0), (.getfield 43, [10, 23, 13, 963], 0), (.aload_n 1, [], 0), (.iload 5, [], 0), (.iconst (-1), [], (-1))] = some 74 := by decide +kernel
theorem b_Mo_layCases_77 : mx_ck m_Mo_layCases 77 [(.iload 6, [], 0)] = some 79 := by decide +kernel
theorem b_Mo_layCases_82 : mx_ck m_Mo_layCases 82 [(.sipush 256, [], nI 256)] = some 85 := by decide +kernel
theorem b_Mo_layCases_88 : mx_ck m_Mo_layCases 88 [(.iconst 0, [], nI 0)] = some 89 := by decide +kernel
theorem b_Mo_layCases_89 : mx_ck m_Mo_layCases 89 [(.iadd, [], 0), (.iconst 1, [], nI 1), (.bastore, [], 0), (.iconst 0, [], nI 0), (.istore 7, [], 0)] = some 95 := by decide +kernel
theorem b_Mo_layCases_95 : mx_ck m_Mo_layCases 95 [(.iload 7, [], 0), (.aload_n 0, [], 0), (.getfield 185, [10, 22, 0, 962], 0)] = some 101 := by decide +kernel
theorem b_Mo_layCases_104 : mx_ck m_Mo_layCases 104 [(.aload_n 0, [], 0), (.getfield 40, [10, 21, 12, 961], 0), (.iload 7, [], 0), (.iaload, [], 0), (.istore 8, [], 0), (.aload_n 0, [], 0), (.getfield 43, [10, 23, 13, 963], 0), (.aload_n 1, [], 0), (.iload 5, [], 0), (.iload 8, [], 0)] = some 122 := by decide +kernel
theorem b_Mo_layCases_125 : mx_ck m_Mo_layCases 125 [(.iload 6, [], 0)] = some 127 := by decide +kernel
theorem b_Mo_layCases_130 : mx_ck m_Mo_layCases 130 [(.iload_n 3, [], 0)] = some 131 := by decide +kernel
theorem b_Mo_layCases_134 : mx_ck m_Mo_layCases 134 [(.iload 8, [], 0), (.iload_n 3, [], 0)] = some 137 := by decide +kernel
theorem b_Mo_layCases_143 : mx_ck m_Mo_layCases 143 [(.sipush 256, [], nI 256)] = some 146 := by decide +kernel
theorem b_Mo_layCases_149 : mx_ck m_Mo_layCases 149 [(.iconst 0, [], nI 0)] = some 150 := by decide +kernel
theorem b_Mo_layCases_150 : mx_ck m_Mo_layCases 150 [(.iadd, [], 0), (.iconst 1, [], nI 1), (.bastore, [], 0), (.iinc 7 1, [], nI 1)] = some 156 := by decide +kernel
theorem b_Mo_layCases_159 : mx_ck m_Mo_layCases 159 [(.iinc 4 1, [], nI 1)] = some 162 := by decide +kernel
theorem b_Mo_layCases_165 : mx_ck m_Mo_layCases 165 [(.aload_n 0, [], 0)] = some 166 := by decide +kernel
theorem d_Mo_layCases_8 : decode m_Mo_layCases.2.1 8 = .ok (.if_icmp .ge 17, 3) := by decide +kernel
theorem d_Mo_layCases_22 : decode m_Mo_layCases.2.1 22 = .ok (.goto (-19), 3) := by decide +kernel
theorem d_Mo_layCases_34 : decode m_Mo_layCases.2.1 34 = .ok (.if_icmp .ge 131, 3) := by decide +kernel
theorem d_Mo_layCases_47 : decode m_Mo_layCases.2.1 47 = .ok (.ifCond .lt 16, 3) := by decide +kernel
theorem d_Mo_layCases_53 : decode m_Mo_layCases.2.1 53 = .ok (.invokestatic 177, 3) := by decide +kernel
theorem c_Mo_layCases_53 : mx_cs m_Mo_layCases m_Mo_has 177 2 [1189, 1190, 90, 1191] = true := by decide +kernel
theorem d_Mo_layCases_56 : decode m_Mo_layCases.2.1 56 = .ok (.ifCond .eq 7, 3) := by decide +kernel
theorem d_Mo_layCases_60 : decode m_Mo_layCases.2.1 60 = .ok (.goto 4, 3) := by decide +kernel
theorem d_Mo_layCases_74 : decode m_Mo_layCases.2.1 74 = .ok (.invokestatic 188, 3) := by decide +kernel
theorem c_Mo_layCases_74 : mx_cs m_Mo_layCases m_Mo_breaks 188 3 [1207, 1208, 90, 1209] = true := by decide +kernel
theorem d_Mo_layCases_79 : decode m_Mo_layCases.2.1 79 = .ok (.ifCond .eq 9, 3) := by decide +kernel
theorem d_Mo_layCases_85 : decode m_Mo_layCases.2.1 85 = .ok (.goto 4, 3) := by decide +kernel
theorem d_Mo_layCases_101 : decode m_Mo_layCases.2.1 101 = .ok (.if_icmp .ge 58, 3) := by decide +kernel
theorem d_Mo_layCases_122 : decode m_Mo_layCases.2.1 122 = .ok (.invokestatic 188, 3) := by decide +kernel
theorem c_Mo_layCases_122 : mx_cs m_Mo_layCases m_Mo_breaks 188 3 [1207, 1208, 90, 1209] = true := by decide +kernel
theorem d_Mo_layCases_127 : decode m_Mo_layCases.2.1 127 = .ok (.ifCond .eq 22, 3) := by decide +kernel
theorem d_Mo_layCases_131 : decode m_Mo_layCases.2.1 131 = .ok (.ifCond .lt 18, 3) := by decide +kernel
theorem d_Mo_layCases_137 : decode m_Mo_layCases.2.1 137 = .ok (.invokestatic 177, 3) := by decide +kernel
theorem c_Mo_layCases_137 : mx_cs m_Mo_layCases m_Mo_has 177 2 [1189, 1190, 90, 1191] = true := by decide +kernel
theorem d_Mo_layCases_140 : decode m_Mo_layCases.2.1 140 = .ok (.ifCond .ne 9, 3) := by decide +kernel
theorem d_Mo_layCases_146 : decode m_Mo_layCases.2.1 146 = .ok (.goto 4, 3) := by decide +kernel
theorem d_Mo_layCases_156 : decode m_Mo_layCases.2.1 156 = .ok (.goto (-61), 3) := by decide +kernel
theorem d_Mo_layCases_162 : decode m_Mo_layCases.2.1 162 = .ok (.goto (-134), 3) := by decide +kernel
theorem d_Mo_layCases_166 : decode m_Mo_layCases.2.1 166 = .ok (.invokevirtual 191, 3) := by decide +kernel
theorem c_Mo_layCases_166 : mx_cv m_Mo_layCases m_Mo_join 191 0 [1213, 1215, 59, 90, 1216] = true := by decide +kernel
theorem d_Mo_layCases_169 : decode m_Mo_layCases.2.1 169 = .ok (.return_, 1) := by decide +kernel
theorem b_Mo_layPlain_0 : mx_ck m_Mo_layPlain 0 [(.iconst 0, [], nI 0), (.istore_n 2, [], 0)] = some 2 := by decide +kernel
theorem b_Mo_layPlain_2 : mx_ck m_Mo_layPlain 2 [(.iload_n 2, [], 0), (.sipush 256, [], nI 256)] = some 6 := by decide +kernel
theorem b_Mo_layPlain_9 : mx_ck m_Mo_layPlain 9 [(.aload_n 0, [], 0), (.getfield 53, [10, 26, 16, 966], 0), (.iload_n 2, [], 0), (.iconst 0, [], nI 0), (.iastore, [], 0), (.iinc 2 1, [], nI 1)] = some 19 := by decide +kernel
theorem b_Mo_layPlain_22 : mx_ck m_Mo_layPlain 22 [(.iconst 0, [], nI 0), (.istore_n 2, [], 0)] = some 24 := by decide +kernel
theorem b_Mo_layPlain_24 : mx_ck m_Mo_layPlain 24 [(.iload_n 2, [], 0), (.iload_n 1, [], 0)] = some 26 := by decide +kernel
theorem b_Mo_layPlain_29 : mx_ck m_Mo_layPlain 29 [(.iconst 0, [], nI 0), (.istore_n 3, [], 0)] = some 31 := by decide +kernel
theorem b_Mo_layPlain_31 : mx_ck m_Mo_layPlain 31 [(.iload_n 3, [], 0), (.sipush 256, [], nI 256)] = some 35 := by decide +kernel
theorem b_Mo_layPlain_38 : mx_ck m_Mo_layPlain 38 [(.aload_n 0, [], 0), (.getfield 56, [10, 27, 17, 967], 0), (.iload_n 3, [], 0), (.iconst 0, [], nI 0), (.iastore, [], 0), (.iinc 3 1, [], nI 1)] = some 48 := by decide +kernel
theorem b_Mo_layPlain_51 : mx_ck m_Mo_layPlain 51 [(.iconst 0, [], nI 0), (.istore_n 3, [], 0)] = some 53 := by decide +kernel
theorem b_Mo_layPlain_53 : mx_ck m_Mo_layPlain 53 [(.iload_n 3, [], 0), (.aload_n 0, [], 0), (.getfield 19, [10, 5, 5, 945], 0), (.iconst 1, [], nI 1), (.iaload, [], 0)] = some 60 := by decide +kernel
theorem b_Mo_layPlain_63 : mx_ck m_Mo_layPlain 63 [(.aload_n 0, [], 0), (.getfield 56, [10, 27, 17, 967], 0), (.aload_n 0, [], 0), (.getfield 19, [10, 5, 5, 945], 0), (.iload_n 3, [], 0)] = some 72 := by decide +kernel
theorem b_Mo_layPlain_75 : mx_ck m_Mo_layPlain 75 [(.dup2, [], 0), (.iaload, [], 0), (.iconst 1, [], nI 1), (.iadd, [], 0), (.iastore, [], 0), (.iinc 3 1, [], nI 1)] = some 83 := by decide +kernel
theorem b_Mo_layPlain_86 : mx_ck m_Mo_layPlain 86 [(.iconst 0, [], nI 0), (.istore_n 3, [], 0)] = some 88 := by decide +kernel
theorem b_Mo_layPlain_88 : mx_ck m_Mo_layPlain 88 [(.iload_n 3, [], 0), (.sipush 256, [], nI 256)] = some 92 := by decide +kernel
theorem b_Mo_layPlain_95 : mx_ck m_Mo_layPlain 95 [(.iconst 0, [], nI 0), (.istore 4, [], 0)] = some 98 := by decide +kernel
theorem b_Mo_layPlain_98 : mx_ck m_Mo_layPlain 98 [(.iload 4, [], 0), (.sipush 256, [], nI 256)] = some 103 := by decide +kernel
theorem b_Mo_layPlain_106 : mx_ck m_Mo_layPlain 106 [(.aload_n 0, [], 0), (.getfield 53, [10, 26, 16, 966], 0), (.iload_n 3, [], 0), (.iaload, [], 0)] = some 112 := by decide +kernel
theorem b_Mo_layPlain_115 : mx_ck m_Mo_layPlain 115 [(.aload_n 0, [], 0), (.getfield 53, [10, 26, 16, 966], 0), (.iload 4, [], 0), (.iaload, [], 0)] = some 122 := by decide +kernel
theorem b_Mo_layPlain_125 : mx_ck m_Mo_layPlain 125 [(.aload_n 0, [], 0), (.getfield 56, [10, 27, 17, 967], 0), (.aload_n 0, [], 0), (.getfield 19, [10, 5, 5, 945], 0), (.iload_n 3, [], 0), (.iload 4, [], 0)] = some 136 := by decide +kernel
theorem b_Mo_layPlain_139 : mx_ck m_Mo_layPlain 139 [(.dup2, [], 0), (.iaload, [], 0), (.aload_n 0, [], 0), (.getfield 53, [10, 26, 16, 966], 0), (.iload_n 3, [], 0), (.iaload, [], 0), (.aload_n 0, [], 0), (.getfield 53, [10, 26, 16, 966], 0), (.iload 4, [], 0), (.iaload, [], 0), (.imul, [], 0), (.iadd, [], 0), (.iastore, [], 0)] = some 157 := by decide +kernel
theorem b_Mo_layPlain_157 : mx_ck m_Mo_layPlain 157 [(.iinc 4 1, [], nI 1)] = some 160 := by decide +kernel
theorem b_Mo_layPlain_163 : mx_ck m_Mo_layPlain 163 [(.iinc 3 1, [], nI 1)] = some 166 := by decide +kernel
theorem b_Mo_layPlain_169 : mx_ck m_Mo_layPlain 169 [(.iconst 0, [], nI 0), (.istore_n 3, [], 0)] = some 171 := by decide +kernel
theorem b_Mo_layPlain_171 : mx_ck m_Mo_layPlain 171 [(.iload_n 3, [], 0), (.sipush 256, [], nI 256)] = some 175 := by decide +kernel
theorem b_Mo_layPlain_178 : mx_ck m_Mo_layPlain 178 [(.aload_n 0, [], 0), (.getfield 53, [10, 26, 16, 966], 0), (.iload_n 3, [], 0), (.aload_n 0, [], 0), (.getfield 56, [10, 27, 17, 967], 0), (.iload_n 3, [], 0), (.iaload, [], 0), (.iastore, [], 0), (.iinc 3 1, [], nI 1)] = some 193 := by decide +kernel
theorem b_Mo_layPlain_196 : mx_ck m_Mo_layPlain 196 [(.iinc 2 1, [], nI 1)] = some 199 := by decide +kernel
theorem d_Mo_layPlain_6 : decode m_Mo_layPlain.2.1 6 = .ok (.if_icmp .ge 16, 3) := by decide +kernel
theorem d_Mo_layPlain_19 : decode m_Mo_layPlain.2.1 19 = .ok (.goto (-17), 3) := by decide +kernel
theorem d_Mo_layPlain_26 : decode m_Mo_layPlain.2.1 26 = .ok (.if_icmp .ge 176, 3) := by decide +kernel
theorem d_Mo_layPlain_35 : decode m_Mo_layPlain.2.1 35 = .ok (.if_icmp .ge 16, 3) := by decide +kernel
theorem d_Mo_layPlain_48 : decode m_Mo_layPlain.2.1 48 = .ok (.goto (-17), 3) := by decide +kernel
theorem d_Mo_layPlain_60 : decode m_Mo_layPlain.2.1 60 = .ok (.if_icmp .ge 26, 3) := by decide +kernel
theorem d_Mo_layPlain_72 : decode m_Mo_layPlain.2.1 72 = .ok (.invokestatic 198, 3) := by decide +kernel
theorem c_Mo_layPlain_72 : mx_cs m_Mo_layPlain m_Mo_constantCell 198 2 [1183, 1184, 90, 1185] = true := by decide +kernel
theorem d_Mo_layPlain_83 : decode m_Mo_layPlain.2.1 83 = .ok (.goto (-30), 3) := by decide +kernel
theorem d_Mo_layPlain_92 : decode m_Mo_layPlain.2.1 92 = .ok (.if_icmp .ge 77, 3) := by decide +kernel
theorem d_Mo_layPlain_103 : decode m_Mo_layPlain.2.1 103 = .ok (.if_icmp .ge 60, 3) := by decide +kernel
theorem d_Mo_layPlain_112 : decode m_Mo_layPlain.2.1 112 = .ok (.ifCond .le 51, 3) := by decide +kernel
theorem d_Mo_layPlain_122 : decode m_Mo_layPlain.2.1 122 = .ok (.ifCond .le 35, 3) := by decide +kernel
theorem d_Mo_layPlain_136 : decode m_Mo_layPlain.2.1 136 = .ok (.invokestatic 215, 3) := by decide +kernel
theorem c_Mo_layPlain_136 : mx_cs m_Mo_layPlain m_Mo_pairCell 215 3 [1210, 1211, 90, 1212] = true := by decide +kernel
theorem d_Mo_layPlain_160 : decode m_Mo_layPlain.2.1 160 = .ok (.goto (-62), 3) := by decide +kernel
theorem d_Mo_layPlain_166 : decode m_Mo_layPlain.2.1 166 = .ok (.goto (-78), 3) := by decide +kernel
theorem d_Mo_layPlain_175 : decode m_Mo_layPlain.2.1 175 = .ok (.if_icmp .ge 21, 3) := by decide +kernel
theorem d_Mo_layPlain_193 : decode m_Mo_layPlain.2.1 193 = .ok (.goto (-22), 3) := by decide +kernel
theorem d_Mo_layPlain_199 : decode m_Mo_layPlain.2.1 199 = .ok (.goto (-175), 3) := by decide +kernel
theorem d_Mo_layPlain_202 : decode m_Mo_layPlain.2.1 202 = .ok (.return_, 1) := by decide +kernel
theorem b_Mo_layThen_0 : mx_ck m_Mo_layThen 0 [(.iconst 0, [], nI 0), (.istore_n 1, [], 0)] = some 2 := by decide +kernel
theorem b_Mo_layThen_2 : mx_ck m_Mo_layThen 2 [(.iload_n 1, [], 0), (.bipush 26, [], nI 26)] = some 5 := by decide +kernel
theorem b_Mo_layThen_8 : mx_ck m_Mo_layThen 8 [(.aload_n 0, [], 0), (.getfield 25, [10, 7, 7, 947], 0), (.iload_n 1, [], 0), (.aload_n 0, [], 0), (.getfield 19, [10, 5, 5, 945], 0), (.iload_n 1, [], 0), (.iaload, [], 0), (.iastore, [], 0), (.iinc 1 1, [], nI 1)] = some 23 := by decide +kernel
theorem d_Mo_layThen_5 : decode m_Mo_layThen.2.1 5 = .ok (.if_icmp .ge 21, 3) := by decide +kernel
theorem d_Mo_layThen_23 : decode m_Mo_layThen.2.1 23 = .ok (.goto (-21), 3) := by decide +kernel
theorem d_Mo_layThen_26 : decode m_Mo_layThen.2.1 26 = .ok (.return_, 1) := by decide +kernel
theorem b_Mo_lies_0 : mx_ck m_Mo_lies 0 [(.aload_n 0, [], 0), (.iconst 0, [], nI 0), (.putfield 68, [10, 0, 0, 940], 0), (.aload_n 0, [], 0), (.iload_n 1, [], 0)] = some 7 := by decide +kernel
theorem b_Mo_lies_13 : mx_ck m_Mo_lies 13 [(.aload_n 0, [], 0), (.iload_n 2, [], 0)] = some 15 := by decide +kernel
theorem b_Mo_lies_21 : mx_ck m_Mo_lies 21 [(.ldc 88, [1050], (-1000001))] = some 23 := by decide +kernel
theorem b_Mo_lies_24 : mx_ck m_Mo_lies 24 [(.aload_n 0, [], 0), (.aload_n 0, [], 0), (.getfield 19, [10, 5, 5, 945], 0)] = some 29 := by decide +kernel
theorem b_Mo_lies_32 : mx_ck m_Mo_lies 32 [(.aload_n 0, [], 0), (.iload_n 1, [], 0), (.iload_n 2, [], 0)] = some 35 := by decide +kernel
theorem b_Mo_lies_41 : mx_ck m_Mo_lies 41 [(.iconst 1, [], nI 1)] = some 42 := by decide +kernel
theorem b_Mo_lies_45 : mx_ck m_Mo_lies 45 [(.iconst 0, [], nI 0)] = some 46 := by decide +kernel
theorem d_Mo_lies_7 : decode m_Mo_lies.2.1 7 = .ok (.invokevirtual 221, 3) := by decide +kernel
theorem c_Mo_lies_7 : mx_cv m_Mo_lies m_Mo_isType 221 1 [1139, 1141, 50, 90, 1142] = true := by decide +kernel
theorem d_Mo_lies_10 : decode m_Mo_lies.2.1 10 = .ok (.ifCond .eq 11, 3) := by decide +kernel
theorem d_Mo_lies_15 : decode m_Mo_lies.2.1 15 = .ok (.invokevirtual 221, 3) := by decide +kernel
theorem c_Mo_lies_15 : mx_cv m_Mo_lies m_Mo_isType 221 1 [1139, 1141, 50, 90, 1142] = true := by decide +kernel
theorem d_Mo_lies_18 : decode m_Mo_lies.2.1 18 = .ok (.ifCond .ne 6, 3) := by decide +kernel
theorem d_Mo_lies_23 : decode m_Mo_lies.2.1 23 = .ok (.ireturn, 1) := by decide +kernel
theorem d_Mo_lies_29 : decode m_Mo_lies.2.1 29 = .ok (.invokevirtual 240, 3) := by decide +kernel
theorem c_Mo_lies_29 : mx_cv m_Mo_lies m_Mo_reckon 240 1 [1175, 1177, 54, 90, 1178] = true := by decide +kernel
theorem d_Mo_lies_35 : decode m_Mo_lies.2.1 35 = .ok (.invokevirtual 244, 3) := by decide +kernel
theorem c_Mo_lies_35 : mx_cv m_Mo_lies m_Mo_liesIn 244 2 [1221, 1223, 60, 90, 1224] = true := by decide +kernel
theorem d_Mo_lies_38 : decode m_Mo_lies.2.1 38 = .ok (.ifCond .eq 7, 3) := by decide +kernel
theorem d_Mo_lies_42 : decode m_Mo_lies.2.1 42 = .ok (.goto 4, 3) := by decide +kernel
theorem d_Mo_lies_46 : decode m_Mo_lies.2.1 46 = .ok (.ireturn, 1) := by decide +kernel
theorem b_Mo_liesIn_0 : mx_ck m_Mo_liesIn 0 [(.iconst 0, [], nI 0), (.istore_n 3, [], 0)] = some 2 := by decide +kernel
theorem b_Mo_liesIn_2 : mx_ck m_Mo_liesIn 2 [(.iload_n 3, [], 0), (.aload_n 0, [], 0), (.getfield 185, [10, 22, 0, 962], 0)] = some 7 := by decide +kernel
theorem b_Mo_liesIn_10 : mx_ck m_Mo_liesIn 10 [(.aload_n 0, [], 0), (.getfield 40, [10, 21, 12, 961], 0), (.iload_n 3, [], 0), (.iaload, [], 0), (.iload_n 1, [], 0)] = some 17 := by decide +kernel
theorem b_Mo_liesIn_23 : mx_ck m_Mo_liesIn 23 [(.aload_n 0, [], 0), (.getfield 40, [10, 21, 12, 961], 0), (.iload_n 3, [], 0), (.iaload, [], 0), (.iload_n 2, [], 0)] = some 30 := by decide +kernel
theorem b_Mo_liesIn_36 : mx_ck m_Mo_liesIn 36 [(.iconst 0, [], nI 0)] = some 37 := by decide +kernel
theorem b_Mo_liesIn_38 : mx_ck m_Mo_liesIn 38 [(.iinc 3 1, [], nI 1)] = some 41 := by decide +kernel
theorem b_Mo_liesIn_44 : mx_ck m_Mo_liesIn 44 [(.iconst 1, [], nI 1)] = some 45 := by decide +kernel
theorem d_Mo_liesIn_7 : decode m_Mo_liesIn.2.1 7 = .ok (.if_icmp .ge 37, 3) := by decide +kernel
theorem d_Mo_liesIn_17 : decode m_Mo_liesIn.2.1 17 = .ok (.invokestatic 177, 3) := by decide +kernel
theorem c_Mo_liesIn_17 : mx_cs m_Mo_liesIn m_Mo_has 177 2 [1189, 1190, 90, 1191] = true := by decide +kernel
theorem d_Mo_liesIn_20 : decode m_Mo_liesIn.2.1 20 = .ok (.ifCond .eq 18, 3) := by decide +kernel
theorem d_Mo_liesIn_30 : decode m_Mo_liesIn.2.1 30 = .ok (.invokestatic 177, 3) := by decide +kernel
theorem c_Mo_liesIn_30 : mx_cs m_Mo_liesIn m_Mo_has 177 2 [1189, 1190, 90, 1191] = true := by decide +kernel
theorem d_Mo_liesIn_33 : decode m_Mo_liesIn.2.1 33 = .ok (.ifCond .ne 5, 3) := by decide +kernel
theorem d_Mo_liesIn_37 : decode m_Mo_liesIn.2.1 37 = .ok (.ireturn, 1) := by decide +kernel
theorem d_Mo_liesIn_41 : decode m_Mo_liesIn.2.1 41 = .ok (.goto (-39), 3) := by decide +kernel
theorem d_Mo_liesIn_45 : decode m_Mo_liesIn.2.1 45 = .ok (.ireturn, 1) := by decide +kernel
theorem b_Mo_lowest_0 : mx_ck m_Mo_lowest 0 [(.aload_n 0, [], 0), (.iconst 0, [], nI 0), (.putfield 68, [10, 0, 0, 940], 0), (.aload_n 0, [], 0)] = some 6 := by decide +kernel
theorem b_Mo_lowest_12 : mx_ck m_Mo_lowest 12 [(.ldc 233, [1155], (-1000002))] = some 14 := by decide +kernel
theorem b_Mo_lowest_15 : mx_ck m_Mo_lowest 15 [(.aload_n 0, [], 0), (.iload_n 1, [], 0)] = some 17 := by decide +kernel
theorem b_Mo_lowest_23 : mx_ck m_Mo_lowest 23 [(.aload_n 0, [], 0), (.iload_n 2, [], 0)] = some 25 := by decide +kernel
theorem b_Mo_lowest_31 : mx_ck m_Mo_lowest 31 [(.ldc 88, [1050], (-1000001))] = some 33 := by decide +kernel
theorem b_Mo_lowest_34 : mx_ck m_Mo_lowest 34 [(.aload_n 0, [], 0), (.aload_n 0, [], 0), (.getfield 19, [10, 5, 5, 945], 0)] = some 39 := by decide +kernel
theorem b_Mo_lowest_42 : mx_ck m_Mo_lowest 42 [(.ldc 111, [1090], (-1000000)), (.istore_n 3, [], 0), (.iconst 0, [], nI 0), (.istore 4, [], 0)] = some 48 := by decide +kernel
theorem b_Mo_lowest_48 : mx_ck m_Mo_lowest 48 [(.iload 4, [], 0), (.aload_n 0, [], 0), (.getfield 185, [10, 22, 0, 962], 0)] = some 54 := by decide +kernel
theorem b_Mo_lowest_57 : mx_ck m_Mo_lowest 57 [(.aload_n 0, [], 0), (.getfield 40, [10, 21, 12, 961], 0), (.iload 4, [], 0), (.iaload, [], 0), (.istore 5, [], 0), (.iload 5, [], 0), (.iload_n 1, [], 0), (.iand, [], 0), (.iload_n 1, [], 0)] = some 71 := by decide +kernel
theorem b_Mo_lowest_74 : mx_ck m_Mo_lowest 74 [(.iload 5, [], 0), (.iload_n 2, [], 0), (.iand, [], 0)] = some 78 := by decide +kernel
theorem b_Mo_lowest_81 : mx_ck m_Mo_lowest 81 [(.iconst 1, [], nI 1)] = some 82 := by decide +kernel
theorem b_Mo_lowest_85 : mx_ck m_Mo_lowest 85 [(.iconst 0, [], nI 0)] = some 86 := by decide +kernel
theorem b_Mo_lowest_86 : mx_ck m_Mo_lowest 86 [(.istore 6, [], 0), (.iload 6, [], 0)] = some 90 := by decide +kernel
theorem b_Mo_lowest_93 : mx_ck m_Mo_lowest 93 [(.iload_n 3, [], 0), (.ldc 111, [1090], (-1000000))] = some 96 := by decide +kernel
theorem b_Mo_lowest_99 : mx_ck m_Mo_lowest 99 [(.aload_n 0, [], 0), (.getfield 34, [10, 19, 10, 959], 0), (.iload 5, [], 0), (.iaload, [], 0), (.iload_n 3, [], 0)] = some 107 := by decide +kernel
theorem b_Mo_lowest_110 : mx_ck m_Mo_lowest 110 [(.aload_n 0, [], 0), (.getfield 34, [10, 19, 10, 959], 0), (.iload 5, [], 0), (.iaload, [], 0)] = some 117 := by decide +kernel
theorem b_Mo_lowest_120 : mx_ck m_Mo_lowest 120 [(.iload_n 3, [], 0)] = some 121 := by decide +kernel
theorem b_Mo_lowest_121 : mx_ck m_Mo_lowest 121 [(.istore_n 3, [], 0), (.iinc 4 1, [], nI 1)] = some 125 := by decide +kernel
theorem b_Mo_lowest_128 : mx_ck m_Mo_lowest 128 [(.iload_n 3, [], 0)] = some 129 := by decide +kernel
theorem d_Mo_lowest_6 : decode m_Mo_lowest.2.1 6 = .ok (.invokevirtual 234, 3) := by decide +kernel
theorem c_Mo_lowest_6 : mx_cv m_Mo_lowest m_Mo_isThere 234 0 [1167, 1169, 52, 90, 1170] = true := by decide +kernel
theorem d_Mo_lowest_9 : decode m_Mo_lowest.2.1 9 = .ok (.ifCond .ne 6, 3) := by decide +kernel
theorem d_Mo_lowest_14 : decode m_Mo_lowest.2.1 14 = .ok (.ireturn, 1) := by decide +kernel
theorem d_Mo_lowest_17 : decode m_Mo_lowest.2.1 17 = .ok (.invokevirtual 237, 3) := by decide +kernel
theorem c_Mo_lowest_17 : mx_cv m_Mo_lowest m_Mo_isSet 237 1 [1171, 1173, 53, 90, 1174] = true := by decide +kernel
theorem d_Mo_lowest_20 : decode m_Mo_lowest.2.1 20 = .ok (.ifCond .eq 11, 3) := by decide +kernel
theorem d_Mo_lowest_25 : decode m_Mo_lowest.2.1 25 = .ok (.invokevirtual 237, 3) := by decide +kernel
theorem c_Mo_lowest_25 : mx_cv m_Mo_lowest m_Mo_isSet 237 1 [1171, 1173, 53, 90, 1174] = true := by decide +kernel
theorem d_Mo_lowest_28 : decode m_Mo_lowest.2.1 28 = .ok (.ifCond .ne 6, 3) := by decide +kernel
theorem d_Mo_lowest_33 : decode m_Mo_lowest.2.1 33 = .ok (.ireturn, 1) := by decide +kernel
theorem d_Mo_lowest_39 : decode m_Mo_lowest.2.1 39 = .ok (.invokevirtual 240, 3) := by decide +kernel
theorem c_Mo_lowest_39 : mx_cv m_Mo_lowest m_Mo_reckon 240 1 [1175, 1177, 54, 90, 1178] = true := by decide +kernel
theorem d_Mo_lowest_54 : decode m_Mo_lowest.2.1 54 = .ok (.if_icmp .ge 74, 3) := by decide +kernel
theorem d_Mo_lowest_71 : decode m_Mo_lowest.2.1 71 = .ok (.if_icmp .ne 14, 3) := by decide +kernel
theorem d_Mo_lowest_78 : decode m_Mo_lowest.2.1 78 = .ok (.ifCond .ne 7, 3) := by decide +kernel
theorem d_Mo_lowest_82 : decode m_Mo_lowest.2.1 82 = .ok (.goto 4, 3) := by decide +kernel
theorem d_Mo_lowest_90 : decode m_Mo_lowest.2.1 90 = .ok (.ifCond .eq 30, 3) := by decide +kernel
theorem d_Mo_lowest_96 : decode m_Mo_lowest.2.1 96 = .ok (.if_icmp .eq 14, 3) := by decide +kernel
theorem d_Mo_lowest_107 : decode m_Mo_lowest.2.1 107 = .ok (.if_icmp .ge 13, 3) := by decide +kernel
theorem d_Mo_lowest_117 : decode m_Mo_lowest.2.1 117 = .ok (.goto 4, 3) := by decide +kernel
theorem d_Mo_lowest_125 : decode m_Mo_lowest.2.1 125 = .ok (.goto (-77), 3) := by decide +kernel
theorem d_Mo_lowest_129 : decode m_Mo_lowest.2.1 129 = .ok (.ireturn, 1) := by decide +kernel
theorem b_Mo_markOf_0 : mx_ck m_Mo_markOf 0 [(.aload_n 0, [], 0), (.iload_n 1, [], 0)] = some 2 := by decide +kernel
theorem b_Mo_markOf_5 : mx_ck m_Mo_markOf 5 [(.istore_n 2, [], 0), (.iload_n 2, [], 0)] = some 7 := by decide +kernel
theorem b_Mo_markOf_10 : mx_ck m_Mo_markOf 10 [(.aload_n 0, [], 0), (.bipush 20, [], nI 20)] = some 13 := by decide +kernel
theorem b_Mo_markOf_16 : mx_ck m_Mo_markOf 16 [(.iload_n 1, [], 0)] = some 17 := by decide +kernel
theorem b_Mo_markOf_18 : mx_ck m_Mo_markOf 18 [(.iload_n 2, [], 0), (.iconst 4, [], nI 4)] = some 20 := by decide +kernel
theorem b_Mo_markOf_23 : mx_ck m_Mo_markOf 23 [(.aload_n 0, [], 0), (.bipush 23, [], nI 23)] = some 26 := by decide +kernel
theorem b_Mo_markOf_29 : mx_ck m_Mo_markOf 29 [(.aload_n 0, [], 0), (.bipush 20, [], nI 20)] = some 32 := by decide +kernel
theorem b_Mo_markOf_35 : mx_ck m_Mo_markOf 35 [(.iload_n 1, [], 0), (.aload_n 0, [], 0), (.iload_n 1, [], 0)] = some 38 := by decide +kernel
theorem b_Mo_markOf_41 : mx_ck m_Mo_markOf 41 [(.isub, [], 0)] = some 42 := by decide +kernel
theorem b_Mo_markOf_43 : mx_ck m_Mo_markOf 43 [(.iload_n 2, [], 0), (.iconst 1, [], nI 1)] = some 45 := by decide +kernel
theorem b_Mo_markOf_48 : mx_ck m_Mo_markOf 48 [(.aload_n 0, [], 0), (.iload_n 2, [], 0), (.iconst 3, [], nI 3)] = some 51 := by decide +kernel
theorem b_Mo_markOf_54 : mx_ck m_Mo_markOf 54 [(.bipush 22, [], nI 22)] = some 56 := by decide +kernel
theorem b_Mo_markOf_59 : mx_ck m_Mo_markOf 59 [(.bipush 24, [], nI 24)] = some 61 := by decide +kernel
theorem b_Mo_markOf_64 : mx_ck m_Mo_markOf 64 [(.aload_n 0, [], 0), (.bipush 21, [], nI 21)] = some 67 := by decide +kernel
theorem b_Mo_markOf_70 : mx_ck m_Mo_markOf 70 [(.aload_n 0, [], 0), (.bipush 20, [], nI 20)] = some 73 := by decide +kernel
theorem b_Mo_markOf_76 : mx_ck m_Mo_markOf 76 [(.iload_n 1, [], 0), (.aload_n 0, [], 0), (.getfield 19, [10, 5, 5, 945], 0), (.iload_n 1, [], 0), (.iconst 2, [], nI 2)] = some 83 := by decide +kernel
theorem b_Mo_markOf_86 : mx_ck m_Mo_markOf 86 [(.iadd, [], 0), (.istore_n 3, [], 0), (.iload_n 2, [], 0), (.iconst 1, [], nI 1)] = some 90 := by decide +kernel
theorem b_Mo_markOf_93 : mx_ck m_Mo_markOf 93 [(.iload_n 3, [], 0)] = some 94 := by decide +kernel
theorem b_Mo_markOf_97 : mx_ck m_Mo_markOf 97 [(.iload_n 2, [], 0), (.iconst 3, [], nI 3)] = some 99 := by decide +kernel
theorem b_Mo_markOf_102 : mx_ck m_Mo_markOf 102 [(.iload_n 3, [], 0), (.sipush 1000, [], nI 1000), (.isub, [], 0)] = some 107 := by decide +kernel
theorem b_Mo_markOf_110 : mx_ck m_Mo_markOf 110 [(.iconst 2, [], nI 2), (.iload_n 3, [], 0), (.imul, [], 0)] = some 113 := by decide +kernel
theorem d_Mo_markOf_2 : decode m_Mo_markOf.2.1 2 = .ok (.invokevirtual 301, 3) := by decide +kernel
theorem c_Mo_markOf_2 : mx_cv m_Mo_markOf m_Mo_kindOf 301 1 [1333, 1335, 72, 90, 1336] = true := by decide +kernel
theorem d_Mo_markOf_7 : decode m_Mo_markOf.2.1 7 = .ok (.ifCond .ne 11, 3) := by decide +kernel
theorem d_Mo_markOf_13 : decode m_Mo_markOf.2.1 13 = .ok (.invokevirtual 310, 3) := by decide +kernel
theorem c_Mo_markOf_13 : mx_cv m_Mo_markOf m_Mo_began 310 1 [1356, 1358, 75, 90, 1359] = true := by decide +kernel
theorem d_Mo_markOf_17 : decode m_Mo_markOf.2.1 17 = .ok (.ireturn, 1) := by decide +kernel
theorem d_Mo_markOf_20 : decode m_Mo_markOf.2.1 20 = .ok (.if_icmp .lt 23, 3) := by decide +kernel
theorem d_Mo_markOf_26 : decode m_Mo_markOf.2.1 26 = .ok (.invokevirtual 310, 3) := by decide +kernel
theorem c_Mo_markOf_26 : mx_cv m_Mo_markOf m_Mo_began 310 1 [1356, 1358, 75, 90, 1359] = true := by decide +kernel
theorem d_Mo_markOf_32 : decode m_Mo_markOf.2.1 32 = .ok (.invokevirtual 310, 3) := by decide +kernel
theorem c_Mo_markOf_32 : mx_cv m_Mo_markOf m_Mo_began 310 1 [1356, 1358, 75, 90, 1359] = true := by decide +kernel
theorem d_Mo_markOf_38 : decode m_Mo_markOf.2.1 38 = .ok (.invokevirtual 316, 3) := by decide +kernel
theorem c_Mo_markOf_38 : mx_cv m_Mo_markOf m_Mo_pairSize 316 1 [1360, 1362, 76, 90, 1363] = true := by decide +kernel
theorem d_Mo_markOf_42 : decode m_Mo_markOf.2.1 42 = .ok (.ireturn, 1) := by decide +kernel
theorem d_Mo_markOf_45 : decode m_Mo_markOf.2.1 45 = .ok (.if_icmp .eq 19, 3) := by decide +kernel
theorem d_Mo_markOf_51 : decode m_Mo_markOf.2.1 51 = .ok (.if_icmp .ne 8, 3) := by decide +kernel
theorem d_Mo_markOf_56 : decode m_Mo_markOf.2.1 56 = .ok (.goto 5, 3) := by decide +kernel
theorem d_Mo_markOf_61 : decode m_Mo_markOf.2.1 61 = .ok (.invokevirtual 310, 3) := by decide +kernel
theorem c_Mo_markOf_61 : mx_cv m_Mo_markOf m_Mo_began 310 1 [1356, 1358, 75, 90, 1359] = true := by decide +kernel
theorem d_Mo_markOf_67 : decode m_Mo_markOf.2.1 67 = .ok (.invokevirtual 310, 3) := by decide +kernel
theorem c_Mo_markOf_67 : mx_cv m_Mo_markOf m_Mo_began 310 1 [1356, 1358, 75, 90, 1359] = true := by decide +kernel
theorem d_Mo_markOf_73 : decode m_Mo_markOf.2.1 73 = .ok (.invokevirtual 310, 3) := by decide +kernel
theorem c_Mo_markOf_73 : mx_cv m_Mo_markOf m_Mo_began 310 1 [1356, 1358, 75, 90, 1359] = true := by decide +kernel
theorem d_Mo_markOf_83 : decode m_Mo_markOf.2.1 83 = .ok (.invokestatic 173, 3) := by decide +kernel
theorem c_Mo_markOf_83 : mx_cs m_Mo_markOf m_Mo_of 173 3 [1160, 1161, 90, 1162] = true := by decide +kernel
theorem d_Mo_markOf_90 : decode m_Mo_markOf.2.1 90 = .ok (.if_icmp .ne 7, 3) := by decide +kernel
theorem d_Mo_markOf_94 : decode m_Mo_markOf.2.1 94 = .ok (.goto 19, 3) := by decide +kernel
theorem d_Mo_markOf_99 : decode m_Mo_markOf.2.1 99 = .ok (.if_icmp .ne 11, 3) := by decide +kernel
theorem d_Mo_markOf_107 : decode m_Mo_markOf.2.1 107 = .ok (.goto 6, 3) := by decide +kernel
theorem d_Mo_markOf_113 : decode m_Mo_markOf.2.1 113 = .ok (.ireturn, 1) := by decide +kernel
theorem b_Mo_may_0 : mx_ck m_Mo_may 0 [(.iload_n 2, [], 0)] = some 1 := by decide +kernel
theorem b_Mo_may_4 : mx_ck m_Mo_may 4 [(.iconst 3, [], nI 3)] = some 5 := by decide +kernel
theorem b_Mo_may_8 : mx_ck m_Mo_may 8 [(.iload_n 2, [], 0), (.iconst 3, [], nI 3)] = some 10 := by decide +kernel
theorem b_Mo_may_13 : mx_ck m_Mo_may 13 [(.iload_n 0, [], 0), (.iconst 1, [], nI 1), (.isub, [], 0)] = some 16 := by decide +kernel
theorem b_Mo_may_19 : mx_ck m_Mo_may 19 [(.iload_n 1, [], 0), (.iconst 1, [], nI 1), (.isub, [], 0)] = some 22 := by decide +kernel
theorem b_Mo_may_22 : mx_ck m_Mo_may 22 [(.istore 5, [], 0), (.iload_n 3, [], 0), (.i2l, [], 0), (.lconst 0, [0], 0), (.iload 5, [], 0), (.i2l, [], 0)] = some 30 := by decide +kernel
theorem b_Mo_may_36 : mx_ck m_Mo_may 36 [(.iload 4, [], 0), (.i2l, [], 0), (.iload_n 2, [], 0)] = some 40 := by decide +kernel
theorem b_Mo_may_43 : mx_ck m_Mo_may 43 [(.iload_n 3, [], 0), (.i2l, [], 0)] = some 45 := by decide +kernel
theorem b_Mo_may_48 : mx_ck m_Mo_may 48 [(.lconst 0, [0], 0)] = some 49 := by decide +kernel
theorem b_Mo_may_49 : mx_ck m_Mo_may 49 [(.iload 5, [], 0), (.i2l, [], 0)] = some 52 := by decide +kernel
theorem b_Mo_may_58 : mx_ck m_Mo_may 58 [(.iconst 1, [], nI 1)] = some 59 := by decide +kernel
theorem b_Mo_may_62 : mx_ck m_Mo_may 62 [(.iconst 0, [], nI 0)] = some 63 := by decide +kernel
theorem d_Mo_may_1 : decode m_Mo_may.2.1 1 = .ok (.ifCond .ne 7, 3) := by decide +kernel
theorem d_Mo_may_5 : decode m_Mo_may.2.1 5 = .ok (.goto 17, 3) := by decide +kernel
theorem d_Mo_may_10 : decode m_Mo_may.2.1 10 = .ok (.if_icmp .ge 9, 3) := by decide +kernel
theorem d_Mo_may_16 : decode m_Mo_may.2.1 16 = .ok (.goto 6, 3) := by decide +kernel
theorem d_Mo_may_30 : decode m_Mo_may.2.1 30 = .ok (.invokestatic 78, 3) := by decide +kernel
theorem c_Mo_may_30 : mx_cs m_Mo_may m_Mo_in 78 3 [1046, 1047, 90, 1048] = true := by decide +kernel
theorem d_Mo_may_33 : decode m_Mo_may.2.1 33 = .ok (.ifCond .eq 29, 3) := by decide +kernel
theorem d_Mo_may_40 : decode m_Mo_may.2.1 40 = .ok (.ifCond .ne 8, 3) := by decide +kernel
theorem d_Mo_may_45 : decode m_Mo_may.2.1 45 = .ok (.goto 4, 3) := by decide +kernel
theorem d_Mo_may_52 : decode m_Mo_may.2.1 52 = .ok (.invokestatic 78, 3) := by decide +kernel
theorem c_Mo_may_52 : mx_cs m_Mo_may m_Mo_in 78 3 [1046, 1047, 90, 1048] = true := by decide +kernel
theorem d_Mo_may_55 : decode m_Mo_may.2.1 55 = .ok (.ifCond .eq 7, 3) := by decide +kernel
theorem d_Mo_may_59 : decode m_Mo_may.2.1 59 = .ok (.goto 4, 3) := by decide +kernel
theorem d_Mo_may_63 : decode m_Mo_may.2.1 63 = .ok (.ireturn, 1) := by decide +kernel
theorem b_Mo_must_0 : mx_ck m_Mo_must 0 [(.iload_n 1, [], 0)] = some 1 := by decide +kernel
theorem b_Mo_must_4 : mx_ck m_Mo_must 4 [(.aload_n 0, [], 0), (.iconst 1, [], nI 1)] = some 6 := by decide +kernel
theorem b_Mo_must_9 : mx_ck m_Mo_must 9 [(.aload_n 0, [], 0), (.getfield 99, [10, 16, 0, 956], 0)] = some 13 := by decide +kernel
theorem b_Mo_must_16 : mx_ck m_Mo_must 16 [(.aload_n 0, [], 0)] = some 17 := by decide +kernel
theorem d_Mo_must_1 : decode m_Mo_must.2.1 1 = .ok (.ifCond .ne 8, 3) := by decide +kernel
theorem d_Mo_must_6 : decode m_Mo_must.2.1 6 = .ok (.invokevirtual 126, 3) := by decide +kernel
theorem c_Mo_must_6 : mx_cv m_Mo_must m_Mo_bad 126 1 [1103, 1105, 43, 90, 1106] = true := by decide +kernel
theorem d_Mo_must_13 : decode m_Mo_must.2.1 13 = .ok (.ifCond .ne 7, 3) := by decide +kernel
theorem d_Mo_must_17 : decode m_Mo_must.2.1 17 = .ok (.invokevirtual 130, 3) := by decide +kernel
theorem c_Mo_must_17 : mx_cv m_Mo_must m_Mo_nextToken 130 0 [1086, 1088, 40, 90, 1089] = true := by decide +kernel
theorem d_Mo_must_20 : decode m_Mo_must.2.1 20 = .ok (.return_, 1) := by decide +kernel
theorem b_Mo_mustSign_0 : mx_ck m_Mo_mustSign 0 [(.aload_n 0, [], 0), (.aload_n 0, [], 0), (.getfield 123, [10, 14, 0, 954], 0), (.iconst 4, [], nI 4)] = some 6 := by decide +kernel
theorem b_Mo_mustSign_9 : mx_ck m_Mo_mustSign 9 [(.aload_n 0, [], 0), (.getfield 112, [10, 15, 0, 955], 0), (.iload_n 1, [], 0)] = some 14 := by decide +kernel
theorem b_Mo_mustSign_17 : mx_ck m_Mo_mustSign 17 [(.iconst 1, [], nI 1)] = some 18 := by decide +kernel
theorem b_Mo_mustSign_21 : mx_ck m_Mo_mustSign 21 [(.iconst 0, [], nI 0)] = some 22 := by decide +kernel
theorem d_Mo_mustSign_6 : decode m_Mo_mustSign.2.1 6 = .ok (.if_icmp .ne 15, 3) := by decide +kernel
theorem d_Mo_mustSign_14 : decode m_Mo_mustSign.2.1 14 = .ok (.if_icmp .ne 7, 3) := by decide +kernel
theorem d_Mo_mustSign_18 : decode m_Mo_mustSign.2.1 18 = .ok (.goto 4, 3) := by decide +kernel
theorem d_Mo_mustSign_22 : decode m_Mo_mustSign.2.1 22 = .ok (.invokevirtual 133, 3) := by decide +kernel
theorem c_Mo_mustSign_22 : mx_cv m_Mo_mustSign m_Mo_must 133 1 [1099, 1101, 42, 90, 1102] = true := by decide +kernel
theorem d_Mo_mustSign_25 : decode m_Mo_mustSign.2.1 25 = .ok (.return_, 1) := by decide +kernel
theorem b_Mo_nextToken_0 : mx_ck m_Mo_nextToken 0 [(.aload_n 0, [], 0), (.aload_n 0, [], 0), (.getfield 108, [10, 12, 0, 952], 0), (.putfield 102, [10, 13, 0, 953], 0), (.aload_n 0, [], 0), (.aload_n 0, [], 0), (.getfield 108, [10, 12, 0, 952], 0), (.aload_n 0, [], 0), (.getfield 95, [10, 11, 0, 951], 0)] = some 17 := by decide +kernel
theorem b_Mo_nextToken_20 : mx_ck m_Mo_nextToken 20 [(.aload_n 0, [], 0), (.getfield 31, [10, 10, 9, 950], 0), (.aload_n 0, [], 0), (.getfield 108, [10, 12, 0, 952], 0), (.iaload, [], 0)] = some 29 := by decide +kernel
theorem b_Mo_nextToken_32 : mx_ck m_Mo_nextToken 32 [(.ldc 111, [1090], (-1000000))] = some 34 := by decide +kernel
theorem b_Mo_nextToken_34 : mx_ck m_Mo_nextToken 34 [(.putfield 112, [10, 15, 0, 955], 0), (.aload_n 0, [], 0), (.aload_n 0, [], 0), (.getfield 108, [10, 12, 0, 952], 0), (.aload_n 0, [], 0), (.getfield 95, [10, 11, 0, 951], 0)] = some 46 := by decide +kernel
theorem b_Mo_nextToken_49 : mx_ck m_Mo_nextToken 49 [(.iconst 1, [], nI 1)] = some 50 := by decide +kernel
theorem b_Mo_nextToken_53 : mx_ck m_Mo_nextToken 53 [(.aload_n 0, [], 0), (.getfield 112, [10, 15, 0, 955], 0), (.i2l, [], 0), (.ldc2_w 115, [97, 1091], 0), (.ldc2_w 117, [122, 1092], 0)] = some 64 := by decide +kernel
theorem b_Mo_nextToken_70 : mx_ck m_Mo_nextToken 70 [(.iconst 2, [], nI 2)] = some 71 := by decide +kernel
theorem b_Mo_nextToken_74 : mx_ck m_Mo_nextToken 74 [(.aload_n 0, [], 0), (.getfield 112, [10, 15, 0, 955], 0), (.i2l, [], 0), (.ldc2_w 119, [48, 1093], 0), (.ldc2_w 121, [57, 1094], 0)] = some 85 := by decide +kernel
theorem b_Mo_nextToken_91 : mx_ck m_Mo_nextToken 91 [(.iconst 3, [], nI 3)] = some 92 := by decide +kernel
theorem b_Mo_nextToken_95 : mx_ck m_Mo_nextToken 95 [(.aload_n 0, [], 0), (.getfield 112, [10, 15, 0, 955], 0), (.bipush 44, [], nI 44)] = some 101 := by decide +kernel
theorem b_Mo_nextToken_104 : mx_ck m_Mo_nextToken 104 [(.aload_n 0, [], 0), (.getfield 112, [10, 15, 0, 955], 0), (.bipush 59, [], nI 59)] = some 110 := by decide +kernel
theorem b_Mo_nextToken_113 : mx_ck m_Mo_nextToken 113 [(.iconst 4, [], nI 4)] = some 114 := by decide +kernel
theorem b_Mo_nextToken_117 : mx_ck m_Mo_nextToken 117 [(.iconst 0, [], nI 0)] = some 118 := by decide +kernel
theorem b_Mo_nextToken_118 : mx_ck m_Mo_nextToken 118 [(.putfield 123, [10, 14, 0, 954], 0), (.aload_n 0, [], 0), (.dup, [], 0), (.getfield 108, [10, 12, 0, 952], 0), (.aload_n 0, [], 0), (.getfield 108, [10, 12, 0, 952], 0), (.aload_n 0, [], 0), (.getfield 95, [10, 11, 0, 951], 0)] = some 134 := by decide +kernel
theorem b_Mo_nextToken_137 : mx_ck m_Mo_nextToken 137 [(.iconst 1, [], nI 1)] = some 138 := by decide +kernel
theorem b_Mo_nextToken_141 : mx_ck m_Mo_nextToken 141 [(.iconst 0, [], nI 0)] = some 142 := by decide +kernel
theorem b_Mo_nextToken_142 : mx_ck m_Mo_nextToken 142 [(.iadd, [], 0), (.putfield 108, [10, 12, 0, 952], 0), (.aload_n 0, [], 0), (.getfield 123, [10, 14, 0, 954], 0), (.iconst 3, [], nI 3)] = some 151 := by decide +kernel
theorem b_Mo_nextToken_154 : mx_ck m_Mo_nextToken 154 [(.aload_n 0, [], 0), (.dup, [], 0), (.getfield 112, [10, 15, 0, 955], 0), (.bipush 48, [], nI 48), (.isub, [], 0), (.putfield 112, [10, 15, 0, 955], 0)] = some 165 := by decide +kernel
theorem b_Mo_nextToken_165 : mx_ck m_Mo_nextToken 165 [(.aload_n 0, [], 0), (.getfield 108, [10, 12, 0, 952], 0), (.aload_n 0, [], 0), (.getfield 95, [10, 11, 0, 951], 0)] = some 173 := by decide +kernel
theorem b_Mo_nextToken_176 : mx_ck m_Mo_nextToken 176 [(.aload_n 0, [], 0), (.getfield 31, [10, 10, 9, 950], 0), (.aload_n 0, [], 0), (.getfield 108, [10, 12, 0, 952], 0), (.iaload, [], 0), (.i2l, [], 0), (.ldc2_w 119, [48, 1093], 0), (.ldc2_w 121, [57, 1094], 0)] = some 192 := by decide +kernel
theorem b_Mo_nextToken_198 : mx_ck m_Mo_nextToken 198 [(.aload_n 0, [], 0), (.aload_n 0, [], 0), (.getfield 108, [10, 12, 0, 952], 0), (.aload_n 0, [], 0), (.getfield 102, [10, 13, 0, 953], 0), (.isub, [], 0), (.iconst 2, [], nI 2)] = some 209 := by decide +kernel
theorem b_Mo_nextToken_212 : mx_ck m_Mo_nextToken 212 [(.bipush 10, [], nI 10), (.aload_n 0, [], 0), (.getfield 112, [10, 15, 0, 955], 0), (.imul, [], 0), (.aload_n 0, [], 0), (.getfield 31, [10, 10, 9, 950], 0), (.aload_n 0, [], 0), (.getfield 108, [10, 12, 0, 952], 0), (.iaload, [], 0), (.iadd, [], 0), (.bipush 48, [], nI 48), (.isub, [], 0)] = some 232 := by decide +kernel
theorem b_Mo_nextToken_235 : mx_ck m_Mo_nextToken 235 [(.aload_n 0, [], 0), (.getfield 112, [10, 15, 0, 955], 0)] = some 239 := by decide +kernel
theorem b_Mo_nextToken_239 : mx_ck m_Mo_nextToken 239 [(.putfield 112, [10, 15, 0, 955], 0), (.aload_n 0, [], 0), (.dup, [], 0), (.getfield 108, [10, 12, 0, 952], 0), (.iconst 1, [], nI 1), (.iadd, [], 0), (.putfield 108, [10, 12, 0, 952], 0)] = some 252 := by decide +kernel
theorem b_Mo_nextToken_255 : mx_ck m_Mo_nextToken 255 [(.aload_n 0, [], 0), (.aload_n 0, [], 0), (.getfield 108, [10, 12, 0, 952], 0), (.aload_n 0, [], 0), (.getfield 102, [10, 13, 0, 953], 0), (.isub, [], 0), (.iconst 2, [], nI 2)] = some 266 := by decide +kernel
theorem b_Mo_nextToken_269 : mx_ck m_Mo_nextToken 269 [(.iconst 0, [], nI 0)] = some 270 := by decide +kernel
theorem b_Mo_nextToken_273 : mx_ck m_Mo_nextToken 273 [(.iconst 3, [], nI 3)] = some 274 := by decide +kernel
theorem b_Mo_nextToken_274 : mx_ck m_Mo_nextToken 274 [(.putfield 123, [10, 14, 0, 954], 0)] = some 277 := by decide +kernel
theorem d_Mo_nextToken_17 : decode m_Mo_nextToken.2.1 17 = .ok (.if_icmp .ge 15, 3) := by decide +kernel
theorem d_Mo_nextToken_29 : decode m_Mo_nextToken.2.1 29 = .ok (.goto 5, 3) := by decide +kernel
theorem d_Mo_nextToken_46 : decode m_Mo_nextToken.2.1 46 = .ok (.if_icmp .ne 7, 3) := by decide +kernel
theorem d_Mo_nextToken_50 : decode m_Mo_nextToken.2.1 50 = .ok (.goto 68, 3) := by decide +kernel
theorem d_Mo_nextToken_64 : decode m_Mo_nextToken.2.1 64 = .ok (.invokestatic 78, 3) := by decide +kernel
theorem c_Mo_nextToken_64 : mx_cs m_Mo_nextToken m_Mo_in 78 3 [1046, 1047, 90, 1048] = true := by decide +kernel
theorem d_Mo_nextToken_67 : decode m_Mo_nextToken.2.1 67 = .ok (.ifCond .eq 7, 3) := by decide +kernel
theorem d_Mo_nextToken_71 : decode m_Mo_nextToken.2.1 71 = .ok (.goto 47, 3) := by decide +kernel
theorem d_Mo_nextToken_85 : decode m_Mo_nextToken.2.1 85 = .ok (.invokestatic 78, 3) := by decide +kernel
theorem c_Mo_nextToken_85 : mx_cs m_Mo_nextToken m_Mo_in 78 3 [1046, 1047, 90, 1048] = true := by decide +kernel
theorem d_Mo_nextToken_88 : decode m_Mo_nextToken.2.1 88 = .ok (.ifCond .eq 7, 3) := by decide +kernel
theorem d_Mo_nextToken_92 : decode m_Mo_nextToken.2.1 92 = .ok (.goto 26, 3) := by decide +kernel
theorem d_Mo_nextToken_101 : decode m_Mo_nextToken.2.1 101 = .ok (.if_icmp .eq 12, 3) := by decide +kernel
theorem d_Mo_nextToken_110 : decode m_Mo_nextToken.2.1 110 = .ok (.if_icmp .ne 7, 3) := by decide +kernel
theorem d_Mo_nextToken_114 : decode m_Mo_nextToken.2.1 114 = .ok (.goto 4, 3) := by decide +kernel
theorem d_Mo_nextToken_134 : decode m_Mo_nextToken.2.1 134 = .ok (.if_icmp .ge 7, 3) := by decide +kernel
theorem d_Mo_nextToken_138 : decode m_Mo_nextToken.2.1 138 = .ok (.goto 4, 3) := by decide +kernel
theorem d_Mo_nextToken_151 : decode m_Mo_nextToken.2.1 151 = .ok (.if_icmp .ne 126, 3) := by decide +kernel
theorem d_Mo_nextToken_173 : decode m_Mo_nextToken.2.1 173 = .ok (.if_icmp .ge 82, 3) := by decide +kernel
theorem d_Mo_nextToken_192 : decode m_Mo_nextToken.2.1 192 = .ok (.invokestatic 78, 3) := by decide +kernel
theorem c_Mo_nextToken_192 : mx_cs m_Mo_nextToken m_Mo_in 78 3 [1046, 1047, 90, 1048] = true := by decide +kernel
theorem d_Mo_nextToken_195 : decode m_Mo_nextToken.2.1 195 = .ok (.ifCond .eq 60, 3) := by decide +kernel
theorem d_Mo_nextToken_209 : decode m_Mo_nextToken.2.1 209 = .ok (.if_icmp .ge 26, 3) := by decide +kernel
theorem d_Mo_nextToken_232 : decode m_Mo_nextToken.2.1 232 = .ok (.goto 7, 3) := by decide +kernel
theorem d_Mo_nextToken_252 : decode m_Mo_nextToken.2.1 252 = .ok (.goto (-87), 3) := by decide +kernel
theorem d_Mo_nextToken_266 : decode m_Mo_nextToken.2.1 266 = .ok (.if_icmp .le 7, 3) := by decide +kernel
theorem d_Mo_nextToken_270 : decode m_Mo_nextToken.2.1 270 = .ok (.goto 4, 3) := by decide +kernel
theorem d_Mo_nextToken_277 : decode m_Mo_nextToken.2.1 277 = .ok (.return_, 1) := by decide +kernel
theorem b_Mo_number_0 : mx_ck m_Mo_number 0 [(.aload_n 0, [], 0), (.getfield 99, [10, 16, 0, 956], 0)] = some 4 := by decide +kernel
theorem b_Mo_number_7 : mx_ck m_Mo_number 7 [(.aload_n 0, [], 0), (.getfield 123, [10, 14, 0, 954], 0), (.iconst 3, [], nI 3)] = some 12 := by decide +kernel
theorem b_Mo_number_15 : mx_ck m_Mo_number 15 [(.aload_n 0, [], 0), (.iconst 1, [], nI 1)] = some 17 := by decide +kernel
theorem b_Mo_number_20 : mx_ck m_Mo_number 20 [(.aload_n 0, [], 0), (.getfield 99, [10, 16, 0, 956], 0)] = some 24 := by decide +kernel
theorem b_Mo_number_27 : mx_ck m_Mo_number 27 [(.aload_n 0, [], 0), (.getfield 112, [10, 15, 0, 955], 0), (.i2l, [], 0), (.iload_n 1, [], 0), (.i2l, [], 0), (.iload_n 2, [], 0), (.i2l, [], 0)] = some 36 := by decide +kernel
theorem b_Mo_number_42 : mx_ck m_Mo_number 42 [(.aload_n 0, [], 0), (.iconst 2, [], nI 2)] = some 44 := by decide +kernel
theorem b_Mo_number_47 : mx_ck m_Mo_number 47 [(.aload_n 0, [], 0), (.getfield 99, [10, 16, 0, 956], 0)] = some 51 := by decide +kernel
theorem b_Mo_number_54 : mx_ck m_Mo_number 54 [(.aload_n 0, [], 0), (.getfield 112, [10, 15, 0, 955], 0)] = some 58 := by decide +kernel
theorem b_Mo_number_61 : mx_ck m_Mo_number 61 [(.iload_n 1, [], 0)] = some 62 := by decide +kernel
theorem b_Mo_number_62 : mx_ck m_Mo_number 62 [(.istore_n 3, [], 0), (.aload_n 0, [], 0), (.iconst 1, [], nI 1)] = some 65 := by decide +kernel
theorem b_Mo_number_68 : mx_ck m_Mo_number 68 [(.iload_n 3, [], 0)] = some 69 := by decide +kernel
theorem d_Mo_number_4 : decode m_Mo_number.2.1 4 = .ok (.ifCond .ne 16, 3) := by decide +kernel
theorem d_Mo_number_12 : decode m_Mo_number.2.1 12 = .ok (.if_icmp .eq 8, 3) := by decide +kernel
theorem d_Mo_number_17 : decode m_Mo_number.2.1 17 = .ok (.invokevirtual 126, 3) := by decide +kernel
theorem c_Mo_number_17 : mx_cv m_Mo_number m_Mo_bad 126 1 [1103, 1105, 43, 90, 1106] = true := by decide +kernel
theorem d_Mo_number_24 : decode m_Mo_number.2.1 24 = .ok (.ifCond .ne 23, 3) := by decide +kernel
theorem d_Mo_number_36 : decode m_Mo_number.2.1 36 = .ok (.invokestatic 78, 3) := by decide +kernel
theorem c_Mo_number_36 : mx_cs m_Mo_number m_Mo_in 78 3 [1046, 1047, 90, 1048] = true := by decide +kernel
theorem d_Mo_number_39 : decode m_Mo_number.2.1 39 = .ok (.ifCond .ne 8, 3) := by decide +kernel
theorem d_Mo_number_44 : decode m_Mo_number.2.1 44 = .ok (.invokevirtual 126, 3) := by decide +kernel
theorem c_Mo_number_44 : mx_cv m_Mo_number m_Mo_bad 126 1 [1103, 1105, 43, 90, 1106] = true := by decide +kernel
theorem d_Mo_number_51 : decode m_Mo_number.2.1 51 = .ok (.ifCond .ne 10, 3) := by decide +kernel
theorem d_Mo_number_58 : decode m_Mo_number.2.1 58 = .ok (.goto 4, 3) := by decide +kernel
theorem d_Mo_number_65 : decode m_Mo_number.2.1 65 = .ok (.invokevirtual 133, 3) := by decide +kernel
theorem c_Mo_number_65 : mx_cv m_Mo_number m_Mo_must 133 1 [1099, 1101, 42, 90, 1102] = true := by decide +kernel
theorem d_Mo_number_69 : decode m_Mo_number.2.1 69 = .ok (.ireturn, 1) := by decide +kernel
theorem b_Mo_of_0 : mx_ck m_Mo_of 0 [(.aload_n 0, [], 0), (.iconst 2, [], nI 2), (.iconst 3, [], nI 3), (.iload_n 1, [], 0), (.imul, [], 0), (.iadd, [], 0), (.iload_n 2, [], 0), (.iadd, [], 0), (.iaload, [], 0)] = some 9 := by decide +kernel
theorem d_Mo_of_9 : decode m_Mo_of.2.1 9 = .ok (.ireturn, 1) := by decide +kernel
theorem b_Mo_others_0 : mx_ck m_Mo_others 0 [(.aload_n 0, [], 0), (.iconst 0, [], nI 0), (.putfield 68, [10, 0, 0, 940], 0), (.aload_n 0, [], 0), (.iload_n 1, [], 0)] = some 7 := by decide +kernel
theorem b_Mo_others_13 : mx_ck m_Mo_others 13 [(.iload_n 2, [], 0), (.i2l, [], 0), (.lconst 0, [0], 0), (.ldc2_w 86, [2, 1049], 0)] = some 19 := by decide +kernel
theorem b_Mo_others_25 : mx_ck m_Mo_others 25 [(.ldc 88, [1050], (-1000001))] = some 27 := by decide +kernel
theorem b_Mo_others_28 : mx_ck m_Mo_others 28 [(.aload_n 0, [], 0), (.aload_n 0, [], 0), (.getfield 19, [10, 5, 5, 945], 0)] = some 33 := by decide +kernel
theorem b_Mo_others_36 : mx_ck m_Mo_others 36 [(.iconst 0, [], nI 0), (.istore_n 3, [], 0), (.iconst 0, [], nI 0), (.istore 4, [], 0)] = some 41 := by decide +kernel
theorem b_Mo_others_41 : mx_ck m_Mo_others 41 [(.iload 4, [], 0), (.aload_n 0, [], 0), (.getfield 19, [10, 5, 5, 945], 0), (.iconst 0, [], nI 0), (.iaload, [], 0)] = some 49 := by decide +kernel
theorem b_Mo_others_52 : mx_ck m_Mo_others 52 [(.iload_n 2, [], 0), (.iconst 2, [], nI 2)] = some 54 := by decide +kernel
theorem b_Mo_others_57 : mx_ck m_Mo_others 57 [(.aload_n 0, [], 0), (.iload_n 1, [], 0), (.iload 4, [], 0)] = some 61 := by decide +kernel
theorem b_Mo_others_67 : mx_ck m_Mo_others 67 [(.aload_n 0, [], 0), (.iload_n 1, [], 0), (.iload 4, [], 0)] = some 71 := by decide +kernel
theorem b_Mo_others_77 : mx_ck m_Mo_others 77 [(.iload_n 2, [], 0)] = some 78 := by decide +kernel
theorem b_Mo_others_81 : mx_ck m_Mo_others 81 [(.aload_n 0, [], 0), (.iload 4, [], 0), (.iload_n 1, [], 0)] = some 85 := by decide +kernel
theorem b_Mo_others_91 : mx_ck m_Mo_others 91 [(.iconst 1, [], nI 1)] = some 92 := by decide +kernel
theorem b_Mo_others_95 : mx_ck m_Mo_others 95 [(.iconst 0, [], nI 0)] = some 96 := by decide +kernel
theorem b_Mo_others_96 : mx_ck m_Mo_others 96 [(.istore 5, [], 0), (.iload_n 3, [], 0), (.iload 5, [], 0)] = some 101 := by decide +kernel
theorem b_Mo_others_104 : mx_ck m_Mo_others 104 [(.iconst 1, [], nI 1), (.iload 4, [], 0), (.ishl, [], 0)] = some 108 := by decide +kernel
theorem b_Mo_others_111 : mx_ck m_Mo_others 111 [(.iconst 0, [], nI 0)] = some 112 := by decide +kernel
theorem b_Mo_others_112 : mx_ck m_Mo_others 112 [(.ior, [], 0), (.istore_n 3, [], 0), (.iinc 4 1, [], nI 1)] = some 117 := by decide +kernel
theorem b_Mo_others_120 : mx_ck m_Mo_others 120 [(.iload_n 3, [], 0)] = some 121 := by decide +kernel
theorem d_Mo_others_7 : decode m_Mo_others.2.1 7 = .ok (.invokevirtual 221, 3) := by decide +kernel
theorem c_Mo_others_7 : mx_cv m_Mo_others m_Mo_isType 221 1 [1139, 1141, 50, 90, 1142] = true := by decide +kernel
theorem d_Mo_others_10 : decode m_Mo_others.2.1 10 = .ok (.ifCond .eq 15, 3) := by decide +kernel
theorem d_Mo_others_19 : decode m_Mo_others.2.1 19 = .ok (.invokestatic 78, 3) := by decide +kernel
theorem c_Mo_others_19 : mx_cs m_Mo_others m_Mo_in 78 3 [1046, 1047, 90, 1048] = true := by decide +kernel
theorem d_Mo_others_22 : decode m_Mo_others.2.1 22 = .ok (.ifCond .ne 6, 3) := by decide +kernel
theorem d_Mo_others_27 : decode m_Mo_others.2.1 27 = .ok (.ireturn, 1) := by decide +kernel
theorem d_Mo_others_33 : decode m_Mo_others.2.1 33 = .ok (.invokevirtual 240, 3) := by decide +kernel
theorem c_Mo_others_33 : mx_cv m_Mo_others m_Mo_reckon 240 1 [1175, 1177, 54, 90, 1178] = true := by decide +kernel
theorem d_Mo_others_49 : decode m_Mo_others.2.1 49 = .ok (.if_icmp .ge 71, 3) := by decide +kernel
theorem d_Mo_others_54 : decode m_Mo_others.2.1 54 = .ok (.if_icmp .ne 13, 3) := by decide +kernel
theorem d_Mo_others_61 : decode m_Mo_others.2.1 61 = .ok (.invokevirtual 247, 3) := by decide +kernel
theorem c_Mo_others_61 : mx_cv m_Mo_others m_Mo_areApart 247 2 [1229, 1231, 61, 90, 1232] = true := by decide +kernel
theorem d_Mo_others_64 : decode m_Mo_others.2.1 64 = .ok (.goto 32, 3) := by decide +kernel
theorem d_Mo_others_71 : decode m_Mo_others.2.1 71 = .ok (.invokevirtual 244, 3) := by decide +kernel
theorem c_Mo_others_71 : mx_cv m_Mo_others m_Mo_liesIn 244 2 [1221, 1223, 60, 90, 1224] = true := by decide +kernel
theorem d_Mo_others_74 : decode m_Mo_others.2.1 74 = .ok (.ifCond .eq 21, 3) := by decide +kernel
theorem d_Mo_others_78 : decode m_Mo_others.2.1 78 = .ok (.ifCond .eq 13, 3) := by decide +kernel
theorem d_Mo_others_85 : decode m_Mo_others.2.1 85 = .ok (.invokevirtual 244, 3) := by decide +kernel
theorem c_Mo_others_85 : mx_cv m_Mo_others m_Mo_liesIn 244 2 [1221, 1223, 60, 90, 1224] = true := by decide +kernel
theorem d_Mo_others_88 : decode m_Mo_others.2.1 88 = .ok (.ifCond .eq 7, 3) := by decide +kernel
theorem d_Mo_others_92 : decode m_Mo_others.2.1 92 = .ok (.goto 4, 3) := by decide +kernel
theorem d_Mo_others_101 : decode m_Mo_others.2.1 101 = .ok (.ifCond .eq 10, 3) := by decide +kernel
theorem d_Mo_others_108 : decode m_Mo_others.2.1 108 = .ok (.goto 4, 3) := by decide +kernel
theorem d_Mo_others_117 : decode m_Mo_others.2.1 117 = .ok (.goto (-76), 3) := by decide +kernel
theorem d_Mo_others_121 : decode m_Mo_others.2.1 121 = .ok (.ireturn, 1) := by decide +kernel
theorem b_Mo_pairCell_0 : mx_ck m_Mo_pairCell 0 [(.iconst 0, [], nI 0), (.istore_n 3, [], 0), (.iconst 0, [], nI 0), (.istore 4, [], 0)] = some 5 := by decide +kernel
theorem b_Mo_pairCell_5 : mx_ck m_Mo_pairCell 5 [(.iload 4, [], 0), (.aload_n 0, [], 0), (.iconst 0, [], nI 0), (.iaload, [], 0)] = some 10 := by decide +kernel
theorem b_Mo_pairCell_13 : mx_ck m_Mo_pairCell 13 [(.iload_n 3, [], 0), (.aload_n 0, [], 0), (.iload 4, [], 0), (.iconst 0, [], nI 0)] = some 18 := by decide +kernel
theorem b_Mo_pairCell_21 : mx_ck m_Mo_pairCell 21 [(.iconst 1, [], nI 1)] = some 22 := by decide +kernel
theorem b_Mo_pairCell_25 : mx_ck m_Mo_pairCell 25 [(.iload_n 1, [], 0), (.aload_n 0, [], 0), (.iload 4, [], 0), (.iconst 1, [], nI 1)] = some 30 := by decide +kernel
theorem b_Mo_pairCell_39 : mx_ck m_Mo_pairCell 39 [(.iload_n 2, [], 0), (.aload_n 0, [], 0), (.iload 4, [], 0), (.iconst 2, [], nI 2)] = some 44 := by decide +kernel
theorem b_Mo_pairCell_53 : mx_ck m_Mo_pairCell 53 [(.iconst 1, [], nI 1), (.iload 4, [], 0), (.ishl, [], 0)] = some 57 := by decide +kernel
theorem b_Mo_pairCell_60 : mx_ck m_Mo_pairCell 60 [(.iconst 0, [], nI 0)] = some 61 := by decide +kernel
theorem b_Mo_pairCell_61 : mx_ck m_Mo_pairCell 61 [(.ior, [], 0), (.istore_n 3, [], 0), (.iinc 4 1, [], nI 1)] = some 66 := by decide +kernel
theorem b_Mo_pairCell_69 : mx_ck m_Mo_pairCell 69 [(.aload_n 0, [], 0), (.iload_n 3, [], 0)] = some 71 := by decide +kernel
theorem d_Mo_pairCell_10 : decode m_Mo_pairCell.2.1 10 = .ok (.if_icmp .ge 59, 3) := by decide +kernel
theorem d_Mo_pairCell_18 : decode m_Mo_pairCell.2.1 18 = .ok (.invokestatic 173, 3) := by decide +kernel
theorem c_Mo_pairCell_18 : mx_cs m_Mo_pairCell m_Mo_of 173 3 [1160, 1161, 90, 1162] = true := by decide +kernel
theorem d_Mo_pairCell_22 : decode m_Mo_pairCell.2.1 22 = .ok (.if_icmp .ne 38, 3) := by decide +kernel
theorem d_Mo_pairCell_30 : decode m_Mo_pairCell.2.1 30 = .ok (.invokestatic 173, 3) := by decide +kernel
theorem c_Mo_pairCell_30 : mx_cs m_Mo_pairCell m_Mo_of 173 3 [1160, 1161, 90, 1162] = true := by decide +kernel
theorem d_Mo_pairCell_33 : decode m_Mo_pairCell.2.1 33 = .ok (.invokestatic 177, 3) := by decide +kernel
theorem c_Mo_pairCell_33 : mx_cs m_Mo_pairCell m_Mo_has 177 2 [1189, 1190, 90, 1191] = true := by decide +kernel
theorem d_Mo_pairCell_36 : decode m_Mo_pairCell.2.1 36 = .ok (.ifCond .eq 24, 3) := by decide +kernel
theorem d_Mo_pairCell_44 : decode m_Mo_pairCell.2.1 44 = .ok (.invokestatic 173, 3) := by decide +kernel
theorem c_Mo_pairCell_44 : mx_cs m_Mo_pairCell m_Mo_of 173 3 [1160, 1161, 90, 1162] = true := by decide +kernel
theorem d_Mo_pairCell_47 : decode m_Mo_pairCell.2.1 47 = .ok (.invokestatic 177, 3) := by decide +kernel
theorem c_Mo_pairCell_47 : mx_cs m_Mo_pairCell m_Mo_has 177 2 [1189, 1190, 90, 1191] = true := by decide +kernel
theorem d_Mo_pairCell_50 : decode m_Mo_pairCell.2.1 50 = .ok (.ifCond .eq 10, 3) := by decide +kernel
theorem d_Mo_pairCell_57 : decode m_Mo_pairCell.2.1 57 = .ok (.goto 4, 3) := by decide +kernel
theorem d_Mo_pairCell_66 : decode m_Mo_pairCell.2.1 66 = .ok (.goto (-61), 3) := by decide +kernel
theorem d_Mo_pairCell_71 : decode m_Mo_pairCell.2.1 71 = .ok (.invokestatic 181, 3) := by decide +kernel
theorem c_Mo_pairCell_71 : mx_cs m_Mo_pairCell m_Mo_cellOf 181 2 [1186, 1187, 90, 1188] = true := by decide +kernel
theorem d_Mo_pairCell_74 : decode m_Mo_pairCell.2.1 74 = .ok (.ireturn, 1) := by decide +kernel
theorem b_Mo_pairSize_0 : mx_ck m_Mo_pairSize 0 [(.aload_n 0, [], 0), (.iload_n 1, [], 0)] = some 2 := by decide +kernel
theorem b_Mo_pairSize_5 : mx_ck m_Mo_pairSize 5 [(.iconst 5, [], nI 5)] = some 6 := by decide +kernel
theorem b_Mo_pairSize_9 : mx_ck m_Mo_pairSize 9 [(.iconst 1, [], nI 1)] = some 10 := by decide +kernel
theorem b_Mo_pairSize_13 : mx_ck m_Mo_pairSize 13 [(.iconst 0, [], nI 0)] = some 14 := by decide +kernel
theorem b_Mo_pairSize_14 : mx_ck m_Mo_pairSize 14 [(.istore_n 2, [], 0), (.iload_n 2, [], 0)] = some 16 := by decide +kernel
theorem b_Mo_pairSize_19 : mx_ck m_Mo_pairSize 19 [(.aload_n 0, [], 0), (.bipush 14, [], nI 14)] = some 22 := by decide +kernel
theorem b_Mo_pairSize_25 : mx_ck m_Mo_pairSize 25 [(.aload_n 0, [], 0), (.bipush 13, [], nI 13)] = some 28 := by decide +kernel
theorem b_Mo_pairSize_31 : mx_ck m_Mo_pairSize 31 [(.aload_n 0, [], 0), (.iload_n 1, [], 0)] = some 33 := by decide +kernel
theorem b_Mo_pairSize_36 : mx_ck m_Mo_pairSize 36 [(.bipush 100, [], nI 100), (.isub, [], 0), (.istore_n 3, [], 0), (.iload_n 2, [], 0)] = some 41 := by decide +kernel
theorem b_Mo_pairSize_44 : mx_ck m_Mo_pairSize 44 [(.iconst 2, [], nI 2), (.iload_n 3, [], 0), (.imul, [], 0)] = some 47 := by decide +kernel
theorem b_Mo_pairSize_50 : mx_ck m_Mo_pairSize 50 [(.iload_n 3, [], 0)] = some 51 := by decide +kernel
theorem d_Mo_pairSize_2 : decode m_Mo_pairSize.2.1 2 = .ok (.invokevirtual 301, 3) := by decide +kernel
theorem c_Mo_pairSize_2 : mx_cv m_Mo_pairSize m_Mo_kindOf 301 1 [1333, 1335, 72, 90, 1336] = true := by decide +kernel
theorem d_Mo_pairSize_6 : decode m_Mo_pairSize.2.1 6 = .ok (.if_icmp .ne 7, 3) := by decide +kernel
theorem d_Mo_pairSize_10 : decode m_Mo_pairSize.2.1 10 = .ok (.goto 4, 3) := by decide +kernel
theorem d_Mo_pairSize_16 : decode m_Mo_pairSize.2.1 16 = .ok (.ifCond .eq 9, 3) := by decide +kernel
theorem d_Mo_pairSize_22 : decode m_Mo_pairSize.2.1 22 = .ok (.invokevirtual 310, 3) := by decide +kernel
theorem c_Mo_pairSize_22 : mx_cv m_Mo_pairSize m_Mo_began 310 1 [1356, 1358, 75, 90, 1359] = true := by decide +kernel
theorem d_Mo_pairSize_28 : decode m_Mo_pairSize.2.1 28 = .ok (.invokevirtual 310, 3) := by decide +kernel
theorem c_Mo_pairSize_28 : mx_cv m_Mo_pairSize m_Mo_began 310 1 [1356, 1358, 75, 90, 1359] = true := by decide +kernel
theorem d_Mo_pairSize_33 : decode m_Mo_pairSize.2.1 33 = .ok (.invokevirtual 313, 3) := by decide +kernel
theorem c_Mo_pairSize_33 : mx_cv m_Mo_pairSize m_Mo_plainSize 313 1 [1352, 1354, 74, 90, 1355] = true := by decide +kernel
theorem d_Mo_pairSize_41 : decode m_Mo_pairSize.2.1 41 = .ok (.ifCond .eq 9, 3) := by decide +kernel
theorem d_Mo_pairSize_47 : decode m_Mo_pairSize.2.1 47 = .ok (.goto 4, 3) := by decide +kernel
theorem d_Mo_pairSize_51 : decode m_Mo_pairSize.2.1 51 = .ok (.ireturn, 1) := by decide +kernel
theorem b_Mo_pick_0 : mx_ck m_Mo_pick 0 [(.aload_n 0, [], 0), (.iconst 0, [], nI 0), (.putfield 68, [10, 0, 0, 940], 0), (.aload_n 0, [], 0), (.iload_n 1, [], 0)] = some 7 := by decide +kernel
theorem b_Mo_pick_13 : mx_ck m_Mo_pick 13 [(.iload_n 2, [], 0), (.i2l, [], 0), (.lconst 1, [1], 0), (.ldc2_w 267, [4, 1281], 0)] = some 19 := by decide +kernel
theorem b_Mo_pick_25 : mx_ck m_Mo_pick 25 [(.iload_n 3, [], 0), (.i2l, [], 0), (.lconst 0, [0], 0), (.lconst 1, [1], 0)] = some 29 := by decide +kernel
theorem b_Mo_pick_35 : mx_ck m_Mo_pick 35 [(.ldc 88, [1050], (-1000001))] = some 37 := by decide +kernel
theorem b_Mo_pick_38 : mx_ck m_Mo_pick 38 [(.aload_n 0, [], 0), (.iload_n 2, [], 0)] = some 40 := by decide +kernel
theorem b_Mo_pick_43 : mx_ck m_Mo_pick 43 [(.aload_n 0, [], 0), (.iload_n 1, [], 0)] = some 45 := by decide +kernel
theorem b_Mo_pick_48 : mx_ck m_Mo_pick 48 [(.istore 4, [], 0), (.aload_n 0, [], 0), (.iconst (-1), [], (-1))] = some 52 := by decide +kernel
theorem b_Mo_pick_55 : mx_ck m_Mo_pick 55 [(.istore 5, [], 0), (.iload 4, [], 0), (.istore 6, [], 0), (.iload 5, [], 0), (.istore 7, [], 0)] = some 65 := by decide +kernel
theorem b_Mo_pick_65 : mx_ck m_Mo_pick 65 [(.iload 7, [], 0)] = some 67 := by decide +kernel
theorem b_Mo_pick_70 : mx_ck m_Mo_pick 70 [(.iload 6, [], 0), (.iload 7, [], 0), (.irem, [], 0), (.istore 8, [], 0), (.iload 7, [], 0), (.istore 6, [], 0), (.iload 8, [], 0), (.istore 7, [], 0)] = some 85 := by decide +kernel
theorem b_Mo_pick_88 : mx_ck m_Mo_pick 88 [(.iload_n 3, [], 0)] = some 89 := by decide +kernel
theorem b_Mo_pick_92 : mx_ck m_Mo_pick 92 [(.iload 4, [], 0)] = some 94 := by decide +kernel
theorem b_Mo_pick_97 : mx_ck m_Mo_pick 97 [(.iload 5, [], 0)] = some 99 := by decide +kernel
theorem b_Mo_pick_99 : mx_ck m_Mo_pick 99 [(.iload 6, [], 0), (.idiv, [], 0)] = some 102 := by decide +kernel
theorem d_Mo_pick_7 : decode m_Mo_pick.2.1 7 = .ok (.invokevirtual 221, 3) := by decide +kernel
theorem c_Mo_pick_7 : mx_cv m_Mo_pick m_Mo_isType 221 1 [1139, 1141, 50, 90, 1142] = true := by decide +kernel
theorem d_Mo_pick_10 : decode m_Mo_pick.2.1 10 = .ok (.ifCond .eq 25, 3) := by decide +kernel
theorem d_Mo_pick_19 : decode m_Mo_pick.2.1 19 = .ok (.invokestatic 78, 3) := by decide +kernel
theorem c_Mo_pick_19 : mx_cs m_Mo_pick m_Mo_in 78 3 [1046, 1047, 90, 1048] = true := by decide +kernel
theorem d_Mo_pick_22 : decode m_Mo_pick.2.1 22 = .ok (.ifCond .eq 13, 3) := by decide +kernel
theorem d_Mo_pick_29 : decode m_Mo_pick.2.1 29 = .ok (.invokestatic 78, 3) := by decide +kernel
theorem c_Mo_pick_29 : mx_cs m_Mo_pick m_Mo_in 78 3 [1046, 1047, 90, 1048] = true := by decide +kernel
theorem d_Mo_pick_32 : decode m_Mo_pick.2.1 32 = .ok (.ifCond .ne 6, 3) := by decide +kernel
theorem d_Mo_pick_37 : decode m_Mo_pick.2.1 37 = .ok (.ireturn, 1) := by decide +kernel
theorem d_Mo_pick_40 : decode m_Mo_pick.2.1 40 = .ok (.invokevirtual 269, 3) := by decide +kernel
theorem c_Mo_pick_40 : mx_cv m_Mo_pick m_Mo_layPlain 269 1 [1282, 1284, 68, 90, 1285] = true := by decide +kernel
theorem d_Mo_pick_45 : decode m_Mo_pick.2.1 45 = .ok (.invokevirtual 272, 3) := by decide +kernel
theorem c_Mo_pick_45 : mx_cv m_Mo_pick m_Mo_plainOf 272 1 [1286, 1288, 69, 90, 1289] = true := by decide +kernel
theorem d_Mo_pick_52 : decode m_Mo_pick.2.1 52 = .ok (.invokevirtual 272, 3) := by decide +kernel
theorem c_Mo_pick_52 : mx_cv m_Mo_pick m_Mo_plainOf 272 1 [1286, 1288, 69, 90, 1289] = true := by decide +kernel
theorem d_Mo_pick_67 : decode m_Mo_pick.2.1 67 = .ok (.ifCond .eq 21, 3) := by decide +kernel
theorem d_Mo_pick_85 : decode m_Mo_pick.2.1 85 = .ok (.goto (-20), 3) := by decide +kernel
theorem d_Mo_pick_89 : decode m_Mo_pick.2.1 89 = .ok (.ifCond .ne 8, 3) := by decide +kernel
theorem d_Mo_pick_94 : decode m_Mo_pick.2.1 94 = .ok (.goto 5, 3) := by decide +kernel
theorem d_Mo_pick_102 : decode m_Mo_pick.2.1 102 = .ok (.ireturn, 1) := by decide +kernel
theorem b_Mo_plain_0 : mx_ck m_Mo_plain 0 [(.aload_n 0, [], 0), (.iconst 0, [], nI 0), (.putfield 68, [10, 0, 0, 940], 0), (.aload_n 0, [], 0), (.iload_n 1, [], 0)] = some 7 := by decide +kernel
theorem b_Mo_plain_13 : mx_ck m_Mo_plain 13 [(.iload_n 2, [], 0), (.i2l, [], 0), (.lconst 1, [1], 0), (.ldc2_w 267, [4, 1281], 0)] = some 19 := by decide +kernel
theorem b_Mo_plain_25 : mx_ck m_Mo_plain 25 [(.ldc 88, [1050], (-1000001))] = some 27 := by decide +kernel
theorem b_Mo_plain_28 : mx_ck m_Mo_plain 28 [(.aload_n 0, [], 0), (.iload_n 2, [], 0)] = some 30 := by decide +kernel
theorem b_Mo_plain_33 : mx_ck m_Mo_plain 33 [(.aload_n 0, [], 0), (.iload_n 1, [], 0)] = some 35 := by decide +kernel
theorem d_Mo_plain_7 : decode m_Mo_plain.2.1 7 = .ok (.invokevirtual 221, 3) := by decide +kernel
theorem c_Mo_plain_7 : mx_cv m_Mo_plain m_Mo_isType 221 1 [1139, 1141, 50, 90, 1142] = true := by decide +kernel
theorem d_Mo_plain_10 : decode m_Mo_plain.2.1 10 = .ok (.ifCond .eq 15, 3) := by decide +kernel
theorem d_Mo_plain_19 : decode m_Mo_plain.2.1 19 = .ok (.invokestatic 78, 3) := by decide +kernel
theorem c_Mo_plain_19 : mx_cs m_Mo_plain m_Mo_in 78 3 [1046, 1047, 90, 1048] = true := by decide +kernel
theorem d_Mo_plain_22 : decode m_Mo_plain.2.1 22 = .ok (.ifCond .ne 6, 3) := by decide +kernel
theorem d_Mo_plain_27 : decode m_Mo_plain.2.1 27 = .ok (.ireturn, 1) := by decide +kernel
theorem d_Mo_plain_30 : decode m_Mo_plain.2.1 30 = .ok (.invokevirtual 269, 3) := by decide +kernel
theorem c_Mo_plain_30 : mx_cv m_Mo_plain m_Mo_layPlain 269 1 [1282, 1284, 68, 90, 1285] = true := by decide +kernel
theorem d_Mo_plain_35 : decode m_Mo_plain.2.1 35 = .ok (.invokevirtual 272, 3) := by decide +kernel
theorem c_Mo_plain_35 : mx_cv m_Mo_plain m_Mo_plainOf 272 1 [1286, 1288, 69, 90, 1289] = true := by decide +kernel
theorem d_Mo_plain_38 : decode m_Mo_plain.2.1 38 = .ok (.ireturn, 1) := by decide +kernel
theorem b_Mo_plainOf_0 : mx_ck m_Mo_plainOf 0 [(.iconst 0, [], nI 0), (.istore_n 2, [], 0), (.iconst 0, [], nI 0), (.istore_n 3, [], 0)] = some 4 := by decide +kernel
theorem b_Mo_plainOf_4 : mx_ck m_Mo_plainOf 4 [(.iload_n 3, [], 0), (.sipush 256, [], nI 256)] = some 8 := by decide +kernel
theorem b_Mo_plainOf_11 : mx_ck m_Mo_plainOf 11 [(.iload_n 2, [], 0), (.iload_n 1, [], 0)] = some 13 := by decide +kernel
theorem b_Mo_plainOf_16 : mx_ck m_Mo_plainOf 16 [(.iload_n 3, [], 0), (.iload_n 1, [], 0)] = some 18 := by decide +kernel
theorem b_Mo_plainOf_24 : mx_ck m_Mo_plainOf 24 [(.aload_n 0, [], 0), (.getfield 53, [10, 26, 16, 966], 0), (.iload_n 3, [], 0), (.iaload, [], 0)] = some 30 := by decide +kernel
theorem b_Mo_plainOf_33 : mx_ck m_Mo_plainOf 33 [(.iconst 0, [], nI 0)] = some 34 := by decide +kernel
theorem b_Mo_plainOf_34 : mx_ck m_Mo_plainOf 34 [(.iadd, [], 0), (.istore_n 2, [], 0), (.iinc 3 1, [], nI 1)] = some 39 := by decide +kernel
theorem b_Mo_plainOf_42 : mx_ck m_Mo_plainOf 42 [(.iload_n 2, [], 0)] = some 43 := by decide +kernel
theorem d_Mo_plainOf_8 : decode m_Mo_plainOf.2.1 8 = .ok (.if_icmp .ge 34, 3) := by decide +kernel
theorem d_Mo_plainOf_13 : decode m_Mo_plainOf.2.1 13 = .ok (.ifCond .lt 11, 3) := by decide +kernel
theorem d_Mo_plainOf_18 : decode m_Mo_plainOf.2.1 18 = .ok (.invokestatic 177, 3) := by decide +kernel
theorem c_Mo_plainOf_18 : mx_cs m_Mo_plainOf m_Mo_has 177 2 [1189, 1190, 90, 1191] = true := by decide +kernel
theorem d_Mo_plainOf_21 : decode m_Mo_plainOf.2.1 21 = .ok (.ifCond .eq 12, 3) := by decide +kernel
theorem d_Mo_plainOf_30 : decode m_Mo_plainOf.2.1 30 = .ok (.goto 4, 3) := by decide +kernel
theorem d_Mo_plainOf_39 : decode m_Mo_plainOf.2.1 39 = .ok (.goto (-35), 3) := by decide +kernel
theorem d_Mo_plainOf_43 : decode m_Mo_plainOf.2.1 43 = .ok (.ireturn, 1) := by decide +kernel
theorem b_Mo_plainSize_0 : mx_ck m_Mo_plainSize 0 [(.aload_n 0, [], 0), (.bipush 10, [], nI 10)] = some 3 := by decide +kernel
theorem b_Mo_plainSize_6 : mx_ck m_Mo_plainSize 6 [(.aload_n 0, [], 0), (.getfield 19, [10, 5, 5, 945], 0), (.iload_n 1, [], 0), (.iconst 1, [], nI 1)] = some 12 := by decide +kernel
theorem d_Mo_plainSize_3 : decode m_Mo_plainSize.2.1 3 = .ok (.invokevirtual 310, 3) := by decide +kernel
theorem c_Mo_plainSize_3 : mx_cv m_Mo_plainSize m_Mo_began 310 1 [1356, 1358, 75, 90, 1359] = true := by decide +kernel
theorem d_Mo_plainSize_12 : decode m_Mo_plainSize.2.1 12 = .ok (.invokestatic 173, 3) := by decide +kernel
theorem c_Mo_plainSize_12 : mx_cs m_Mo_plainSize m_Mo_of 173 3 [1160, 1161, 90, 1162] = true := by decide +kernel
theorem d_Mo_plainSize_15 : decode m_Mo_plainSize.2.1 15 = .ok (.ireturn, 1) := by decide +kernel
theorem b_Mo_readType_0 : mx_ck m_Mo_readType 0 [(.aload_n 0, [], 0), (.getfield 112, [10, 15, 0, 955], 0)] = some 4 := by decide +kernel
theorem b_Mo_readType_7 : mx_ck m_Mo_readType 7 [(.istore_n 1, [], 0), (.aload_n 0, [], 0), (.getfield 22, [10, 6, 6, 946], 0), (.iconst 0, [], nI 0), (.iaload, [], 0), (.istore_n 2, [], 0), (.iload_n 2, [], 0), (.bipush 8, [], nI 8)] = some 18 := by decide +kernel
theorem b_Mo_readType_21 : mx_ck m_Mo_readType 21 [(.aload_n 0, [], 0), (.iconst 3, [], nI 3)] = some 23 := by decide +kernel
theorem b_Mo_readType_26 : mx_ck m_Mo_readType 26 [(.aload_n 0, [], 0), (.iconst 1, [], nI 1)] = some 28 := by decide +kernel
theorem b_Mo_readType_31 : mx_ck m_Mo_readType 31 [(.iload_n 1, [], 0)] = some 32 := by decide +kernel
theorem b_Mo_readType_35 : mx_ck m_Mo_readType 35 [(.iconst 3, [], nI 3)] = some 36 := by decide +kernel
theorem b_Mo_readType_39 : mx_ck m_Mo_readType 39 [(.iload_n 1, [], 0), (.iconst 3, [], nI 3)] = some 41 := by decide +kernel
theorem b_Mo_readType_44 : mx_ck m_Mo_readType 44 [(.bipush 7, [], nI 7)] = some 46 := by decide +kernel
theorem b_Mo_readType_49 : mx_ck m_Mo_readType 49 [(.iload_n 2, [], 0), (.iconst 1, [], nI 1), (.isub, [], 0)] = some 52 := by decide +kernel
theorem b_Mo_readType_52 : mx_ck m_Mo_readType 52 [(.istore_n 3, [], 0), (.aload_n 0, [], 0), (.iconst 0, [], nI 0), (.iload_n 3, [], 0)] = some 56 := by decide +kernel
theorem b_Mo_readType_59 : mx_ck m_Mo_readType 59 [(.istore 4, [], 0), (.aload_n 0, [], 0), (.bipush 44, [], nI 44)] = some 64 := by decide +kernel
theorem b_Mo_readType_67 : mx_ck m_Mo_readType 67 [(.aload_n 0, [], 0), (.iload_n 1, [], 0)] = some 69 := by decide +kernel
theorem b_Mo_readType_72 : mx_ck m_Mo_readType 72 [(.iload 4, [], 0)] = some 74 := by decide +kernel
theorem b_Mo_readType_77 : mx_ck m_Mo_readType 77 [(.iconst 0, [], nI 0)] = some 78 := by decide +kernel
theorem b_Mo_readType_78 : mx_ck m_Mo_readType 78 [(.iload_n 3, [], 0)] = some 79 := by decide +kernel
theorem b_Mo_readType_82 : mx_ck m_Mo_readType 82 [(.istore 5, [], 0), (.aload_n 0, [], 0), (.bipush 59, [], nI 59)] = some 87 := by decide +kernel
theorem b_Mo_readType_90 : mx_ck m_Mo_readType 90 [(.aload_n 0, [], 0), (.getfield 99, [10, 16, 0, 956], 0)] = some 94 := by decide +kernel
theorem b_Mo_readType_97 : mx_ck m_Mo_readType 97 [(.iconst 2, [], nI 2), (.iconst 3, [], nI 3), (.iload_n 2, [], 0), (.imul, [], 0), (.iadd, [], 0), (.istore 6, [], 0), (.aload_n 0, [], 0), (.getfield 22, [10, 6, 6, 946], 0), (.iload 6, [], 0), (.iload_n 1, [], 0), (.iastore, [], 0), (.aload_n 0, [], 0), (.getfield 22, [10, 6, 6, 946], 0), (.iload 6, [], 0), (.iconst 1, [], nI 1), (.iadd, [], 0), (.iload 4, [], 0), (.iastore, [], 0), (.aload_n 0, [], 0), (.getfield 22, [10, 6, 6, 946], 0), (.iload 6, [], 0), (.iconst 2, [], nI 2), (.iadd, [], 0), (.iload 5, [], 0), (.iastore, [], 0), (.aload_n 0, [], 0), (.getfield 22, [10, 6, 6, 946], 0), (.iconst 0, [], nI 0), (.dup2, [], 0), (.iaload, [], 0), (.iconst 1, [], nI 1), (.iadd, [], 0), (.iastore, [], 0)] = some 144 := by decide +kernel
theorem d_Mo_readType_4 : decode m_Mo_readType.2.1 4 = .ok (.invokestatic 140, 3) := by decide +kernel
theorem c_Mo_readType_4 : mx_cs m_Mo_readType m_Mo_sortBy 140 1 [1119, 1120, 90, 1121] = true := by decide +kernel
theorem d_Mo_readType_18 : decode m_Mo_readType.2.1 18 = .ok (.if_icmp .ne 8, 3) := by decide +kernel
theorem d_Mo_readType_23 : decode m_Mo_readType.2.1 23 = .ok (.invokevirtual 126, 3) := by decide +kernel
theorem c_Mo_readType_23 : mx_cv m_Mo_readType m_Mo_bad 126 1 [1103, 1105, 43, 90, 1106] = true := by decide +kernel
theorem d_Mo_readType_28 : decode m_Mo_readType.2.1 28 = .ok (.invokevirtual 133, 3) := by decide +kernel
theorem c_Mo_readType_28 : mx_cv m_Mo_readType m_Mo_must 133 1 [1099, 1101, 42, 90, 1102] = true := by decide +kernel
theorem d_Mo_readType_32 : decode m_Mo_readType.2.1 32 = .ok (.ifCond .ne 7, 3) := by decide +kernel
theorem d_Mo_readType_36 : decode m_Mo_readType.2.1 36 = .ok (.goto 16, 3) := by decide +kernel
theorem d_Mo_readType_41 : decode m_Mo_readType.2.1 41 = .ok (.if_icmp .ge 8, 3) := by decide +kernel
theorem d_Mo_readType_46 : decode m_Mo_readType.2.1 46 = .ok (.goto 6, 3) := by decide +kernel
theorem d_Mo_readType_56 : decode m_Mo_readType.2.1 56 = .ok (.invokevirtual 143, 3) := by decide +kernel
theorem c_Mo_readType_56 : mx_cv m_Mo_readType m_Mo_number 143 2 [1107, 1109, 44, 90, 1110] = true := by decide +kernel
theorem d_Mo_readType_64 : decode m_Mo_readType.2.1 64 = .ok (.invokevirtual 147, 3) := by decide +kernel
theorem c_Mo_readType_64 : mx_cv m_Mo_readType m_Mo_mustSign 147 1 [1111, 1113, 45, 90, 1114] = true := by decide +kernel
theorem d_Mo_readType_69 : decode m_Mo_readType.2.1 69 = .ok (.ifCond .ne 8, 3) := by decide +kernel
theorem d_Mo_readType_74 : decode m_Mo_readType.2.1 74 = .ok (.goto 4, 3) := by decide +kernel
theorem d_Mo_readType_79 : decode m_Mo_readType.2.1 79 = .ok (.invokevirtual 143, 3) := by decide +kernel
theorem c_Mo_readType_79 : mx_cv m_Mo_readType m_Mo_number 143 2 [1107, 1109, 44, 90, 1110] = true := by decide +kernel
theorem d_Mo_readType_87 : decode m_Mo_readType.2.1 87 = .ok (.invokevirtual 147, 3) := by decide +kernel
theorem c_Mo_readType_87 : mx_cv m_Mo_readType m_Mo_mustSign 147 1 [1111, 1113, 45, 90, 1114] = true := by decide +kernel
theorem d_Mo_readType_94 : decode m_Mo_readType.2.1 94 = .ok (.ifCond .ne 50, 3) := by decide +kernel
theorem d_Mo_readType_144 : decode m_Mo_readType.2.1 144 = .ok (.return_, 1) := by decide +kernel
theorem b_Mo_reckon_0 : mx_ck m_Mo_reckon 0 [(.aload_n 0, [], 0), (.aload_n 1, [], 0)] = some 2 := by decide +kernel
theorem b_Mo_reckon_9 : mx_ck m_Mo_reckon 9 [(.iconst 0, [], nI 0), (.istore_n 2, [], 0)] = some 11 := by decide +kernel
theorem b_Mo_reckon_11 : mx_ck m_Mo_reckon 11 [(.iload_n 2, [], 0), (.sipush 256, [], nI 256)] = some 15 := by decide +kernel
theorem b_Mo_reckon_18 : mx_ck m_Mo_reckon 18 [(.aload_n 0, [], 0), (.getfield 34, [10, 19, 10, 959], 0), (.iload_n 2, [], 0), (.iconst 0, [], nI 0), (.iastore, [], 0), (.aload_n 0, [], 0), (.getfield 37, [10, 20, 11, 960], 0), (.iload_n 2, [], 0), (.iconst 0, [], nI 0), (.iastore, [], 0), (.iinc 2 1, [], nI 1)] = some 35 := by decide +kernel
theorem b_Mo_reckon_38 : mx_ck m_Mo_reckon 38 [(.iconst 0, [], nI 0), (.istore_n 2, [], 0)] = some 40 := by decide +kernel
theorem b_Mo_reckon_40 : mx_ck m_Mo_reckon 40 [(.iload_n 2, [], 0), (.sipush 512, [], nI 512)] = some 44 := by decide +kernel
theorem b_Mo_reckon_47 : mx_ck m_Mo_reckon 47 [(.aload_n 0, [], 0), (.getfield 43, [10, 23, 13, 963], 0), (.iload_n 2, [], 0), (.iconst 0, [], nI 0), (.bastore, [], 0), (.iinc 2 1, [], nI 1)] = some 57 := by decide +kernel
theorem b_Mo_reckon_60 : mx_ck m_Mo_reckon 60 [(.iconst 0, [], nI 0), (.istore_n 2, [], 0)] = some 62 := by decide +kernel
theorem b_Mo_reckon_62 : mx_ck m_Mo_reckon 62 [(.iload_n 2, [], 0), (.aload_n 1, [], 0), (.iconst 1, [], nI 1), (.iaload, [], 0)] = some 66 := by decide +kernel
theorem b_Mo_reckon_69 : mx_ck m_Mo_reckon 69 [(.aload_n 0, [], 0), (.aload_n 1, [], 0), (.iload_n 2, [], 0)] = some 72 := by decide +kernel
theorem b_Mo_reckon_75 : mx_ck m_Mo_reckon 75 [(.iconst 1, [], nI 1), (.iconst 1, [], nI 1)] = some 77 := by decide +kernel
theorem b_Mo_reckon_80 : mx_ck m_Mo_reckon 80 [(.iinc 2 1, [], nI 1)] = some 83 := by decide +kernel
theorem b_Mo_reckon_86 : mx_ck m_Mo_reckon 86 [(.aload_n 0, [], 0), (.aload_n 1, [], 0), (.iconst 0, [], nI 0)] = some 89 := by decide +kernel
theorem b_Mo_reckon_92 : mx_ck m_Mo_reckon 92 [(.iconst 4, [], nI 4), (.iconst 1, [], nI 1)] = some 94 := by decide +kernel
theorem b_Mo_reckon_97 : mx_ck m_Mo_reckon 97 [(.iconst 0, [], nI 0), (.istore_n 2, [], 0), (.aload_n 0, [], 0)] = some 100 := by decide +kernel
theorem b_Mo_reckon_103 : mx_ck m_Mo_reckon 103 [(.iconst 2, [], nI 2), (.istore_n 3, [], 0)] = some 105 := by decide +kernel
theorem b_Mo_reckon_105 : mx_ck m_Mo_reckon 105 [(.iload_n 2, [], 0), (.aload_n 0, [], 0), (.getfield 185, [10, 22, 0, 962], 0)] = some 110 := by decide +kernel
theorem b_Mo_reckon_113 : mx_ck m_Mo_reckon 113 [(.aload_n 0, [], 0), (.getfield 185, [10, 22, 0, 962], 0), (.istore_n 2, [], 0), (.iconst 0, [], nI 0), (.istore 4, [], 0)] = some 121 := by decide +kernel
theorem b_Mo_reckon_121 : mx_ck m_Mo_reckon 121 [(.iload 4, [], 0), (.iload_n 2, [], 0)] = some 124 := by decide +kernel
theorem b_Mo_reckon_127 : mx_ck m_Mo_reckon 127 [(.aload_n 0, [], 0), (.aload_n 1, [], 0), (.aload_n 0, [], 0), (.getfield 40, [10, 21, 12, 961], 0), (.iload 4, [], 0), (.iaload, [], 0), (.iload_n 3, [], 0)] = some 137 := by decide +kernel
theorem b_Mo_reckon_140 : mx_ck m_Mo_reckon 140 [(.iinc 4 1, [], nI 1)] = some 143 := by decide +kernel
theorem b_Mo_reckon_146 : mx_ck m_Mo_reckon 146 [(.aload_n 0, [], 0)] = some 147 := by decide +kernel
theorem b_Mo_reckon_150 : mx_ck m_Mo_reckon 150 [(.iconst 0, [], nI 0), (.istore 4, [], 0)] = some 153 := by decide +kernel
theorem b_Mo_reckon_153 : mx_ck m_Mo_reckon 153 [(.iload 4, [], 0), (.sipush 256, [], nI 256)] = some 158 := by decide +kernel
theorem b_Mo_reckon_161 : mx_ck m_Mo_reckon 161 [(.aload_n 0, [], 0), (.getfield 47, [10, 24, 14, 964], 0), (.iload 4, [], 0), (.baload, [], 0)] = some 168 := by decide +kernel
theorem b_Mo_reckon_171 : mx_ck m_Mo_reckon 171 [(.aload_n 0, [], 0), (.aload_n 1, [], 0), (.iload 4, [], 0)] = some 175 := by decide +kernel
theorem b_Mo_reckon_178 : mx_ck m_Mo_reckon 178 [(.iconst 4, [], nI 4), (.iload_n 3, [], 0)] = some 180 := by decide +kernel
theorem b_Mo_reckon_183 : mx_ck m_Mo_reckon 183 [(.iinc 4 1, [], nI 1)] = some 186 := by decide +kernel
theorem b_Mo_reckon_189 : mx_ck m_Mo_reckon 189 [(.aload_n 0, [], 0)] = some 190 := by decide +kernel
theorem b_Mo_reckon_193 : mx_ck m_Mo_reckon 193 [(.iinc 3 1, [], nI 1)] = some 196 := by decide +kernel
theorem d_Mo_reckon_2 : decode m_Mo_reckon.2.1 2 = .ok (.invokevirtual 194, 3) := by decide +kernel
theorem c_Mo_reckon_2 : mx_cv m_Mo_reckon m_Mo_isKnown 194 1 [1179, 1181, 55, 90, 1182] = true := by decide +kernel
theorem d_Mo_reckon_5 : decode m_Mo_reckon.2.1 5 = .ok (.ifCond .eq 4, 3) := by decide +kernel
theorem d_Mo_reckon_8 : decode m_Mo_reckon.2.1 8 = .ok (.return_, 1) := by decide +kernel
theorem d_Mo_reckon_15 : decode m_Mo_reckon.2.1 15 = .ok (.if_icmp .ge 23, 3) := by decide +kernel
theorem d_Mo_reckon_35 : decode m_Mo_reckon.2.1 35 = .ok (.goto (-24), 3) := by decide +kernel
theorem d_Mo_reckon_44 : decode m_Mo_reckon.2.1 44 = .ok (.if_icmp .ge 16, 3) := by decide +kernel
theorem d_Mo_reckon_57 : decode m_Mo_reckon.2.1 57 = .ok (.goto (-17), 3) := by decide +kernel
theorem d_Mo_reckon_66 : decode m_Mo_reckon.2.1 66 = .ok (.if_icmp .ge 20, 3) := by decide +kernel
theorem d_Mo_reckon_72 : decode m_Mo_reckon.2.1 72 = .ok (.invokestatic 198, 3) := by decide +kernel
theorem c_Mo_reckon_72 : mx_cs m_Mo_reckon m_Mo_constantCell 198 2 [1183, 1184, 90, 1185] = true := by decide +kernel
theorem d_Mo_reckon_77 : decode m_Mo_reckon.2.1 77 = .ok (.invokevirtual 201, 3) := by decide +kernel
theorem c_Mo_reckon_77 : mx_cv m_Mo_reckon m_Mo_comes 201 3 [1192, 1194, 56, 90, 1195] = true := by decide +kernel
theorem d_Mo_reckon_83 : decode m_Mo_reckon.2.1 83 = .ok (.goto (-21), 3) := by decide +kernel
theorem d_Mo_reckon_89 : decode m_Mo_reckon.2.1 89 = .ok (.invokestatic 205, 3) := by decide +kernel
theorem c_Mo_reckon_89 : mx_cs m_Mo_reckon m_Mo_functionCell 205 2 [1196, 1197, 90, 1198] = true := by decide +kernel
theorem d_Mo_reckon_94 : decode m_Mo_reckon.2.1 94 = .ok (.invokevirtual 201, 3) := by decide +kernel
theorem c_Mo_reckon_94 : mx_cv m_Mo_reckon m_Mo_comes 201 3 [1192, 1194, 56, 90, 1195] = true := by decide +kernel
theorem d_Mo_reckon_100 : decode m_Mo_reckon.2.1 100 = .ok (.invokevirtual 208, 3) := by decide +kernel
theorem c_Mo_reckon_100 : mx_cv m_Mo_reckon m_Mo_gather 208 0 [1199, 1201, 57, 90, 1202] = true := by decide +kernel
theorem d_Mo_reckon_110 : decode m_Mo_reckon.2.1 110 = .ok (.if_icmp .ge 89, 3) := by decide +kernel
theorem d_Mo_reckon_124 : decode m_Mo_reckon.2.1 124 = .ok (.if_icmp .ge 22, 3) := by decide +kernel
theorem d_Mo_reckon_137 : decode m_Mo_reckon.2.1 137 = .ok (.invokevirtual 211, 3) := by decide +kernel
theorem c_Mo_reckon_137 : mx_cv m_Mo_reckon m_Mo_goOn 211 3 [1203, 1205, 58, 90, 1206] = true := by decide +kernel
theorem d_Mo_reckon_143 : decode m_Mo_reckon.2.1 143 = .ok (.goto (-22), 3) := by decide +kernel
theorem d_Mo_reckon_147 : decode m_Mo_reckon.2.1 147 = .ok (.invokevirtual 191, 3) := by decide +kernel
theorem c_Mo_reckon_147 : mx_cv m_Mo_reckon m_Mo_join 191 0 [1213, 1215, 59, 90, 1216] = true := by decide +kernel
theorem d_Mo_reckon_158 : decode m_Mo_reckon.2.1 158 = .ok (.if_icmp .ge 31, 3) := by decide +kernel
theorem d_Mo_reckon_168 : decode m_Mo_reckon.2.1 168 = .ok (.ifCond .eq 15, 3) := by decide +kernel
theorem d_Mo_reckon_175 : decode m_Mo_reckon.2.1 175 = .ok (.invokestatic 205, 3) := by decide +kernel
theorem c_Mo_reckon_175 : mx_cs m_Mo_reckon m_Mo_functionCell 205 2 [1196, 1197, 90, 1198] = true := by decide +kernel
theorem d_Mo_reckon_180 : decode m_Mo_reckon.2.1 180 = .ok (.invokevirtual 201, 3) := by decide +kernel
theorem c_Mo_reckon_180 : mx_cv m_Mo_reckon m_Mo_comes 201 3 [1192, 1194, 56, 90, 1195] = true := by decide +kernel
theorem d_Mo_reckon_186 : decode m_Mo_reckon.2.1 186 = .ok (.goto (-33), 3) := by decide +kernel
theorem d_Mo_reckon_190 : decode m_Mo_reckon.2.1 190 = .ok (.invokevirtual 208, 3) := by decide +kernel
theorem c_Mo_reckon_190 : mx_cv m_Mo_reckon m_Mo_gather 208 0 [1199, 1201, 57, 90, 1202] = true := by decide +kernel
theorem d_Mo_reckon_196 : decode m_Mo_reckon.2.1 196 = .ok (.goto (-91), 3) := by decide +kernel
theorem d_Mo_reckon_199 : decode m_Mo_reckon.2.1 199 = .ok (.return_, 1) := by decide +kernel
theorem b_Mo_restore_0 : mx_ck m_Mo_restore 0 [(.aload_n 0, [], 0), (.iconst 0, [], nI 0), (.putfield 68, [10, 0, 0, 940], 0), (.iload_n 1, [], 0), (.i2l, [], 0), (.lconst 0, [0], 0), (.lconst 1, [1], 0)] = some 9 := by decide +kernel
theorem b_Mo_restore_15 : mx_ck m_Mo_restore 15 [(.ldc 88, [1050], (-1000001))] = some 17 := by decide +kernel
theorem b_Mo_restore_18 : mx_ck m_Mo_restore 18 [(.aload_n 0, [], 0), (.getfield 59, [10, 28, 18, 968], 0), (.iload_n 1, [], 0), (.baload, [], 0)] = some 24 := by decide +kernel
theorem b_Mo_restore_27 : mx_ck m_Mo_restore 27 [(.ldc 233, [1155], (-1000002))] = some 29 := by decide +kernel
theorem b_Mo_restore_30 : mx_ck m_Mo_restore 30 [(.iconst 0, [], nI 0), (.istore_n 2, [], 0)] = some 32 := by decide +kernel
theorem b_Mo_restore_32 : mx_ck m_Mo_restore 32 [(.iload_n 2, [], 0), (.bipush 26, [], nI 26)] = some 35 := by decide +kernel
theorem b_Mo_restore_38 : mx_ck m_Mo_restore 38 [(.aload_n 0, [], 0), (.getfield 19, [10, 5, 5, 945], 0), (.iload_n 2, [], 0), (.aload_n 0, [], 0), (.getfield 62, [10, 29, 19, 969], 0), (.bipush 26, [], nI 26), (.iload_n 1, [], 0), (.imul, [], 0), (.iload_n 2, [], 0), (.iadd, [], 0), (.iaload, [], 0), (.iastore, [], 0), (.iinc 2 1, [], nI 1)] = some 58 := by decide +kernel
theorem b_Mo_restore_61 : mx_ck m_Mo_restore 61 [(.aload_n 0, [], 0), (.iconst 0, [], nI 0), (.putfield 170, [10, 9, 0, 949], 0), (.iconst 1, [], nI 1)] = some 67 := by decide +kernel
theorem d_Mo_restore_9 : decode m_Mo_restore.2.1 9 = .ok (.invokestatic 78, 3) := by decide +kernel
theorem c_Mo_restore_9 : mx_cs m_Mo_restore m_Mo_in 78 3 [1046, 1047, 90, 1048] = true := by decide +kernel
theorem d_Mo_restore_12 : decode m_Mo_restore.2.1 12 = .ok (.ifCond .ne 6, 3) := by decide +kernel
theorem d_Mo_restore_17 : decode m_Mo_restore.2.1 17 = .ok (.ireturn, 1) := by decide +kernel
theorem d_Mo_restore_24 : decode m_Mo_restore.2.1 24 = .ok (.ifCond .ne 6, 3) := by decide +kernel
theorem d_Mo_restore_29 : decode m_Mo_restore.2.1 29 = .ok (.ireturn, 1) := by decide +kernel
theorem d_Mo_restore_35 : decode m_Mo_restore.2.1 35 = .ok (.if_icmp .ge 26, 3) := by decide +kernel
theorem d_Mo_restore_58 : decode m_Mo_restore.2.1 58 = .ok (.goto (-26), 3) := by decide +kernel
theorem d_Mo_restore_67 : decode m_Mo_restore.2.1 67 = .ok (.ireturn, 1) := by decide +kernel
theorem b_Mo_row_0 : mx_ck m_Mo_row 0 [(.aload_n 0, [], 0), (.iconst 0, [], nI 0), (.putfield 68, [10, 0, 0, 940], 0), (.iload_n 1, [], 0)] = some 6 := by decide +kernel
theorem b_Mo_row_12 : mx_ck m_Mo_row 12 [(.iload_n 2, [], 0), (.i2l, [], 0), (.lconst 0, [0], 0), (.ldc2_w 86, [2, 1049], 0)] = some 18 := by decide +kernel
theorem b_Mo_row_24 : mx_ck m_Mo_row 24 [(.iload_n 3, [], 0), (.bipush 40, [], nI 40)] = some 27 := by decide +kernel
theorem b_Mo_row_30 : mx_ck m_Mo_row 30 [(.ldc 88, [1050], (-1000001))] = some 32 := by decide +kernel
theorem b_Mo_row_33 : mx_ck m_Mo_row 33 [(.aload_n 0, [], 0), (.iconst 0, [], nI 0), (.putfield 72, [10, 1, 0, 941], 0), (.iload_n 3, [], 0)] = some 39 := by decide +kernel
theorem b_Mo_row_42 : mx_ck m_Mo_row 42 [(.aload_n 0, [], 0), (.iconst 4, [], nI 4)] = some 44 := by decide +kernel
theorem b_Mo_row_48 : mx_ck m_Mo_row 48 [(.aload_n 0, [], 0), (.getfield 7, [10, 2, 2, 942], 0), (.iload_n 1, [], 0), (.iload_n 2, [], 0), (.iastore, [], 0), (.aload_n 0, [], 0), (.getfield 13, [10, 3, 3, 943], 0), (.iload_n 1, [], 0), (.iload_n 3, [], 0), (.iastore, [], 0), (.iconst 0, [], nI 0), (.istore 4, [], 0)] = some 65 := by decide +kernel
theorem b_Mo_row_65 : mx_ck m_Mo_row 65 [(.iload 4, [], 0), (.bipush 40, [], nI 40)] = some 69 := by decide +kernel
theorem b_Mo_row_72 : mx_ck m_Mo_row 72 [(.aload_n 0, [], 0), (.getfield 16, [10, 4, 4, 944], 0), (.bipush 40, [], nI 40), (.iload_n 1, [], 0), (.imul, [], 0), (.iload 4, [], 0), (.iadd, [], 0), (.iconst 0, [], nI 0), (.iastore, [], 0), (.iinc 4 1, [], nI 1)] = some 88 := by decide +kernel
theorem b_Mo_row_91 : mx_ck m_Mo_row 91 [(.iload_n 3, [], 0)] = some 92 := by decide +kernel
theorem d_Mo_row_6 : decode m_Mo_row.2.1 6 = .ok (.invokestatic 82, 3) := by decide +kernel
theorem c_Mo_row_6 : mx_cs m_Mo_row m_Mo_isRow 82 1 [1042, 1043, 90, 1044] = true := by decide +kernel
theorem d_Mo_row_9 : decode m_Mo_row.2.1 9 = .ok (.ifCond .eq 21, 3) := by decide +kernel
theorem d_Mo_row_18 : decode m_Mo_row.2.1 18 = .ok (.invokestatic 78, 3) := by decide +kernel
theorem c_Mo_row_18 : mx_cs m_Mo_row m_Mo_in 78 3 [1046, 1047, 90, 1048] = true := by decide +kernel
theorem d_Mo_row_21 : decode m_Mo_row.2.1 21 = .ok (.ifCond .eq 9, 3) := by decide +kernel
theorem d_Mo_row_27 : decode m_Mo_row.2.1 27 = .ok (.if_icmp .le 6, 3) := by decide +kernel
theorem d_Mo_row_32 : decode m_Mo_row.2.1 32 = .ok (.ireturn, 1) := by decide +kernel
theorem d_Mo_row_39 : decode m_Mo_row.2.1 39 = .ok (.ifCond .ge 9, 3) := by decide +kernel
theorem d_Mo_row_44 : decode m_Mo_row.2.1 44 = .ok (.invokevirtual 89, 3) := by decide +kernel
theorem c_Mo_row_44 : mx_cv m_Mo_row m_Mo_finding 89 1 [1051, 1053, 38, 90, 1054] = true := by decide +kernel
theorem d_Mo_row_47 : decode m_Mo_row.2.1 47 = .ok (.ireturn, 1) := by decide +kernel
theorem d_Mo_row_69 : decode m_Mo_row.2.1 69 = .ok (.if_icmp .ge 22, 3) := by decide +kernel
theorem d_Mo_row_88 : decode m_Mo_row.2.1 88 = .ok (.goto (-23), 3) := by decide +kernel
theorem d_Mo_row_92 : decode m_Mo_row.2.1 92 = .ok (.ireturn, 1) := by decide +kernel
theorem b_Mo_rowFound_0 : mx_ck m_Mo_rowFound 0 [(.aload_n 0, [], 0), (.getfield 7, [10, 2, 2, 942], 0), (.iload_n 1, [], 0), (.iaload, [], 0)] = some 6 := by decide +kernel
theorem b_Mo_rowFound_9 : mx_ck m_Mo_rowFound 9 [(.aload_n 0, [], 0), (.iconst 1, [], nI 1)] = some 11 := by decide +kernel
theorem b_Mo_rowFound_15 : mx_ck m_Mo_rowFound 15 [(.iload_n 2, [], 0)] = some 16 := by decide +kernel
theorem b_Mo_rowFound_19 : mx_ck m_Mo_rowFound 19 [(.iload_n 2, [], 0), (.i2l, [], 0), (.iload_n 3, [], 0), (.i2l, [], 0), (.ladd, [], 0), (.aload_n 0, [], 0), (.getfield 13, [10, 3, 3, 943], 0), (.iload_n 1, [], 0), (.iaload, [], 0), (.i2l, [], 0), (.lcmp, [], 0)] = some 32 := by decide +kernel
theorem b_Mo_rowFound_35 : mx_ck m_Mo_rowFound 35 [(.aload_n 0, [], 0), (.iconst 2, [], nI 2)] = some 37 := by decide +kernel
theorem b_Mo_rowFound_41 : mx_ck m_Mo_rowFound 41 [(.aload_n 0, [], 0), (.iconst 0, [], nI 0), (.putfield 72, [10, 1, 0, 941], 0), (.iconst 0, [], nI 0)] = some 47 := by decide +kernel
theorem d_Mo_rowFound_6 : decode m_Mo_rowFound.2.1 6 = .ok (.ifCond .ge 9, 3) := by decide +kernel
theorem d_Mo_rowFound_11 : decode m_Mo_rowFound.2.1 11 = .ok (.invokevirtual 89, 3) := by decide +kernel
theorem c_Mo_rowFound_11 : mx_cv m_Mo_rowFound m_Mo_finding 89 1 [1051, 1053, 38, 90, 1054] = true := by decide +kernel
theorem d_Mo_rowFound_14 : decode m_Mo_rowFound.2.1 14 = .ok (.ireturn, 1) := by decide +kernel
theorem d_Mo_rowFound_16 : decode m_Mo_rowFound.2.1 16 = .ok (.ifCond .lt 19, 3) := by decide +kernel
theorem d_Mo_rowFound_32 : decode m_Mo_rowFound.2.1 32 = .ok (.ifCond .le 9, 3) := by decide +kernel
theorem d_Mo_rowFound_37 : decode m_Mo_rowFound.2.1 37 = .ok (.invokevirtual 89, 3) := by decide +kernel
theorem c_Mo_rowFound_37 : mx_cv m_Mo_rowFound m_Mo_finding 89 1 [1051, 1053, 38, 90, 1054] = true := by decide +kernel
theorem d_Mo_rowFound_40 : decode m_Mo_rowFound.2.1 40 = .ok (.ireturn, 1) := by decide +kernel
theorem d_Mo_rowFound_47 : decode m_Mo_rowFound.2.1 47 = .ok (.ireturn, 1) := by decide +kernel
theorem b_Mo_set_0 : mx_ck m_Mo_set 0 [(.aload_n 0, [], 0), (.iconst 0, [], nI 0), (.putfield 68, [10, 0, 0, 940], 0), (.iload_n 1, [], 0)] = some 6 := by decide +kernel
theorem b_Mo_set_12 : mx_ck m_Mo_set 12 [(.ldc 88, [1050], (-1000001))] = some 14 := by decide +kernel
theorem b_Mo_set_15 : mx_ck m_Mo_set 15 [(.aload_n 0, [], 0), (.iconst 0, [], nI 0), (.putfield 72, [10, 1, 0, 941], 0), (.aload_n 0, [], 0), (.getfield 7, [10, 2, 2, 942], 0), (.iload_n 1, [], 0), (.iaload, [], 0)] = some 26 := by decide +kernel
theorem b_Mo_set_29 : mx_ck m_Mo_set 29 [(.aload_n 0, [], 0), (.iconst 1, [], nI 1)] = some 31 := by decide +kernel
theorem b_Mo_set_35 : mx_ck m_Mo_set 35 [(.iload_n 2, [], 0), (.i2l, [], 0), (.lconst 0, [0], 0), (.aload_n 0, [], 0), (.getfield 13, [10, 3, 3, 943], 0), (.iload_n 1, [], 0), (.iaload, [], 0), (.iconst 1, [], nI 1), (.isub, [], 0), (.i2l, [], 0)] = some 47 := by decide +kernel
theorem b_Mo_set_53 : mx_ck m_Mo_set 53 [(.aload_n 0, [], 0), (.iconst 2, [], nI 2)] = some 55 := by decide +kernel
theorem b_Mo_set_59 : mx_ck m_Mo_set 59 [(.aload_n 0, [], 0), (.getfield 16, [10, 4, 4, 944], 0), (.bipush 40, [], nI 40), (.iload_n 1, [], 0), (.imul, [], 0), (.iload_n 2, [], 0), (.iadd, [], 0), (.aload_n 0, [], 0), (.getfield 7, [10, 2, 2, 942], 0), (.iload_n 1, [], 0), (.iaload, [], 0)] = some 75 := by decide +kernel
theorem b_Mo_set_78 : mx_ck m_Mo_set 78 [(.iload_n 3, [], 0), (.i2b, [], 0)] = some 80 := by decide +kernel
theorem b_Mo_set_83 : mx_ck m_Mo_set 83 [(.aload_n 0, [], 0), (.getfield 7, [10, 2, 2, 942], 0), (.iload_n 1, [], 0), (.iaload, [], 0), (.iconst 1, [], nI 1)] = some 90 := by decide +kernel
theorem b_Mo_set_93 : mx_ck m_Mo_set 93 [(.iload_n 3, [], 0), (.i2s, [], 0)] = some 95 := by decide +kernel
theorem b_Mo_set_98 : mx_ck m_Mo_set 98 [(.iload_n 3, [], 0)] = some 99 := by decide +kernel
theorem b_Mo_set_99 : mx_ck m_Mo_set 99 [(.iastore, [], 0), (.aload_n 0, [], 0), (.getfield 16, [10, 4, 4, 944], 0), (.bipush 40, [], nI 40), (.iload_n 1, [], 0), (.imul, [], 0), (.iload_n 2, [], 0), (.iadd, [], 0), (.iaload, [], 0)] = some 111 := by decide +kernel
theorem d_Mo_set_6 : decode m_Mo_set.2.1 6 = .ok (.invokestatic 82, 3) := by decide +kernel
theorem c_Mo_set_6 : mx_cs m_Mo_set m_Mo_isRow 82 1 [1042, 1043, 90, 1044] = true := by decide +kernel
theorem d_Mo_set_9 : decode m_Mo_set.2.1 9 = .ok (.ifCond .ne 6, 3) := by decide +kernel
theorem d_Mo_set_14 : decode m_Mo_set.2.1 14 = .ok (.ireturn, 1) := by decide +kernel
theorem d_Mo_set_26 : decode m_Mo_set.2.1 26 = .ok (.ifCond .ge 9, 3) := by decide +kernel
theorem d_Mo_set_31 : decode m_Mo_set.2.1 31 = .ok (.invokevirtual 89, 3) := by decide +kernel
theorem c_Mo_set_31 : mx_cv m_Mo_set m_Mo_finding 89 1 [1051, 1053, 38, 90, 1054] = true := by decide +kernel
theorem d_Mo_set_34 : decode m_Mo_set.2.1 34 = .ok (.ireturn, 1) := by decide +kernel
theorem d_Mo_set_47 : decode m_Mo_set.2.1 47 = .ok (.invokestatic 78, 3) := by decide +kernel
theorem c_Mo_set_47 : mx_cs m_Mo_set m_Mo_in 78 3 [1046, 1047, 90, 1048] = true := by decide +kernel
theorem d_Mo_set_50 : decode m_Mo_set.2.1 50 = .ok (.ifCond .ne 9, 3) := by decide +kernel
theorem d_Mo_set_55 : decode m_Mo_set.2.1 55 = .ok (.invokevirtual 89, 3) := by decide +kernel
theorem c_Mo_set_55 : mx_cv m_Mo_set m_Mo_finding 89 1 [1051, 1053, 38, 90, 1054] = true := by decide +kernel
theorem d_Mo_set_58 : decode m_Mo_set.2.1 58 = .ok (.ireturn, 1) := by decide +kernel
theorem d_Mo_set_75 : decode m_Mo_set.2.1 75 = .ok (.ifCond .ne 8, 3) := by decide +kernel
theorem d_Mo_set_80 : decode m_Mo_set.2.1 80 = .ok (.goto 19, 3) := by decide +kernel
theorem d_Mo_set_90 : decode m_Mo_set.2.1 90 = .ok (.if_icmp .ne 8, 3) := by decide +kernel
theorem d_Mo_set_95 : decode m_Mo_set.2.1 95 = .ok (.goto 4, 3) := by decide +kernel
theorem d_Mo_set_111 : decode m_Mo_set.2.1 111 = .ok (.ireturn, 1) := by decide +kernel
theorem b_Mo_sizeOf_0 : mx_ck m_Mo_sizeOf 0 [(.aload_n 0, [], 0), (.iload_n 1, [], 0)] = some 2 := by decide +kernel
theorem b_Mo_sizeOf_5 : mx_ck m_Mo_sizeOf 5 [(.istore_n 2, [], 0), (.iload_n 2, [], 0)] = some 7 := by decide +kernel
theorem b_Mo_sizeOf_10 : mx_ck m_Mo_sizeOf 10 [(.aload_n 0, [], 0), (.iload_n 1, [], 0)] = some 12 := by decide +kernel
theorem b_Mo_sizeOf_16 : mx_ck m_Mo_sizeOf 16 [(.iload_n 2, [], 0), (.iconst 4, [], nI 4)] = some 18 := by decide +kernel
theorem b_Mo_sizeOf_21 : mx_ck m_Mo_sizeOf 21 [(.aload_n 0, [], 0), (.iload_n 1, [], 0)] = some 23 := by decide +kernel
theorem b_Mo_sizeOf_27 : mx_ck m_Mo_sizeOf 27 [(.iload_n 2, [], 0), (.iconst 2, [], nI 2)] = some 29 := by decide +kernel
theorem b_Mo_sizeOf_32 : mx_ck m_Mo_sizeOf 32 [(.aload_n 0, [], 0), (.bipush 12, [], nI 12)] = some 35 := by decide +kernel
theorem b_Mo_sizeOf_38 : mx_ck m_Mo_sizeOf 38 [(.aload_n 0, [], 0), (.bipush 11, [], nI 11)] = some 41 := by decide +kernel
theorem b_Mo_sizeOf_44 : mx_ck m_Mo_sizeOf 44 [(.aload_n 0, [], 0), (.iload_n 1, [], 0)] = some 46 := by decide +kernel
theorem b_Mo_sizeOf_49 : mx_ck m_Mo_sizeOf 49 [(.istore_n 3, [], 0), (.iload_n 3, [], 0), (.aload_n 0, [], 0), (.iload_n 1, [], 0)] = some 53 := by decide +kernel
theorem b_Mo_sizeOf_56 : mx_ck m_Mo_sizeOf 56 [(.iadd, [], 0), (.istore_n 3, [], 0), (.iload_n 2, [], 0), (.iconst 2, [], nI 2)] = some 60 := by decide +kernel
theorem b_Mo_sizeOf_63 : mx_ck m_Mo_sizeOf 63 [(.iload_n 3, [], 0), (.ineg, [], 0)] = some 65 := by decide +kernel
theorem b_Mo_sizeOf_68 : mx_ck m_Mo_sizeOf 68 [(.iload_n 3, [], 0)] = some 69 := by decide +kernel
theorem d_Mo_sizeOf_2 : decode m_Mo_sizeOf.2.1 2 = .ok (.invokevirtual 301, 3) := by decide +kernel
theorem c_Mo_sizeOf_2 : mx_cv m_Mo_sizeOf m_Mo_kindOf 301 1 [1333, 1335, 72, 90, 1336] = true := by decide +kernel
theorem d_Mo_sizeOf_7 : decode m_Mo_sizeOf.2.1 7 = .ok (.ifCond .ne 9, 3) := by decide +kernel
theorem d_Mo_sizeOf_12 : decode m_Mo_sizeOf.2.1 12 = .ok (.invokevirtual 313, 3) := by decide +kernel
theorem c_Mo_sizeOf_12 : mx_cv m_Mo_sizeOf m_Mo_plainSize 313 1 [1352, 1354, 74, 90, 1355] = true := by decide +kernel
theorem d_Mo_sizeOf_15 : decode m_Mo_sizeOf.2.1 15 = .ok (.ireturn, 1) := by decide +kernel
theorem d_Mo_sizeOf_18 : decode m_Mo_sizeOf.2.1 18 = .ok (.if_icmp .lt 9, 3) := by decide +kernel
theorem d_Mo_sizeOf_23 : decode m_Mo_sizeOf.2.1 23 = .ok (.invokevirtual 316, 3) := by decide +kernel
theorem c_Mo_sizeOf_23 : mx_cv m_Mo_sizeOf m_Mo_pairSize 316 1 [1360, 1362, 76, 90, 1363] = true := by decide +kernel
theorem d_Mo_sizeOf_26 : decode m_Mo_sizeOf.2.1 26 = .ok (.ireturn, 1) := by decide +kernel
theorem d_Mo_sizeOf_29 : decode m_Mo_sizeOf.2.1 29 = .ok (.if_icmp .ne 9, 3) := by decide +kernel
theorem d_Mo_sizeOf_35 : decode m_Mo_sizeOf.2.1 35 = .ok (.invokevirtual 310, 3) := by decide +kernel
theorem c_Mo_sizeOf_35 : mx_cv m_Mo_sizeOf m_Mo_began 310 1 [1356, 1358, 75, 90, 1359] = true := by decide +kernel
theorem d_Mo_sizeOf_41 : decode m_Mo_sizeOf.2.1 41 = .ok (.invokevirtual 310, 3) := by decide +kernel
theorem c_Mo_sizeOf_41 : mx_cv m_Mo_sizeOf m_Mo_began 310 1 [1356, 1358, 75, 90, 1359] = true := by decide +kernel
theorem d_Mo_sizeOf_46 : decode m_Mo_sizeOf.2.1 46 = .ok (.invokevirtual 313, 3) := by decide +kernel
theorem c_Mo_sizeOf_46 : mx_cv m_Mo_sizeOf m_Mo_plainSize 313 1 [1352, 1354, 74, 90, 1355] = true := by decide +kernel
theorem d_Mo_sizeOf_53 : decode m_Mo_sizeOf.2.1 53 = .ok (.invokevirtual 319, 3) := by decide +kernel
theorem c_Mo_sizeOf_53 : mx_cv m_Mo_sizeOf m_Mo_markOf 319 1 [1364, 1366, 77, 90, 1367] = true := by decide +kernel
theorem d_Mo_sizeOf_60 : decode m_Mo_sizeOf.2.1 60 = .ok (.if_icmp .ne 8, 3) := by decide +kernel
theorem d_Mo_sizeOf_65 : decode m_Mo_sizeOf.2.1 65 = .ok (.goto 4, 3) := by decide +kernel
theorem d_Mo_sizeOf_69 : decode m_Mo_sizeOf.2.1 69 = .ok (.ireturn, 1) := by decide +kernel
theorem b_Mo_sortBy_0 : mx_ck m_Mo_sortBy 0 [(.iload_n 0, [], 0), (.bipush 99, [], nI 99)] = some 3 := by decide +kernel
theorem b_Mo_sortBy_6 : mx_ck m_Mo_sortBy 6 [(.iconst 0, [], nI 0)] = some 7 := by decide +kernel
theorem b_Mo_sortBy_10 : mx_ck m_Mo_sortBy 10 [(.iload_n 0, [], 0), (.bipush 112, [], nI 112)] = some 13 := by decide +kernel
theorem b_Mo_sortBy_16 : mx_ck m_Mo_sortBy 16 [(.iconst 1, [], nI 1)] = some 17 := by decide +kernel
theorem b_Mo_sortBy_20 : mx_ck m_Mo_sortBy 20 [(.iload_n 0, [], 0), (.bipush 102, [], nI 102)] = some 23 := by decide +kernel
theorem b_Mo_sortBy_26 : mx_ck m_Mo_sortBy 26 [(.iconst 2, [], nI 2)] = some 27 := by decide +kernel
theorem b_Mo_sortBy_30 : mx_ck m_Mo_sortBy 30 [(.iload_n 0, [], 0), (.bipush 117, [], nI 117)] = some 33 := by decide +kernel
theorem b_Mo_sortBy_36 : mx_ck m_Mo_sortBy 36 [(.iconst 3, [], nI 3)] = some 37 := by decide +kernel
theorem b_Mo_sortBy_40 : mx_ck m_Mo_sortBy 40 [(.iload_n 0, [], 0), (.bipush 98, [], nI 98)] = some 43 := by decide +kernel
theorem b_Mo_sortBy_46 : mx_ck m_Mo_sortBy 46 [(.iconst 4, [], nI 4)] = some 47 := by decide +kernel
theorem b_Mo_sortBy_50 : mx_ck m_Mo_sortBy 50 [(.iload_n 0, [], 0), (.bipush 108, [], nI 108)] = some 53 := by decide +kernel
theorem b_Mo_sortBy_56 : mx_ck m_Mo_sortBy 56 [(.iconst 5, [], nI 5)] = some 57 := by decide +kernel
theorem b_Mo_sortBy_60 : mx_ck m_Mo_sortBy 60 [(.ldc 111, [1090], (-1000000))] = some 62 := by decide +kernel
theorem d_Mo_sortBy_3 : decode m_Mo_sortBy.2.1 3 = .ok (.if_icmp .ne 7, 3) := by decide +kernel
theorem d_Mo_sortBy_7 : decode m_Mo_sortBy.2.1 7 = .ok (.goto 55, 3) := by decide +kernel
theorem d_Mo_sortBy_13 : decode m_Mo_sortBy.2.1 13 = .ok (.if_icmp .ne 7, 3) := by decide +kernel
theorem d_Mo_sortBy_17 : decode m_Mo_sortBy.2.1 17 = .ok (.goto 45, 3) := by decide +kernel
theorem d_Mo_sortBy_23 : decode m_Mo_sortBy.2.1 23 = .ok (.if_icmp .ne 7, 3) := by decide +kernel
theorem d_Mo_sortBy_27 : decode m_Mo_sortBy.2.1 27 = .ok (.goto 35, 3) := by decide +kernel
theorem d_Mo_sortBy_33 : decode m_Mo_sortBy.2.1 33 = .ok (.if_icmp .ne 7, 3) := by decide +kernel
theorem d_Mo_sortBy_37 : decode m_Mo_sortBy.2.1 37 = .ok (.goto 25, 3) := by decide +kernel
theorem d_Mo_sortBy_43 : decode m_Mo_sortBy.2.1 43 = .ok (.if_icmp .ne 7, 3) := by decide +kernel
theorem d_Mo_sortBy_47 : decode m_Mo_sortBy.2.1 47 = .ok (.goto 15, 3) := by decide +kernel
theorem d_Mo_sortBy_53 : decode m_Mo_sortBy.2.1 53 = .ok (.if_icmp .ne 7, 3) := by decide +kernel
theorem d_Mo_sortBy_57 : decode m_Mo_sortBy.2.1 57 = .ok (.goto 5, 3) := by decide +kernel
theorem d_Mo_sortBy_62 : decode m_Mo_sortBy.2.1 62 = .ok (.ireturn, 1) := by decide +kernel
theorem b_Mo_sortsOf_0 : mx_ck m_Mo_sortsOf 0 [(.iconst 0, [], nI 0), (.istore_n 2, [], 0), (.iconst 0, [], nI 0), (.istore_n 3, [], 0)] = some 4 := by decide +kernel
theorem b_Mo_sortsOf_4 : mx_ck m_Mo_sortsOf 4 [(.iload_n 3, [], 0), (.aload_n 0, [], 0), (.getfield 185, [10, 22, 0, 962], 0)] = some 9 := by decide +kernel
theorem b_Mo_sortsOf_12 : mx_ck m_Mo_sortsOf 12 [(.iload_n 2, [], 0), (.aload_n 0, [], 0), (.getfield 40, [10, 21, 12, 961], 0), (.iload_n 3, [], 0), (.iaload, [], 0), (.iload_n 1, [], 0)] = some 20 := by decide +kernel
theorem b_Mo_sortsOf_26 : mx_ck m_Mo_sortsOf 26 [(.aload_n 0, [], 0), (.getfield 37, [10, 20, 11, 960], 0), (.aload_n 0, [], 0), (.getfield 40, [10, 21, 12, 961], 0), (.iload_n 3, [], 0), (.iaload, [], 0), (.iaload, [], 0)] = some 37 := by decide +kernel
theorem b_Mo_sortsOf_40 : mx_ck m_Mo_sortsOf 40 [(.iconst 0, [], nI 0)] = some 41 := by decide +kernel
theorem b_Mo_sortsOf_41 : mx_ck m_Mo_sortsOf 41 [(.ior, [], 0), (.istore_n 2, [], 0), (.iinc 3 1, [], nI 1)] = some 46 := by decide +kernel
theorem b_Mo_sortsOf_49 : mx_ck m_Mo_sortsOf 49 [(.iload_n 2, [], 0)] = some 50 := by decide +kernel
theorem d_Mo_sortsOf_9 : decode m_Mo_sortsOf.2.1 9 = .ok (.if_icmp .ge 40, 3) := by decide +kernel
theorem d_Mo_sortsOf_20 : decode m_Mo_sortsOf.2.1 20 = .ok (.invokestatic 177, 3) := by decide +kernel
theorem c_Mo_sortsOf_20 : mx_cs m_Mo_sortsOf m_Mo_has 177 2 [1189, 1190, 90, 1191] = true := by decide +kernel
theorem d_Mo_sortsOf_23 : decode m_Mo_sortsOf.2.1 23 = .ok (.ifCond .eq 17, 3) := by decide +kernel
theorem d_Mo_sortsOf_37 : decode m_Mo_sortsOf.2.1 37 = .ok (.goto 4, 3) := by decide +kernel
theorem d_Mo_sortsOf_46 : decode m_Mo_sortsOf.2.1 46 = .ok (.goto (-42), 3) := by decide +kernel
theorem d_Mo_sortsOf_50 : decode m_Mo_sortsOf.2.1 50 = .ok (.ireturn, 1) := by decide +kernel
theorem b_Mo_status_0 : mx_ck m_Mo_status 0 [(.aload_n 0, [], 0), (.iconst 0, [], nI 0), (.putfield 68, [10, 0, 0, 940], 0), (.aload_n 0, [], 0), (.getfield 72, [10, 1, 0, 941], 0)] = some 9 := by decide +kernel
theorem d_Mo_status_9 : decode m_Mo_status.2.1 9 = .ok (.ireturn, 1) := by decide +kernel
theorem b_Mo_trace_0 : mx_ck m_Mo_trace 0 [(.aload_n 0, [], 0), (.iconst 0, [], nI 0), (.putfield 68, [10, 0, 0, 940], 0), (.iload_n 1, [], 0), (.i2l, [], 0), (.lconst 0, [0], 0), (.aload_n 0, [], 0), (.getfield 307, [10, 31, 0, 971], 0), (.iconst 1, [], nI 1), (.isub, [], 0), (.i2l, [], 0)] = some 15 := by decide +kernel
theorem b_Mo_trace_21 : mx_ck m_Mo_trace 21 [(.aload_n 0, [], 0), (.getfield 65, [10, 30, 20, 970], 0), (.iload_n 1, [], 0), (.iaload, [], 0)] = some 27 := by decide +kernel
theorem b_Mo_trace_30 : mx_ck m_Mo_trace 30 [(.ldc 111, [1090], (-1000000))] = some 32 := by decide +kernel
theorem d_Mo_trace_15 : decode m_Mo_trace.2.1 15 = .ok (.invokestatic 78, 3) := by decide +kernel
theorem c_Mo_trace_15 : mx_cs m_Mo_trace m_Mo_in 78 3 [1046, 1047, 90, 1048] = true := by decide +kernel
theorem d_Mo_trace_18 : decode m_Mo_trace.2.1 18 = .ok (.ifCond .eq 12, 3) := by decide +kernel
theorem d_Mo_trace_27 : decode m_Mo_trace.2.1 27 = .ok (.goto 5, 3) := by decide +kernel
theorem d_Mo_trace_32 : decode m_Mo_trace.2.1 32 = .ok (.ireturn, 1) := by decide +kernel
theorem b_Mo_type_0 : mx_ck m_Mo_type 0 [(.aload_n 0, [], 0), (.iconst 0, [], nI 0), (.putfield 68, [10, 0, 0, 940], 0), (.aload_n 0, [], 0), (.iload_n 1, [], 0)] = some 7 := by decide +kernel
theorem b_Mo_type_13 : mx_ck m_Mo_type 13 [(.iload_n 2, [], 0), (.i2l, [], 0), (.lconst 0, [0], 0), (.ldc2_w 86, [2, 1049], 0)] = some 19 := by decide +kernel
theorem b_Mo_type_25 : mx_ck m_Mo_type 25 [(.aload_n 0, [], 0), (.getfield 19, [10, 5, 5, 945], 0), (.iload_n 1, [], 0), (.iload_n 2, [], 0)] = some 31 := by decide +kernel
theorem b_Mo_type_37 : mx_ck m_Mo_type 37 [(.ldc 88, [1050], (-1000001))] = some 39 := by decide +kernel
theorem d_Mo_type_7 : decode m_Mo_type.2.1 7 = .ok (.invokevirtual 221, 3) := by decide +kernel
theorem c_Mo_type_7 : mx_cv m_Mo_type m_Mo_isType 221 1 [1139, 1141, 50, 90, 1142] = true := by decide +kernel
theorem d_Mo_type_10 : decode m_Mo_type.2.1 10 = .ok (.ifCond .eq 27, 3) := by decide +kernel
theorem d_Mo_type_19 : decode m_Mo_type.2.1 19 = .ok (.invokestatic 78, 3) := by decide +kernel
theorem c_Mo_type_19 : mx_cs m_Mo_type m_Mo_in 78 3 [1046, 1047, 90, 1048] = true := by decide +kernel
theorem d_Mo_type_22 : decode m_Mo_type.2.1 22 = .ok (.ifCond .eq 15, 3) := by decide +kernel
theorem d_Mo_type_31 : decode m_Mo_type.2.1 31 = .ok (.invokestatic 173, 3) := by decide +kernel
theorem c_Mo_type_31 : mx_cs m_Mo_type m_Mo_of 173 3 [1160, 1161, 90, 1162] = true := by decide +kernel
theorem d_Mo_type_34 : decode m_Mo_type.2.1 34 = .ok (.goto 5, 3) := by decide +kernel
theorem d_Mo_type_39 : decode m_Mo_type.2.1 39 = .ok (.ireturn, 1) := by decide +kernel
theorem b_Mo_undo_0 : mx_ck m_Mo_undo 0 [(.aload_n 0, [], 0), (.iconst 0, [], nI 0), (.putfield 68, [10, 0, 0, 940], 0), (.aload_n 0, [], 0), (.getfield 170, [10, 9, 0, 949], 0)] = some 9 := by decide +kernel
theorem b_Mo_undo_12 : mx_ck m_Mo_undo 12 [(.ldc 233, [1155], (-1000002))] = some 14 := by decide +kernel
theorem b_Mo_undo_15 : mx_ck m_Mo_undo 15 [(.aload_n 0, [], 0), (.dup, [], 0), (.getfield 170, [10, 9, 0, 949], 0), (.iconst 1, [], nI 1), (.isub, [], 0), (.putfield 170, [10, 9, 0, 949], 0), (.iconst 0, [], nI 0), (.istore_n 1, [], 0)] = some 27 := by decide +kernel
theorem b_Mo_undo_27 : mx_ck m_Mo_undo 27 [(.iload_n 1, [], 0), (.bipush 26, [], nI 26)] = some 30 := by decide +kernel
theorem b_Mo_undo_33 : mx_ck m_Mo_undo 33 [(.aload_n 0, [], 0), (.getfield 19, [10, 5, 5, 945], 0), (.iload_n 1, [], 0), (.aload_n 0, [], 0), (.getfield 28, [10, 8, 8, 948], 0), (.bipush 26, [], nI 26), (.aload_n 0, [], 0), (.getfield 170, [10, 9, 0, 949], 0), (.imul, [], 0), (.iload_n 1, [], 0), (.iadd, [], 0), (.iaload, [], 0), (.iastore, [], 0), (.iinc 1 1, [], nI 1)] = some 56 := by decide +kernel
theorem b_Mo_undo_59 : mx_ck m_Mo_undo 59 [(.aload_n 0, [], 0), (.getfield 170, [10, 9, 0, 949], 0)] = some 63 := by decide +kernel
theorem d_Mo_undo_9 : decode m_Mo_undo.2.1 9 = .ok (.ifCond .ne 6, 3) := by decide +kernel
theorem d_Mo_undo_14 : decode m_Mo_undo.2.1 14 = .ok (.ireturn, 1) := by decide +kernel
theorem d_Mo_undo_30 : decode m_Mo_undo.2.1 30 = .ok (.if_icmp .ge 29, 3) := by decide +kernel
theorem d_Mo_undo_56 : decode m_Mo_undo.2.1 56 = .ok (.goto (-29), 3) := by decide +kernel
theorem d_Mo_undo_63 : decode m_Mo_undo.2.1 63 = .ok (.ireturn, 1) := by decide +kernel
theorem b_Mo_who_0 : mx_ck m_Mo_who 0 [(.aload_n 0, [], 0), (.iconst 0, [], nI 0), (.putfield 68, [10, 0, 0, 940], 0), (.aload_n 0, [], 0), (.iload_n 1, [], 0)] = some 7 := by decide +kernel
theorem b_Mo_who_13 : mx_ck m_Mo_who 13 [(.iload_n 2, [], 0), (.i2l, [], 0), (.lconst 0, [0], 0), (.ldc2_w 86, [2, 1049], 0)] = some 19 := by decide +kernel
theorem b_Mo_who_25 : mx_ck m_Mo_who 25 [(.iload_n 3, [], 0)] = some 26 := by decide +kernel
theorem b_Mo_who_32 : mx_ck m_Mo_who 32 [(.iload 5, [], 0), (.i2l, [], 0), (.lconst 1, [1], 0), (.aload_n 0, [], 0), (.getfield 19, [10, 5, 5, 945], 0), (.iconst 0, [], nI 0), (.iaload, [], 0), (.i2l, [], 0)] = some 43 := by decide +kernel
theorem b_Mo_who_49 : mx_ck m_Mo_who 49 [(.ldc 88, [1050], (-1000001))] = some 51 := by decide +kernel
theorem b_Mo_who_52 : mx_ck m_Mo_who 52 [(.aload_n 0, [], 0), (.iload_n 3, [], 0), (.iload 4, [], 0), (.iload 5, [], 0)] = some 58 := by decide +kernel
theorem b_Mo_who_61 : mx_ck m_Mo_who 61 [(.istore 6, [], 0), (.iload 6, [], 0)] = some 65 := by decide +kernel
theorem b_Mo_who_68 : mx_ck m_Mo_who 68 [(.iload 6, [], 0)] = some 70 := by decide +kernel
theorem b_Mo_who_71 : mx_ck m_Mo_who 71 [(.iconst 0, [], nI 0), (.istore 7, [], 0), (.iconst 0, [], nI 0), (.istore 8, [], 0)] = some 77 := by decide +kernel
theorem b_Mo_who_77 : mx_ck m_Mo_who 77 [(.iload 8, [], 0), (.iload_n 2, [], 0)] = some 80 := by decide +kernel
theorem b_Mo_who_83 : mx_ck m_Mo_who 83 [(.iconst 5, [], nI 5)] = some 84 := by decide +kernel
theorem b_Mo_who_87 : mx_ck m_Mo_who 87 [(.bipush 7, [], nI 7)] = some 89 := by decide +kernel
theorem b_Mo_who_92 : mx_ck m_Mo_who 92 [(.aload_n 0, [], 0)] = some 93 := by decide +kernel
theorem b_Mo_who_96 : mx_ck m_Mo_who 96 [(.aload_n 0, [], 0), (.getfield 25, [10, 7, 7, 947], 0), (.iconst 2, [], nI 2), (.iconst 3, [], nI 3), (.iload_n 1, [], 0), (.imul, [], 0), (.iadd, [], 0), (.iload_n 2, [], 0), (.iadd, [], 0), (.iload 8, [], 0), (.iastore, [], 0), (.aload_n 0, [], 0), (.getfield 19, [10, 5, 5, 945], 0), (.iconst 0, [], nI 0), (.iaload, [], 0), (.iload_n 1, [], 0), (.aload_n 0, [], 0), (.getfield 25, [10, 7, 7, 947], 0), (.iload_n 1, [], 0), (.iconst 0, [], nI 0)] = some 123 := by decide +kernel
theorem b_Mo_who_126 : mx_ck m_Mo_who 126 [(.aload_n 0, [], 0), (.getfield 25, [10, 7, 7, 947], 0), (.iload_n 1, [], 0), (.iconst 1, [], nI 1)] = some 132 := by decide +kernel
theorem b_Mo_who_135 : mx_ck m_Mo_who 135 [(.aload_n 0, [], 0), (.getfield 25, [10, 7, 7, 947], 0), (.iload_n 1, [], 0), (.iconst 2, [], nI 2)] = some 141 := by decide +kernel
theorem b_Mo_who_150 : mx_ck m_Mo_who 150 [(.aload_n 0, [], 0), (.aload_n 0, [], 0), (.getfield 25, [10, 7, 7, 947], 0)] = some 155 := by decide +kernel
theorem b_Mo_who_158 : mx_ck m_Mo_who 158 [(.iconst 1, [], nI 1), (.istore 9, [], 0), (.iconst 0, [], nI 0), (.istore 10, [], 0)] = some 164 := by decide +kernel
theorem b_Mo_who_164 : mx_ck m_Mo_who 164 [(.iload 10, [], 0), (.iload 5, [], 0)] = some 168 := by decide +kernel
theorem b_Mo_who_171 : mx_ck m_Mo_who 171 [(.iload 9, [], 0)] = some 173 := by decide +kernel
theorem b_Mo_who_176 : mx_ck m_Mo_who 176 [(.aload_n 0, [], 0), (.getfield 16, [10, 4, 4, 944], 0), (.bipush 40, [], nI 40), (.iload_n 3, [], 0), (.imul, [], 0), (.iload 4, [], 0), (.iadd, [], 0), (.iload 10, [], 0), (.iadd, [], 0), (.iaload, [], 0)] = some 191 := by decide +kernel
theorem b_Mo_who_194 : mx_ck m_Mo_who 194 [(.iconst 1, [], nI 1)] = some 195 := by decide +kernel
theorem b_Mo_who_198 : mx_ck m_Mo_who 198 [(.iconst 0, [], nI 0)] = some 199 := by decide +kernel
theorem b_Mo_who_199 : mx_ck m_Mo_who 199 [(.aload_n 0, [], 0), (.iload 10, [], 0), (.iload_n 1, [], 0)] = some 203 := by decide +kernel
theorem b_Mo_who_209 : mx_ck m_Mo_who 209 [(.iconst 1, [], nI 1)] = some 210 := by decide +kernel
theorem b_Mo_who_213 : mx_ck m_Mo_who 213 [(.iconst 0, [], nI 0)] = some 214 := by decide +kernel
theorem b_Mo_who_214 : mx_ck m_Mo_who 214 [(.istore 9, [], 0), (.iinc 10 1, [], nI 1)] = some 219 := by decide +kernel
theorem b_Mo_who_222 : mx_ck m_Mo_who 222 [(.iload 7, [], 0), (.iload 9, [], 0)] = some 226 := by decide +kernel
theorem b_Mo_who_229 : mx_ck m_Mo_who 229 [(.iconst 1, [], nI 1), (.iload 8, [], 0), (.ishl, [], 0)] = some 233 := by decide +kernel
theorem b_Mo_who_236 : mx_ck m_Mo_who 236 [(.iconst 0, [], nI 0)] = some 237 := by decide +kernel
theorem b_Mo_who_237 : mx_ck m_Mo_who 237 [(.ior, [], 0), (.istore 7, [], 0)] = some 240 := by decide +kernel
theorem b_Mo_who_240 : mx_ck m_Mo_who 240 [(.iinc 8 1, [], nI 1)] = some 243 := by decide +kernel
theorem b_Mo_who_246 : mx_ck m_Mo_who 246 [(.iload 7, [], 0)] = some 248 := by decide +kernel
theorem d_Mo_who_7 : decode m_Mo_who.2.1 7 = .ok (.invokevirtual 221, 3) := by decide +kernel
theorem c_Mo_who_7 : mx_cv m_Mo_who m_Mo_isType 221 1 [1139, 1141, 50, 90, 1142] = true := by decide +kernel
theorem d_Mo_who_10 : decode m_Mo_who.2.1 10 = .ok (.ifCond .eq 39, 3) := by decide +kernel
theorem d_Mo_who_19 : decode m_Mo_who.2.1 19 = .ok (.invokestatic 78, 3) := by decide +kernel
theorem c_Mo_who_19 : mx_cs m_Mo_who m_Mo_in 78 3 [1046, 1047, 90, 1048] = true := by decide +kernel
theorem d_Mo_who_22 : decode m_Mo_who.2.1 22 = .ok (.ifCond .eq 27, 3) := by decide +kernel
theorem d_Mo_who_26 : decode m_Mo_who.2.1 26 = .ok (.invokestatic 82, 3) := by decide +kernel
theorem c_Mo_who_26 : mx_cs m_Mo_who m_Mo_isRow 82 1 [1042, 1043, 90, 1044] = true := by decide +kernel
theorem d_Mo_who_29 : decode m_Mo_who.2.1 29 = .ok (.ifCond .eq 20, 3) := by decide +kernel
theorem d_Mo_who_43 : decode m_Mo_who.2.1 43 = .ok (.invokestatic 78, 3) := by decide +kernel
theorem c_Mo_who_43 : mx_cs m_Mo_who m_Mo_in 78 3 [1046, 1047, 90, 1048] = true := by decide +kernel
theorem d_Mo_who_46 : decode m_Mo_who.2.1 46 = .ok (.ifCond .ne 6, 3) := by decide +kernel
theorem d_Mo_who_51 : decode m_Mo_who.2.1 51 = .ok (.ireturn, 1) := by decide +kernel
theorem d_Mo_who_58 : decode m_Mo_who.2.1 58 = .ok (.invokevirtual 275, 3) := by decide +kernel
theorem c_Mo_who_58 : mx_cv m_Mo_who m_Mo_rowFound 275 3 [1298, 1300, 70, 90, 1301] = true := by decide +kernel
theorem d_Mo_who_65 : decode m_Mo_who.2.1 65 = .ok (.ifCond .eq 6, 3) := by decide +kernel
theorem d_Mo_who_70 : decode m_Mo_who.2.1 70 = .ok (.ireturn, 1) := by decide +kernel
theorem d_Mo_who_80 : decode m_Mo_who.2.1 80 = .ok (.ifCond .ne 7, 3) := by decide +kernel
theorem d_Mo_who_84 : decode m_Mo_who.2.1 84 = .ok (.goto 5, 3) := by decide +kernel
theorem d_Mo_who_89 : decode m_Mo_who.2.1 89 = .ok (.if_icmp .gt 157, 3) := by decide +kernel
theorem d_Mo_who_93 : decode m_Mo_who.2.1 93 = .ok (.invokevirtual 279, 3) := by decide +kernel
theorem c_Mo_who_93 : mx_cv m_Mo_who m_Mo_layThen 279 0 [1302, 1304, 71, 90, 1305] = true := by decide +kernel
theorem d_Mo_who_123 : decode m_Mo_who.2.1 123 = .ok (.invokestatic 173, 3) := by decide +kernel
theorem c_Mo_who_123 : mx_cs m_Mo_who m_Mo_of 173 3 [1160, 1161, 90, 1162] = true := by decide +kernel
theorem d_Mo_who_132 : decode m_Mo_who.2.1 132 = .ok (.invokestatic 173, 3) := by decide +kernel
theorem c_Mo_who_132 : mx_cs m_Mo_who m_Mo_of 173 3 [1160, 1161, 90, 1162] = true := by decide +kernel
theorem d_Mo_who_141 : decode m_Mo_who.2.1 141 = .ok (.invokestatic 173, 3) := by decide +kernel
theorem c_Mo_who_141 : mx_cs m_Mo_who m_Mo_of 173 3 [1160, 1161, 90, 1162] = true := by decide +kernel
theorem d_Mo_who_144 : decode m_Mo_who.2.1 144 = .ok (.invokestatic 226, 3) := by decide +kernel
theorem c_Mo_who_144 : mx_cs m_Mo_who m_Mo_may 226 5 [1144, 1145, 90, 1146] = true := by decide +kernel
theorem d_Mo_who_147 : decode m_Mo_who.2.1 147 = .ok (.ifCond .eq 93, 3) := by decide +kernel
theorem d_Mo_who_155 : decode m_Mo_who.2.1 155 = .ok (.invokevirtual 240, 3) := by decide +kernel
theorem c_Mo_who_155 : mx_cv m_Mo_who m_Mo_reckon 240 1 [1175, 1177, 54, 90, 1178] = true := by decide +kernel
theorem d_Mo_who_168 : decode m_Mo_who.2.1 168 = .ok (.if_icmp .ge 54, 3) := by decide +kernel
theorem d_Mo_who_173 : decode m_Mo_who.2.1 173 = .ok (.ifCond .eq 40, 3) := by decide +kernel
theorem d_Mo_who_191 : decode m_Mo_who.2.1 191 = .ok (.ifCond .eq 7, 3) := by decide +kernel
theorem d_Mo_who_195 : decode m_Mo_who.2.1 195 = .ok (.goto 4, 3) := by decide +kernel
theorem d_Mo_who_203 : decode m_Mo_who.2.1 203 = .ok (.invokevirtual 244, 3) := by decide +kernel
theorem c_Mo_who_203 : mx_cv m_Mo_who m_Mo_liesIn 244 2 [1221, 1223, 60, 90, 1224] = true := by decide +kernel
theorem d_Mo_who_206 : decode m_Mo_who.2.1 206 = .ok (.if_icmp .ne 7, 3) := by decide +kernel
theorem d_Mo_who_210 : decode m_Mo_who.2.1 210 = .ok (.goto 4, 3) := by decide +kernel
theorem d_Mo_who_219 : decode m_Mo_who.2.1 219 = .ok (.goto (-55), 3) := by decide +kernel
theorem d_Mo_who_226 : decode m_Mo_who.2.1 226 = .ok (.ifCond .eq 10, 3) := by decide +kernel
theorem d_Mo_who_233 : decode m_Mo_who.2.1 233 = .ok (.goto 4, 3) := by decide +kernel
theorem d_Mo_who_243 : decode m_Mo_who.2.1 243 = .ok (.goto (-166), 3) := by decide +kernel
theorem d_Mo_who_248 : decode m_Mo_who.2.1 248 = .ok (.ireturn, 1) := by decide +kernel
