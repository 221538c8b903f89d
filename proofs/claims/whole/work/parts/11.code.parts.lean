theorem b_Acts_forgetOldest_0 : mx_ck m_Acts_forgetOldest 0 [(.aload_n 0, [], 0), (.bipush 23, [], nI 23), (.putfield 22, [0, 4, 0, 200], 0), (.aload_n 0, [], 0), (.getfield 9, [0, 0, 2, 196], 0), (.iconst 1, [], nI 1), (.aload_n 0, [], 0), (.getfield 9, [0, 0, 2, 196], 0), (.iconst 0, [], nI 0), (.aload_n 0, [], 0), (.getfield 22, [0, 4, 0, 200], 0)] = some 20 := by decide +kernel
theorem b_Acts_forgetOldest_23 : mx_ck m_Acts_forgetOldest 23 [(.aload_n 0, [], 0), (.getfield 13, [0, 1, 3, 197], 0), (.iconst 1, [], nI 1), (.aload_n 0, [], 0), (.getfield 13, [0, 1, 3, 197], 0), (.iconst 0, [], nI 0), (.aload_n 0, [], 0), (.getfield 22, [0, 4, 0, 200], 0)] = some 37 := by decide +kernel
theorem b_Acts_forgetOldest_40 : mx_ck m_Acts_forgetOldest 40 [(.aload_n 0, [], 0), (.getfield 16, [0, 2, 4, 198], 0), (.iconst 1, [], nI 1), (.aload_n 0, [], 0), (.getfield 16, [0, 2, 4, 198], 0), (.iconst 0, [], nI 0), (.aload_n 0, [], 0), (.getfield 22, [0, 4, 0, 200], 0)] = some 54 := by decide +kernel
theorem b_Acts_forgetOldest_57 : mx_ck m_Acts_forgetOldest 57 [(.aload_n 0, [], 0), (.getfield 19, [0, 3, 5, 199], 0), (.iconst 1, [], nI 1), (.aload_n 0, [], 0), (.getfield 19, [0, 3, 5, 199], 0), (.iconst 0, [], nI 0), (.aload_n 0, [], 0), (.getfield 22, [0, 4, 0, 200], 0)] = some 71 := by decide +kernel
theorem d_Acts_forgetOldest_20 : decode m_Acts_forgetOldest.2.1 20 = .ok (.invokestatic 38, 3) := by decide +kernel
theorem c_Acts_forgetOldest_20 : mx_ca m_Acts_forgetOldest 38 [580, 464, 463, 91] = true := by decide +kernel
theorem d_Acts_forgetOldest_37 : decode m_Acts_forgetOldest.2.1 37 = .ok (.invokestatic 38, 3) := by decide +kernel
theorem c_Acts_forgetOldest_37 : mx_ca m_Acts_forgetOldest 38 [580, 464, 463, 91] = true := by decide +kernel
theorem d_Acts_forgetOldest_54 : decode m_Acts_forgetOldest.2.1 54 = .ok (.invokestatic 38, 3) := by decide +kernel
theorem c_Acts_forgetOldest_54 : mx_ca m_Acts_forgetOldest 38 [580, 464, 463, 91] = true := by decide +kernel
theorem d_Acts_forgetOldest_71 : decode m_Acts_forgetOldest.2.1 71 = .ok (.invokestatic 38, 3) := by decide +kernel
theorem c_Acts_forgetOldest_71 : mx_ca m_Acts_forgetOldest 38 [580, 464, 463, 91] = true := by decide +kernel
theorem d_Acts_forgetOldest_74 : decode m_Acts_forgetOldest.2.1 74 = .ok (.return_, 1) := by decide +kernel
theorem b_Acts_init_0 : mx_ck m_Acts_init 0 [(.aload_n 0, [], 0)] = some 1 := by decide +kernel
theorem b_Acts_init_4 : mx_ck m_Acts_init 4 [(.aload_n 0, [], 0), (.bipush 24, [], nI 24)] = some 7 := by decide +kernel
theorem b_Acts_init_12 : mx_ck m_Acts_init 12 [(.aload_n 0, [], 0), (.bipush 24, [], nI 24)] = some 15 := by decide +kernel
theorem b_Acts_init_20 : mx_ck m_Acts_init 20 [(.aload_n 0, [], 0), (.bipush 24, [], nI 24)] = some 23 := by decide +kernel
theorem b_Acts_init_28 : mx_ck m_Acts_init 28 [(.aload_n 0, [], 0), (.bipush 24, [], nI 24)] = some 31 := by decide +kernel
theorem d_Acts_init_1 : decode m_Acts_init.2.1 1 = .ok (.invokespecial 1, 3) := by decide +kernel
theorem d_Acts_init_7 : decode m_Acts_init.2.1 7 = .ok (.newarray .int, 2) := by decide +kernel
theorem d_Acts_init_9 : decode m_Acts_init.2.1 9 = .ok (.putfield 9, 3) := by decide +kernel
theorem d_Acts_init_15 : decode m_Acts_init.2.1 15 = .ok (.newarray .int, 2) := by decide +kernel
theorem d_Acts_init_17 : decode m_Acts_init.2.1 17 = .ok (.putfield 13, 3) := by decide +kernel
theorem d_Acts_init_23 : decode m_Acts_init.2.1 23 = .ok (.newarray .int, 2) := by decide +kernel
theorem d_Acts_init_25 : decode m_Acts_init.2.1 25 = .ok (.putfield 16, 3) := by decide +kernel
theorem d_Acts_init_31 : decode m_Acts_init.2.1 31 = .ok (.newarray .int, 2) := by decide +kernel
theorem d_Acts_init_33 : decode m_Acts_init.2.1 33 = .ok (.putfield 19, 3) := by decide +kernel
theorem d_Acts_init_36 : decode m_Acts_init.2.1 36 = .ok (.return_, 1) := by decide +kernel
theorem b_Acts_keep_0 : mx_ck m_Acts_keep 0 [(.aload_n 0, [], 0), (.getfield 22, [0, 4, 0, 200], 0), (.bipush 24, [], nI 24)] = some 6 := by decide +kernel
theorem b_Acts_keep_9 : mx_ck m_Acts_keep 9 [(.aload_n 0, [], 0)] = some 10 := by decide +kernel
theorem b_Acts_keep_13 : mx_ck m_Acts_keep 13 [(.aload_n 0, [], 0), (.getfield 9, [0, 0, 2, 196], 0), (.aload_n 0, [], 0), (.getfield 22, [0, 4, 0, 200], 0), (.iload_n 2, [], 0), (.iastore, [], 0), (.aload_n 0, [], 0), (.getfield 13, [0, 1, 3, 197], 0), (.aload_n 0, [], 0), (.getfield 22, [0, 4, 0, 200], 0), (.aload_n 1, [], 0), (.getfield 29, [3, 0, 2, 159], 0), (.iload_n 2, [], 0), (.iaload, [], 0), (.iastore, [], 0), (.aload_n 0, [], 0), (.getfield 16, [0, 2, 4, 198], 0), (.aload_n 0, [], 0), (.getfield 22, [0, 4, 0, 200], 0), (.aload_n 1, [], 0), (.getfield 32, [3, 1, 3, 163], 0), (.iload_n 2, [], 0), (.iaload, [], 0), (.iastore, [], 0), (.aload_n 0, [], 0), (.getfield 19, [0, 3, 5, 199], 0), (.aload_n 0, [], 0), (.getfield 22, [0, 4, 0, 200], 0), (.aload_n 1, [], 0), (.getfield 33, [3, 2, 4, 167], 0), (.iload_n 2, [], 0), (.iaload, [], 0), (.iastore, [], 0), (.aload_n 0, [], 0), (.dup, [], 0), (.getfield 22, [0, 4, 0, 200], 0), (.iconst 1, [], nI 1), (.iadd, [], 0), (.putfield 22, [0, 4, 0, 200], 0)] = some 78 := by decide +kernel
theorem d_Acts_keep_6 : decode m_Acts_keep.2.1 6 = .ok (.if_icmp .ne 7, 3) := by decide +kernel
theorem d_Acts_keep_10 : decode m_Acts_keep.2.1 10 = .ok (.invokevirtual 26, 3) := by decide +kernel
theorem c_Acts_keep_10 : mx_cv m_Acts_keep m_Acts_forgetOldest 26 0 [576, 578, 9, 84, 579] = true := by decide +kernel
theorem d_Acts_keep_78 : decode m_Acts_keep.2.1 78 = .ok (.return_, 1) := by decide +kernel
theorem b_Acts_takeBack_0 : mx_ck m_Acts_takeBack 0 [(.aload_n 0, [], 0), (.getfield 22, [0, 4, 0, 200], 0)] = some 4 := by decide +kernel
theorem b_Acts_takeBack_7 : mx_ck m_Acts_takeBack 7 [(.aload_n 0, [], 0), (.dup, [], 0), (.getfield 22, [0, 4, 0, 200], 0), (.iconst 1, [], nI 1), (.isub, [], 0), (.putfield 22, [0, 4, 0, 200], 0), (.aload_n 1, [], 0), (.aload_n 0, [], 0), (.getfield 9, [0, 0, 2, 196], 0), (.aload_n 0, [], 0), (.getfield 22, [0, 4, 0, 200], 0), (.iaload, [], 0), (.aload_n 0, [], 0), (.getfield 13, [0, 1, 3, 197], 0), (.aload_n 0, [], 0), (.getfield 22, [0, 4, 0, 200], 0), (.iaload, [], 0), (.aload_n 0, [], 0), (.getfield 16, [0, 2, 4, 198], 0), (.aload_n 0, [], 0), (.getfield 22, [0, 4, 0, 200], 0), (.iaload, [], 0), (.aload_n 0, [], 0), (.getfield 19, [0, 3, 5, 199], 0), (.aload_n 0, [], 0), (.getfield 22, [0, 4, 0, 200], 0), (.iaload, [], 0)] = some 54 := by decide +kernel
theorem d_Acts_takeBack_4 : decode m_Acts_takeBack.2.1 4 = .ok (.ifCond .le 53, 3) := by decide +kernel
theorem d_Acts_takeBack_54 : decode m_Acts_takeBack.2.1 54 = .ok (.invokevirtual 34, 3) := by decide +kernel
theorem c_Acts_takeBack_54 : mx_cv m_Acts_takeBack m_House_tell 34 4 [566, 536, 537, 83, 538] = true := by decide +kernel
theorem d_Acts_takeBack_57 : decode m_Acts_takeBack.2.1 57 = .ok (.return_, 1) := by decide +kernel
theorem b_Asks_begin_0 : mx_ck m_Asks_begin 0 [(.aload_n 0, [], 0), (.iconst 0, [], nI 0), (.putfield 15, [1, 1, 0, 356], 0), (.aload_n 0, [], 0), (.iload_n 2, [], 0), (.putfield 19, [1, 2, 0, 358], 0), (.aload_n 0, [], 0), (.aload_n 1, [], 0), (.getfield 22, [3, 0, 2, 160], 0), (.iload_n 2, [], 0), (.iaload, [], 0)] = some 17 := by decide +kernel
theorem b_Asks_begin_20 : mx_ck m_Asks_begin 20 [(.putfield 31, [1, 3, 0, 359], 0), (.aload_n 0, [], 0), (.aload_n 1, [], 0), (.getfield 34, [3, 1, 3, 164], 0), (.iload_n 2, [], 0), (.iaload, [], 0), (.putfield 37, [1, 4, 0, 360], 0), (.aload_n 0, [], 0), (.aload_n 1, [], 0), (.getfield 40, [3, 2, 4, 168], 0), (.iload_n 2, [], 0), (.iaload, [], 0), (.putfield 43, [1, 5, 0, 361], 0)] = some 43 := by decide +kernel
theorem d_Asks_begin_17 : decode m_Asks_begin.2.1 17 = .ok (.invokestatic 27, 3) := by decide +kernel
theorem c_Asks_begin_17 : mx_cs m_Asks_begin m_Asks_kindOf 27 1 [864, 847, 89, 848] = true := by decide +kernel
theorem d_Asks_begin_43 : decode m_Asks_begin.2.1 43 = .ok (.return_, 1) := by decide +kernel
theorem b_Asks_body10_0 : mx_ck m_Asks_body10 0 [(.aload_n 0, [], 0), (.bipush 10, [], nI 10)] = some 3 := by decide +kernel
theorem b_Asks_body10_6 : mx_ck m_Asks_body10 6 [(.aload_n 0, [], 0), (.getfield 37, [1, 4, 0, 360], 0)] = some 10 := by decide +kernel
theorem d_Asks_body10_3 : decode m_Asks_body10.2.1 3 = .ok (.invokevirtual 77, 3) := by decide +kernel
theorem c_Asks_body10_3 : mx_cv m_Asks_body10 m_Asks_leave 77 1 [873, 875, 28, 89, 876] = true := by decide +kernel
theorem d_Asks_body10_10 : decode m_Asks_body10.2.1 10 = .ok (.ireturn, 1) := by decide +kernel
theorem b_Asks_body11_0 : mx_ck m_Asks_body11 0 [(.aload_n 0, [], 0), (.bipush 11, [], nI 11)] = some 3 := by decide +kernel
theorem b_Asks_body11_6 : mx_ck m_Asks_body11 6 [(.aload_n 0, [], 0)] = some 7 := by decide +kernel
theorem b_Asks_body11_10 : mx_ck m_Asks_body11 10 [(.istore_n 1, [], 0), (.aload_n 0, [], 0), (.getfield 31, [1, 3, 0, 359], 0)] = some 15 := by decide +kernel
theorem b_Asks_body11_40 : mx_ck m_Asks_body11 40 [(.iload_n 1, [], 0), (.aload_n 0, [], 0)] = some 42 := by decide +kernel
theorem b_Asks_body11_45 : mx_ck m_Asks_body11 45 [(.iadd, [], 0)] = some 46 := by decide +kernel
theorem b_Asks_body11_47 : mx_ck m_Asks_body11 47 [(.iload_n 1, [], 0), (.aload_n 0, [], 0)] = some 49 := by decide +kernel
theorem b_Asks_body11_52 : mx_ck m_Asks_body11 52 [(.iadd, [], 0)] = some 53 := by decide +kernel
theorem b_Asks_body11_54 : mx_ck m_Asks_body11 54 [(.iload_n 1, [], 0), (.aload_n 0, [], 0)] = some 56 := by decide +kernel
theorem b_Asks_body11_59 : mx_ck m_Asks_body11 59 [(.iadd, [], 0)] = some 60 := by decide +kernel
theorem d_Asks_body11_3 : decode m_Asks_body11.2.1 3 = .ok (.invokevirtual 77, 3) := by decide +kernel
theorem c_Asks_body11_3 : mx_cv m_Asks_body11 m_Asks_leave 77 1 [873, 875, 28, 89, 876] = true := by decide +kernel
theorem d_Asks_body11_7 : decode m_Asks_body11.2.1 7 = .ok (.invokevirtual 59, 3) := by decide +kernel
theorem c_Asks_body11_7 : mx_cv m_Asks_body11 m_Asks_body10 59 0 [877, 879, 29, 89, 880] = true := by decide +kernel
theorem d_Asks_body11_15 : decode m_Asks_body11.2.1 15 = .ok (.lookupswitch 39 #[(2, 32), (3, 25)], 25) := by decide +kernel
theorem d_Asks_body11_42 : decode m_Asks_body11.2.1 42 = .ok (.invokevirtual 65, 3) := by decide +kernel
theorem c_Asks_body11_42 : mx_cv m_Asks_body11 m_Asks_body22 65 0 [881, 883, 30, 89, 884] = true := by decide +kernel
theorem d_Asks_body11_46 : decode m_Asks_body11.2.1 46 = .ok (.ireturn, 1) := by decide +kernel
theorem d_Asks_body11_49 : decode m_Asks_body11.2.1 49 = .ok (.invokevirtual 71, 3) := by decide +kernel
theorem c_Asks_body11_49 : mx_cv m_Asks_body11 m_Asks_body24 71 0 [893, 895, 33, 89, 896] = true := by decide +kernel
theorem d_Asks_body11_53 : decode m_Asks_body11.2.1 53 = .ok (.ireturn, 1) := by decide +kernel
theorem d_Asks_body11_56 : decode m_Asks_body11.2.1 56 = .ok (.invokevirtual 62, 3) := by decide +kernel
theorem c_Asks_body11_56 : mx_cv m_Asks_body11 m_Asks_body21 62 0 [885, 887, 31, 89, 888] = true := by decide +kernel
theorem d_Asks_body11_60 : decode m_Asks_body11.2.1 60 = .ok (.ireturn, 1) := by decide +kernel
theorem b_Asks_body12_0 : mx_ck m_Asks_body12 0 [(.aload_n 0, [], 0), (.bipush 12, [], nI 12)] = some 3 := by decide +kernel
theorem b_Asks_body12_6 : mx_ck m_Asks_body12 6 [(.aload_n 0, [], 0)] = some 7 := by decide +kernel
theorem b_Asks_body12_10 : mx_ck m_Asks_body12 10 [(.ineg, [], 0)] = some 11 := by decide +kernel
theorem d_Asks_body12_3 : decode m_Asks_body12.2.1 3 = .ok (.invokevirtual 77, 3) := by decide +kernel
theorem c_Asks_body12_3 : mx_cv m_Asks_body12 m_Asks_leave 77 1 [873, 875, 28, 89, 876] = true := by decide +kernel
theorem d_Asks_body12_7 : decode m_Asks_body12.2.1 7 = .ok (.invokevirtual 46, 3) := by decide +kernel
theorem c_Asks_body12_7 : mx_cv m_Asks_body12 m_Asks_body11 46 0 [869, 871, 27, 89, 872] = true := by decide +kernel
theorem d_Asks_body12_11 : decode m_Asks_body12.2.1 11 = .ok (.ireturn, 1) := by decide +kernel
theorem b_Asks_body13_0 : mx_ck m_Asks_body13 0 [(.aload_n 0, [], 0), (.bipush 13, [], nI 13)] = some 3 := by decide +kernel
theorem b_Asks_body13_6 : mx_ck m_Asks_body13 6 [(.aload_n 0, [], 0)] = some 7 := by decide +kernel
theorem b_Asks_body13_10 : mx_ck m_Asks_body13 10 [(.bipush 100, [], nI 100), (.isub, [], 0)] = some 13 := by decide +kernel
theorem d_Asks_body13_3 : decode m_Asks_body13.2.1 3 = .ok (.invokevirtual 77, 3) := by decide +kernel
theorem c_Asks_body13_3 : mx_cv m_Asks_body13 m_Asks_leave 77 1 [873, 875, 28, 89, 876] = true := by decide +kernel
theorem d_Asks_body13_7 : decode m_Asks_body13.2.1 7 = .ok (.invokevirtual 59, 3) := by decide +kernel
theorem c_Asks_body13_7 : mx_cv m_Asks_body13 m_Asks_body10 59 0 [877, 879, 29, 89, 880] = true := by decide +kernel
theorem d_Asks_body13_13 : decode m_Asks_body13.2.1 13 = .ok (.ireturn, 1) := by decide +kernel
theorem b_Asks_body14_0 : mx_ck m_Asks_body14 0 [(.aload_n 0, [], 0), (.bipush 14, [], nI 14)] = some 3 := by decide +kernel
theorem b_Asks_body14_6 : mx_ck m_Asks_body14 6 [(.aload_n 0, [], 0)] = some 7 := by decide +kernel
theorem b_Asks_body14_10 : mx_ck m_Asks_body14 10 [(.iconst 2, [], nI 2), (.imul, [], 0)] = some 12 := by decide +kernel
theorem d_Asks_body14_3 : decode m_Asks_body14.2.1 3 = .ok (.invokevirtual 77, 3) := by decide +kernel
theorem c_Asks_body14_3 : mx_cv m_Asks_body14 m_Asks_leave 77 1 [873, 875, 28, 89, 876] = true := by decide +kernel
theorem d_Asks_body14_7 : decode m_Asks_body14.2.1 7 = .ok (.invokevirtual 53, 3) := by decide +kernel
theorem c_Asks_body14_7 : mx_cv m_Asks_body14 m_Asks_body13 53 0 [901, 903, 35, 89, 904] = true := by decide +kernel
theorem d_Asks_body14_12 : decode m_Asks_body14.2.1 12 = .ok (.ireturn, 1) := by decide +kernel
theorem b_Asks_body20_0 : mx_ck m_Asks_body20 0 [(.aload_n 0, [], 0), (.bipush 20, [], nI 20)] = some 3 := by decide +kernel
theorem b_Asks_body20_6 : mx_ck m_Asks_body20 6 [(.aload_n 0, [], 0), (.getfield 19, [1, 2, 0, 358], 0)] = some 10 := by decide +kernel
theorem d_Asks_body20_3 : decode m_Asks_body20.2.1 3 = .ok (.invokevirtual 77, 3) := by decide +kernel
theorem c_Asks_body20_3 : mx_cv m_Asks_body20 m_Asks_leave 77 1 [873, 875, 28, 89, 876] = true := by decide +kernel
theorem d_Asks_body20_10 : decode m_Asks_body20.2.1 10 = .ok (.ireturn, 1) := by decide +kernel
theorem b_Asks_body21_0 : mx_ck m_Asks_body21 0 [(.aload_n 0, [], 0), (.bipush 21, [], nI 21)] = some 3 := by decide +kernel
theorem b_Asks_body21_6 : mx_ck m_Asks_body21 6 [(.aload_n 0, [], 0)] = some 7 := by decide +kernel
theorem b_Asks_body21_10 : mx_ck m_Asks_body21 10 [(.aload_n 0, [], 0), (.getfield 43, [1, 5, 0, 361], 0), (.iadd, [], 0)] = some 15 := by decide +kernel
theorem d_Asks_body21_3 : decode m_Asks_body21.2.1 3 = .ok (.invokevirtual 77, 3) := by decide +kernel
theorem c_Asks_body21_3 : mx_cv m_Asks_body21 m_Asks_leave 77 1 [873, 875, 28, 89, 876] = true := by decide +kernel
theorem d_Asks_body21_7 : decode m_Asks_body21.2.1 7 = .ok (.invokevirtual 74, 3) := by decide +kernel
theorem c_Asks_body21_7 : mx_cv m_Asks_body21 m_Asks_body20 74 0 [889, 891, 32, 89, 892] = true := by decide +kernel
theorem d_Asks_body21_15 : decode m_Asks_body21.2.1 15 = .ok (.ireturn, 1) := by decide +kernel
theorem b_Asks_body22_0 : mx_ck m_Asks_body22 0 [(.aload_n 0, [], 0), (.bipush 22, [], nI 22)] = some 3 := by decide +kernel
theorem b_Asks_body22_6 : mx_ck m_Asks_body22 6 [(.aload_n 0, [], 0)] = some 7 := by decide +kernel
theorem b_Asks_body22_10 : mx_ck m_Asks_body22 10 [(.sipush 1000, [], nI 1000), (.isub, [], 0)] = some 14 := by decide +kernel
theorem d_Asks_body22_3 : decode m_Asks_body22.2.1 3 = .ok (.invokevirtual 77, 3) := by decide +kernel
theorem c_Asks_body22_3 : mx_cv m_Asks_body22 m_Asks_leave 77 1 [873, 875, 28, 89, 876] = true := by decide +kernel
theorem d_Asks_body22_7 : decode m_Asks_body22.2.1 7 = .ok (.invokevirtual 62, 3) := by decide +kernel
theorem c_Asks_body22_7 : mx_cv m_Asks_body22 m_Asks_body21 62 0 [885, 887, 31, 89, 888] = true := by decide +kernel
theorem d_Asks_body22_14 : decode m_Asks_body22.2.1 14 = .ok (.ireturn, 1) := by decide +kernel
theorem b_Asks_body23_0 : mx_ck m_Asks_body23 0 [(.aload_n 0, [], 0), (.bipush 23, [], nI 23)] = some 3 := by decide +kernel
theorem b_Asks_body23_6 : mx_ck m_Asks_body23 6 [(.aload_n 0, [], 0)] = some 7 := by decide +kernel
theorem b_Asks_body23_10 : mx_ck m_Asks_body23 10 [(.istore_n 1, [], 0), (.iload_n 1, [], 0), (.aload_n 0, [], 0), (.getfield 31, [1, 3, 0, 359], 0), (.iconst 5, [], nI 5)] = some 17 := by decide +kernel
theorem b_Asks_body23_20 : mx_ck m_Asks_body23 20 [(.aload_n 0, [], 0)] = some 21 := by decide +kernel
theorem b_Asks_body23_27 : mx_ck m_Asks_body23 27 [(.aload_n 0, [], 0)] = some 28 := by decide +kernel
theorem b_Asks_body23_31 : mx_ck m_Asks_body23 31 [(.isub, [], 0)] = some 32 := by decide +kernel
theorem d_Asks_body23_3 : decode m_Asks_body23.2.1 3 = .ok (.invokevirtual 77, 3) := by decide +kernel
theorem c_Asks_body23_3 : mx_cv m_Asks_body23 m_Asks_leave 77 1 [873, 875, 28, 89, 876] = true := by decide +kernel
theorem d_Asks_body23_7 : decode m_Asks_body23.2.1 7 = .ok (.invokevirtual 74, 3) := by decide +kernel
theorem c_Asks_body23_7 : mx_cv m_Asks_body23 m_Asks_body20 74 0 [889, 891, 32, 89, 892] = true := by decide +kernel
theorem d_Asks_body23_17 : decode m_Asks_body23.2.1 17 = .ok (.if_icmp .ne 10, 3) := by decide +kernel
theorem d_Asks_body23_21 : decode m_Asks_body23.2.1 21 = .ok (.invokevirtual 56, 3) := by decide +kernel
theorem c_Asks_body23_21 : mx_cv m_Asks_body23 m_Asks_body14 56 0 [905, 907, 36, 89, 908] = true := by decide +kernel
theorem d_Asks_body23_24 : decode m_Asks_body23.2.1 24 = .ok (.goto 7, 3) := by decide +kernel
theorem d_Asks_body23_28 : decode m_Asks_body23.2.1 28 = .ok (.invokevirtual 53, 3) := by decide +kernel
theorem c_Asks_body23_28 : mx_cv m_Asks_body23 m_Asks_body13 53 0 [901, 903, 35, 89, 904] = true := by decide +kernel
theorem d_Asks_body23_32 : decode m_Asks_body23.2.1 32 = .ok (.ireturn, 1) := by decide +kernel
theorem b_Asks_body24_0 : mx_ck m_Asks_body24 0 [(.aload_n 0, [], 0), (.bipush 24, [], nI 24)] = some 3 := by decide +kernel
theorem b_Asks_body24_6 : mx_ck m_Asks_body24 6 [(.aload_n 0, [], 0)] = some 7 := by decide +kernel
theorem b_Asks_body24_10 : mx_ck m_Asks_body24 10 [(.iconst 2, [], nI 2), (.imul, [], 0)] = some 12 := by decide +kernel
theorem d_Asks_body24_3 : decode m_Asks_body24.2.1 3 = .ok (.invokevirtual 77, 3) := by decide +kernel
theorem c_Asks_body24_3 : mx_cv m_Asks_body24 m_Asks_leave 77 1 [873, 875, 28, 89, 876] = true := by decide +kernel
theorem d_Asks_body24_7 : decode m_Asks_body24.2.1 7 = .ok (.invokevirtual 62, 3) := by decide +kernel
theorem c_Asks_body24_7 : mx_cv m_Asks_body24 m_Asks_body21 62 0 [885, 887, 31, 89, 888] = true := by decide +kernel
theorem d_Asks_body24_12 : decode m_Asks_body24.2.1 12 = .ok (.ireturn, 1) := by decide +kernel
theorem b_Asks_init_0 : mx_ck m_Asks_init 0 [(.aload_n 0, [], 0)] = some 1 := by decide +kernel
theorem b_Asks_init_4 : mx_ck m_Asks_init 4 [(.aload_n 0, [], 0), (.bipush 16, [], nI 16)] = some 7 := by decide +kernel
theorem d_Asks_init_1 : decode m_Asks_init.2.1 1 = .ok (.invokespecial 3, 3) := by decide +kernel
theorem d_Asks_init_7 : decode m_Asks_init.2.1 7 = .ok (.newarray .int, 2) := by decide +kernel
theorem d_Asks_init_9 : decode m_Asks_init.2.1 9 = .ok (.putfield 11, 3) := by decide +kernel
theorem d_Asks_init_12 : decode m_Asks_init.2.1 12 = .ok (.return_, 1) := by decide +kernel
theorem b_Asks_isOne_0 : mx_ck m_Asks_isOne 0 [(.iload_n 1, [], 0)] = some 1 := by decide +kernel
theorem b_Asks_isOne_36 : mx_ck m_Asks_isOne 36 [(.iconst 1, [], nI 1)] = some 37 := by decide +kernel
theorem b_Asks_isOne_38 : mx_ck m_Asks_isOne 38 [(.iload_n 0, [], 0), (.iconst 1, [], nI 1)] = some 40 := by decide +kernel
theorem b_Asks_isOne_43 : mx_ck m_Asks_isOne 43 [(.iload_n 0, [], 0), (.iconst 3, [], nI 3)] = some 45 := by decide +kernel
theorem b_Asks_isOne_48 : mx_ck m_Asks_isOne 48 [(.iconst 1, [], nI 1)] = some 49 := by decide +kernel
theorem b_Asks_isOne_52 : mx_ck m_Asks_isOne 52 [(.iconst 0, [], nI 0)] = some 53 := by decide +kernel
theorem b_Asks_isOne_54 : mx_ck m_Asks_isOne 54 [(.iload_n 0, [], 0), (.iconst 4, [], nI 4)] = some 56 := by decide +kernel
theorem b_Asks_isOne_59 : mx_ck m_Asks_isOne 59 [(.iconst 1, [], nI 1)] = some 60 := by decide +kernel
theorem b_Asks_isOne_63 : mx_ck m_Asks_isOne 63 [(.iconst 0, [], nI 0)] = some 64 := by decide +kernel
theorem b_Asks_isOne_65 : mx_ck m_Asks_isOne 65 [(.iload_n 0, [], 0), (.iload_n 1, [], 0)] = some 67 := by decide +kernel
theorem b_Asks_isOne_70 : mx_ck m_Asks_isOne 70 [(.iconst 1, [], nI 1)] = some 71 := by decide +kernel
theorem b_Asks_isOne_74 : mx_ck m_Asks_isOne 74 [(.iconst 0, [], nI 0)] = some 75 := by decide +kernel
theorem d_Asks_isOne_1 : decode m_Asks_isOne.2.1 1 = .ok (.tableswitch 64 0 4 #[35, 37, 64, 64, 53], 35) := by decide +kernel
theorem d_Asks_isOne_37 : decode m_Asks_isOne.2.1 37 = .ok (.ireturn, 1) := by decide +kernel
theorem d_Asks_isOne_40 : decode m_Asks_isOne.2.1 40 = .ok (.if_icmp .lt 12, 3) := by decide +kernel
theorem d_Asks_isOne_45 : decode m_Asks_isOne.2.1 45 = .ok (.if_icmp .gt 7, 3) := by decide +kernel
theorem d_Asks_isOne_49 : decode m_Asks_isOne.2.1 49 = .ok (.goto 4, 3) := by decide +kernel
theorem d_Asks_isOne_53 : decode m_Asks_isOne.2.1 53 = .ok (.ireturn, 1) := by decide +kernel
theorem d_Asks_isOne_56 : decode m_Asks_isOne.2.1 56 = .ok (.if_icmp .lt 7, 3) := by decide +kernel
theorem d_Asks_isOne_60 : decode m_Asks_isOne.2.1 60 = .ok (.goto 4, 3) := by decide +kernel
theorem d_Asks_isOne_64 : decode m_Asks_isOne.2.1 64 = .ok (.ireturn, 1) := by decide +kernel
theorem d_Asks_isOne_67 : decode m_Asks_isOne.2.1 67 = .ok (.if_icmp .ne 7, 3) := by decide +kernel
theorem d_Asks_isOne_71 : decode m_Asks_isOne.2.1 71 = .ok (.goto 4, 3) := by decide +kernel
theorem d_Asks_isOne_75 : decode m_Asks_isOne.2.1 75 = .ok (.ireturn, 1) := by decide +kernel
theorem b_Asks_kindOf_0 : mx_ck m_Asks_kindOf 0 [(.iload_n 0, [], 0)] = some 1 := by decide +kernel
theorem b_Asks_kindOf_36 : mx_ck m_Asks_kindOf 36 [(.iconst 4, [], nI 4)] = some 37 := by decide +kernel
theorem b_Asks_kindOf_38 : mx_ck m_Asks_kindOf 38 [(.iconst 5, [], nI 5)] = some 39 := by decide +kernel
theorem b_Asks_kindOf_40 : mx_ck m_Asks_kindOf 40 [(.iconst 1, [], nI 1)] = some 41 := by decide +kernel
theorem b_Asks_kindOf_42 : mx_ck m_Asks_kindOf 42 [(.iconst 2, [], nI 2)] = some 43 := by decide +kernel
theorem b_Asks_kindOf_44 : mx_ck m_Asks_kindOf 44 [(.iconst 3, [], nI 3)] = some 45 := by decide +kernel
theorem b_Asks_kindOf_46 : mx_ck m_Asks_kindOf 46 [(.iconst 0, [], nI 0)] = some 47 := by decide +kernel
theorem d_Asks_kindOf_1 : decode m_Asks_kindOf.2.1 1 = .ok (.tableswitch 45 1 5 #[35, 37, 39, 41, 43], 35) := by decide +kernel
theorem d_Asks_kindOf_37 : decode m_Asks_kindOf.2.1 37 = .ok (.ireturn, 1) := by decide +kernel
theorem d_Asks_kindOf_39 : decode m_Asks_kindOf.2.1 39 = .ok (.ireturn, 1) := by decide +kernel
theorem d_Asks_kindOf_41 : decode m_Asks_kindOf.2.1 41 = .ok (.ireturn, 1) := by decide +kernel
theorem d_Asks_kindOf_43 : decode m_Asks_kindOf.2.1 43 = .ok (.ireturn, 1) := by decide +kernel
theorem d_Asks_kindOf_45 : decode m_Asks_kindOf.2.1 45 = .ok (.ireturn, 1) := by decide +kernel
theorem d_Asks_kindOf_47 : decode m_Asks_kindOf.2.1 47 = .ok (.ireturn, 1) := by decide +kernel
theorem b_Asks_leave_0 : mx_ck m_Asks_leave 0 [(.aload_n 0, [], 0), (.getfield 15, [1, 1, 0, 356], 0), (.bipush 16, [], nI 16)] = some 6 := by decide +kernel
theorem b_Asks_leave_9 : mx_ck m_Asks_leave 9 [(.aload_n 0, [], 0), (.getfield 11, [1, 0, 2, 354], 0), (.aload_n 0, [], 0), (.getfield 15, [1, 1, 0, 356], 0), (.iload_n 1, [], 0), (.iastore, [], 0), (.aload_n 0, [], 0), (.dup, [], 0), (.getfield 15, [1, 1, 0, 356], 0), (.iconst 1, [], nI 1), (.iadd, [], 0), (.putfield 15, [1, 1, 0, 356], 0)] = some 29 := by decide +kernel
theorem d_Asks_leave_6 : decode m_Asks_leave.2.1 6 = .ok (.if_icmp .ge 23, 3) := by decide +kernel
theorem d_Asks_leave_29 : decode m_Asks_leave.2.1 29 = .ok (.return_, 1) := by decide +kernel
theorem b_Asks_markOfOne_0 : mx_ck m_Asks_markOfOne 0 [(.aload_n 0, [], 0), (.getfield 31, [1, 3, 0, 359], 0)] = some 4 := by decide +kernel
theorem b_Asks_markOfOne_40 : mx_ck m_Asks_markOfOne 40 [(.aload_n 0, [], 0)] = some 41 := by decide +kernel
theorem b_Asks_markOfOne_45 : mx_ck m_Asks_markOfOne 45 [(.aload_n 0, [], 0)] = some 46 := by decide +kernel
theorem b_Asks_markOfOne_50 : mx_ck m_Asks_markOfOne 50 [(.aload_n 0, [], 0)] = some 51 := by decide +kernel
theorem b_Asks_markOfOne_55 : mx_ck m_Asks_markOfOne 55 [(.aload_n 0, [], 0)] = some 56 := by decide +kernel
theorem b_Asks_markOfOne_60 : mx_ck m_Asks_markOfOne 60 [(.aload_n 0, [], 0)] = some 61 := by decide +kernel
theorem d_Asks_markOfOne_4 : decode m_Asks_markOfOne.2.1 4 = .ok (.tableswitch 56 1 5 #[36, 51, 41, 46, 46], 36) := by decide +kernel
theorem d_Asks_markOfOne_41 : decode m_Asks_markOfOne.2.1 41 = .ok (.invokevirtual 62, 3) := by decide +kernel
theorem c_Asks_markOfOne_41 : mx_cv m_Asks_markOfOne m_Asks_body21 62 0 [885, 887, 31, 89, 888] = true := by decide +kernel
theorem d_Asks_markOfOne_44 : decode m_Asks_markOfOne.2.1 44 = .ok (.ireturn, 1) := by decide +kernel
theorem d_Asks_markOfOne_46 : decode m_Asks_markOfOne.2.1 46 = .ok (.invokevirtual 65, 3) := by decide +kernel
theorem c_Asks_markOfOne_46 : mx_cv m_Asks_markOfOne m_Asks_body22 65 0 [881, 883, 30, 89, 884] = true := by decide +kernel
theorem d_Asks_markOfOne_49 : decode m_Asks_markOfOne.2.1 49 = .ok (.ireturn, 1) := by decide +kernel
theorem d_Asks_markOfOne_51 : decode m_Asks_markOfOne.2.1 51 = .ok (.invokevirtual 68, 3) := by decide +kernel
theorem c_Asks_markOfOne_51 : mx_cv m_Asks_markOfOne m_Asks_body23 68 0 [913, 915, 37, 89, 916] = true := by decide +kernel
theorem d_Asks_markOfOne_54 : decode m_Asks_markOfOne.2.1 54 = .ok (.ireturn, 1) := by decide +kernel
theorem d_Asks_markOfOne_56 : decode m_Asks_markOfOne.2.1 56 = .ok (.invokevirtual 71, 3) := by decide +kernel
theorem c_Asks_markOfOne_56 : mx_cv m_Asks_markOfOne m_Asks_body24 71 0 [893, 895, 33, 89, 896] = true := by decide +kernel
theorem d_Asks_markOfOne_59 : decode m_Asks_markOfOne.2.1 59 = .ok (.ireturn, 1) := by decide +kernel
theorem d_Asks_markOfOne_61 : decode m_Asks_markOfOne.2.1 61 = .ok (.invokevirtual 74, 3) := by decide +kernel
theorem c_Asks_markOfOne_61 : mx_cv m_Asks_markOfOne m_Asks_body20 74 0 [889, 891, 32, 89, 892] = true := by decide +kernel
theorem d_Asks_markOfOne_64 : decode m_Asks_markOfOne.2.1 64 = .ok (.ireturn, 1) := by decide +kernel
theorem b_Asks_sizeOfOne_0 : mx_ck m_Asks_sizeOfOne 0 [(.aload_n 0, [], 0), (.getfield 31, [1, 3, 0, 359], 0)] = some 4 := by decide +kernel
theorem b_Asks_sizeOfOne_40 : mx_ck m_Asks_sizeOfOne 40 [(.aload_n 0, [], 0)] = some 41 := by decide +kernel
theorem b_Asks_sizeOfOne_45 : mx_ck m_Asks_sizeOfOne 45 [(.aload_n 0, [], 0)] = some 46 := by decide +kernel
theorem b_Asks_sizeOfOne_50 : mx_ck m_Asks_sizeOfOne 50 [(.aload_n 0, [], 0)] = some 51 := by decide +kernel
theorem b_Asks_sizeOfOne_55 : mx_ck m_Asks_sizeOfOne 55 [(.aload_n 0, [], 0)] = some 56 := by decide +kernel
theorem b_Asks_sizeOfOne_60 : mx_ck m_Asks_sizeOfOne 60 [(.aload_n 0, [], 0)] = some 61 := by decide +kernel
theorem d_Asks_sizeOfOne_4 : decode m_Asks_sizeOfOne.2.1 4 = .ok (.tableswitch 56 1 5 #[36, 41, 36, 46, 51], 36) := by decide +kernel
theorem d_Asks_sizeOfOne_41 : decode m_Asks_sizeOfOne.2.1 41 = .ok (.invokevirtual 46, 3) := by decide +kernel
theorem c_Asks_sizeOfOne_41 : mx_cv m_Asks_sizeOfOne m_Asks_body11 46 0 [869, 871, 27, 89, 872] = true := by decide +kernel
theorem d_Asks_sizeOfOne_44 : decode m_Asks_sizeOfOne.2.1 44 = .ok (.ireturn, 1) := by decide +kernel
theorem d_Asks_sizeOfOne_46 : decode m_Asks_sizeOfOne.2.1 46 = .ok (.invokevirtual 50, 3) := by decide +kernel
theorem c_Asks_sizeOfOne_46 : mx_cv m_Asks_sizeOfOne m_Asks_body12 50 0 [897, 899, 34, 89, 900] = true := by decide +kernel
theorem d_Asks_sizeOfOne_49 : decode m_Asks_sizeOfOne.2.1 49 = .ok (.ireturn, 1) := by decide +kernel
theorem d_Asks_sizeOfOne_51 : decode m_Asks_sizeOfOne.2.1 51 = .ok (.invokevirtual 53, 3) := by decide +kernel
theorem c_Asks_sizeOfOne_51 : mx_cv m_Asks_sizeOfOne m_Asks_body13 53 0 [901, 903, 35, 89, 904] = true := by decide +kernel
theorem d_Asks_sizeOfOne_54 : decode m_Asks_sizeOfOne.2.1 54 = .ok (.ireturn, 1) := by decide +kernel
theorem d_Asks_sizeOfOne_56 : decode m_Asks_sizeOfOne.2.1 56 = .ok (.invokevirtual 56, 3) := by decide +kernel
theorem c_Asks_sizeOfOne_56 : mx_cv m_Asks_sizeOfOne m_Asks_body14 56 0 [905, 907, 36, 89, 908] = true := by decide +kernel
theorem d_Asks_sizeOfOne_59 : decode m_Asks_sizeOfOne.2.1 59 = .ok (.ireturn, 1) := by decide +kernel
theorem d_Asks_sizeOfOne_61 : decode m_Asks_sizeOfOne.2.1 61 = .ok (.invokevirtual 59, 3) := by decide +kernel
theorem c_Asks_sizeOfOne_61 : mx_cv m_Asks_sizeOfOne m_Asks_body10 59 0 [877, 879, 29, 89, 880] = true := by decide +kernel
theorem d_Asks_sizeOfOne_64 : decode m_Asks_sizeOfOne.2.1 64 = .ok (.ireturn, 1) := by decide +kernel
theorem b_Cells_addCase_0 : mx_ck m_Cells_addCase 0 [(.aload_n 0, [], 0), (.getfield 38, [2, 10, 30, 280], 0), (.getfield 140, [6, 1, 3, 232], 0), (.iload_n 1, [], 0), (.iaload, [], 0)] = some 9 := by decide +kernel
theorem b_Cells_addCase_13 : mx_ck m_Cells_addCase 13 [(.aload_n 0, [], 0), (.getfield 38, [2, 10, 30, 280], 0), (.getfield 61, [6, 2, 0, 234], 0), (.istore_n 3, [], 0), (.iconst 0, [], nI 0), (.istore 4, [], 0)] = some 24 := by decide +kernel
theorem b_Cells_addCase_24 : mx_ck m_Cells_addCase 24 [(.iload 4, [], 0), (.iload_n 3, [], 0)] = some 27 := by decide +kernel
theorem b_Cells_addCase_30 : mx_ck m_Cells_addCase 30 [(.aload_n 0, [], 0), (.aload_n 0, [], 0), (.getfield 38, [2, 10, 30, 280], 0), (.getfield 71, [6, 0, 2, 229], 0), (.iload 4, [], 0), (.iaload, [], 0), (.iload_n 1, [], 0), (.ior, [], 0), (.iload_n 2, [], 0)] = some 44 := by decide +kernel
theorem b_Cells_addCase_47 : mx_ck m_Cells_addCase 47 [(.iinc 4 1, [], nI 1)] = some 50 := by decide +kernel
theorem d_Cells_addCase_9 : decode m_Cells_addCase.2.1 9 = .ok (.ifCond .eq 4, 3) := by decide +kernel
theorem d_Cells_addCase_12 : decode m_Cells_addCase.2.1 12 = .ok (.return_, 1) := by decide +kernel
theorem d_Cells_addCase_27 : decode m_Cells_addCase.2.1 27 = .ok (.if_icmp .ge 26, 3) := by decide +kernel
theorem d_Cells_addCase_44 : decode m_Cells_addCase.2.1 44 = .ok (.invokevirtual 127, 3) := by decide +kernel
theorem c_Cells_addCase_44 : mx_cv m_Cells_addCase m_Cells_addFunction 127 2 [642, 644, 12, 85, 645] = true := by decide +kernel
theorem d_Cells_addCase_50 : decode m_Cells_addCase.2.1 50 = .ok (.goto (-26), 3) := by decide +kernel
theorem d_Cells_addCase_53 : decode m_Cells_addCase.2.1 53 = .ok (.return_, 1) := by decide +kernel
theorem b_Cells_addCases_0 : mx_ck m_Cells_addCases 0 [(.iconst 0, [], nI 0), (.istore 4, [], 0)] = some 3 := by decide +kernel
theorem b_Cells_addCases_3 : mx_ck m_Cells_addCases 3 [(.iload 4, [], 0), (.aload_n 0, [], 0), (.getfield 32, [2, 8, 18, 278], 0), (.getfield 65, [7, 2, 4, 257], 0), (.getfield 61, [6, 2, 0, 234], 0)] = some 15 := by decide +kernel
theorem b_Cells_addCases_18 : mx_ck m_Cells_addCases 18 [(.iload 4, [], 0), (.iload_n 1, [], 0)] = some 21 := by decide +kernel
theorem b_Cells_addCases_24 : mx_ck m_Cells_addCases 24 [(.iload_n 2, [], 0)] = some 25 := by decide +kernel
theorem b_Cells_addCases_28 : mx_ck m_Cells_addCases 28 [(.iconst 0, [], nI 0)] = some 29 := by decide +kernel
theorem b_Cells_addCases_29 : mx_ck m_Cells_addCases 29 [(.istore 5, [], 0)] = some 31 := by decide +kernel
theorem b_Cells_addCases_31 : mx_ck m_Cells_addCases 31 [(.iload 5, [], 0), (.aload_n 0, [], 0), (.getfield 32, [2, 8, 18, 278], 0), (.getfield 68, [7, 3, 7, 259], 0), (.getfield 61, [6, 2, 0, 234], 0)] = some 43 := by decide +kernel
theorem b_Cells_addCases_46 : mx_ck m_Cells_addCases 46 [(.aload_n 0, [], 0), (.aload_n 0, [], 0), (.getfield 32, [2, 8, 18, 278], 0), (.getfield 65, [7, 2, 4, 257], 0), (.getfield 71, [6, 0, 2, 229], 0), (.iload 4, [], 0), (.iaload, [], 0), (.aload_n 0, [], 0), (.getfield 32, [2, 8, 18, 278], 0), (.getfield 68, [7, 3, 7, 259], 0), (.getfield 71, [6, 0, 2, 229], 0), (.iload 5, [], 0), (.iaload, [], 0), (.iconst (-1), [], (-1)), (.ixor, [], 0), (.iand, [], 0), (.iload_n 3, [], 0)] = some 77 := by decide +kernel
theorem b_Cells_addCases_80 : mx_ck m_Cells_addCases 80 [(.iinc 5 1, [], nI 1)] = some 83 := by decide +kernel
theorem b_Cells_addCases_86 : mx_ck m_Cells_addCases 86 [(.iinc 4 1, [], nI 1)] = some 89 := by decide +kernel
theorem d_Cells_addCases_15 : decode m_Cells_addCases.2.1 15 = .ok (.if_icmp .ge 77, 3) := by decide +kernel
theorem d_Cells_addCases_21 : decode m_Cells_addCases.2.1 21 = .ok (.if_icmp .ge 7, 3) := by decide +kernel
theorem d_Cells_addCases_25 : decode m_Cells_addCases.2.1 25 = .ok (.goto 4, 3) := by decide +kernel
theorem d_Cells_addCases_43 : decode m_Cells_addCases.2.1 43 = .ok (.if_icmp .ge 43, 3) := by decide +kernel
theorem d_Cells_addCases_77 : decode m_Cells_addCases.2.1 77 = .ok (.invokevirtual 137, 3) := by decide +kernel
theorem c_Cells_addCases_77 : mx_cv m_Cells_addCases m_Cells_addCase 137 2 [672, 674, 16, 85, 675] = true := by decide +kernel
theorem d_Cells_addCases_83 : decode m_Cells_addCases.2.1 83 = .ok (.goto (-52), 3) := by decide +kernel
theorem d_Cells_addCases_89 : decode m_Cells_addCases.2.1 89 = .ok (.goto (-86), 3) := by decide +kernel
theorem d_Cells_addCases_92 : decode m_Cells_addCases.2.1 92 = .ok (.return_, 1) := by decide +kernel
theorem b_Cells_addFunction_0 : mx_ck m_Cells_addFunction 0 [(.aload_n 0, [], 0), (.getfield 38, [2, 10, 30, 280], 0), (.iload_n 1, [], 0), (.iconst 1, [], nI 1)] = some 6 := by decide +kernel
theorem b_Cells_addFunction_12 : mx_ck m_Cells_addFunction 12 [(.aload_n 0, [], 0), (.getfield 12, [2, 0, 2, 269], 0), (.aload_n 0, [], 0), (.getfield 101, [2, 2, 0, 271], 0), (.iload_n 1, [], 0), (.iconst (-1), [], (-1)), (.ixor, [], 0), (.iand, [], 0)] = some 24 := by decide +kernel
theorem b_Cells_addFunction_27 : mx_ck m_Cells_addFunction 27 [(.istore_n 3, [], 0), (.aload_n 0, [], 0), (.getfield 45, [2, 12, 34, 282], 0), (.iload_n 1, [], 0), (.iload_n 3, [], 0), (.iastore, [], 0), (.aload_n 0, [], 0), (.dup, [], 0), (.getfield 110, [2, 5, 0, 274], 0), (.iload_n 3, [], 0), (.ior, [], 0), (.putfield 110, [2, 5, 0, 274], 0), (.aload_n 0, [], 0), (.getfield 21, [2, 6, 6, 275], 0), (.iload_n 3, [], 0), (.iload_n 2, [], 0)] = some 51 := by decide +kernel
theorem b_Cells_addFunction_54 : mx_ck m_Cells_addFunction 54 [(.pop, [], 0)] = some 55 := by decide +kernel
theorem d_Cells_addFunction_6 : decode m_Cells_addFunction.2.1 6 = .ok (.invokevirtual 123, 3) := by decide +kernel
theorem c_Cells_addFunction_6 : mx_cv m_Cells_addFunction m_Sets_add 123 2 [638, 639, 640, 86, 641] = true := by decide +kernel
theorem d_Cells_addFunction_9 : decode m_Cells_addFunction.2.1 9 = .ok (.ifCond .eq 46, 3) := by decide +kernel
theorem d_Cells_addFunction_24 : decode m_Cells_addFunction.2.1 24 = .ok (.invokevirtual 134, 3) := by decide +kernel
theorem c_Cells_addFunction_24 : mx_cv m_Cells_addFunction m_House_cellOf 134 1 [646, 635, 636, 83, 637] = true := by decide +kernel
theorem d_Cells_addFunction_51 : decode m_Cells_addFunction.2.1 51 = .ok (.invokevirtual 123, 3) := by decide +kernel
theorem c_Cells_addFunction_51 : mx_cv m_Cells_addFunction m_Sets_add 123 2 [638, 639, 640, 86, 641] = true := by decide +kernel
theorem d_Cells_addFunction_55 : decode m_Cells_addFunction.2.1 55 = .ok (.return_, 1) := by decide +kernel
theorem b_Cells_addPair_0 : mx_ck m_Cells_addPair 0 [(.aload_n 0, [], 0), (.getfield 35, [2, 9, 27, 279], 0), (.iload_n 1, [], 0), (.iconst 1, [], nI 1)] = some 6 := by decide +kernel
theorem b_Cells_addPair_12 : mx_ck m_Cells_addPair 12 [(.aload_n 0, [], 0), (.getfield 12, [2, 0, 2, 269], 0), (.iload_n 1, [], 0)] = some 17 := by decide +kernel
theorem b_Cells_addPair_20 : mx_ck m_Cells_addPair 20 [(.istore_n 3, [], 0), (.aload_n 0, [], 0), (.getfield 41, [2, 11, 33, 281], 0), (.iload_n 1, [], 0), (.iload_n 3, [], 0), (.iastore, [], 0), (.aload_n 0, [], 0), (.dup, [], 0), (.getfield 107, [2, 4, 0, 273], 0), (.iload_n 3, [], 0), (.ior, [], 0), (.putfield 107, [2, 4, 0, 273], 0), (.aload_n 0, [], 0), (.getfield 21, [2, 6, 6, 275], 0), (.iload_n 3, [], 0), (.iload_n 2, [], 0)] = some 44 := by decide +kernel
theorem b_Cells_addPair_47 : mx_ck m_Cells_addPair 47 [(.pop, [], 0)] = some 48 := by decide +kernel
theorem d_Cells_addPair_6 : decode m_Cells_addPair.2.1 6 = .ok (.invokevirtual 123, 3) := by decide +kernel
theorem c_Cells_addPair_6 : mx_cv m_Cells_addPair m_Sets_add 123 2 [638, 639, 640, 86, 641] = true := by decide +kernel
theorem d_Cells_addPair_9 : decode m_Cells_addPair.2.1 9 = .ok (.ifCond .eq 39, 3) := by decide +kernel
theorem d_Cells_addPair_17 : decode m_Cells_addPair.2.1 17 = .ok (.invokevirtual 134, 3) := by decide +kernel
theorem c_Cells_addPair_17 : mx_cv m_Cells_addPair m_House_cellOf 134 1 [646, 635, 636, 83, 637] = true := by decide +kernel
theorem d_Cells_addPair_44 : decode m_Cells_addPair.2.1 44 = .ok (.invokevirtual 123, 3) := by decide +kernel
theorem c_Cells_addPair_44 : mx_cv m_Cells_addPair m_Sets_add 123 2 [638, 639, 640, 86, 641] = true := by decide +kernel
theorem d_Cells_addPair_48 : decode m_Cells_addPair.2.1 48 = .ok (.return_, 1) := by decide +kernel
theorem b_Cells_addPairs_0 : mx_ck m_Cells_addPairs 0 [(.iconst 0, [], nI 0), (.istore 4, [], 0)] = some 3 := by decide +kernel
theorem b_Cells_addPairs_3 : mx_ck m_Cells_addPairs 3 [(.iload 4, [], 0), (.aload_n 0, [], 0), (.getfield 28, [2, 7, 9, 277], 0), (.getfield 65, [7, 2, 4, 257], 0), (.getfield 61, [6, 2, 0, 234], 0)] = some 15 := by decide +kernel
theorem b_Cells_addPairs_18 : mx_ck m_Cells_addPairs 18 [(.iload 4, [], 0), (.iload_n 1, [], 0)] = some 21 := by decide +kernel
theorem b_Cells_addPairs_24 : mx_ck m_Cells_addPairs 24 [(.iload_n 2, [], 0)] = some 25 := by decide +kernel
theorem b_Cells_addPairs_28 : mx_ck m_Cells_addPairs 28 [(.iconst 0, [], nI 0)] = some 29 := by decide +kernel
theorem b_Cells_addPairs_29 : mx_ck m_Cells_addPairs 29 [(.istore 5, [], 0)] = some 31 := by decide +kernel
theorem b_Cells_addPairs_31 : mx_ck m_Cells_addPairs 31 [(.iload 5, [], 0), (.aload_n 0, [], 0), (.getfield 28, [2, 7, 9, 277], 0), (.getfield 68, [7, 3, 7, 259], 0), (.getfield 61, [6, 2, 0, 234], 0)] = some 43 := by decide +kernel
theorem b_Cells_addPairs_46 : mx_ck m_Cells_addPairs 46 [(.aload_n 0, [], 0), (.aload_n 0, [], 0), (.getfield 28, [2, 7, 9, 277], 0), (.getfield 65, [7, 2, 4, 257], 0), (.getfield 71, [6, 0, 2, 229], 0), (.iload 4, [], 0), (.iaload, [], 0), (.aload_n 0, [], 0), (.getfield 28, [2, 7, 9, 277], 0), (.getfield 68, [7, 3, 7, 259], 0), (.getfield 71, [6, 0, 2, 229], 0), (.iload 5, [], 0), (.iaload, [], 0), (.iand, [], 0), (.iload_n 3, [], 0)] = some 75 := by decide +kernel
theorem b_Cells_addPairs_78 : mx_ck m_Cells_addPairs 78 [(.iinc 5 1, [], nI 1)] = some 81 := by decide +kernel
theorem b_Cells_addPairs_84 : mx_ck m_Cells_addPairs 84 [(.iinc 4 1, [], nI 1)] = some 87 := by decide +kernel
theorem d_Cells_addPairs_15 : decode m_Cells_addPairs.2.1 15 = .ok (.if_icmp .ge 75, 3) := by decide +kernel
theorem d_Cells_addPairs_21 : decode m_Cells_addPairs.2.1 21 = .ok (.if_icmp .ge 7, 3) := by decide +kernel
theorem d_Cells_addPairs_25 : decode m_Cells_addPairs.2.1 25 = .ok (.goto 4, 3) := by decide +kernel
theorem d_Cells_addPairs_43 : decode m_Cells_addPairs.2.1 43 = .ok (.if_icmp .ge 41, 3) := by decide +kernel
theorem d_Cells_addPairs_75 : decode m_Cells_addPairs.2.1 75 = .ok (.invokevirtual 131, 3) := by decide +kernel
theorem c_Cells_addPairs_75 : mx_cv m_Cells_addPairs m_Cells_addPair 131 2 [664, 666, 14, 85, 667] = true := by decide +kernel
theorem d_Cells_addPairs_81 : decode m_Cells_addPairs.2.1 81 = .ok (.goto (-50), 3) := by decide +kernel
theorem d_Cells_addPairs_87 : decode m_Cells_addPairs.2.1 87 = .ok (.goto (-84), 3) := by decide +kernel
theorem d_Cells_addPairs_90 : decode m_Cells_addPairs.2.1 90 = .ok (.return_, 1) := by decide +kernel
theorem b_Cells_alwaysAnswered_0 : mx_ck m_Cells_alwaysAnswered 0 [(.aload_n 0, [], 0), (.getfield 104, [2, 3, 0, 272], 0), (.iload_n 1, [], 0), (.ishr, [], 0), (.iconst 1, [], nI 1), (.iand, [], 0)] = some 8 := by decide +kernel
theorem b_Cells_alwaysAnswered_11 : mx_ck m_Cells_alwaysAnswered 11 [(.aload_n 0, [], 0), (.getfield 107, [2, 4, 0, 273], 0), (.iload_n 1, [], 0), (.ishr, [], 0), (.iconst 1, [], nI 1), (.iand, [], 0)] = some 19 := by decide +kernel
theorem b_Cells_alwaysAnswered_22 : mx_ck m_Cells_alwaysAnswered 22 [(.iconst 0, [], nI 0)] = some 23 := by decide +kernel
theorem b_Cells_alwaysAnswered_24 : mx_ck m_Cells_alwaysAnswered 24 [(.aload_n 0, [], 0), (.iload_n 1, [], 0)] = some 26 := by decide +kernel
theorem b_Cells_alwaysAnswered_29 : mx_ck m_Cells_alwaysAnswered 29 [(.iconst 0, [], nI 0), (.istore_n 2, [], 0), (.iconst 0, [], nI 0), (.istore_n 3, [], 0)] = some 33 := by decide +kernel
theorem b_Cells_alwaysAnswered_33 : mx_ck m_Cells_alwaysAnswered 33 [(.iload_n 3, [], 0), (.aload_n 0, [], 0), (.getfield 21, [2, 6, 6, 275], 0), (.getfield 61, [6, 2, 0, 234], 0)] = some 41 := by decide +kernel
theorem b_Cells_alwaysAnswered_44 : mx_ck m_Cells_alwaysAnswered 44 [(.aload_n 0, [], 0), (.getfield 48, [2, 13, 35, 283], 0), (.aload_n 0, [], 0), (.getfield 32, [2, 8, 18, 278], 0), (.getfield 157, [7, 0, 2, 253], 0), (.iload_n 3, [], 0), (.iaload, [], 0), (.iaload, [], 0)] = some 58 := by decide +kernel
theorem b_Cells_alwaysAnswered_61 : mx_ck m_Cells_alwaysAnswered 61 [(.iload_n 2, [], 0), (.aload_n 0, [], 0), (.getfield 21, [2, 6, 6, 275], 0), (.getfield 71, [6, 0, 2, 229], 0), (.iload_n 3, [], 0), (.iaload, [], 0), (.ior, [], 0), (.istore_n 2, [], 0)] = some 73 := by decide +kernel
theorem b_Cells_alwaysAnswered_73 : mx_ck m_Cells_alwaysAnswered 73 [(.iinc 3 1, [], nI 1)] = some 76 := by decide +kernel
theorem b_Cells_alwaysAnswered_79 : mx_ck m_Cells_alwaysAnswered 79 [(.aload_n 0, [], 0), (.getfield 95, [2, 1, 0, 270], 0), (.iload_n 2, [], 0), (.iconst (-1), [], (-1)), (.ixor, [], 0), (.iand, [], 0)] = some 87 := by decide +kernel
theorem d_Cells_alwaysAnswered_8 : decode m_Cells_alwaysAnswered.2.1 8 = .ok (.ifCond .ne 14, 3) := by decide +kernel
theorem d_Cells_alwaysAnswered_19 : decode m_Cells_alwaysAnswered.2.1 19 = .ok (.ifCond .eq 5, 3) := by decide +kernel
theorem d_Cells_alwaysAnswered_23 : decode m_Cells_alwaysAnswered.2.1 23 = .ok (.ireturn, 1) := by decide +kernel
theorem d_Cells_alwaysAnswered_26 : decode m_Cells_alwaysAnswered.2.1 26 = .ok (.invokevirtual 153, 3) := by decide +kernel
theorem c_Cells_alwaysAnswered_26 : mx_cv m_Cells_alwaysAnswered m_Cells_openFor 153 1 [723, 725, 18, 85, 726] = true := by decide +kernel
theorem d_Cells_alwaysAnswered_41 : decode m_Cells_alwaysAnswered.2.1 41 = .ok (.if_icmp .ge 38, 3) := by decide +kernel
theorem d_Cells_alwaysAnswered_58 : decode m_Cells_alwaysAnswered.2.1 58 = .ok (.ifCond .eq 15, 3) := by decide +kernel
theorem d_Cells_alwaysAnswered_76 : decode m_Cells_alwaysAnswered.2.1 76 = .ok (.goto (-43), 3) := by decide +kernel
theorem d_Cells_alwaysAnswered_87 : decode m_Cells_alwaysAnswered.2.1 87 = .ok (.ireturn, 1) := by decide +kernel
theorem b_Cells_begin_0 : mx_ck m_Cells_begin 0 [(.aload_n 0, [], 0), (.getfield 12, [2, 0, 2, 269], 0), (.aload_n 1, [], 0)] = some 5 := by decide +kernel
theorem b_Cells_begin_8 : mx_ck m_Cells_begin 8 [(.aload_n 0, [], 0), (.aload_n 1, [], 0)] = some 10 := by decide +kernel
theorem b_Cells_begin_13 : mx_ck m_Cells_begin 13 [(.putfield 95, [2, 1, 0, 270], 0), (.aload_n 0, [], 0), (.aload_n 1, [], 0), (.iconst 2, [], nI 2)] = some 19 := by decide +kernel
theorem b_Cells_begin_22 : mx_ck m_Cells_begin 22 [(.putfield 101, [2, 2, 0, 271], 0), (.aload_n 0, [], 0), (.iconst 0, [], nI 0), (.putfield 104, [2, 3, 0, 272], 0), (.aload_n 0, [], 0), (.iconst 0, [], nI 0), (.putfield 107, [2, 4, 0, 273], 0), (.aload_n 0, [], 0), (.iconst 0, [], nI 0), (.putfield 110, [2, 5, 0, 274], 0), (.aload_n 0, [], 0), (.getfield 21, [2, 6, 6, 275], 0)] = some 44 := by decide +kernel
theorem b_Cells_begin_47 : mx_ck m_Cells_begin 47 [(.aload_n 0, [], 0), (.getfield 28, [2, 7, 9, 277], 0)] = some 51 := by decide +kernel
theorem b_Cells_begin_54 : mx_ck m_Cells_begin 54 [(.aload_n 0, [], 0), (.getfield 32, [2, 8, 18, 278], 0)] = some 58 := by decide +kernel
theorem b_Cells_begin_61 : mx_ck m_Cells_begin 61 [(.aload_n 0, [], 0), (.getfield 35, [2, 9, 27, 279], 0)] = some 65 := by decide +kernel
theorem b_Cells_begin_68 : mx_ck m_Cells_begin 68 [(.aload_n 0, [], 0), (.getfield 38, [2, 10, 30, 280], 0)] = some 72 := by decide +kernel
theorem b_Cells_begin_75 : mx_ck m_Cells_begin 75 [(.iconst 0, [], nI 0), (.istore_n 2, [], 0)] = some 77 := by decide +kernel
theorem b_Cells_begin_77 : mx_ck m_Cells_begin 77 [(.iload_n 2, [], 0), (.aload_n 1, [], 0), (.getfield 117, [3, 4, 0, 176], 0)] = some 82 := by decide +kernel
theorem b_Cells_begin_85 : mx_ck m_Cells_begin 85 [(.aload_n 1, [], 0), (.iload_n 2, [], 0)] = some 87 := by decide +kernel
theorem b_Cells_begin_90 : mx_ck m_Cells_begin 90 [(.istore_n 3, [], 0), (.aload_n 0, [], 0), (.dup, [], 0), (.getfield 104, [2, 3, 0, 272], 0), (.iload_n 3, [], 0), (.ior, [], 0), (.putfield 104, [2, 3, 0, 272], 0), (.aload_n 0, [], 0), (.getfield 21, [2, 6, 6, 275], 0), (.iload_n 3, [], 0), (.iconst 1, [], nI 1)] = some 107 := by decide +kernel
theorem b_Cells_begin_110 : mx_ck m_Cells_begin 110 [(.pop, [], 0), (.iinc 2 1, [], nI 1)] = some 114 := by decide +kernel
theorem b_Cells_begin_117 : mx_ck m_Cells_begin 117 [(.aload_n 0, [], 0), (.iconst 0, [], nI 0), (.iconst 1, [], nI 1)] = some 120 := by decide +kernel
theorem b_Cells_begin_123 : mx_ck m_Cells_begin 123 [(.aload_n 0, [], 0), (.getfield 32, [2, 8, 18, 278], 0), (.getfield 68, [7, 3, 7, 259], 0), (.iconst 0, [], nI 0), (.iconst 1, [], nI 1)] = some 132 := by decide +kernel
theorem b_Cells_begin_135 : mx_ck m_Cells_begin 135 [(.pop, [], 0)] = some 136 := by decide +kernel
theorem d_Cells_begin_5 : decode m_Cells_begin.2.1 5 = .ok (.invokevirtual 88, 3) := by decide +kernel
theorem c_Cells_begin_5 : mx_cv m_Cells_begin m_House_takeFrom 88 1 [615, 545, 546, 83, 547] = true := by decide +kernel
theorem d_Cells_begin_10 : decode m_Cells_begin.2.1 10 = .ok (.invokevirtual 91, 3) := by decide +kernel
theorem c_Cells_begin_10 : mx_cv m_Cells_begin m_House_all 91 0 [616, 600, 601, 83, 602] = true := by decide +kernel
theorem d_Cells_begin_19 : decode m_Cells_begin.2.1 19 = .ok (.invokevirtual 97, 3) := by decide +kernel
theorem c_Cells_begin_19 : mx_cv m_Cells_begin m_House_ofSort 97 1 [617, 618, 619, 83, 620] = true := by decide +kernel
theorem d_Cells_begin_44 : decode m_Cells_begin.2.1 44 = .ok (.invokevirtual 113, 3) := by decide +kernel
theorem c_Cells_begin_44 : mx_cv m_Cells_begin m_Sets_clear 113 0 [621, 622, 623, 86, 624] = true := by decide +kernel
theorem d_Cells_begin_51 : decode m_Cells_begin.2.1 51 = .ok (.invokevirtual 116, 3) := by decide +kernel
theorem c_Cells_begin_51 : mx_cv m_Cells_begin m_Sides_clear 116 0 [625, 626, 627, 87, 628] = true := by decide +kernel
theorem d_Cells_begin_58 : decode m_Cells_begin.2.1 58 = .ok (.invokevirtual 116, 3) := by decide +kernel
theorem c_Cells_begin_58 : mx_cv m_Cells_begin m_Sides_clear 116 0 [625, 626, 627, 87, 628] = true := by decide +kernel
theorem d_Cells_begin_65 : decode m_Cells_begin.2.1 65 = .ok (.invokevirtual 113, 3) := by decide +kernel
theorem c_Cells_begin_65 : mx_cv m_Cells_begin m_Sets_clear 113 0 [621, 622, 623, 86, 624] = true := by decide +kernel
theorem d_Cells_begin_72 : decode m_Cells_begin.2.1 72 = .ok (.invokevirtual 113, 3) := by decide +kernel
theorem c_Cells_begin_72 : mx_cv m_Cells_begin m_Sets_clear 113 0 [621, 622, 623, 86, 624] = true := by decide +kernel
theorem d_Cells_begin_82 : decode m_Cells_begin.2.1 82 = .ok (.if_icmp .ge 35, 3) := by decide +kernel
theorem d_Cells_begin_87 : decode m_Cells_begin.2.1 87 = .ok (.invokevirtual 120, 3) := by decide +kernel
theorem c_Cells_begin_87 : mx_cv m_Cells_begin m_House_cellOfConstant 120 1 [630, 631, 632, 83, 633] = true := by decide +kernel
theorem d_Cells_begin_107 : decode m_Cells_begin.2.1 107 = .ok (.invokevirtual 123, 3) := by decide +kernel
theorem c_Cells_begin_107 : mx_cv m_Cells_begin m_Sets_add 123 2 [638, 639, 640, 86, 641] = true := by decide +kernel
theorem d_Cells_begin_114 : decode m_Cells_begin.2.1 114 = .ok (.goto (-37), 3) := by decide +kernel
theorem d_Cells_begin_120 : decode m_Cells_begin.2.1 120 = .ok (.invokevirtual 127, 3) := by decide +kernel
theorem c_Cells_begin_120 : mx_cv m_Cells_begin m_Cells_addFunction 127 2 [642, 644, 12, 85, 645] = true := by decide +kernel
theorem d_Cells_begin_132 : decode m_Cells_begin.2.1 132 = .ok (.invokevirtual 123, 3) := by decide +kernel
theorem c_Cells_begin_132 : mx_cv m_Cells_begin m_Sets_add 123 2 [638, 639, 640, 86, 641] = true := by decide +kernel
theorem d_Cells_begin_136 : decode m_Cells_begin.2.1 136 = .ok (.return_, 1) := by decide +kernel
theorem b_Cells_holdingAnswers_0 : mx_ck m_Cells_holdingAnswers 0 [(.aload_n 0, [], 0), (.getfield 104, [2, 3, 0, 272], 0), (.iload_n 1, [], 0), (.ishr, [], 0), (.iconst 1, [], nI 1), (.iand, [], 0)] = some 8 := by decide +kernel
theorem b_Cells_holdingAnswers_11 : mx_ck m_Cells_holdingAnswers 11 [(.aload_n 0, [], 0), (.getfield 107, [2, 4, 0, 273], 0), (.iload_n 1, [], 0), (.ishr, [], 0), (.iconst 1, [], nI 1), (.iand, [], 0)] = some 19 := by decide +kernel
theorem b_Cells_holdingAnswers_22 : mx_ck m_Cells_holdingAnswers 22 [(.iconst 0, [], nI 0)] = some 23 := by decide +kernel
theorem b_Cells_holdingAnswers_24 : mx_ck m_Cells_holdingAnswers 24 [(.aload_n 0, [], 0), (.iload_n 1, [], 0)] = some 26 := by decide +kernel
theorem b_Cells_holdingAnswers_29 : mx_ck m_Cells_holdingAnswers 29 [(.aload_n 0, [], 0), (.getfield 95, [2, 1, 0, 270], 0), (.istore_n 3, [], 0), (.iconst 0, [], nI 0), (.istore 4, [], 0)] = some 37 := by decide +kernel
theorem b_Cells_holdingAnswers_37 : mx_ck m_Cells_holdingAnswers 37 [(.iload 4, [], 0), (.aload_n 0, [], 0), (.getfield 21, [2, 6, 6, 275], 0), (.getfield 61, [6, 2, 0, 234], 0)] = some 46 := by decide +kernel
theorem b_Cells_holdingAnswers_49 : mx_ck m_Cells_holdingAnswers 49 [(.iload_n 3, [], 0)] = some 50 := by decide +kernel
theorem b_Cells_holdingAnswers_53 : mx_ck m_Cells_holdingAnswers 53 [(.aload_n 0, [], 0), (.getfield 21, [2, 6, 6, 275], 0), (.getfield 71, [6, 0, 2, 229], 0), (.iload 4, [], 0), (.iaload, [], 0), (.iload_n 2, [], 0), (.ishr, [], 0), (.iconst 1, [], nI 1), (.iand, [], 0)] = some 67 := by decide +kernel
theorem b_Cells_holdingAnswers_70 : mx_ck m_Cells_holdingAnswers 70 [(.iload_n 3, [], 0), (.aload_n 0, [], 0), (.aload_n 0, [], 0), (.getfield 32, [2, 8, 18, 278], 0), (.getfield 157, [7, 0, 2, 253], 0), (.iload 4, [], 0), (.iaload, [], 0)] = some 82 := by decide +kernel
theorem b_Cells_holdingAnswers_85 : mx_ck m_Cells_holdingAnswers 85 [(.iand, [], 0), (.istore_n 3, [], 0)] = some 87 := by decide +kernel
theorem b_Cells_holdingAnswers_87 : mx_ck m_Cells_holdingAnswers 87 [(.iinc 4 1, [], nI 1)] = some 90 := by decide +kernel
theorem b_Cells_holdingAnswers_93 : mx_ck m_Cells_holdingAnswers 93 [(.iload_n 3, [], 0)] = some 94 := by decide +kernel
theorem d_Cells_holdingAnswers_8 : decode m_Cells_holdingAnswers.2.1 8 = .ok (.ifCond .ne 14, 3) := by decide +kernel
theorem d_Cells_holdingAnswers_19 : decode m_Cells_holdingAnswers.2.1 19 = .ok (.ifCond .eq 5, 3) := by decide +kernel
theorem d_Cells_holdingAnswers_23 : decode m_Cells_holdingAnswers.2.1 23 = .ok (.ireturn, 1) := by decide +kernel
theorem d_Cells_holdingAnswers_26 : decode m_Cells_holdingAnswers.2.1 26 = .ok (.invokevirtual 153, 3) := by decide +kernel
theorem c_Cells_holdingAnswers_26 : mx_cv m_Cells_holdingAnswers m_Cells_openFor 153 1 [723, 725, 18, 85, 726] = true := by decide +kernel
theorem d_Cells_holdingAnswers_46 : decode m_Cells_holdingAnswers.2.1 46 = .ok (.if_icmp .ge 47, 3) := by decide +kernel
theorem d_Cells_holdingAnswers_50 : decode m_Cells_holdingAnswers.2.1 50 = .ok (.ifCond .eq 43, 3) := by decide +kernel
theorem d_Cells_holdingAnswers_67 : decode m_Cells_holdingAnswers.2.1 67 = .ok (.ifCond .eq 20, 3) := by decide +kernel
theorem d_Cells_holdingAnswers_82 : decode m_Cells_holdingAnswers.2.1 82 = .ok (.invokevirtual 160, 3) := by decide +kernel
theorem c_Cells_holdingAnswers_82 : mx_cv m_Cells_holdingAnswers m_Cells_holdingAnswersFrom 160 1 [727, 729, 19, 85, 730] = true := by decide +kernel
theorem d_Cells_holdingAnswers_90 : decode m_Cells_holdingAnswers.2.1 90 = .ok (.goto (-53), 3) := by decide +kernel
theorem d_Cells_holdingAnswers_94 : decode m_Cells_holdingAnswers.2.1 94 = .ok (.ireturn, 1) := by decide +kernel
theorem b_Cells_holdingAnswersFrom_0 : mx_ck m_Cells_holdingAnswersFrom 0 [(.aload_n 0, [], 0), (.getfield 48, [2, 13, 35, 283], 0), (.iload_n 1, [], 0), (.iaload, [], 0)] = some 6 := by decide +kernel
theorem b_Cells_holdingAnswersFrom_9 : mx_ck m_Cells_holdingAnswersFrom 9 [(.iconst 0, [], nI 0)] = some 10 := by decide +kernel
theorem b_Cells_holdingAnswersFrom_11 : mx_ck m_Cells_holdingAnswersFrom 11 [(.aload_n 0, [], 0), (.getfield 95, [2, 1, 0, 270], 0), (.istore_n 2, [], 0), (.iconst 0, [], nI 0), (.istore_n 3, [], 0)] = some 18 := by decide +kernel
theorem b_Cells_holdingAnswersFrom_18 : mx_ck m_Cells_holdingAnswersFrom 18 [(.iload_n 3, [], 0), (.aload_n 0, [], 0), (.getfield 21, [2, 6, 6, 275], 0), (.getfield 61, [6, 2, 0, 234], 0)] = some 26 := by decide +kernel
theorem b_Cells_holdingAnswersFrom_29 : mx_ck m_Cells_holdingAnswersFrom 29 [(.aload_n 0, [], 0), (.getfield 48, [2, 13, 35, 283], 0), (.iload_n 1, [], 0), (.aload_n 0, [], 0), (.getfield 32, [2, 8, 18, 278], 0), (.getfield 163, [7, 1, 3, 255], 0), (.iload_n 3, [], 0), (.iaload, [], 0), (.iconst (-1), [], (-1)), (.ixor, [], 0), (.iand, [], 0), (.iaload, [], 0)] = some 47 := by decide +kernel
theorem b_Cells_holdingAnswersFrom_50 : mx_ck m_Cells_holdingAnswersFrom 50 [(.iload_n 2, [], 0), (.aload_n 0, [], 0), (.getfield 21, [2, 6, 6, 275], 0), (.getfield 71, [6, 0, 2, 229], 0), (.iload_n 3, [], 0), (.iaload, [], 0), (.iand, [], 0), (.istore_n 2, [], 0)] = some 62 := by decide +kernel
theorem b_Cells_holdingAnswersFrom_62 : mx_ck m_Cells_holdingAnswersFrom 62 [(.iinc 3 1, [], nI 1)] = some 65 := by decide +kernel
theorem b_Cells_holdingAnswersFrom_68 : mx_ck m_Cells_holdingAnswersFrom 68 [(.iload_n 2, [], 0)] = some 69 := by decide +kernel
theorem d_Cells_holdingAnswersFrom_6 : decode m_Cells_holdingAnswersFrom.2.1 6 = .ok (.ifCond .eq 5, 3) := by decide +kernel
theorem d_Cells_holdingAnswersFrom_10 : decode m_Cells_holdingAnswersFrom.2.1 10 = .ok (.ireturn, 1) := by decide +kernel
theorem d_Cells_holdingAnswersFrom_26 : decode m_Cells_holdingAnswersFrom.2.1 26 = .ok (.if_icmp .ge 42, 3) := by decide +kernel
theorem d_Cells_holdingAnswersFrom_47 : decode m_Cells_holdingAnswersFrom.2.1 47 = .ok (.ifCond .eq 15, 3) := by decide +kernel
theorem d_Cells_holdingAnswersFrom_65 : decode m_Cells_holdingAnswersFrom.2.1 65 = .ok (.goto (-47), 3) := by decide +kernel
theorem d_Cells_holdingAnswersFrom_69 : decode m_Cells_holdingAnswersFrom.2.1 69 = .ok (.ireturn, 1) := by decide +kernel
theorem b_Cells_holdingSide_0 : mx_ck m_Cells_holdingSide 0 [(.aload_n 0, [], 0), (.getfield 104, [2, 3, 0, 272], 0), (.iload_n 1, [], 0), (.ishr, [], 0), (.iconst 1, [], nI 1), (.iand, [], 0)] = some 8 := by decide +kernel
theorem b_Cells_holdingSide_11 : mx_ck m_Cells_holdingSide 11 [(.aload_n 0, [], 0), (.getfield 110, [2, 5, 0, 274], 0), (.iload_n 1, [], 0), (.ishr, [], 0), (.iconst 1, [], nI 1), (.iand, [], 0)] = some 19 := by decide +kernel
theorem b_Cells_holdingSide_22 : mx_ck m_Cells_holdingSide 22 [(.iconst 0, [], nI 0)] = some 23 := by decide +kernel
theorem b_Cells_holdingSide_24 : mx_ck m_Cells_holdingSide 24 [(.iload_n 2, [], 0)] = some 25 := by decide +kernel
theorem b_Cells_holdingSide_28 : mx_ck m_Cells_holdingSide 28 [(.aload_n 0, [], 0), (.getfield 28, [2, 7, 9, 277], 0), (.getfield 157, [7, 0, 2, 253], 0)] = some 35 := by decide +kernel
theorem b_Cells_holdingSide_38 : mx_ck m_Cells_holdingSide 38 [(.aload_n 0, [], 0), (.getfield 28, [2, 7, 9, 277], 0), (.getfield 163, [7, 1, 3, 255], 0)] = some 45 := by decide +kernel
theorem b_Cells_holdingSide_45 : mx_ck m_Cells_holdingSide 45 [(.astore_n 3, [], 0), (.iload_n 2, [], 0)] = some 47 := by decide +kernel
theorem b_Cells_holdingSide_50 : mx_ck m_Cells_holdingSide 50 [(.aload_n 0, [], 0), (.getfield 28, [2, 7, 9, 277], 0), (.getfield 68, [7, 3, 7, 259], 0)] = some 57 := by decide +kernel
theorem b_Cells_holdingSide_60 : mx_ck m_Cells_holdingSide 60 [(.aload_n 0, [], 0), (.getfield 28, [2, 7, 9, 277], 0), (.getfield 65, [7, 2, 4, 257], 0)] = some 67 := by decide +kernel
theorem b_Cells_holdingSide_67 : mx_ck m_Cells_holdingSide 67 [(.astore 4, [], 0), (.aload_n 0, [], 0), (.getfield 95, [2, 1, 0, 270], 0), (.istore 5, [], 0), (.iconst 0, [], nI 0), (.istore 6, [], 0)] = some 78 := by decide +kernel
theorem b_Cells_holdingSide_78 : mx_ck m_Cells_holdingSide 78 [(.iload 6, [], 0), (.aload_n 0, [], 0), (.getfield 21, [2, 6, 6, 275], 0), (.getfield 61, [6, 2, 0, 234], 0)] = some 87 := by decide +kernel
theorem b_Cells_holdingSide_90 : mx_ck m_Cells_holdingSide 90 [(.aload_n 0, [], 0), (.iload_n 1, [], 0), (.aload_n 3, [], 0), (.iload 6, [], 0), (.iaload, [], 0), (.aload 4, [], 0)] = some 98 := by decide +kernel
theorem b_Cells_holdingSide_104 : mx_ck m_Cells_holdingSide 104 [(.iload 5, [], 0), (.aload_n 0, [], 0), (.getfield 21, [2, 6, 6, 275], 0), (.getfield 71, [6, 0, 2, 229], 0), (.iload 6, [], 0), (.iaload, [], 0), (.iand, [], 0), (.istore 5, [], 0)] = some 119 := by decide +kernel
theorem b_Cells_holdingSide_119 : mx_ck m_Cells_holdingSide 119 [(.iinc 6 1, [], nI 1)] = some 122 := by decide +kernel
theorem b_Cells_holdingSide_125 : mx_ck m_Cells_holdingSide 125 [(.iload 5, [], 0)] = some 127 := by decide +kernel
theorem d_Cells_holdingSide_8 : decode m_Cells_holdingSide.2.1 8 = .ok (.ifCond .ne 14, 3) := by decide +kernel
theorem d_Cells_holdingSide_19 : decode m_Cells_holdingSide.2.1 19 = .ok (.ifCond .eq 5, 3) := by decide +kernel
theorem d_Cells_holdingSide_23 : decode m_Cells_holdingSide.2.1 23 = .ok (.ireturn, 1) := by decide +kernel
theorem d_Cells_holdingSide_25 : decode m_Cells_holdingSide.2.1 25 = .ok (.ifCond .ne 13, 3) := by decide +kernel
theorem d_Cells_holdingSide_35 : decode m_Cells_holdingSide.2.1 35 = .ok (.goto 10, 3) := by decide +kernel
theorem d_Cells_holdingSide_47 : decode m_Cells_holdingSide.2.1 47 = .ok (.ifCond .ne 13, 3) := by decide +kernel
theorem d_Cells_holdingSide_57 : decode m_Cells_holdingSide.2.1 57 = .ok (.goto 10, 3) := by decide +kernel
theorem d_Cells_holdingSide_87 : decode m_Cells_holdingSide.2.1 87 = .ok (.if_icmp .ge 38, 3) := by decide +kernel
theorem d_Cells_holdingSide_98 : decode m_Cells_holdingSide.2.1 98 = .ok (.invokevirtual 166, 3) := by decide +kernel
theorem c_Cells_holdingSide_98 : mx_cv m_Cells_holdingSide m_Cells_pairsInto 166 3 [747, 749, 20, 85, 750] = true := by decide +kernel
theorem d_Cells_holdingSide_101 : decode m_Cells_holdingSide.2.1 101 = .ok (.ifCond .eq 18, 3) := by decide +kernel
theorem d_Cells_holdingSide_122 : decode m_Cells_holdingSide.2.1 122 = .ok (.goto (-44), 3) := by decide +kernel
theorem d_Cells_holdingSide_127 : decode m_Cells_holdingSide.2.1 127 = .ok (.ireturn, 1) := by decide +kernel
theorem b_Cells_inOrder_0 : mx_ck m_Cells_inOrder 0 [(.iload_n 1, [], 0), (.istore_n 2, [], 0), (.iconst 0, [], nI 0), (.istore_n 3, [], 0)] = some 4 := by decide +kernel
theorem b_Cells_inOrder_4 : mx_ck m_Cells_inOrder 4 [(.iload_n 3, [], 0), (.sipush 256, [], nI 256)] = some 8 := by decide +kernel
theorem b_Cells_inOrder_11 : mx_ck m_Cells_inOrder 11 [(.aload_n 0, [], 0), (.getfield 21, [2, 6, 6, 275], 0), (.getfield 140, [6, 1, 3, 232], 0), (.iload_n 3, [], 0), (.iaload, [], 0)] = some 20 := by decide +kernel
theorem b_Cells_inOrder_23 : mx_ck m_Cells_inOrder 23 [(.iload_n 2, [], 0)] = some 24 := by decide +kernel
theorem b_Cells_inOrder_27 : mx_ck m_Cells_inOrder 27 [(.iload_n 3, [], 0)] = some 28 := by decide +kernel
theorem b_Cells_inOrder_29 : mx_ck m_Cells_inOrder 29 [(.iinc 2 (-1), [], (-1))] = some 32 := by decide +kernel
theorem b_Cells_inOrder_32 : mx_ck m_Cells_inOrder 32 [(.iinc 3 1, [], nI 1)] = some 35 := by decide +kernel
theorem b_Cells_inOrder_38 : mx_ck m_Cells_inOrder 38 [(.ldc 152, [685], (-1000000))] = some 40 := by decide +kernel
theorem d_Cells_inOrder_8 : decode m_Cells_inOrder.2.1 8 = .ok (.if_icmp .ge 30, 3) := by decide +kernel
theorem d_Cells_inOrder_20 : decode m_Cells_inOrder.2.1 20 = .ok (.ifCond .eq 12, 3) := by decide +kernel
theorem d_Cells_inOrder_24 : decode m_Cells_inOrder.2.1 24 = .ok (.ifCond .ne 5, 3) := by decide +kernel
theorem d_Cells_inOrder_28 : decode m_Cells_inOrder.2.1 28 = .ok (.ireturn, 1) := by decide +kernel
theorem d_Cells_inOrder_35 : decode m_Cells_inOrder.2.1 35 = .ok (.goto (-31), 3) := by decide +kernel
theorem d_Cells_inOrder_40 : decode m_Cells_inOrder.2.1 40 = .ok (.ireturn, 1) := by decide +kernel
theorem b_Cells_init_0 : mx_ck m_Cells_init 0 [(.aload_n 0, [], 0)] = some 1 := by decide +kernel
theorem b_Cells_init_4 : mx_ck m_Cells_init 4 [(.aload_n 0, [], 0)] = some 5 := by decide +kernel
theorem b_Cells_init_8 : mx_ck m_Cells_init 8 [(.dup, [], 0)] = some 9 := by decide +kernel
theorem b_Cells_init_15 : mx_ck m_Cells_init 15 [(.aload_n 0, [], 0)] = some 16 := by decide +kernel
theorem b_Cells_init_19 : mx_ck m_Cells_init 19 [(.dup, [], 0)] = some 20 := by decide +kernel
theorem b_Cells_init_26 : mx_ck m_Cells_init 26 [(.aload_n 0, [], 0)] = some 27 := by decide +kernel
theorem b_Cells_init_30 : mx_ck m_Cells_init 30 [(.dup, [], 0)] = some 31 := by decide +kernel
theorem b_Cells_init_37 : mx_ck m_Cells_init 37 [(.aload_n 0, [], 0)] = some 38 := by decide +kernel
theorem b_Cells_init_41 : mx_ck m_Cells_init 41 [(.dup, [], 0)] = some 42 := by decide +kernel
theorem b_Cells_init_48 : mx_ck m_Cells_init 48 [(.aload_n 0, [], 0)] = some 49 := by decide +kernel
theorem b_Cells_init_52 : mx_ck m_Cells_init 52 [(.dup, [], 0)] = some 53 := by decide +kernel
theorem b_Cells_init_59 : mx_ck m_Cells_init 59 [(.aload_n 0, [], 0)] = some 60 := by decide +kernel
theorem b_Cells_init_63 : mx_ck m_Cells_init 63 [(.dup, [], 0)] = some 64 := by decide +kernel
theorem b_Cells_init_70 : mx_ck m_Cells_init 70 [(.aload_n 0, [], 0), (.sipush 256, [], nI 256)] = some 74 := by decide +kernel
theorem b_Cells_init_79 : mx_ck m_Cells_init 79 [(.aload_n 0, [], 0), (.sipush 256, [], nI 256)] = some 83 := by decide +kernel
theorem b_Cells_init_88 : mx_ck m_Cells_init 88 [(.aload_n 0, [], 0), (.sipush 256, [], nI 256)] = some 92 := by decide +kernel
theorem b_Cells_init_97 : mx_ck m_Cells_init 97 [(.aload_n 0, [], 0), (.bipush 8, [], nI 8)] = some 100 := by decide +kernel
theorem b_Cells_init_105 : mx_ck m_Cells_init 105 [(.aload_n 0, [], 0), (.bipush 8, [], nI 8)] = some 108 := by decide +kernel
theorem d_Cells_init_1 : decode m_Cells_init.2.1 1 = .ok (.invokespecial 3, 3) := by decide +kernel
theorem d_Cells_init_5 : decode m_Cells_init.2.1 5 = .ok (.new 9, 3) := by decide +kernel
theorem d_Cells_init_9 : decode m_Cells_init.2.1 9 = .ok (.invokespecial 11, 3) := by decide +kernel
theorem d_Cells_init_12 : decode m_Cells_init.2.1 12 = .ok (.putfield 12, 3) := by decide +kernel
theorem d_Cells_init_16 : decode m_Cells_init.2.1 16 = .ok (.new 18, 3) := by decide +kernel
theorem d_Cells_init_20 : decode m_Cells_init.2.1 20 = .ok (.invokespecial 20, 3) := by decide +kernel
theorem d_Cells_init_23 : decode m_Cells_init.2.1 23 = .ok (.putfield 21, 3) := by decide +kernel
theorem d_Cells_init_27 : decode m_Cells_init.2.1 27 = .ok (.new 25, 3) := by decide +kernel
theorem d_Cells_init_31 : decode m_Cells_init.2.1 31 = .ok (.invokespecial 27, 3) := by decide +kernel
theorem d_Cells_init_34 : decode m_Cells_init.2.1 34 = .ok (.putfield 28, 3) := by decide +kernel
theorem d_Cells_init_38 : decode m_Cells_init.2.1 38 = .ok (.new 25, 3) := by decide +kernel
theorem d_Cells_init_42 : decode m_Cells_init.2.1 42 = .ok (.invokespecial 27, 3) := by decide +kernel
theorem d_Cells_init_45 : decode m_Cells_init.2.1 45 = .ok (.putfield 32, 3) := by decide +kernel
theorem d_Cells_init_49 : decode m_Cells_init.2.1 49 = .ok (.new 18, 3) := by decide +kernel
theorem d_Cells_init_53 : decode m_Cells_init.2.1 53 = .ok (.invokespecial 20, 3) := by decide +kernel
theorem d_Cells_init_56 : decode m_Cells_init.2.1 56 = .ok (.putfield 35, 3) := by decide +kernel
theorem d_Cells_init_60 : decode m_Cells_init.2.1 60 = .ok (.new 18, 3) := by decide +kernel
theorem d_Cells_init_64 : decode m_Cells_init.2.1 64 = .ok (.invokespecial 20, 3) := by decide +kernel
theorem d_Cells_init_67 : decode m_Cells_init.2.1 67 = .ok (.putfield 38, 3) := by decide +kernel
theorem d_Cells_init_74 : decode m_Cells_init.2.1 74 = .ok (.newarray .int, 2) := by decide +kernel
theorem d_Cells_init_76 : decode m_Cells_init.2.1 76 = .ok (.putfield 41, 3) := by decide +kernel
theorem d_Cells_init_83 : decode m_Cells_init.2.1 83 = .ok (.newarray .int, 2) := by decide +kernel
theorem d_Cells_init_85 : decode m_Cells_init.2.1 85 = .ok (.putfield 45, 3) := by decide +kernel
theorem d_Cells_init_92 : decode m_Cells_init.2.1 92 = .ok (.newarray .int, 2) := by decide +kernel
theorem d_Cells_init_94 : decode m_Cells_init.2.1 94 = .ok (.putfield 48, 3) := by decide +kernel
theorem d_Cells_init_100 : decode m_Cells_init.2.1 100 = .ok (.newarray .int, 2) := by decide +kernel
theorem d_Cells_init_102 : decode m_Cells_init.2.1 102 = .ok (.putfield 51, 3) := by decide +kernel
theorem d_Cells_init_108 : decode m_Cells_init.2.1 108 = .ok (.newarray .int, 2) := by decide +kernel
theorem d_Cells_init_110 : decode m_Cells_init.2.1 110 = .ok (.putfield 54, 3) := by decide +kernel
theorem d_Cells_init_113 : decode m_Cells_init.2.1 113 = .ok (.return_, 1) := by decide +kernel
theorem b_Cells_leastHeight_0 : mx_ck m_Cells_leastHeight 0 [(.iconst 0, [], nI 0), (.istore_n 3, [], 0)] = some 2 := by decide +kernel
theorem b_Cells_leastHeight_2 : mx_ck m_Cells_leastHeight 2 [(.iload_n 3, [], 0), (.aload_n 0, [], 0), (.getfield 21, [2, 6, 6, 275], 0), (.getfield 61, [6, 2, 0, 234], 0)] = some 10 := by decide +kernel
theorem b_Cells_leastHeight_13 : mx_ck m_Cells_leastHeight 13 [(.aload_n 0, [], 0), (.getfield 21, [2, 6, 6, 275], 0), (.getfield 71, [6, 0, 2, 229], 0), (.iload_n 3, [], 0), (.iaload, [], 0), (.istore 4, [], 0), (.iload 4, [], 0), (.iload_n 1, [], 0), (.iand, [], 0), (.iload_n 1, [], 0)] = some 29 := by decide +kernel
theorem b_Cells_leastHeight_32 : mx_ck m_Cells_leastHeight 32 [(.iload 4, [], 0), (.iload_n 2, [], 0), (.iand, [], 0)] = some 36 := by decide +kernel
theorem b_Cells_leastHeight_39 : mx_ck m_Cells_leastHeight 39 [(.aload_n 0, [], 0), (.getfield 21, [2, 6, 6, 275], 0), (.getfield 140, [6, 1, 3, 232], 0), (.iload 4, [], 0), (.iaload, [], 0)] = some 49 := by decide +kernel
theorem b_Cells_leastHeight_50 : mx_ck m_Cells_leastHeight 50 [(.iinc 3 1, [], nI 1)] = some 53 := by decide +kernel
theorem b_Cells_leastHeight_56 : mx_ck m_Cells_leastHeight 56 [(.ldc 152, [685], (-1000000))] = some 58 := by decide +kernel
theorem d_Cells_leastHeight_10 : decode m_Cells_leastHeight.2.1 10 = .ok (.if_icmp .ge 46, 3) := by decide +kernel
theorem d_Cells_leastHeight_29 : decode m_Cells_leastHeight.2.1 29 = .ok (.if_icmp .ne 21, 3) := by decide +kernel
theorem d_Cells_leastHeight_36 : decode m_Cells_leastHeight.2.1 36 = .ok (.ifCond .ne 14, 3) := by decide +kernel
theorem d_Cells_leastHeight_49 : decode m_Cells_leastHeight.2.1 49 = .ok (.ireturn, 1) := by decide +kernel
theorem d_Cells_leastHeight_53 : decode m_Cells_leastHeight.2.1 53 = .ok (.goto (-51), 3) := by decide +kernel
theorem d_Cells_leastHeight_58 : decode m_Cells_leastHeight.2.1 58 = .ok (.ireturn, 1) := by decide +kernel
theorem b_Cells_lyingIn_0 : mx_ck m_Cells_lyingIn 0 [(.iconst 0, [], nI 0), (.istore_n 2, [], 0), (.iconst 0, [], nI 0), (.istore_n 3, [], 0)] = some 4 := by decide +kernel
theorem b_Cells_lyingIn_4 : mx_ck m_Cells_lyingIn 4 [(.iload_n 3, [], 0), (.aload_n 0, [], 0), (.getfield 12, [2, 0, 2, 269], 0), (.getfield 149, [3, 3, 0, 173], 0)] = some 12 := by decide +kernel
theorem b_Cells_lyingIn_15 : mx_ck m_Cells_lyingIn 15 [(.iload_n 2, [], 0), (.aload_n 0, [], 0), (.getfield 51, [2, 14, 36, 284], 0), (.iload_n 3, [], 0), (.iaload, [], 0), (.iload_n 1, [], 0), (.ishr, [], 0), (.iconst 1, [], nI 1), (.iand, [], 0), (.iload_n 3, [], 0), (.ishl, [], 0), (.ior, [], 0), (.istore_n 2, [], 0), (.iinc 3 1, [], nI 1)] = some 33 := by decide +kernel
theorem b_Cells_lyingIn_36 : mx_ck m_Cells_lyingIn 36 [(.iload_n 2, [], 0)] = some 37 := by decide +kernel
theorem d_Cells_lyingIn_12 : decode m_Cells_lyingIn.2.1 12 = .ok (.if_icmp .ge 24, 3) := by decide +kernel
theorem d_Cells_lyingIn_33 : decode m_Cells_lyingIn.2.1 33 = .ok (.goto (-29), 3) := by decide +kernel
theorem d_Cells_lyingIn_37 : decode m_Cells_lyingIn.2.1 37 = .ok (.ireturn, 1) := by decide +kernel
theorem b_Cells_measure_0 : mx_ck m_Cells_measure 0 [(.aload_n 0, [], 0), (.aload_n 1, [], 0)] = some 2 := by decide +kernel
theorem b_Cells_measure_5 : mx_ck m_Cells_measure 5 [(.iconst 0, [], nI 0), (.istore_n 2, [], 0), (.iconst 2, [], nI 2), (.istore_n 3, [], 0)] = some 9 := by decide +kernel
theorem b_Cells_measure_9 : mx_ck m_Cells_measure 9 [(.iload_n 3, [], 0), (.sipush 257, [], nI 257)] = some 13 := by decide +kernel
theorem b_Cells_measure_16 : mx_ck m_Cells_measure 16 [(.iload_n 2, [], 0), (.aload_n 0, [], 0), (.getfield 21, [2, 6, 6, 275], 0), (.getfield 61, [6, 2, 0, 234], 0)] = some 24 := by decide +kernel
theorem b_Cells_measure_27 : mx_ck m_Cells_measure 27 [(.aload_n 0, [], 0), (.getfield 28, [2, 7, 9, 277], 0), (.getfield 65, [7, 2, 4, 257], 0), (.getfield 61, [6, 2, 0, 234], 0), (.istore 4, [], 0), (.aload_n 0, [], 0), (.getfield 28, [2, 7, 9, 277], 0), (.getfield 68, [7, 3, 7, 259], 0), (.getfield 61, [6, 2, 0, 234], 0), (.istore 5, [], 0), (.aload_n 0, [], 0), (.getfield 32, [2, 8, 18, 278], 0), (.getfield 65, [7, 2, 4, 257], 0), (.getfield 61, [6, 2, 0, 234], 0), (.istore 6, [], 0), (.aload_n 0, [], 0), (.getfield 32, [2, 8, 18, 278], 0), (.getfield 68, [7, 3, 7, 259], 0), (.getfield 61, [6, 2, 0, 234], 0), (.istore 7, [], 0), (.aload_n 0, [], 0), (.getfield 21, [2, 6, 6, 275], 0), (.getfield 61, [6, 2, 0, 234], 0), (.istore 8, [], 0), (.iload_n 2, [], 0), (.istore 9, [], 0)] = some 87 := by decide +kernel
theorem b_Cells_measure_87 : mx_ck m_Cells_measure 87 [(.iload 9, [], 0), (.iload 8, [], 0)] = some 91 := by decide +kernel
theorem b_Cells_measure_94 : mx_ck m_Cells_measure 94 [(.aload_n 0, [], 0), (.getfield 28, [2, 7, 9, 277], 0), (.aload_n 0, [], 0), (.getfield 12, [2, 0, 2, 269], 0), (.iconst 1, [], nI 1), (.iload 9, [], 0), (.aload_n 0, [], 0), (.getfield 21, [2, 6, 6, 275], 0), (.getfield 71, [6, 0, 2, 229], 0), (.iload 9, [], 0), (.iaload, [], 0)] = some 115 := by decide +kernel
theorem b_Cells_measure_118 : mx_ck m_Cells_measure 118 [(.aload_n 0, [], 0), (.getfield 32, [2, 8, 18, 278], 0), (.aload_n 0, [], 0), (.getfield 12, [2, 0, 2, 269], 0), (.iconst 2, [], nI 2), (.iload 9, [], 0), (.aload_n 0, [], 0), (.getfield 21, [2, 6, 6, 275], 0), (.getfield 71, [6, 0, 2, 229], 0), (.iload 9, [], 0), (.iaload, [], 0)] = some 139 := by decide +kernel
theorem b_Cells_measure_142 : mx_ck m_Cells_measure 142 [(.iinc 9 1, [], nI 1)] = some 145 := by decide +kernel
theorem b_Cells_measure_148 : mx_ck m_Cells_measure 148 [(.iload 8, [], 0), (.istore_n 2, [], 0), (.aload_n 0, [], 0), (.iload 4, [], 0), (.iload 5, [], 0), (.iload_n 3, [], 0)] = some 157 := by decide +kernel
theorem b_Cells_measure_160 : mx_ck m_Cells_measure 160 [(.aload_n 0, [], 0), (.iload 6, [], 0), (.iload 7, [], 0), (.iload_n 3, [], 0)] = some 166 := by decide +kernel
theorem b_Cells_measure_169 : mx_ck m_Cells_measure 169 [(.iinc 3 1, [], nI 1)] = some 172 := by decide +kernel
theorem b_Cells_measure_175 : mx_ck m_Cells_measure 175 [(.aload_n 0, [], 0)] = some 176 := by decide +kernel
theorem d_Cells_measure_2 : decode m_Cells_measure.2.1 2 = .ok (.invokevirtual 57, 3) := by decide +kernel
theorem c_Cells_measure_2 : mx_cv m_Cells_measure m_Cells_begin 57 1 [611, 613, 11, 85, 614] = true := by decide +kernel
theorem d_Cells_measure_13 : decode m_Cells_measure.2.1 13 = .ok (.if_icmp .gt 162, 3) := by decide +kernel
theorem d_Cells_measure_24 : decode m_Cells_measure.2.1 24 = .ok (.if_icmp .ge 151, 3) := by decide +kernel
theorem d_Cells_measure_91 : decode m_Cells_measure.2.1 91 = .ok (.if_icmp .ge 57, 3) := by decide +kernel
theorem d_Cells_measure_115 : decode m_Cells_measure.2.1 115 = .ok (.invokevirtual 74, 3) := by decide +kernel
theorem c_Cells_measure_115 : mx_cv m_Cells_measure m_Sides_see 74 4 [647, 648, 649, 87, 650] = true := by decide +kernel
theorem d_Cells_measure_139 : decode m_Cells_measure.2.1 139 = .ok (.invokevirtual 74, 3) := by decide +kernel
theorem c_Cells_measure_139 : mx_cv m_Cells_measure m_Sides_see 74 4 [647, 648, 649, 87, 650] = true := by decide +kernel
theorem d_Cells_measure_145 : decode m_Cells_measure.2.1 145 = .ok (.goto (-58), 3) := by decide +kernel
theorem d_Cells_measure_157 : decode m_Cells_measure.2.1 157 = .ok (.invokevirtual 78, 3) := by decide +kernel
theorem c_Cells_measure_157 : mx_cv m_Cells_measure m_Cells_addPairs 78 3 [660, 662, 13, 85, 663] = true := by decide +kernel
theorem d_Cells_measure_166 : decode m_Cells_measure.2.1 166 = .ok (.invokevirtual 82, 3) := by decide +kernel
theorem c_Cells_measure_166 : mx_cv m_Cells_measure m_Cells_addCases 82 3 [668, 670, 15, 85, 671] = true := by decide +kernel
theorem d_Cells_measure_172 : decode m_Cells_measure.2.1 172 = .ok (.goto (-163), 3) := by decide +kernel
theorem d_Cells_measure_176 : decode m_Cells_measure.2.1 176 = .ok (.invokevirtual 85, 3) := by decide +kernel
theorem c_Cells_measure_176 : mx_cv m_Cells_measure m_Cells_relate 85 0 [676, 678, 17, 85, 679] = true := by decide +kernel
theorem d_Cells_measure_179 : decode m_Cells_measure.2.1 179 = .ok (.return_, 1) := by decide +kernel
theorem b_Cells_openFor_0 : mx_ck m_Cells_openFor 0 [(.aload_n 0, [], 0), (.getfield 48, [2, 13, 35, 283], 0), (.iconst 0, [], nI 0)] = some 5 := by decide +kernel
theorem b_Cells_openFor_8 : mx_ck m_Cells_openFor 8 [(.iconst 0, [], nI 0), (.istore_n 2, [], 0)] = some 10 := by decide +kernel
theorem b_Cells_openFor_10 : mx_ck m_Cells_openFor 10 [(.iload_n 2, [], 0), (.aload_n 0, [], 0), (.getfield 38, [2, 10, 30, 280], 0), (.getfield 61, [6, 2, 0, 234], 0)] = some 18 := by decide +kernel
theorem b_Cells_openFor_21 : mx_ck m_Cells_openFor 21 [(.aload_n 0, [], 0), (.getfield 48, [2, 13, 35, 283], 0), (.aload_n 0, [], 0), (.getfield 38, [2, 10, 30, 280], 0), (.getfield 71, [6, 0, 2, 229], 0), (.iload_n 2, [], 0), (.iaload, [], 0), (.aload_n 0, [], 0), (.getfield 45, [2, 12, 34, 282], 0), (.aload_n 0, [], 0), (.getfield 38, [2, 10, 30, 280], 0), (.getfield 71, [6, 0, 2, 229], 0), (.iload_n 2, [], 0), (.iaload, [], 0), (.iaload, [], 0), (.iload_n 1, [], 0), (.ishr, [], 0), (.iconst 1, [], nI 1), (.iand, [], 0), (.iastore, [], 0), (.iinc 2 1, [], nI 1)] = some 56 := by decide +kernel
theorem b_Cells_openFor_59 : mx_ck m_Cells_openFor 59 [(.iconst 1, [], nI 1), (.istore_n 2, [], 0)] = some 61 := by decide +kernel
theorem b_Cells_openFor_61 : mx_ck m_Cells_openFor 61 [(.iload_n 2, [], 0), (.sipush 256, [], nI 256)] = some 65 := by decide +kernel
theorem b_Cells_openFor_68 : mx_ck m_Cells_openFor 68 [(.iconst 0, [], nI 0), (.istore_n 3, [], 0)] = some 70 := by decide +kernel
theorem b_Cells_openFor_70 : mx_ck m_Cells_openFor 70 [(.iload_n 3, [], 0), (.sipush 256, [], nI 256)] = some 74 := by decide +kernel
theorem b_Cells_openFor_77 : mx_ck m_Cells_openFor 77 [(.aload_n 0, [], 0), (.getfield 101, [2, 2, 0, 271], 0), (.iload_n 2, [], 0), (.iand, [], 0)] = some 83 := by decide +kernel
theorem b_Cells_openFor_86 : mx_ck m_Cells_openFor 86 [(.aload_n 0, [], 0), (.getfield 48, [2, 13, 35, 283], 0), (.iload_n 3, [], 0), (.dup2, [], 0), (.iaload, [], 0), (.aload_n 0, [], 0), (.getfield 48, [2, 13, 35, 283], 0), (.iload_n 3, [], 0), (.iload_n 2, [], 0), (.ior, [], 0), (.iaload, [], 0), (.ior, [], 0), (.iastore, [], 0), (.iinc 3 1, [], nI 1)] = some 106 := by decide +kernel
theorem b_Cells_openFor_109 : mx_ck m_Cells_openFor 109 [(.iload_n 2, [], 0), (.iconst 1, [], nI 1), (.ishl, [], 0), (.istore_n 2, [], 0)] = some 113 := by decide +kernel
theorem d_Cells_openFor_5 : decode m_Cells_openFor.2.1 5 = .ok (.invokestatic 143, 3) := by decide +kernel
theorem c_Cells_openFor_5 : mx_cs m_Cells_openFor m_fill 143 2 [680, 108, 81, 109] = true := by decide +kernel
theorem d_Cells_openFor_18 : decode m_Cells_openFor.2.1 18 = .ok (.if_icmp .ge 41, 3) := by decide +kernel
theorem d_Cells_openFor_56 : decode m_Cells_openFor.2.1 56 = .ok (.goto (-46), 3) := by decide +kernel
theorem d_Cells_openFor_65 : decode m_Cells_openFor.2.1 65 = .ok (.if_icmp .ge 51, 3) := by decide +kernel
theorem d_Cells_openFor_74 : decode m_Cells_openFor.2.1 74 = .ok (.if_icmp .ge 35, 3) := by decide +kernel
theorem d_Cells_openFor_83 : decode m_Cells_openFor.2.1 83 = .ok (.ifCond .eq 26, 3) := by decide +kernel
theorem d_Cells_openFor_106 : decode m_Cells_openFor.2.1 106 = .ok (.goto (-36), 3) := by decide +kernel
theorem d_Cells_openFor_113 : decode m_Cells_openFor.2.1 113 = .ok (.goto (-52), 3) := by decide +kernel
theorem d_Cells_openFor_116 : decode m_Cells_openFor.2.1 116 = .ok (.return_, 1) := by decide +kernel
theorem b_Cells_pairsInto_0 : mx_ck m_Cells_pairsInto 0 [(.iconst 0, [], nI 0), (.istore 4, [], 0)] = some 3 := by decide +kernel
theorem b_Cells_pairsInto_3 : mx_ck m_Cells_pairsInto 3 [(.iload 4, [], 0), (.aload_n 3, [], 0), (.getfield 61, [6, 2, 0, 234], 0)] = some 9 := by decide +kernel
theorem b_Cells_pairsInto_12 : mx_ck m_Cells_pairsInto 12 [(.aload_n 0, [], 0), (.getfield 41, [2, 11, 33, 281], 0), (.iload_n 2, [], 0), (.aload_n 3, [], 0), (.getfield 71, [6, 0, 2, 229], 0), (.iload 4, [], 0), (.iaload, [], 0), (.iand, [], 0), (.iaload, [], 0), (.iload_n 1, [], 0), (.ishr, [], 0), (.iconst 1, [], nI 1), (.iand, [], 0)] = some 30 := by decide +kernel
theorem b_Cells_pairsInto_33 : mx_ck m_Cells_pairsInto 33 [(.iconst 1, [], nI 1)] = some 34 := by decide +kernel
theorem b_Cells_pairsInto_35 : mx_ck m_Cells_pairsInto 35 [(.iinc 4 1, [], nI 1)] = some 38 := by decide +kernel
theorem b_Cells_pairsInto_41 : mx_ck m_Cells_pairsInto 41 [(.iconst 0, [], nI 0)] = some 42 := by decide +kernel
theorem d_Cells_pairsInto_9 : decode m_Cells_pairsInto.2.1 9 = .ok (.if_icmp .ge 32, 3) := by decide +kernel
theorem d_Cells_pairsInto_30 : decode m_Cells_pairsInto.2.1 30 = .ok (.ifCond .eq 5, 3) := by decide +kernel
theorem d_Cells_pairsInto_34 : decode m_Cells_pairsInto.2.1 34 = .ok (.ireturn, 1) := by decide +kernel
theorem d_Cells_pairsInto_38 : decode m_Cells_pairsInto.2.1 38 = .ok (.goto (-35), 3) := by decide +kernel
theorem d_Cells_pairsInto_42 : decode m_Cells_pairsInto.2.1 42 = .ok (.ireturn, 1) := by decide +kernel
theorem b_Cells_relate_0 : mx_ck m_Cells_relate 0 [(.aload_n 0, [], 0), (.getfield 51, [2, 14, 36, 284], 0), (.aload_n 0, [], 0), (.getfield 95, [2, 1, 0, 270], 0)] = some 8 := by decide +kernel
theorem b_Cells_relate_11 : mx_ck m_Cells_relate 11 [(.aload_n 0, [], 0), (.getfield 54, [2, 15, 37, 286], 0), (.iconst 0, [], nI 0)] = some 16 := by decide +kernel
theorem b_Cells_relate_19 : mx_ck m_Cells_relate 19 [(.iconst 0, [], nI 0), (.istore_n 1, [], 0)] = some 21 := by decide +kernel
theorem b_Cells_relate_21 : mx_ck m_Cells_relate 21 [(.iload_n 1, [], 0), (.aload_n 0, [], 0), (.getfield 21, [2, 6, 6, 275], 0), (.getfield 61, [6, 2, 0, 234], 0)] = some 29 := by decide +kernel
theorem b_Cells_relate_32 : mx_ck m_Cells_relate 32 [(.aload_n 0, [], 0), (.getfield 21, [2, 6, 6, 275], 0), (.getfield 71, [6, 0, 2, 229], 0), (.iload_n 1, [], 0), (.iaload, [], 0), (.istore_n 2, [], 0), (.iconst 0, [], nI 0), (.istore_n 3, [], 0)] = some 44 := by decide +kernel
theorem b_Cells_relate_44 : mx_ck m_Cells_relate 44 [(.iload_n 3, [], 0), (.aload_n 0, [], 0), (.getfield 12, [2, 0, 2, 269], 0), (.getfield 149, [3, 3, 0, 173], 0)] = some 52 := by decide +kernel
theorem b_Cells_relate_55 : mx_ck m_Cells_relate 55 [(.iload_n 2, [], 0), (.iload_n 3, [], 0), (.ishr, [], 0), (.iconst 1, [], nI 1), (.iand, [], 0)] = some 60 := by decide +kernel
theorem b_Cells_relate_63 : mx_ck m_Cells_relate 63 [(.aload_n 0, [], 0), (.getfield 51, [2, 14, 36, 284], 0), (.iload_n 3, [], 0), (.dup2, [], 0), (.iaload, [], 0), (.iload_n 2, [], 0), (.iand, [], 0), (.iastore, [], 0), (.aload_n 0, [], 0), (.getfield 54, [2, 15, 37, 286], 0), (.iload_n 3, [], 0), (.dup2, [], 0), (.iaload, [], 0), (.iload_n 2, [], 0), (.ior, [], 0), (.iastore, [], 0)] = some 83 := by decide +kernel
theorem b_Cells_relate_83 : mx_ck m_Cells_relate 83 [(.iinc 3 1, [], nI 1)] = some 86 := by decide +kernel
theorem b_Cells_relate_89 : mx_ck m_Cells_relate 89 [(.iinc 1 1, [], nI 1)] = some 92 := by decide +kernel
theorem d_Cells_relate_8 : decode m_Cells_relate.2.1 8 = .ok (.invokestatic 143, 3) := by decide +kernel
theorem c_Cells_relate_8 : mx_cs m_Cells_relate m_fill 143 2 [680, 108, 81, 109] = true := by decide +kernel
theorem d_Cells_relate_16 : decode m_Cells_relate.2.1 16 = .ok (.invokestatic 143, 3) := by decide +kernel
theorem c_Cells_relate_16 : mx_cs m_Cells_relate m_fill 143 2 [680, 108, 81, 109] = true := by decide +kernel
theorem d_Cells_relate_29 : decode m_Cells_relate.2.1 29 = .ok (.if_icmp .ge 66, 3) := by decide +kernel
theorem d_Cells_relate_52 : decode m_Cells_relate.2.1 52 = .ok (.if_icmp .ge 37, 3) := by decide +kernel
theorem d_Cells_relate_60 : decode m_Cells_relate.2.1 60 = .ok (.ifCond .eq 23, 3) := by decide +kernel
theorem d_Cells_relate_86 : decode m_Cells_relate.2.1 86 = .ok (.goto (-42), 3) := by decide +kernel
theorem d_Cells_relate_92 : decode m_Cells_relate.2.1 92 = .ok (.goto (-71), 3) := by decide +kernel
theorem d_Cells_relate_95 : decode m_Cells_relate.2.1 95 = .ok (.return_, 1) := by decide +kernel
theorem b_Cells_withoutValue_0 : mx_ck m_Cells_withoutValue 0 [(.aload_n 0, [], 0), (.getfield 95, [2, 1, 0, 270], 0), (.aload_n 0, [], 0), (.getfield 104, [2, 3, 0, 272], 0), (.aload_n 0, [], 0), (.getfield 107, [2, 4, 0, 273], 0), (.ior, [], 0), (.aload_n 0, [], 0), (.getfield 110, [2, 5, 0, 274], 0), (.ior, [], 0), (.iconst (-1), [], (-1)), (.ixor, [], 0), (.iand, [], 0)] = some 21 := by decide +kernel
theorem d_Cells_withoutValue_21 : decode m_Cells_withoutValue.2.1 21 = .ok (.ireturn, 1) := by decide +kernel
theorem b_House_all_0 : mx_ck m_House_all 0 [(.iconst 1, [], nI 1), (.aload_n 0, [], 0), (.getfield 21, [3, 3, 0, 170], 0), (.ishl, [], 0), (.iconst 1, [], nI 1), (.isub, [], 0)] = some 8 := by decide +kernel
theorem d_House_all_8 : decode m_House_all.2.1 8 = .ok (.ireturn, 1) := by decide +kernel
theorem b_House_cellOf_0 : mx_ck m_House_cellOf 0 [(.iload_n 1, [], 0), (.istore_n 2, [], 0), (.iconst 0, [], nI 0), (.istore_n 3, [], 0)] = some 4 := by decide +kernel
theorem b_House_cellOf_4 : mx_ck m_House_cellOf 4 [(.iload_n 3, [], 0), (.aload_n 0, [], 0), (.getfield 21, [3, 3, 0, 170], 0)] = some 9 := by decide +kernel
theorem b_House_cellOf_12 : mx_ck m_House_cellOf 12 [(.iload_n 2, [], 0), (.aload_n 0, [], 0), (.getfield 15, [3, 1, 3, 162], 0), (.iload_n 3, [], 0), (.iaload, [], 0), (.ishr, [], 0), (.iconst 1, [], nI 1), (.iand, [], 0), (.istore 4, [], 0), (.iload_n 2, [], 0), (.aload_n 0, [], 0), (.getfield 18, [3, 2, 4, 166], 0), (.iload_n 3, [], 0), (.iaload, [], 0), (.ishr, [], 0), (.iconst 1, [], nI 1), (.iand, [], 0), (.istore 5, [], 0), (.aload_n 0, [], 0), (.getfield 9, [3, 0, 2, 158], 0), (.iload_n 3, [], 0), (.iaload, [], 0)] = some 42 := by decide +kernel
theorem b_House_cellOf_68 : mx_ck m_House_cellOf 68 [(.iload_n 2, [], 0), (.iload 4, [], 0), (.iload 5, [], 0), (.ior, [], 0), (.iload_n 3, [], 0), (.ishl, [], 0), (.ior, [], 0), (.istore_n 2, [], 0)] = some 78 := by decide +kernel
theorem b_House_cellOf_81 : mx_ck m_House_cellOf 81 [(.iload_n 2, [], 0), (.iload 4, [], 0), (.iload 5, [], 0), (.iand, [], 0), (.iload_n 3, [], 0), (.ishl, [], 0), (.ior, [], 0), (.istore_n 2, [], 0)] = some 91 := by decide +kernel
theorem b_House_cellOf_94 : mx_ck m_House_cellOf 94 [(.iload_n 2, [], 0), (.iload 4, [], 0), (.iconst 1, [], nI 1), (.iload 5, [], 0), (.ixor, [], 0), (.iand, [], 0), (.iload_n 3, [], 0), (.ishl, [], 0), (.ior, [], 0), (.istore_n 2, [], 0)] = some 106 := by decide +kernel
theorem b_House_cellOf_109 : mx_ck m_House_cellOf 109 [(.iinc 3 1, [], nI 1)] = some 112 := by decide +kernel
theorem b_House_cellOf_115 : mx_ck m_House_cellOf 115 [(.iload_n 2, [], 0)] = some 116 := by decide +kernel
theorem d_House_cellOf_9 : decode m_House_cellOf.2.1 9 = .ok (.if_icmp .ge 106, 3) := by decide +kernel
theorem d_House_cellOf_42 : decode m_House_cellOf.2.1 42 = .ok (.tableswitch 67 3 5 #[26, 39, 52], 26) := by decide +kernel
theorem d_House_cellOf_78 : decode m_House_cellOf.2.1 78 = .ok (.goto 31, 3) := by decide +kernel
theorem d_House_cellOf_91 : decode m_House_cellOf.2.1 91 = .ok (.goto 18, 3) := by decide +kernel
theorem d_House_cellOf_106 : decode m_House_cellOf.2.1 106 = .ok (.goto 3, 3) := by decide +kernel
theorem d_House_cellOf_112 : decode m_House_cellOf.2.1 112 = .ok (.goto (-108), 3) := by decide +kernel
theorem d_House_cellOf_116 : decode m_House_cellOf.2.1 116 = .ok (.ireturn, 1) := by decide +kernel
theorem b_House_cellOfConstant_0 : mx_ck m_House_cellOfConstant 0 [(.iconst 0, [], nI 0), (.istore_n 2, [], 0), (.iconst 0, [], nI 0), (.istore_n 3, [], 0)] = some 4 := by decide +kernel
theorem b_House_cellOfConstant_4 : mx_ck m_House_cellOfConstant 4 [(.iload_n 3, [], 0), (.aload_n 0, [], 0), (.getfield 21, [3, 3, 0, 170], 0)] = some 9 := by decide +kernel
theorem b_House_cellOfConstant_12 : mx_ck m_House_cellOfConstant 12 [(.aload_n 0, [], 0), (.getfield 9, [3, 0, 2, 158], 0), (.iload_n 3, [], 0), (.iaload, [], 0)] = some 18 := by decide +kernel
theorem b_House_cellOfConstant_21 : mx_ck m_House_cellOfConstant 21 [(.aload_n 0, [], 0), (.getfield 15, [3, 1, 3, 162], 0), (.iload_n 3, [], 0), (.iaload, [], 0), (.iload_n 1, [], 0)] = some 28 := by decide +kernel
theorem b_House_cellOfConstant_31 : mx_ck m_House_cellOfConstant 31 [(.iload_n 1, [], 0), (.aload_n 0, [], 0), (.getfield 18, [3, 2, 4, 166], 0), (.iload_n 3, [], 0), (.iaload, [], 0)] = some 38 := by decide +kernel
theorem b_House_cellOfConstant_41 : mx_ck m_House_cellOfConstant 41 [(.iload_n 2, [], 0), (.iconst 1, [], nI 1), (.iload_n 3, [], 0), (.ishl, [], 0), (.ior, [], 0), (.istore_n 2, [], 0)] = some 47 := by decide +kernel
theorem b_House_cellOfConstant_47 : mx_ck m_House_cellOfConstant 47 [(.iinc 3 1, [], nI 1)] = some 50 := by decide +kernel
theorem b_House_cellOfConstant_53 : mx_ck m_House_cellOfConstant 53 [(.aload_n 0, [], 0), (.iload_n 2, [], 0)] = some 55 := by decide +kernel
theorem d_House_cellOfConstant_9 : decode m_House_cellOfConstant.2.1 9 = .ok (.if_icmp .ge 44, 3) := by decide +kernel
theorem d_House_cellOfConstant_18 : decode m_House_cellOfConstant.2.1 18 = .ok (.ifCond .ne 29, 3) := by decide +kernel
theorem d_House_cellOfConstant_28 : decode m_House_cellOfConstant.2.1 28 = .ok (.if_icmp .gt 19, 3) := by decide +kernel
theorem d_House_cellOfConstant_38 : decode m_House_cellOfConstant.2.1 38 = .ok (.if_icmp .gt 9, 3) := by decide +kernel
theorem d_House_cellOfConstant_50 : decode m_House_cellOfConstant.2.1 50 = .ok (.goto (-46), 3) := by decide +kernel
theorem d_House_cellOfConstant_55 : decode m_House_cellOfConstant.2.1 55 = .ok (.invokevirtual 46, 3) := by decide +kernel
theorem c_House_cellOfConstant_55 : mx_cv m_House_cellOfConstant m_House_cellOf 46 1 [634, 635, 636, 83, 637] = true := by decide +kernel
theorem d_House_cellOfConstant_58 : decode m_House_cellOfConstant.2.1 58 = .ok (.ireturn, 1) := by decide +kernel
theorem b_House_has_0 : mx_ck m_House_has 0 [(.iload_n 1, [], 0)] = some 1 := by decide +kernel
theorem b_House_has_4 : mx_ck m_House_has 4 [(.iload_n 1, [], 0), (.aload_n 0, [], 0), (.getfield 21, [3, 3, 0, 170], 0)] = some 9 := by decide +kernel
theorem b_House_has_12 : mx_ck m_House_has 12 [(.iconst 1, [], nI 1)] = some 13 := by decide +kernel
theorem b_House_has_16 : mx_ck m_House_has 16 [(.iconst 0, [], nI 0)] = some 17 := by decide +kernel
theorem d_House_has_1 : decode m_House_has.2.1 1 = .ok (.ifCond .lt 15, 3) := by decide +kernel
theorem d_House_has_9 : decode m_House_has.2.1 9 = .ok (.if_icmp .ge 7, 3) := by decide +kernel
theorem d_House_has_13 : decode m_House_has.2.1 13 = .ok (.goto 4, 3) := by decide +kernel
theorem d_House_has_17 : decode m_House_has.2.1 17 = .ok (.ireturn, 1) := by decide +kernel
theorem b_House_init_0 : mx_ck m_House_init 0 [(.aload_n 0, [], 0)] = some 1 := by decide +kernel
theorem b_House_init_4 : mx_ck m_House_init 4 [(.aload_n 0, [], 0), (.bipush 8, [], nI 8)] = some 7 := by decide +kernel
theorem b_House_init_12 : mx_ck m_House_init 12 [(.aload_n 0, [], 0), (.bipush 8, [], nI 8)] = some 15 := by decide +kernel
theorem b_House_init_20 : mx_ck m_House_init 20 [(.aload_n 0, [], 0), (.bipush 8, [], nI 8)] = some 23 := by decide +kernel
theorem d_House_init_1 : decode m_House_init.2.1 1 = .ok (.invokespecial 3, 3) := by decide +kernel
theorem d_House_init_7 : decode m_House_init.2.1 7 = .ok (.newarray .int, 2) := by decide +kernel
theorem d_House_init_9 : decode m_House_init.2.1 9 = .ok (.putfield 9, 3) := by decide +kernel
theorem d_House_init_15 : decode m_House_init.2.1 15 = .ok (.newarray .int, 2) := by decide +kernel
theorem d_House_init_17 : decode m_House_init.2.1 17 = .ok (.putfield 15, 3) := by decide +kernel
theorem d_House_init_23 : decode m_House_init.2.1 23 = .ok (.newarray .int, 2) := by decide +kernel
theorem d_House_init_25 : decode m_House_init.2.1 25 = .ok (.putfield 18, 3) := by decide +kernel
theorem d_House_init_28 : decode m_House_init.2.1 28 = .ok (.return_, 1) := by decide +kernel
theorem b_House_isNone_0 : mx_ck m_House_isNone 0 [(.aload_n 0, [], 0), (.getfield 21, [3, 3, 0, 170], 0)] = some 4 := by decide +kernel
theorem b_House_isNone_7 : mx_ck m_House_isNone 7 [(.iconst 1, [], nI 1)] = some 8 := by decide +kernel
theorem b_House_isNone_11 : mx_ck m_House_isNone 11 [(.iconst 0, [], nI 0)] = some 12 := by decide +kernel
theorem d_House_isNone_4 : decode m_House_isNone.2.1 4 = .ok (.ifCond .ne 7, 3) := by decide +kernel
theorem d_House_isNone_8 : decode m_House_isNone.2.1 8 = .ok (.goto 4, 3) := by decide +kernel
theorem d_House_isNone_12 : decode m_House_isNone.2.1 12 = .ok (.ireturn, 1) := by decide +kernel
theorem b_House_isSet_0 : mx_ck m_House_isSet 0 [(.iload_n 1, [], 0)] = some 1 := by decide +kernel
theorem b_House_isSet_4 : mx_ck m_House_isSet 4 [(.iload_n 1, [], 0), (.aload_n 0, [], 0)] = some 6 := by decide +kernel
theorem b_House_isSet_12 : mx_ck m_House_isSet 12 [(.iconst 1, [], nI 1)] = some 13 := by decide +kernel
theorem b_House_isSet_16 : mx_ck m_House_isSet 16 [(.iconst 0, [], nI 0)] = some 17 := by decide +kernel
theorem d_House_isSet_1 : decode m_House_isSet.2.1 1 = .ok (.ifCond .lt 15, 3) := by decide +kernel
theorem d_House_isSet_6 : decode m_House_isSet.2.1 6 = .ok (.invokevirtual 25, 3) := by decide +kernel
theorem c_House_isSet_6 : mx_cv m_House_isSet m_House_all 25 0 [599, 600, 601, 83, 602] = true := by decide +kernel
theorem d_House_isSet_9 : decode m_House_isSet.2.1 9 = .ok (.if_icmp .gt 7, 3) := by decide +kernel
theorem d_House_isSet_13 : decode m_House_isSet.2.1 13 = .ok (.goto 4, 3) := by decide +kernel
theorem d_House_isSet_17 : decode m_House_isSet.2.1 17 = .ok (.ireturn, 1) := by decide +kernel
theorem b_House_mayStand_0 : mx_ck m_House_mayStand 0 [(.aload_n 0, [], 0), (.iload_n 1, [], 0)] = some 2 := by decide +kernel
theorem b_House_mayStand_8 : mx_ck m_House_mayStand 8 [(.iload_n 2, [], 0)] = some 9 := by decide +kernel
theorem b_House_mayStand_12 : mx_ck m_House_mayStand 12 [(.iload_n 2, [], 0), (.bipush 6, [], nI 6)] = some 15 := by decide +kernel
theorem b_House_mayStand_18 : mx_ck m_House_mayStand 18 [(.iload_n 3, [], 0)] = some 19 := by decide +kernel
theorem b_House_mayStand_22 : mx_ck m_House_mayStand 22 [(.iload 4, [], 0)] = some 24 := by decide +kernel
theorem b_House_mayStand_27 : mx_ck m_House_mayStand 27 [(.iconst 0, [], nI 0)] = some 28 := by decide +kernel
theorem b_House_mayStand_29 : mx_ck m_House_mayStand 29 [(.iload_n 2, [], 0)] = some 30 := by decide +kernel
theorem b_House_mayStand_33 : mx_ck m_House_mayStand 33 [(.iload_n 3, [], 0), (.iload 4, [], 0)] = some 36 := by decide +kernel
theorem b_House_mayStand_39 : mx_ck m_House_mayStand 39 [(.iload 4, [], 0), (.iconst 3, [], nI 3)] = some 42 := by decide +kernel
theorem b_House_mayStand_45 : mx_ck m_House_mayStand 45 [(.iconst 1, [], nI 1)] = some 46 := by decide +kernel
theorem b_House_mayStand_49 : mx_ck m_House_mayStand 49 [(.iconst 0, [], nI 0)] = some 50 := by decide +kernel
theorem b_House_mayStand_51 : mx_ck m_House_mayStand 51 [(.iload_n 2, [], 0), (.iconst 1, [], nI 1)] = some 53 := by decide +kernel
theorem b_House_mayStand_56 : mx_ck m_House_mayStand 56 [(.iload_n 2, [], 0), (.iconst 2, [], nI 2)] = some 58 := by decide +kernel
theorem b_House_mayStand_61 : mx_ck m_House_mayStand 61 [(.aload_n 0, [], 0), (.getfield 21, [3, 3, 0, 170], 0), (.iconst 1, [], nI 1), (.isub, [], 0)] = some 67 := by decide +kernel
theorem b_House_mayStand_70 : mx_ck m_House_mayStand 70 [(.iload_n 1, [], 0), (.iconst 1, [], nI 1), (.isub, [], 0)] = some 73 := by decide +kernel
theorem b_House_mayStand_73 : mx_ck m_House_mayStand 73 [(.istore 5, [], 0), (.iload_n 3, [], 0), (.iload 5, [], 0)] = some 78 := by decide +kernel
theorem b_House_mayStand_81 : mx_ck m_House_mayStand 81 [(.iload 4, [], 0), (.iload 5, [], 0)] = some 85 := by decide +kernel
theorem b_House_mayStand_88 : mx_ck m_House_mayStand 88 [(.iconst 1, [], nI 1)] = some 89 := by decide +kernel
theorem b_House_mayStand_92 : mx_ck m_House_mayStand 92 [(.iconst 0, [], nI 0)] = some 93 := by decide +kernel
theorem d_House_mayStand_2 : decode m_House_mayStand.2.1 2 = .ok (.invokevirtual 38, 3) := by decide +kernel
theorem c_House_mayStand_2 : mx_cv m_House_mayStand m_House_has 38 1 [521, 522, 523, 83, 524] = true := by decide +kernel
theorem d_House_mayStand_5 : decode m_House_mayStand.2.1 5 = .ok (.ifCond .eq 22, 3) := by decide +kernel
theorem d_House_mayStand_9 : decode m_House_mayStand.2.1 9 = .ok (.ifCond .lt 18, 3) := by decide +kernel
theorem d_House_mayStand_15 : decode m_House_mayStand.2.1 15 = .ok (.if_icmp .ge 12, 3) := by decide +kernel
theorem d_House_mayStand_19 : decode m_House_mayStand.2.1 19 = .ok (.ifCond .lt 8, 3) := by decide +kernel
theorem d_House_mayStand_24 : decode m_House_mayStand.2.1 24 = .ok (.ifCond .ge 5, 3) := by decide +kernel
theorem d_House_mayStand_28 : decode m_House_mayStand.2.1 28 = .ok (.ireturn, 1) := by decide +kernel
theorem d_House_mayStand_30 : decode m_House_mayStand.2.1 30 = .ok (.ifCond .ne 21, 3) := by decide +kernel
theorem d_House_mayStand_36 : decode m_House_mayStand.2.1 36 = .ok (.if_icmp .gt 13, 3) := by decide +kernel
theorem d_House_mayStand_42 : decode m_House_mayStand.2.1 42 = .ok (.if_icmp .gt 7, 3) := by decide +kernel
theorem d_House_mayStand_46 : decode m_House_mayStand.2.1 46 = .ok (.goto 4, 3) := by decide +kernel
theorem d_House_mayStand_50 : decode m_House_mayStand.2.1 50 = .ok (.ireturn, 1) := by decide +kernel
theorem d_House_mayStand_53 : decode m_House_mayStand.2.1 53 = .ok (.if_icmp .eq 8, 3) := by decide +kernel
theorem d_House_mayStand_58 : decode m_House_mayStand.2.1 58 = .ok (.if_icmp .ne 12, 3) := by decide +kernel
theorem d_House_mayStand_67 : decode m_House_mayStand.2.1 67 = .ok (.goto 6, 3) := by decide +kernel
theorem d_House_mayStand_78 : decode m_House_mayStand.2.1 78 = .ok (.if_icmp .gt 14, 3) := by decide +kernel
theorem d_House_mayStand_85 : decode m_House_mayStand.2.1 85 = .ok (.if_icmp .gt 7, 3) := by decide +kernel
theorem d_House_mayStand_89 : decode m_House_mayStand.2.1 89 = .ok (.goto 4, 3) := by decide +kernel
theorem d_House_mayStand_93 : decode m_House_mayStand.2.1 93 = .ok (.ireturn, 1) := by decide +kernel
theorem b_House_namesOnlyItsOwn_0 : mx_ck m_House_namesOnlyItsOwn 0 [(.iconst 0, [], nI 0), (.istore_n 1, [], 0)] = some 2 := by decide +kernel
theorem b_House_namesOnlyItsOwn_2 : mx_ck m_House_namesOnlyItsOwn 2 [(.iload_n 1, [], 0), (.aload_n 0, [], 0), (.getfield 21, [3, 3, 0, 170], 0)] = some 7 := by decide +kernel
theorem b_House_namesOnlyItsOwn_10 : mx_ck m_House_namesOnlyItsOwn 10 [(.aload_n 0, [], 0), (.iload_n 1, [], 0), (.aload_n 0, [], 0), (.getfield 9, [3, 0, 2, 158], 0), (.iload_n 1, [], 0), (.iaload, [], 0), (.aload_n 0, [], 0), (.getfield 15, [3, 1, 3, 162], 0), (.iload_n 1, [], 0), (.iaload, [], 0), (.aload_n 0, [], 0), (.getfield 18, [3, 2, 4, 166], 0), (.iload_n 1, [], 0), (.iaload, [], 0)] = some 30 := by decide +kernel
theorem b_House_namesOnlyItsOwn_36 : mx_ck m_House_namesOnlyItsOwn 36 [(.iconst 0, [], nI 0)] = some 37 := by decide +kernel
theorem b_House_namesOnlyItsOwn_38 : mx_ck m_House_namesOnlyItsOwn 38 [(.iinc 1 1, [], nI 1)] = some 41 := by decide +kernel
theorem b_House_namesOnlyItsOwn_44 : mx_ck m_House_namesOnlyItsOwn 44 [(.iconst 1, [], nI 1)] = some 45 := by decide +kernel
theorem d_House_namesOnlyItsOwn_7 : decode m_House_namesOnlyItsOwn.2.1 7 = .ok (.if_icmp .ge 37, 3) := by decide +kernel
theorem d_House_namesOnlyItsOwn_30 : decode m_House_namesOnlyItsOwn.2.1 30 = .ok (.invokevirtual 42, 3) := by decide +kernel
theorem c_House_namesOnlyItsOwn_30 : mx_cv m_House_namesOnlyItsOwn m_House_mayStand 42 4 [517, 518, 519, 83, 520] = true := by decide +kernel
theorem d_House_namesOnlyItsOwn_33 : decode m_House_namesOnlyItsOwn.2.1 33 = .ok (.ifCond .ne 5, 3) := by decide +kernel
theorem d_House_namesOnlyItsOwn_37 : decode m_House_namesOnlyItsOwn.2.1 37 = .ok (.ireturn, 1) := by decide +kernel
theorem d_House_namesOnlyItsOwn_41 : decode m_House_namesOnlyItsOwn.2.1 41 = .ok (.goto (-39), 3) := by decide +kernel
theorem d_House_namesOnlyItsOwn_45 : decode m_House_namesOnlyItsOwn.2.1 45 = .ok (.ireturn, 1) := by decide +kernel
theorem b_House_ofSort_0 : mx_ck m_House_ofSort 0 [(.iconst 0, [], nI 0), (.istore_n 2, [], 0), (.iconst 0, [], nI 0), (.istore_n 3, [], 0)] = some 4 := by decide +kernel
theorem b_House_ofSort_4 : mx_ck m_House_ofSort 4 [(.iload_n 3, [], 0), (.aload_n 0, [], 0), (.getfield 21, [3, 3, 0, 170], 0)] = some 9 := by decide +kernel
theorem b_House_ofSort_12 : mx_ck m_House_ofSort 12 [(.iload_n 2, [], 0), (.aload_n 0, [], 0), (.getfield 9, [3, 0, 2, 158], 0), (.iload_n 3, [], 0), (.iaload, [], 0), (.iload_n 1, [], 0)] = some 20 := by decide +kernel
theorem b_House_ofSort_23 : mx_ck m_House_ofSort 23 [(.iconst 1, [], nI 1), (.iload_n 3, [], 0), (.ishl, [], 0)] = some 26 := by decide +kernel
theorem b_House_ofSort_29 : mx_ck m_House_ofSort 29 [(.iconst 0, [], nI 0)] = some 30 := by decide +kernel
theorem b_House_ofSort_30 : mx_ck m_House_ofSort 30 [(.ior, [], 0), (.istore_n 2, [], 0), (.iinc 3 1, [], nI 1)] = some 35 := by decide +kernel
theorem b_House_ofSort_38 : mx_ck m_House_ofSort 38 [(.iload_n 2, [], 0)] = some 39 := by decide +kernel
theorem d_House_ofSort_9 : decode m_House_ofSort.2.1 9 = .ok (.if_icmp .ge 29, 3) := by decide +kernel
theorem d_House_ofSort_20 : decode m_House_ofSort.2.1 20 = .ok (.if_icmp .ne 9, 3) := by decide +kernel
theorem d_House_ofSort_26 : decode m_House_ofSort.2.1 26 = .ok (.goto 4, 3) := by decide +kernel
theorem d_House_ofSort_35 : decode m_House_ofSort.2.1 35 = .ok (.goto (-31), 3) := by decide +kernel
theorem d_House_ofSort_39 : decode m_House_ofSort.2.1 39 = .ok (.ireturn, 1) := by decide +kernel
theorem b_House_takeFrom_0 : mx_ck m_House_takeFrom 0 [(.aload_n 1, [], 0), (.getfield 9, [3, 0, 2, 158], 0), (.iconst 0, [], nI 0), (.aload_n 0, [], 0), (.getfield 9, [3, 0, 2, 158], 0), (.iconst 0, [], nI 0), (.bipush 8, [], nI 8)] = some 12 := by decide +kernel
theorem b_House_takeFrom_15 : mx_ck m_House_takeFrom 15 [(.aload_n 1, [], 0), (.getfield 15, [3, 1, 3, 162], 0), (.iconst 0, [], nI 0), (.aload_n 0, [], 0), (.getfield 15, [3, 1, 3, 162], 0), (.iconst 0, [], nI 0), (.bipush 8, [], nI 8)] = some 27 := by decide +kernel
theorem b_House_takeFrom_30 : mx_ck m_House_takeFrom 30 [(.aload_n 1, [], 0), (.getfield 18, [3, 2, 4, 166], 0), (.iconst 0, [], nI 0), (.aload_n 0, [], 0), (.getfield 18, [3, 2, 4, 166], 0), (.iconst 0, [], nI 0), (.bipush 8, [], nI 8)] = some 42 := by decide +kernel
theorem b_House_takeFrom_45 : mx_ck m_House_takeFrom 45 [(.aload_n 0, [], 0), (.aload_n 1, [], 0), (.getfield 21, [3, 3, 0, 170], 0), (.putfield 21, [3, 3, 0, 170], 0), (.aload_n 0, [], 0), (.aload_n 1, [], 0), (.getfield 35, [3, 4, 0, 177], 0), (.putfield 35, [3, 4, 0, 177], 0)] = some 61 := by decide +kernel
theorem d_House_takeFrom_12 : decode m_House_takeFrom.2.1 12 = .ok (.invokestatic 29, 3) := by decide +kernel
theorem c_House_takeFrom_12 : mx_ca m_House_takeFrom 29 [548, 464, 463, 91] = true := by decide +kernel
theorem d_House_takeFrom_27 : decode m_House_takeFrom.2.1 27 = .ok (.invokestatic 29, 3) := by decide +kernel
theorem c_House_takeFrom_27 : mx_ca m_House_takeFrom 29 [548, 464, 463, 91] = true := by decide +kernel
theorem d_House_takeFrom_42 : decode m_House_takeFrom.2.1 42 = .ok (.invokestatic 29, 3) := by decide +kernel
theorem c_House_takeFrom_42 : mx_ca m_House_takeFrom 29 [548, 464, 463, 91] = true := by decide +kernel
theorem d_House_takeFrom_61 : decode m_House_takeFrom.2.1 61 = .ok (.return_, 1) := by decide +kernel
theorem b_House_tell_0 : mx_ck m_House_tell 0 [(.aload_n 0, [], 0), (.getfield 9, [3, 0, 2, 158], 0), (.iload_n 1, [], 0), (.iload_n 2, [], 0), (.iastore, [], 0), (.aload_n 0, [], 0), (.getfield 15, [3, 1, 3, 162], 0), (.iload_n 1, [], 0), (.iload_n 3, [], 0), (.iastore, [], 0), (.aload_n 0, [], 0), (.getfield 18, [3, 2, 4, 166], 0), (.iload_n 1, [], 0), (.iload 4, [], 0), (.iastore, [], 0)] = some 22 := by decide +kernel
theorem d_House_tell_22 : decode m_House_tell.2.1 22 = .ok (.return_, 1) := by decide +kernel
theorem b_House_withFirstIn_0 : mx_ck m_House_withFirstIn 0 [(.iconst 0, [], nI 0), (.istore_n 3, [], 0), (.iconst 0, [], nI 0), (.istore 4, [], 0)] = some 5 := by decide +kernel
theorem b_House_withFirstIn_5 : mx_ck m_House_withFirstIn 5 [(.iload 4, [], 0), (.aload_n 0, [], 0), (.getfield 21, [3, 3, 0, 170], 0)] = some 11 := by decide +kernel
theorem b_House_withFirstIn_14 : mx_ck m_House_withFirstIn 14 [(.iload_n 3, [], 0), (.aload_n 0, [], 0), (.getfield 9, [3, 0, 2, 158], 0), (.iload 4, [], 0), (.iaload, [], 0), (.iload_n 1, [], 0)] = some 23 := by decide +kernel
theorem b_House_withFirstIn_26 : mx_ck m_House_withFirstIn 26 [(.iload_n 2, [], 0), (.aload_n 0, [], 0), (.getfield 15, [3, 1, 3, 162], 0), (.iload 4, [], 0), (.iaload, [], 0), (.ishr, [], 0), (.iconst 1, [], nI 1), (.iand, [], 0), (.iload 4, [], 0), (.ishl, [], 0)] = some 40 := by decide +kernel
theorem b_House_withFirstIn_43 : mx_ck m_House_withFirstIn 43 [(.iconst 0, [], nI 0)] = some 44 := by decide +kernel
theorem b_House_withFirstIn_44 : mx_ck m_House_withFirstIn 44 [(.ior, [], 0), (.istore_n 3, [], 0), (.iinc 4 1, [], nI 1)] = some 49 := by decide +kernel
theorem b_House_withFirstIn_52 : mx_ck m_House_withFirstIn 52 [(.iload_n 3, [], 0)] = some 53 := by decide +kernel
theorem d_House_withFirstIn_11 : decode m_House_withFirstIn.2.1 11 = .ok (.if_icmp .ge 41, 3) := by decide +kernel
theorem d_House_withFirstIn_23 : decode m_House_withFirstIn.2.1 23 = .ok (.if_icmp .ne 20, 3) := by decide +kernel
theorem d_House_withFirstIn_40 : decode m_House_withFirstIn.2.1 40 = .ok (.goto 4, 3) := by decide +kernel
theorem d_House_withFirstIn_49 : decode m_House_withFirstIn.2.1 49 = .ok (.goto (-44), 3) := by decide +kernel
theorem d_House_withFirstIn_53 : decode m_House_withFirstIn.2.1 53 = .ok (.ireturn, 1) := by decide +kernel
theorem b_House_withSecondIn_0 : mx_ck m_House_withSecondIn 0 [(.iconst 0, [], nI 0), (.istore_n 3, [], 0), (.iconst 0, [], nI 0), (.istore 4, [], 0)] = some 5 := by decide +kernel
theorem b_House_withSecondIn_5 : mx_ck m_House_withSecondIn 5 [(.iload 4, [], 0), (.aload_n 0, [], 0), (.getfield 21, [3, 3, 0, 170], 0)] = some 11 := by decide +kernel
theorem b_House_withSecondIn_14 : mx_ck m_House_withSecondIn 14 [(.iload_n 3, [], 0), (.aload_n 0, [], 0), (.getfield 9, [3, 0, 2, 158], 0), (.iload 4, [], 0), (.iaload, [], 0), (.iload_n 1, [], 0)] = some 23 := by decide +kernel
theorem b_House_withSecondIn_26 : mx_ck m_House_withSecondIn 26 [(.iload_n 2, [], 0), (.aload_n 0, [], 0), (.getfield 18, [3, 2, 4, 166], 0), (.iload 4, [], 0), (.iaload, [], 0), (.ishr, [], 0), (.iconst 1, [], nI 1), (.iand, [], 0), (.iload 4, [], 0), (.ishl, [], 0)] = some 40 := by decide +kernel
theorem b_House_withSecondIn_43 : mx_ck m_House_withSecondIn 43 [(.iconst 0, [], nI 0)] = some 44 := by decide +kernel
theorem b_House_withSecondIn_44 : mx_ck m_House_withSecondIn 44 [(.ior, [], 0), (.istore_n 3, [], 0), (.iinc 4 1, [], nI 1)] = some 49 := by decide +kernel
theorem b_House_withSecondIn_52 : mx_ck m_House_withSecondIn 52 [(.iload_n 3, [], 0)] = some 53 := by decide +kernel
theorem d_House_withSecondIn_11 : decode m_House_withSecondIn.2.1 11 = .ok (.if_icmp .ge 41, 3) := by decide +kernel
theorem d_House_withSecondIn_23 : decode m_House_withSecondIn.2.1 23 = .ok (.if_icmp .ne 20, 3) := by decide +kernel
theorem d_House_withSecondIn_40 : decode m_House_withSecondIn.2.1 40 = .ok (.goto 4, 3) := by decide +kernel
theorem d_House_withSecondIn_49 : decode m_House_withSecondIn.2.1 49 = .ok (.goto (-44), 3) := by decide +kernel
theorem d_House_withSecondIn_53 : decode m_House_withSecondIn.2.1 53 = .ok (.ireturn, 1) := by decide +kernel
theorem b_Plain_howMany_0 : mx_ck m_Plain_howMany 0 [(.aload_n 0, [], 0), (.getfield 9, [4, 0, 2, 329], 0), (.iload_n 2, [], 0), (.iconst 1, [], nI 1), (.isub, [], 0), (.bipush 8, [], nI 8), (.imul, [], 0), (.iload_n 1, [], 0), (.iadd, [], 0), (.iaload, [], 0)] = some 13 := by decide +kernel
theorem d_Plain_howMany_13 : decode m_Plain_howMany.2.1 13 = .ok (.ireturn, 1) := by decide +kernel
theorem b_Plain_init_0 : mx_ck m_Plain_init 0 [(.aload_n 0, [], 0)] = some 1 := by decide +kernel
theorem b_Plain_init_4 : mx_ck m_Plain_init 4 [(.aload_n 0, [], 0), (.bipush 32, [], nI 32)] = some 7 := by decide +kernel
theorem b_Plain_init_12 : mx_ck m_Plain_init 12 [(.aload_n 0, [], 0), (.iconst 4, [], nI 4)] = some 14 := by decide +kernel
theorem b_Plain_init_19 : mx_ck m_Plain_init 19 [(.aload_n 0, [], 0)] = some 20 := by decide +kernel
theorem b_Plain_init_23 : mx_ck m_Plain_init 23 [(.dup, [], 0)] = some 24 := by decide +kernel
theorem b_Plain_init_30 : mx_ck m_Plain_init 30 [(.aload_n 0, [], 0)] = some 31 := by decide +kernel
theorem b_Plain_init_34 : mx_ck m_Plain_init 34 [(.dup, [], 0)] = some 35 := by decide +kernel
theorem b_Plain_init_41 : mx_ck m_Plain_init 41 [(.aload_n 0, [], 0)] = some 42 := by decide +kernel
theorem b_Plain_init_45 : mx_ck m_Plain_init 45 [(.dup, [], 0)] = some 46 := by decide +kernel
theorem b_Plain_init_52 : mx_ck m_Plain_init 52 [(.aload_n 0, [], 0)] = some 53 := by decide +kernel
theorem b_Plain_init_56 : mx_ck m_Plain_init 56 [(.dup, [], 0)] = some 57 := by decide +kernel
theorem d_Plain_init_1 : decode m_Plain_init.2.1 1 = .ok (.invokespecial 3, 3) := by decide +kernel
theorem d_Plain_init_7 : decode m_Plain_init.2.1 7 = .ok (.newarray .int, 2) := by decide +kernel
theorem d_Plain_init_9 : decode m_Plain_init.2.1 9 = .ok (.putfield 9, 3) := by decide +kernel
theorem d_Plain_init_14 : decode m_Plain_init.2.1 14 = .ok (.newarray .int, 2) := by decide +kernel
theorem d_Plain_init_16 : decode m_Plain_init.2.1 16 = .ok (.putfield 15, 3) := by decide +kernel
theorem d_Plain_init_20 : decode m_Plain_init.2.1 20 = .ok (.new 18, 3) := by decide +kernel
theorem d_Plain_init_24 : decode m_Plain_init.2.1 24 = .ok (.invokespecial 20, 3) := by decide +kernel
theorem d_Plain_init_27 : decode m_Plain_init.2.1 27 = .ok (.putfield 21, 3) := by decide +kernel
theorem d_Plain_init_31 : decode m_Plain_init.2.1 31 = .ok (.new 18, 3) := by decide +kernel
theorem d_Plain_init_35 : decode m_Plain_init.2.1 35 = .ok (.invokespecial 20, 3) := by decide +kernel
theorem d_Plain_init_38 : decode m_Plain_init.2.1 38 = .ok (.putfield 25, 3) := by decide +kernel
theorem d_Plain_init_42 : decode m_Plain_init.2.1 42 = .ok (.new 18, 3) := by decide +kernel
theorem d_Plain_init_46 : decode m_Plain_init.2.1 46 = .ok (.invokespecial 20, 3) := by decide +kernel
theorem d_Plain_init_49 : decode m_Plain_init.2.1 49 = .ok (.putfield 28, 3) := by decide +kernel
theorem d_Plain_init_53 : decode m_Plain_init.2.1 53 = .ok (.new 18, 3) := by decide +kernel
theorem d_Plain_init_57 : decode m_Plain_init.2.1 57 = .ok (.invokespecial 20, 3) := by decide +kernel
theorem d_Plain_init_60 : decode m_Plain_init.2.1 60 = .ok (.putfield 31, 3) := by decide +kernel
theorem d_Plain_init_63 : decode m_Plain_init.2.1 63 = .ok (.return_, 1) := by decide +kernel
theorem b_Plain_measure_0 : mx_ck m_Plain_measure 0 [(.aload_n 0, [], 0), (.getfield 9, [4, 0, 2, 329], 0), (.iconst 0, [], nI 0)] = some 5 := by decide +kernel
theorem b_Plain_measure_8 : mx_ck m_Plain_measure 8 [(.aload_n 0, [], 0), (.getfield 15, [4, 1, 3, 330], 0), (.iconst 0, [], nI 0)] = some 13 := by decide +kernel
theorem b_Plain_measure_16 : mx_ck m_Plain_measure 16 [(.aload_n 0, [], 0), (.getfield 21, [4, 2, 4, 331], 0)] = some 20 := by decide +kernel
theorem b_Plain_measure_23 : mx_ck m_Plain_measure 23 [(.iconst 0, [], nI 0), (.istore_n 2, [], 0)] = some 25 := by decide +kernel
theorem b_Plain_measure_25 : mx_ck m_Plain_measure 25 [(.iload_n 2, [], 0), (.iconst 4, [], nI 4)] = some 27 := by decide +kernel
theorem b_Plain_measure_30 : mx_ck m_Plain_measure 30 [(.aload_n 0, [], 0), (.aload_n 1, [], 0)] = some 32 := by decide +kernel
theorem b_Plain_measure_35 : mx_ck m_Plain_measure 35 [(.aload_n 0, [], 0), (.getfield 21, [4, 2, 4, 331], 0)] = some 39 := by decide +kernel
theorem b_Plain_measure_42 : mx_ck m_Plain_measure 42 [(.iconst 0, [], nI 0), (.istore_n 3, [], 0)] = some 44 := by decide +kernel
theorem b_Plain_measure_44 : mx_ck m_Plain_measure 44 [(.iload_n 3, [], 0), (.aload_n 1, [], 0), (.getfield 47, [3, 4, 0, 174], 0)] = some 49 := by decide +kernel
theorem b_Plain_measure_52 : mx_ck m_Plain_measure 52 [(.aload_n 0, [], 0), (.getfield 21, [4, 2, 4, 331], 0), (.aload_n 1, [], 0), (.iload_n 3, [], 0)] = some 58 := by decide +kernel
theorem b_Plain_measure_61 : mx_ck m_Plain_measure 61 [(.iconst 1, [], nI 1)] = some 62 := by decide +kernel
theorem b_Plain_measure_65 : mx_ck m_Plain_measure 65 [(.iinc 3 1, [], nI 1)] = some 68 := by decide +kernel
theorem b_Plain_measure_71 : mx_ck m_Plain_measure 71 [(.iconst 0, [], nI 0), (.istore_n 3, [], 0)] = some 73 := by decide +kernel
theorem b_Plain_measure_73 : mx_ck m_Plain_measure 73 [(.iload_n 3, [], 0), (.aload_n 0, [], 0), (.getfield 31, [4, 5, 13, 334], 0), (.getfield 61, [6, 2, 0, 235], 0)] = some 81 := by decide +kernel
theorem b_Plain_measure_84 : mx_ck m_Plain_measure 84 [(.aload_n 0, [], 0), (.getfield 31, [4, 5, 13, 334], 0), (.getfield 64, [6, 0, 2, 228], 0), (.iload_n 3, [], 0), (.iaload, [], 0), (.istore 4, [], 0), (.aload_n 0, [], 0), (.getfield 21, [4, 2, 4, 331], 0), (.aload_n 1, [], 0), (.iload 4, [], 0)] = some 102 := by decide +kernel
theorem b_Plain_measure_105 : mx_ck m_Plain_measure 105 [(.aload_n 0, [], 0), (.getfield 31, [4, 5, 13, 334], 0), (.getfield 70, [6, 1, 3, 231], 0), (.iload 4, [], 0), (.iaload, [], 0)] = some 115 := by decide +kernel
theorem b_Plain_measure_118 : mx_ck m_Plain_measure 118 [(.iinc 3 1, [], nI 1)] = some 121 := by decide +kernel
theorem b_Plain_measure_124 : mx_ck m_Plain_measure 124 [(.aload_n 0, [], 0), (.iload_n 2, [], 0)] = some 126 := by decide +kernel
theorem b_Plain_measure_129 : mx_ck m_Plain_measure 129 [(.iinc 2 1, [], nI 1)] = some 132 := by decide +kernel
theorem d_Plain_measure_5 : decode m_Plain_measure.2.1 5 = .ok (.invokestatic 34, 3) := by decide +kernel
theorem c_Plain_measure_5 : mx_cs m_Plain_measure m_fill 34 2 [763, 108, 81, 109] = true := by decide +kernel
theorem d_Plain_measure_13 : decode m_Plain_measure.2.1 13 = .ok (.invokestatic 34, 3) := by decide +kernel
theorem c_Plain_measure_13 : mx_cs m_Plain_measure m_fill 34 2 [763, 108, 81, 109] = true := by decide +kernel
theorem d_Plain_measure_20 : decode m_Plain_measure.2.1 20 = .ok (.invokevirtual 40, 3) := by decide +kernel
theorem c_Plain_measure_20 : mx_cv m_Plain_measure m_Sets_clear 40 0 [764, 622, 623, 86, 624] = true := by decide +kernel
theorem d_Plain_measure_27 : decode m_Plain_measure.2.1 27 = .ok (.if_icmp .ge 108, 3) := by decide +kernel
theorem d_Plain_measure_32 : decode m_Plain_measure.2.1 32 = .ok (.invokevirtual 43, 3) := by decide +kernel
theorem c_Plain_measure_32 : mx_cv m_Plain_measure m_Plain_pairUp 43 1 [765, 767, 22, 88, 768] = true := by decide +kernel
theorem d_Plain_measure_39 : decode m_Plain_measure.2.1 39 = .ok (.invokevirtual 40, 3) := by decide +kernel
theorem c_Plain_measure_39 : mx_cv m_Plain_measure m_Sets_clear 40 0 [764, 622, 623, 86, 624] = true := by decide +kernel
theorem d_Plain_measure_49 : decode m_Plain_measure.2.1 49 = .ok (.if_icmp .ge 22, 3) := by decide +kernel
theorem d_Plain_measure_58 : decode m_Plain_measure.2.1 58 = .ok (.invokevirtual 53, 3) := by decide +kernel
theorem c_Plain_measure_58 : mx_cv m_Plain_measure m_House_cellOfConstant 53 1 [776, 631, 632, 83, 633] = true := by decide +kernel
theorem d_Plain_measure_62 : decode m_Plain_measure.2.1 62 = .ok (.invokevirtual 57, 3) := by decide +kernel
theorem c_Plain_measure_62 : mx_cv m_Plain_measure m_Sets_raise 57 2 [770, 771, 772, 86, 773] = true := by decide +kernel
theorem d_Plain_measure_68 : decode m_Plain_measure.2.1 68 = .ok (.goto (-24), 3) := by decide +kernel
theorem d_Plain_measure_81 : decode m_Plain_measure.2.1 81 = .ok (.if_icmp .ge 43, 3) := by decide +kernel
theorem d_Plain_measure_102 : decode m_Plain_measure.2.1 102 = .ok (.invokevirtual 67, 3) := by decide +kernel
theorem c_Plain_measure_102 : mx_cv m_Plain_measure m_House_cellOf 67 1 [777, 635, 636, 83, 637] = true := by decide +kernel
theorem d_Plain_measure_115 : decode m_Plain_measure.2.1 115 = .ok (.invokevirtual 57, 3) := by decide +kernel
theorem c_Plain_measure_115 : mx_cv m_Plain_measure m_Sets_raise 57 2 [770, 771, 772, 86, 773] = true := by decide +kernel
theorem d_Plain_measure_121 : decode m_Plain_measure.2.1 121 = .ok (.goto (-48), 3) := by decide +kernel
theorem d_Plain_measure_126 : decode m_Plain_measure.2.1 126 = .ok (.invokevirtual 73, 3) := by decide +kernel
theorem c_Plain_measure_126 : mx_cv m_Plain_measure m_Plain_sumUp 73 1 [778, 780, 23, 88, 781] = true := by decide +kernel
theorem d_Plain_measure_132 : decode m_Plain_measure.2.1 132 = .ok (.goto (-107), 3) := by decide +kernel
theorem d_Plain_measure_135 : decode m_Plain_measure.2.1 135 = .ok (.return_, 1) := by decide +kernel
theorem b_Plain_ofAny_0 : mx_ck m_Plain_ofAny 0 [(.aload_n 0, [], 0), (.getfield 15, [4, 1, 3, 330], 0), (.iload_n 1, [], 0), (.iconst 1, [], nI 1), (.isub, [], 0), (.iaload, [], 0)] = some 8 := by decide +kernel
theorem d_Plain_ofAny_8 : decode m_Plain_ofAny.2.1 8 = .ok (.ireturn, 1) := by decide +kernel
theorem b_Plain_pairUp_0 : mx_ck m_Plain_pairUp 0 [(.aload_n 0, [], 0), (.getfield 25, [4, 3, 7, 332], 0)] = some 4 := by decide +kernel
theorem b_Plain_pairUp_7 : mx_ck m_Plain_pairUp 7 [(.aload_n 0, [], 0), (.getfield 28, [4, 4, 10, 333], 0)] = some 11 := by decide +kernel
theorem b_Plain_pairUp_14 : mx_ck m_Plain_pairUp 14 [(.aload_n 0, [], 0), (.getfield 31, [4, 5, 13, 334], 0)] = some 18 := by decide +kernel
theorem b_Plain_pairUp_21 : mx_ck m_Plain_pairUp 21 [(.iconst 0, [], nI 0), (.istore_n 2, [], 0)] = some 23 := by decide +kernel
theorem b_Plain_pairUp_23 : mx_ck m_Plain_pairUp 23 [(.iload_n 2, [], 0), (.aload_n 0, [], 0), (.getfield 21, [4, 2, 4, 331], 0), (.getfield 61, [6, 2, 0, 235], 0)] = some 31 := by decide +kernel
theorem b_Plain_pairUp_34 : mx_ck m_Plain_pairUp 34 [(.aload_n 0, [], 0), (.getfield 21, [4, 2, 4, 331], 0), (.getfield 64, [6, 0, 2, 228], 0), (.iload_n 2, [], 0), (.iaload, [], 0), (.istore_n 3, [], 0), (.aload_n 0, [], 0), (.getfield 25, [4, 3, 7, 332], 0), (.aload_n 1, [], 0), (.iconst 1, [], nI 1), (.iload_n 3, [], 0)] = some 51 := by decide +kernel
theorem b_Plain_pairUp_54 : mx_ck m_Plain_pairUp 54 [(.aload_n 0, [], 0), (.getfield 21, [4, 2, 4, 331], 0), (.getfield 70, [6, 1, 3, 231], 0), (.iload_n 3, [], 0), (.iaload, [], 0)] = some 63 := by decide +kernel
theorem b_Plain_pairUp_66 : mx_ck m_Plain_pairUp 66 [(.aload_n 0, [], 0), (.getfield 28, [4, 4, 10, 333], 0), (.aload_n 1, [], 0), (.iconst 1, [], nI 1), (.iload_n 3, [], 0)] = some 73 := by decide +kernel
theorem b_Plain_pairUp_76 : mx_ck m_Plain_pairUp 76 [(.aload_n 0, [], 0), (.getfield 21, [4, 2, 4, 331], 0), (.getfield 70, [6, 1, 3, 231], 0), (.iload_n 3, [], 0), (.iaload, [], 0)] = some 85 := by decide +kernel
theorem b_Plain_pairUp_88 : mx_ck m_Plain_pairUp 88 [(.iinc 2 1, [], nI 1)] = some 91 := by decide +kernel
theorem b_Plain_pairUp_94 : mx_ck m_Plain_pairUp 94 [(.iconst 0, [], nI 0), (.istore_n 2, [], 0)] = some 96 := by decide +kernel
theorem b_Plain_pairUp_96 : mx_ck m_Plain_pairUp 96 [(.iload_n 2, [], 0), (.aload_n 0, [], 0), (.getfield 25, [4, 3, 7, 332], 0), (.getfield 61, [6, 2, 0, 235], 0)] = some 104 := by decide +kernel
theorem b_Plain_pairUp_107 : mx_ck m_Plain_pairUp 107 [(.aload_n 0, [], 0), (.getfield 25, [4, 3, 7, 332], 0), (.getfield 64, [6, 0, 2, 228], 0), (.iload_n 2, [], 0), (.iaload, [], 0), (.istore_n 3, [], 0), (.iconst 0, [], nI 0), (.istore 4, [], 0)] = some 120 := by decide +kernel
theorem b_Plain_pairUp_120 : mx_ck m_Plain_pairUp 120 [(.iload 4, [], 0), (.aload_n 0, [], 0), (.getfield 28, [4, 4, 10, 333], 0), (.getfield 61, [6, 2, 0, 235], 0)] = some 129 := by decide +kernel
theorem b_Plain_pairUp_132 : mx_ck m_Plain_pairUp 132 [(.aload_n 0, [], 0), (.getfield 28, [4, 4, 10, 333], 0), (.getfield 64, [6, 0, 2, 228], 0), (.iload 4, [], 0), (.iaload, [], 0), (.istore 5, [], 0), (.aload_n 0, [], 0), (.getfield 31, [4, 5, 13, 334], 0), (.iload_n 3, [], 0), (.iload 5, [], 0), (.iand, [], 0), (.aload_n 0, [], 0), (.getfield 25, [4, 3, 7, 332], 0), (.getfield 70, [6, 1, 3, 231], 0), (.iload_n 3, [], 0), (.iaload, [], 0), (.aload_n 0, [], 0), (.getfield 28, [4, 4, 10, 333], 0), (.getfield 70, [6, 1, 3, 231], 0), (.iload 5, [], 0), (.iaload, [], 0), (.imul, [], 0)] = some 172 := by decide +kernel
theorem b_Plain_pairUp_175 : mx_ck m_Plain_pairUp 175 [(.iinc 4 1, [], nI 1)] = some 178 := by decide +kernel
theorem b_Plain_pairUp_181 : mx_ck m_Plain_pairUp 181 [(.iinc 2 1, [], nI 1)] = some 184 := by decide +kernel
theorem d_Plain_pairUp_4 : decode m_Plain_pairUp.2.1 4 = .ok (.invokevirtual 40, 3) := by decide +kernel
theorem c_Plain_pairUp_4 : mx_cv m_Plain_pairUp m_Sets_clear 40 0 [764, 622, 623, 86, 624] = true := by decide +kernel
theorem d_Plain_pairUp_11 : decode m_Plain_pairUp.2.1 11 = .ok (.invokevirtual 40, 3) := by decide +kernel
theorem c_Plain_pairUp_11 : mx_cv m_Plain_pairUp m_Sets_clear 40 0 [764, 622, 623, 86, 624] = true := by decide +kernel
theorem d_Plain_pairUp_18 : decode m_Plain_pairUp.2.1 18 = .ok (.invokevirtual 40, 3) := by decide +kernel
theorem c_Plain_pairUp_18 : mx_cv m_Plain_pairUp m_Sets_clear 40 0 [764, 622, 623, 86, 624] = true := by decide +kernel
theorem d_Plain_pairUp_31 : decode m_Plain_pairUp.2.1 31 = .ok (.if_icmp .ge 63, 3) := by decide +kernel
theorem d_Plain_pairUp_51 : decode m_Plain_pairUp.2.1 51 = .ok (.invokevirtual 77, 3) := by decide +kernel
theorem c_Plain_pairUp_51 : mx_cv m_Plain_pairUp m_House_withFirstIn 77 2 [769, 652, 653, 83, 654] = true := by decide +kernel
theorem d_Plain_pairUp_63 : decode m_Plain_pairUp.2.1 63 = .ok (.invokevirtual 57, 3) := by decide +kernel
theorem c_Plain_pairUp_63 : mx_cv m_Plain_pairUp m_Sets_raise 57 2 [770, 771, 772, 86, 773] = true := by decide +kernel
theorem d_Plain_pairUp_73 : decode m_Plain_pairUp.2.1 73 = .ok (.invokevirtual 81, 3) := by decide +kernel
theorem c_Plain_pairUp_73 : mx_cv m_Plain_pairUp m_House_withSecondIn 81 2 [775, 656, 657, 83, 658] = true := by decide +kernel
theorem d_Plain_pairUp_85 : decode m_Plain_pairUp.2.1 85 = .ok (.invokevirtual 57, 3) := by decide +kernel
theorem c_Plain_pairUp_85 : mx_cv m_Plain_pairUp m_Sets_raise 57 2 [770, 771, 772, 86, 773] = true := by decide +kernel
theorem d_Plain_pairUp_91 : decode m_Plain_pairUp.2.1 91 = .ok (.goto (-68), 3) := by decide +kernel
theorem d_Plain_pairUp_104 : decode m_Plain_pairUp.2.1 104 = .ok (.if_icmp .ge 83, 3) := by decide +kernel
theorem d_Plain_pairUp_129 : decode m_Plain_pairUp.2.1 129 = .ok (.if_icmp .ge 52, 3) := by decide +kernel
theorem d_Plain_pairUp_172 : decode m_Plain_pairUp.2.1 172 = .ok (.invokevirtual 57, 3) := by decide +kernel
theorem c_Plain_pairUp_172 : mx_cv m_Plain_pairUp m_Sets_raise 57 2 [770, 771, 772, 86, 773] = true := by decide +kernel
theorem d_Plain_pairUp_178 : decode m_Plain_pairUp.2.1 178 = .ok (.goto (-58), 3) := by decide +kernel
theorem d_Plain_pairUp_184 : decode m_Plain_pairUp.2.1 184 = .ok (.goto (-88), 3) := by decide +kernel
theorem d_Plain_pairUp_187 : decode m_Plain_pairUp.2.1 187 = .ok (.return_, 1) := by decide +kernel
theorem b_Plain_sumUp_0 : mx_ck m_Plain_sumUp 0 [(.iconst 0, [], nI 0), (.istore_n 2, [], 0)] = some 2 := by decide +kernel
theorem b_Plain_sumUp_2 : mx_ck m_Plain_sumUp 2 [(.iload_n 2, [], 0), (.aload_n 0, [], 0), (.getfield 21, [4, 2, 4, 331], 0), (.getfield 61, [6, 2, 0, 235], 0)] = some 10 := by decide +kernel
theorem b_Plain_sumUp_13 : mx_ck m_Plain_sumUp 13 [(.aload_n 0, [], 0), (.getfield 21, [4, 2, 4, 331], 0), (.getfield 64, [6, 0, 2, 228], 0), (.iload_n 2, [], 0), (.iaload, [], 0), (.istore_n 3, [], 0), (.aload_n 0, [], 0), (.getfield 21, [4, 2, 4, 331], 0), (.getfield 70, [6, 1, 3, 231], 0), (.iload_n 3, [], 0), (.iaload, [], 0), (.istore 4, [], 0), (.aload_n 0, [], 0), (.getfield 15, [4, 1, 3, 330], 0), (.iload_n 1, [], 0), (.dup2, [], 0), (.iaload, [], 0), (.iload 4, [], 0), (.iadd, [], 0), (.iastore, [], 0), (.iconst 0, [], nI 0), (.istore 5, [], 0)] = some 48 := by decide +kernel
theorem b_Plain_sumUp_48 : mx_ck m_Plain_sumUp 48 [(.iload 5, [], 0), (.bipush 8, [], nI 8)] = some 52 := by decide +kernel
theorem b_Plain_sumUp_55 : mx_ck m_Plain_sumUp 55 [(.aload_n 0, [], 0), (.getfield 9, [4, 0, 2, 329], 0), (.iload_n 1, [], 0), (.bipush 8, [], nI 8), (.imul, [], 0), (.iload 5, [], 0), (.iadd, [], 0), (.dup2, [], 0), (.iaload, [], 0), (.iload_n 3, [], 0), (.iload 5, [], 0), (.ishr, [], 0), (.iconst 1, [], nI 1), (.iand, [], 0), (.iload 4, [], 0), (.imul, [], 0), (.iadd, [], 0), (.iastore, [], 0), (.iinc 5 1, [], nI 1)] = some 82 := by decide +kernel
theorem b_Plain_sumUp_85 : mx_ck m_Plain_sumUp 85 [(.iinc 2 1, [], nI 1)] = some 88 := by decide +kernel
theorem d_Plain_sumUp_10 : decode m_Plain_sumUp.2.1 10 = .ok (.if_icmp .ge 81, 3) := by decide +kernel
theorem d_Plain_sumUp_52 : decode m_Plain_sumUp.2.1 52 = .ok (.if_icmp .ge 33, 3) := by decide +kernel
theorem d_Plain_sumUp_82 : decode m_Plain_sumUp.2.1 82 = .ok (.goto (-34), 3) := by decide +kernel
theorem d_Plain_sumUp_88 : decode m_Plain_sumUp.2.1 88 = .ok (.goto (-86), 3) := by decide +kernel
theorem d_Plain_sumUp_91 : decode m_Plain_sumUp.2.1 91 = .ok (.return_, 1) := by decide +kernel
theorem b_Rows_bits_0 : mx_ck m_Rows_bits 0 [(.iconst 0, [], nI 0), (.istore 4, [], 0), (.iconst 0, [], nI 0), (.istore 5, [], 0)] = some 6 := by decide +kernel
theorem b_Rows_bits_6 : mx_ck m_Rows_bits 6 [(.iload 5, [], 0), (.iload_n 3, [], 0)] = some 9 := by decide +kernel
theorem b_Rows_bits_12 : mx_ck m_Rows_bits 12 [(.iload 4, [], 0), (.aload_n 0, [], 0), (.getfield 18, [5, 2, 4, 112], 0), (.iload_n 1, [], 0), (.bipush 40, [], nI 40), (.imul, [], 0), (.iload_n 2, [], 0), (.iadd, [], 0), (.iload 5, [], 0), (.iadd, [], 0), (.iaload, [], 0)] = some 28 := by decide +kernel
theorem b_Rows_bits_31 : mx_ck m_Rows_bits 31 [(.iconst 1, [], nI 1), (.iload 5, [], 0), (.ishl, [], 0)] = some 35 := by decide +kernel
theorem b_Rows_bits_38 : mx_ck m_Rows_bits 38 [(.iconst 0, [], nI 0)] = some 39 := by decide +kernel
theorem b_Rows_bits_39 : mx_ck m_Rows_bits 39 [(.ior, [], 0), (.istore 4, [], 0), (.iinc 5 1, [], nI 1)] = some 45 := by decide +kernel
theorem b_Rows_bits_48 : mx_ck m_Rows_bits 48 [(.iload 4, [], 0)] = some 50 := by decide +kernel
theorem d_Rows_bits_9 : decode m_Rows_bits.2.1 9 = .ok (.if_icmp .ge 39, 3) := by decide +kernel
theorem d_Rows_bits_28 : decode m_Rows_bits.2.1 28 = .ok (.ifCond .eq 10, 3) := by decide +kernel
theorem d_Rows_bits_35 : decode m_Rows_bits.2.1 35 = .ok (.goto 4, 3) := by decide +kernel
theorem d_Rows_bits_45 : decode m_Rows_bits.2.1 45 = .ok (.goto (-39), 3) := by decide +kernel
theorem d_Rows_bits_50 : decode m_Rows_bits.2.1 50 = .ok (.ireturn, 1) := by decide +kernel
theorem b_Rows_findingAt_0 : mx_ck m_Rows_findingAt 0 [(.aload_n 0, [], 0), (.getfield 11, [5, 0, 2, 110], 0), (.iload_n 1, [], 0), (.iaload, [], 0), (.iconst (-1), [], (-1))] = some 7 := by decide +kernel
theorem b_Rows_findingAt_10 : mx_ck m_Rows_findingAt 10 [(.iconst 1, [], nI 1)] = some 11 := by decide +kernel
theorem b_Rows_findingAt_12 : mx_ck m_Rows_findingAt 12 [(.aload_n 0, [], 0), (.iload_n 1, [], 0), (.iload_n 2, [], 0), (.iload_n 3, [], 0)] = some 16 := by decide +kernel
theorem b_Rows_findingAt_22 : mx_ck m_Rows_findingAt 22 [(.iconst 0, [], nI 0)] = some 23 := by decide +kernel
theorem b_Rows_findingAt_26 : mx_ck m_Rows_findingAt 26 [(.iconst 2, [], nI 2)] = some 27 := by decide +kernel
theorem d_Rows_findingAt_7 : decode m_Rows_findingAt.2.1 7 = .ok (.if_icmp .ne 5, 3) := by decide +kernel
theorem d_Rows_findingAt_11 : decode m_Rows_findingAt.2.1 11 = .ok (.ireturn, 1) := by decide +kernel
theorem d_Rows_findingAt_16 : decode m_Rows_findingAt.2.1 16 = .ok (.invokevirtual 33, 3) := by decide +kernel
theorem c_Rows_findingAt_16 : mx_cv m_Rows_findingAt m_Rows_isPlace 33 3 [442, 444, 0, 80, 445] = true := by decide +kernel
theorem d_Rows_findingAt_19 : decode m_Rows_findingAt.2.1 19 = .ok (.ifCond .eq 7, 3) := by decide +kernel
theorem d_Rows_findingAt_23 : decode m_Rows_findingAt.2.1 23 = .ok (.goto 4, 3) := by decide +kernel
theorem d_Rows_findingAt_27 : decode m_Rows_findingAt.2.1 27 = .ok (.ireturn, 1) := by decide +kernel
theorem b_Rows_findingOfMove_0 : mx_ck m_Rows_findingOfMove 0 [(.aload_n 0, [], 0), (.getfield 11, [5, 0, 2, 110], 0), (.iload_n 1, [], 0), (.iaload, [], 0), (.iconst (-1), [], (-1))] = some 7 := by decide +kernel
theorem b_Rows_findingOfMove_10 : mx_ck m_Rows_findingOfMove 10 [(.aload_n 0, [], 0), (.getfield 11, [5, 0, 2, 110], 0), (.iload_n 3, [], 0), (.iaload, [], 0), (.iconst (-1), [], (-1))] = some 17 := by decide +kernel
theorem b_Rows_findingOfMove_20 : mx_ck m_Rows_findingOfMove 20 [(.iconst 1, [], nI 1)] = some 21 := by decide +kernel
theorem b_Rows_findingOfMove_22 : mx_ck m_Rows_findingOfMove 22 [(.aload_n 0, [], 0), (.getfield 11, [5, 0, 2, 110], 0), (.iload_n 1, [], 0), (.iaload, [], 0), (.aload_n 0, [], 0), (.getfield 11, [5, 0, 2, 110], 0), (.iload_n 3, [], 0), (.iaload, [], 0)] = some 34 := by decide +kernel
theorem b_Rows_findingOfMove_37 : mx_ck m_Rows_findingOfMove 37 [(.iconst 5, [], nI 5)] = some 38 := by decide +kernel
theorem b_Rows_findingOfMove_39 : mx_ck m_Rows_findingOfMove 39 [(.aload_n 0, [], 0), (.iload_n 1, [], 0), (.iload_n 2, [], 0), (.iload 5, [], 0)] = some 44 := by decide +kernel
theorem b_Rows_findingOfMove_50 : mx_ck m_Rows_findingOfMove 50 [(.aload_n 0, [], 0), (.iload_n 3, [], 0), (.iload 4, [], 0), (.iload 5, [], 0)] = some 56 := by decide +kernel
theorem b_Rows_findingOfMove_62 : mx_ck m_Rows_findingOfMove 62 [(.iconst 0, [], nI 0)] = some 63 := by decide +kernel
theorem b_Rows_findingOfMove_66 : mx_ck m_Rows_findingOfMove 66 [(.iconst 2, [], nI 2)] = some 67 := by decide +kernel
theorem d_Rows_findingOfMove_7 : decode m_Rows_findingOfMove.2.1 7 = .ok (.if_icmp .eq 13, 3) := by decide +kernel
theorem d_Rows_findingOfMove_17 : decode m_Rows_findingOfMove.2.1 17 = .ok (.if_icmp .ne 5, 3) := by decide +kernel
theorem d_Rows_findingOfMove_21 : decode m_Rows_findingOfMove.2.1 21 = .ok (.ireturn, 1) := by decide +kernel
theorem d_Rows_findingOfMove_34 : decode m_Rows_findingOfMove.2.1 34 = .ok (.if_icmp .eq 5, 3) := by decide +kernel
theorem d_Rows_findingOfMove_38 : decode m_Rows_findingOfMove.2.1 38 = .ok (.ireturn, 1) := by decide +kernel
theorem d_Rows_findingOfMove_44 : decode m_Rows_findingOfMove.2.1 44 = .ok (.invokevirtual 33, 3) := by decide +kernel
theorem c_Rows_findingOfMove_44 : mx_cv m_Rows_findingOfMove m_Rows_isPlace 33 3 [442, 444, 0, 80, 445] = true := by decide +kernel
theorem d_Rows_findingOfMove_47 : decode m_Rows_findingOfMove.2.1 47 = .ok (.ifCond .eq 19, 3) := by decide +kernel
theorem d_Rows_findingOfMove_56 : decode m_Rows_findingOfMove.2.1 56 = .ok (.invokevirtual 33, 3) := by decide +kernel
theorem c_Rows_findingOfMove_56 : mx_cv m_Rows_findingOfMove m_Rows_isPlace 33 3 [442, 444, 0, 80, 445] = true := by decide +kernel
theorem d_Rows_findingOfMove_59 : decode m_Rows_findingOfMove.2.1 59 = .ok (.ifCond .eq 7, 3) := by decide +kernel
theorem d_Rows_findingOfMove_63 : decode m_Rows_findingOfMove.2.1 63 = .ok (.goto 4, 3) := by decide +kernel
theorem d_Rows_findingOfMove_67 : decode m_Rows_findingOfMove.2.1 67 = .ok (.ireturn, 1) := by decide +kernel
theorem b_Rows_init_0 : mx_ck m_Rows_init 0 [(.aload_n 0, [], 0)] = some 1 := by decide +kernel
theorem b_Rows_init_4 : mx_ck m_Rows_init 4 [(.aload_n 0, [], 0), (.bipush 8, [], nI 8)] = some 7 := by decide +kernel
theorem b_Rows_init_12 : mx_ck m_Rows_init 12 [(.aload_n 0, [], 0), (.bipush 8, [], nI 8)] = some 15 := by decide +kernel
theorem b_Rows_init_20 : mx_ck m_Rows_init 20 [(.aload_n 0, [], 0), (.sipush 320, [], nI 320)] = some 24 := by decide +kernel
theorem b_Rows_init_29 : mx_ck m_Rows_init 29 [(.aload_n 0, [], 0), (.getfield 11, [5, 0, 2, 110], 0), (.iconst (-1), [], (-1))] = some 34 := by decide +kernel
theorem d_Rows_init_1 : decode m_Rows_init.2.1 1 = .ok (.invokespecial 3, 3) := by decide +kernel
theorem d_Rows_init_7 : decode m_Rows_init.2.1 7 = .ok (.newarray .int, 2) := by decide +kernel
theorem d_Rows_init_9 : decode m_Rows_init.2.1 9 = .ok (.putfield 11, 3) := by decide +kernel
theorem d_Rows_init_15 : decode m_Rows_init.2.1 15 = .ok (.newarray .int, 2) := by decide +kernel
theorem d_Rows_init_17 : decode m_Rows_init.2.1 17 = .ok (.putfield 15, 3) := by decide +kernel
theorem d_Rows_init_24 : decode m_Rows_init.2.1 24 = .ok (.newarray .int, 2) := by decide +kernel
theorem d_Rows_init_26 : decode m_Rows_init.2.1 26 = .ok (.putfield 18, 3) := by decide +kernel
theorem d_Rows_init_34 : decode m_Rows_init.2.1 34 = .ok (.invokestatic 21, 3) := by decide +kernel
theorem c_Rows_init_34 : mx_cs m_Rows_init m_fill 21 2 [107, 108, 81, 109] = true := by decide +kernel
theorem d_Rows_init_37 : decode m_Rows_init.2.1 37 = .ok (.return_, 1) := by decide +kernel
theorem b_Rows_isLane_0 : mx_ck m_Rows_isLane 0 [(.iload_n 0, [], 0)] = some 1 := by decide +kernel
theorem b_Rows_isLane_4 : mx_ck m_Rows_isLane 4 [(.iload_n 0, [], 0), (.iconst 2, [], nI 2)] = some 6 := by decide +kernel
theorem b_Rows_isLane_9 : mx_ck m_Rows_isLane 9 [(.iconst 1, [], nI 1)] = some 10 := by decide +kernel
theorem b_Rows_isLane_13 : mx_ck m_Rows_isLane 13 [(.iconst 0, [], nI 0)] = some 14 := by decide +kernel
theorem d_Rows_isLane_1 : decode m_Rows_isLane.2.1 1 = .ok (.ifCond .lt 12, 3) := by decide +kernel
theorem d_Rows_isLane_6 : decode m_Rows_isLane.2.1 6 = .ok (.if_icmp .gt 7, 3) := by decide +kernel
theorem d_Rows_isLane_10 : decode m_Rows_isLane.2.1 10 = .ok (.goto 4, 3) := by decide +kernel
theorem d_Rows_isLane_14 : decode m_Rows_isLane.2.1 14 = .ok (.ireturn, 1) := by decide +kernel
theorem b_Rows_isNumber_0 : mx_ck m_Rows_isNumber 0 [(.iload_n 0, [], 0)] = some 1 := by decide +kernel
theorem b_Rows_isNumber_4 : mx_ck m_Rows_isNumber 4 [(.iload_n 0, [], 0), (.bipush 8, [], nI 8)] = some 7 := by decide +kernel
theorem b_Rows_isNumber_10 : mx_ck m_Rows_isNumber 10 [(.iconst 1, [], nI 1)] = some 11 := by decide +kernel
theorem b_Rows_isNumber_14 : mx_ck m_Rows_isNumber 14 [(.iconst 0, [], nI 0)] = some 15 := by decide +kernel
theorem d_Rows_isNumber_1 : decode m_Rows_isNumber.2.1 1 = .ok (.ifCond .lt 13, 3) := by decide +kernel
theorem d_Rows_isNumber_7 : decode m_Rows_isNumber.2.1 7 = .ok (.if_icmp .ge 7, 3) := by decide +kernel
theorem d_Rows_isNumber_11 : decode m_Rows_isNumber.2.1 11 = .ok (.goto 4, 3) := by decide +kernel
theorem d_Rows_isNumber_15 : decode m_Rows_isNumber.2.1 15 = .ok (.ireturn, 1) := by decide +kernel
theorem b_Rows_isPlace_0 : mx_ck m_Rows_isPlace 0 [(.iload_n 2, [], 0)] = some 1 := by decide +kernel
theorem b_Rows_isPlace_4 : mx_ck m_Rows_isPlace 4 [(.iload_n 3, [], 0)] = some 5 := by decide +kernel
theorem b_Rows_isPlace_8 : mx_ck m_Rows_isPlace 8 [(.iload_n 2, [], 0), (.aload_n 0, [], 0), (.getfield 15, [5, 1, 3, 111], 0), (.iload_n 1, [], 0), (.iaload, [], 0)] = some 15 := by decide +kernel
theorem b_Rows_isPlace_18 : mx_ck m_Rows_isPlace 18 [(.iload_n 3, [], 0), (.aload_n 0, [], 0), (.getfield 15, [5, 1, 3, 111], 0), (.iload_n 1, [], 0), (.iaload, [], 0), (.iload_n 2, [], 0), (.isub, [], 0)] = some 27 := by decide +kernel
theorem b_Rows_isPlace_30 : mx_ck m_Rows_isPlace 30 [(.iconst 1, [], nI 1)] = some 31 := by decide +kernel
theorem b_Rows_isPlace_34 : mx_ck m_Rows_isPlace 34 [(.iconst 0, [], nI 0)] = some 35 := by decide +kernel
theorem d_Rows_isPlace_1 : decode m_Rows_isPlace.2.1 1 = .ok (.ifCond .lt 33, 3) := by decide +kernel
theorem d_Rows_isPlace_5 : decode m_Rows_isPlace.2.1 5 = .ok (.ifCond .lt 29, 3) := by decide +kernel
theorem d_Rows_isPlace_15 : decode m_Rows_isPlace.2.1 15 = .ok (.if_icmp .gt 19, 3) := by decide +kernel
theorem d_Rows_isPlace_27 : decode m_Rows_isPlace.2.1 27 = .ok (.if_icmp .gt 7, 3) := by decide +kernel
theorem d_Rows_isPlace_31 : decode m_Rows_isPlace.2.1 31 = .ok (.goto 4, 3) := by decide +kernel
theorem d_Rows_isPlace_35 : decode m_Rows_isPlace.2.1 35 = .ok (.ireturn, 1) := by decide +kernel
theorem b_Rows_lose_0 : mx_ck m_Rows_lose 0 [(.aload_n 0, [], 0), (.getfield 11, [5, 0, 2, 110], 0), (.iload_n 1, [], 0), (.iconst (-1), [], (-1)), (.iastore, [], 0), (.aload_n 0, [], 0), (.getfield 15, [5, 1, 3, 111], 0), (.iload_n 1, [], 0), (.iaload, [], 0)] = some 13 := by decide +kernel
theorem d_Rows_lose_13 : decode m_Rows_lose.2.1 13 = .ok (.ireturn, 1) := by decide +kernel
theorem b_Rows_make_0 : mx_ck m_Rows_make 0 [(.aload_n 0, [], 0), (.getfield 11, [5, 0, 2, 110], 0), (.iload_n 1, [], 0), (.iload_n 2, [], 0), (.iastore, [], 0), (.aload_n 0, [], 0), (.getfield 15, [5, 1, 3, 111], 0), (.iload_n 1, [], 0), (.iload_n 3, [], 0), (.iastore, [], 0), (.iconst 0, [], nI 0), (.istore 4, [], 0)] = some 17 := by decide +kernel
theorem b_Rows_make_17 : mx_ck m_Rows_make 17 [(.iload 4, [], 0), (.iload_n 3, [], 0)] = some 20 := by decide +kernel
theorem b_Rows_make_23 : mx_ck m_Rows_make 23 [(.aload_n 0, [], 0), (.getfield 18, [5, 2, 4, 112], 0), (.iload_n 1, [], 0), (.bipush 40, [], nI 40), (.imul, [], 0), (.iload 4, [], 0), (.iadd, [], 0), (.iconst 0, [], nI 0), (.iastore, [], 0), (.iinc 4 1, [], nI 1)] = some 39 := by decide +kernel
theorem d_Rows_make_20 : decode m_Rows_make.2.1 20 = .ok (.if_icmp .ge 22, 3) := by decide +kernel
theorem d_Rows_make_39 : decode m_Rows_make.2.1 39 = .ok (.goto (-22), 3) := by decide +kernel
theorem d_Rows_make_42 : decode m_Rows_make.2.1 42 = .ok (.return_, 1) := by decide +kernel
theorem b_Rows_move_0 : mx_ck m_Rows_move 0 [(.aload_n 0, [], 0), (.getfield 18, [5, 2, 4, 112], 0), (.iload_n 1, [], 0), (.bipush 40, [], nI 40), (.imul, [], 0), (.iload_n 2, [], 0), (.iadd, [], 0), (.aload_n 0, [], 0), (.getfield 18, [5, 2, 4, 112], 0), (.iload_n 3, [], 0), (.bipush 40, [], nI 40), (.imul, [], 0), (.iload 4, [], 0), (.iadd, [], 0), (.iload 5, [], 0)] = some 23 := by decide +kernel
theorem d_Rows_move_23 : decode m_Rows_move.2.1 23 = .ok (.invokestatic 27, 3) := by decide +kernel
theorem c_Rows_move_23 : mx_ca m_Rows_move 27 [462, 464, 463, 91] = true := by decide +kernel
theorem d_Rows_move_26 : decode m_Rows_move.2.1 26 = .ok (.return_, 1) := by decide +kernel
theorem b_Rows_present_0 : mx_ck m_Rows_present 0 [(.iconst 0, [], nI 0), (.istore_n 1, [], 0), (.iconst 0, [], nI 0), (.istore_n 2, [], 0)] = some 4 := by decide +kernel
theorem b_Rows_present_4 : mx_ck m_Rows_present 4 [(.iload_n 2, [], 0), (.bipush 8, [], nI 8)] = some 7 := by decide +kernel
theorem b_Rows_present_10 : mx_ck m_Rows_present 10 [(.iload_n 1, [], 0), (.aload_n 0, [], 0), (.getfield 11, [5, 0, 2, 110], 0), (.iload_n 2, [], 0), (.iaload, [], 0), (.iconst (-1), [], (-1))] = some 18 := by decide +kernel
theorem b_Rows_present_21 : mx_ck m_Rows_present 21 [(.iconst 1, [], nI 1)] = some 22 := by decide +kernel
theorem b_Rows_present_25 : mx_ck m_Rows_present 25 [(.iconst 0, [], nI 0)] = some 26 := by decide +kernel
theorem b_Rows_present_26 : mx_ck m_Rows_present 26 [(.iadd, [], 0), (.istore_n 1, [], 0), (.iinc 2 1, [], nI 1)] = some 31 := by decide +kernel
theorem b_Rows_present_34 : mx_ck m_Rows_present 34 [(.iload_n 1, [], 0)] = some 35 := by decide +kernel
theorem d_Rows_present_7 : decode m_Rows_present.2.1 7 = .ok (.if_icmp .ge 27, 3) := by decide +kernel
theorem d_Rows_present_18 : decode m_Rows_present.2.1 18 = .ok (.if_icmp .eq 7, 3) := by decide +kernel
theorem d_Rows_present_22 : decode m_Rows_present.2.1 22 = .ok (.goto 4, 3) := by decide +kernel
theorem d_Rows_present_31 : decode m_Rows_present.2.1 31 = .ok (.goto (-27), 3) := by decide +kernel
theorem d_Rows_present_35 : decode m_Rows_present.2.1 35 = .ok (.ireturn, 1) := by decide +kernel
theorem b_Rows_put_0 : mx_ck m_Rows_put 0 [(.aload_n 0, [], 0), (.getfield 11, [5, 0, 2, 110], 0), (.iload_n 1, [], 0), (.iaload, [], 0), (.istore 4, [], 0), (.iload 4, [], 0)] = some 10 := by decide +kernel
theorem b_Rows_put_13 : mx_ck m_Rows_put 13 [(.iload_n 3, [], 0), (.i2b, [], 0)] = some 15 := by decide +kernel
theorem b_Rows_put_18 : mx_ck m_Rows_put 18 [(.iload 4, [], 0), (.iconst 1, [], nI 1)] = some 21 := by decide +kernel
theorem b_Rows_put_24 : mx_ck m_Rows_put 24 [(.iload_n 3, [], 0), (.i2s, [], 0)] = some 26 := by decide +kernel
theorem b_Rows_put_29 : mx_ck m_Rows_put 29 [(.iload_n 3, [], 0)] = some 30 := by decide +kernel
theorem b_Rows_put_30 : mx_ck m_Rows_put 30 [(.istore 5, [], 0), (.aload_n 0, [], 0), (.getfield 18, [5, 2, 4, 112], 0), (.iload_n 1, [], 0), (.bipush 40, [], nI 40), (.imul, [], 0), (.iload_n 2, [], 0), (.iadd, [], 0), (.iload 5, [], 0), (.iastore, [], 0), (.iload 5, [], 0)] = some 47 := by decide +kernel
theorem d_Rows_put_10 : decode m_Rows_put.2.1 10 = .ok (.ifCond .ne 8, 3) := by decide +kernel
theorem d_Rows_put_15 : decode m_Rows_put.2.1 15 = .ok (.goto 15, 3) := by decide +kernel
theorem d_Rows_put_21 : decode m_Rows_put.2.1 21 = .ok (.if_icmp .ne 8, 3) := by decide +kernel
theorem d_Rows_put_26 : decode m_Rows_put.2.1 26 = .ok (.goto 4, 3) := by decide +kernel
theorem d_Rows_put_47 : decode m_Rows_put.2.1 47 = .ok (.ireturn, 1) := by decide +kernel
theorem b_Sets_add_0 : mx_ck m_Sets_add 0 [(.aload_n 0, [], 0), (.getfield 15, [6, 1, 3, 230], 0), (.iload_n 1, [], 0), (.iaload, [], 0)] = some 6 := by decide +kernel
theorem b_Sets_add_9 : mx_ck m_Sets_add 9 [(.aload_n 0, [], 0), (.getfield 18, [6, 2, 0, 233], 0), (.sipush 256, [], nI 256)] = some 16 := by decide +kernel
theorem b_Sets_add_19 : mx_ck m_Sets_add 19 [(.iconst 0, [], nI 0)] = some 20 := by decide +kernel
theorem b_Sets_add_21 : mx_ck m_Sets_add 21 [(.aload_n 0, [], 0), (.getfield 9, [6, 0, 2, 227], 0), (.aload_n 0, [], 0), (.getfield 18, [6, 2, 0, 233], 0), (.iload_n 1, [], 0), (.iastore, [], 0), (.aload_n 0, [], 0), (.getfield 15, [6, 1, 3, 230], 0), (.iload_n 1, [], 0), (.iload_n 2, [], 0), (.iastore, [], 0), (.aload_n 0, [], 0), (.dup, [], 0), (.getfield 18, [6, 2, 0, 233], 0), (.iconst 1, [], nI 1), (.iadd, [], 0), (.putfield 18, [6, 2, 0, 233], 0), (.iconst 1, [], nI 1)] = some 49 := by decide +kernel
theorem d_Sets_add_6 : decode m_Sets_add.2.1 6 = .ok (.ifCond .ne 13, 3) := by decide +kernel
theorem d_Sets_add_16 : decode m_Sets_add.2.1 16 = .ok (.if_icmp .lt 5, 3) := by decide +kernel
theorem d_Sets_add_20 : decode m_Sets_add.2.1 20 = .ok (.ireturn, 1) := by decide +kernel
theorem d_Sets_add_49 : decode m_Sets_add.2.1 49 = .ok (.ireturn, 1) := by decide +kernel
theorem b_Sets_clear_0 : mx_ck m_Sets_clear 0 [(.iconst 0, [], nI 0), (.istore_n 1, [], 0)] = some 2 := by decide +kernel
theorem b_Sets_clear_2 : mx_ck m_Sets_clear 2 [(.iload_n 1, [], 0), (.aload_n 0, [], 0), (.getfield 18, [6, 2, 0, 233], 0)] = some 7 := by decide +kernel
theorem b_Sets_clear_10 : mx_ck m_Sets_clear 10 [(.aload_n 0, [], 0), (.getfield 15, [6, 1, 3, 230], 0), (.aload_n 0, [], 0), (.getfield 9, [6, 0, 2, 227], 0), (.iload_n 1, [], 0), (.iaload, [], 0), (.iconst 0, [], nI 0), (.iastore, [], 0), (.iinc 1 1, [], nI 1)] = some 25 := by decide +kernel
theorem b_Sets_clear_28 : mx_ck m_Sets_clear 28 [(.aload_n 0, [], 0), (.iconst 0, [], nI 0), (.putfield 18, [6, 2, 0, 233], 0)] = some 33 := by decide +kernel
theorem d_Sets_clear_7 : decode m_Sets_clear.2.1 7 = .ok (.if_icmp .ge 21, 3) := by decide +kernel
theorem d_Sets_clear_25 : decode m_Sets_clear.2.1 25 = .ok (.goto (-23), 3) := by decide +kernel
theorem d_Sets_clear_33 : decode m_Sets_clear.2.1 33 = .ok (.return_, 1) := by decide +kernel
theorem b_Sets_init_0 : mx_ck m_Sets_init 0 [(.aload_n 0, [], 0)] = some 1 := by decide +kernel
theorem b_Sets_init_4 : mx_ck m_Sets_init 4 [(.aload_n 0, [], 0), (.sipush 256, [], nI 256)] = some 8 := by decide +kernel
theorem b_Sets_init_13 : mx_ck m_Sets_init 13 [(.aload_n 0, [], 0), (.sipush 256, [], nI 256)] = some 17 := by decide +kernel
theorem d_Sets_init_1 : decode m_Sets_init.2.1 1 = .ok (.invokespecial 3, 3) := by decide +kernel
theorem d_Sets_init_8 : decode m_Sets_init.2.1 8 = .ok (.newarray .int, 2) := by decide +kernel
theorem d_Sets_init_10 : decode m_Sets_init.2.1 10 = .ok (.putfield 9, 3) := by decide +kernel
theorem d_Sets_init_17 : decode m_Sets_init.2.1 17 = .ok (.newarray .int, 2) := by decide +kernel
theorem d_Sets_init_19 : decode m_Sets_init.2.1 19 = .ok (.putfield 15, 3) := by decide +kernel
theorem d_Sets_init_22 : decode m_Sets_init.2.1 22 = .ok (.return_, 1) := by decide +kernel
theorem b_Sets_raise_0 : mx_ck m_Sets_raise 0 [(.aload_n 0, [], 0), (.iload_n 1, [], 0), (.iload_n 2, [], 0)] = some 3 := by decide +kernel
theorem b_Sets_raise_9 : mx_ck m_Sets_raise 9 [(.aload_n 0, [], 0), (.getfield 15, [6, 1, 3, 230], 0), (.iload_n 1, [], 0), (.dup2, [], 0), (.iaload, [], 0), (.iload_n 2, [], 0), (.iadd, [], 0), (.iastore, [], 0)] = some 19 := by decide +kernel
theorem d_Sets_raise_3 : decode m_Sets_raise.2.1 3 = .ok (.invokevirtual 22, 3) := by decide +kernel
theorem c_Sets_raise_3 : mx_cv m_Sets_raise m_Sets_add 22 2 [774, 639, 640, 86, 641] = true := by decide +kernel
theorem d_Sets_raise_6 : decode m_Sets_raise.2.1 6 = .ok (.ifCond .ne 13, 3) := by decide +kernel
theorem d_Sets_raise_19 : decode m_Sets_raise.2.1 19 = .ok (.return_, 1) := by decide +kernel
theorem b_Sides_clear_0 : mx_ck m_Sides_clear 0 [(.aload_n 0, [], 0), (.getfield 21, [7, 2, 4, 256], 0)] = some 4 := by decide +kernel
theorem b_Sides_clear_7 : mx_ck m_Sides_clear 7 [(.aload_n 0, [], 0), (.getfield 25, [7, 3, 7, 258], 0)] = some 11 := by decide +kernel
theorem d_Sides_clear_4 : decode m_Sides_clear.2.1 4 = .ok (.invokevirtual 28, 3) := by decide +kernel
theorem c_Sides_clear_4 : mx_cv m_Sides_clear m_Sets_clear 28 0 [629, 622, 623, 86, 624] = true := by decide +kernel
theorem d_Sides_clear_11 : decode m_Sides_clear.2.1 11 = .ok (.invokevirtual 28, 3) := by decide +kernel
theorem c_Sides_clear_11 : mx_cv m_Sides_clear m_Sets_clear 28 0 [629, 622, 623, 86, 624] = true := by decide +kernel
theorem d_Sides_clear_14 : decode m_Sides_clear.2.1 14 = .ok (.return_, 1) := by decide +kernel
theorem b_Sides_init_0 : mx_ck m_Sides_init 0 [(.aload_n 0, [], 0)] = some 1 := by decide +kernel
theorem b_Sides_init_4 : mx_ck m_Sides_init 4 [(.aload_n 0, [], 0), (.sipush 256, [], nI 256)] = some 8 := by decide +kernel
theorem b_Sides_init_13 : mx_ck m_Sides_init 13 [(.aload_n 0, [], 0), (.sipush 256, [], nI 256)] = some 17 := by decide +kernel
theorem b_Sides_init_22 : mx_ck m_Sides_init 22 [(.aload_n 0, [], 0)] = some 23 := by decide +kernel
theorem b_Sides_init_26 : mx_ck m_Sides_init 26 [(.dup, [], 0)] = some 27 := by decide +kernel
theorem b_Sides_init_33 : mx_ck m_Sides_init 33 [(.aload_n 0, [], 0)] = some 34 := by decide +kernel
theorem b_Sides_init_37 : mx_ck m_Sides_init 37 [(.dup, [], 0)] = some 38 := by decide +kernel
theorem d_Sides_init_1 : decode m_Sides_init.2.1 1 = .ok (.invokespecial 3, 3) := by decide +kernel
theorem d_Sides_init_8 : decode m_Sides_init.2.1 8 = .ok (.newarray .int, 2) := by decide +kernel
theorem d_Sides_init_10 : decode m_Sides_init.2.1 10 = .ok (.putfield 9, 3) := by decide +kernel
theorem d_Sides_init_17 : decode m_Sides_init.2.1 17 = .ok (.newarray .int, 2) := by decide +kernel
theorem d_Sides_init_19 : decode m_Sides_init.2.1 19 = .ok (.putfield 15, 3) := by decide +kernel
theorem d_Sides_init_23 : decode m_Sides_init.2.1 23 = .ok (.new 18, 3) := by decide +kernel
theorem d_Sides_init_27 : decode m_Sides_init.2.1 27 = .ok (.invokespecial 20, 3) := by decide +kernel
theorem d_Sides_init_30 : decode m_Sides_init.2.1 30 = .ok (.putfield 21, 3) := by decide +kernel
theorem d_Sides_init_34 : decode m_Sides_init.2.1 34 = .ok (.new 18, 3) := by decide +kernel
theorem d_Sides_init_38 : decode m_Sides_init.2.1 38 = .ok (.invokespecial 20, 3) := by decide +kernel
theorem d_Sides_init_41 : decode m_Sides_init.2.1 41 = .ok (.putfield 25, 3) := by decide +kernel
theorem d_Sides_init_44 : decode m_Sides_init.2.1 44 = .ok (.return_, 1) := by decide +kernel
theorem b_Sides_see_0 : mx_ck m_Sides_see 0 [(.aload_n 0, [], 0), (.getfield 9, [7, 0, 2, 252], 0), (.iload_n 3, [], 0), (.aload_n 1, [], 0), (.iload_n 2, [], 0), (.iload 4, [], 0)] = some 9 := by decide +kernel
theorem b_Sides_see_12 : mx_ck m_Sides_see 12 [(.iastore, [], 0), (.aload_n 0, [], 0), (.getfield 15, [7, 1, 3, 254], 0), (.iload_n 3, [], 0), (.aload_n 1, [], 0), (.iload_n 2, [], 0), (.iload 4, [], 0)] = some 22 := by decide +kernel
theorem b_Sides_see_25 : mx_ck m_Sides_see 25 [(.iastore, [], 0), (.aload_n 0, [], 0), (.getfield 21, [7, 2, 4, 256], 0), (.aload_n 0, [], 0), (.getfield 9, [7, 0, 2, 252], 0), (.iload_n 3, [], 0), (.iaload, [], 0), (.iconst 1, [], nI 1)] = some 37 := by decide +kernel
theorem b_Sides_see_40 : mx_ck m_Sides_see 40 [(.pop, [], 0), (.aload_n 0, [], 0), (.getfield 25, [7, 3, 7, 258], 0), (.aload_n 0, [], 0), (.getfield 15, [7, 1, 3, 254], 0), (.iload_n 3, [], 0), (.iaload, [], 0), (.iconst 1, [], nI 1)] = some 52 := by decide +kernel
theorem b_Sides_see_55 : mx_ck m_Sides_see 55 [(.pop, [], 0)] = some 56 := by decide +kernel
theorem d_Sides_see_9 : decode m_Sides_see.2.1 9 = .ok (.invokevirtual 31, 3) := by decide +kernel
theorem c_Sides_see_9 : mx_cv m_Sides_see m_House_withFirstIn 31 2 [651, 652, 653, 83, 654] = true := by decide +kernel
theorem d_Sides_see_22 : decode m_Sides_see.2.1 22 = .ok (.invokevirtual 37, 3) := by decide +kernel
theorem c_Sides_see_22 : mx_cv m_Sides_see m_House_withSecondIn 37 2 [655, 656, 657, 83, 658] = true := by decide +kernel
theorem d_Sides_see_37 : decode m_Sides_see.2.1 37 = .ok (.invokevirtual 40, 3) := by decide +kernel
theorem c_Sides_see_37 : mx_cv m_Sides_see m_Sets_add 40 2 [659, 639, 640, 86, 641] = true := by decide +kernel
theorem d_Sides_see_52 : decode m_Sides_see.2.1 52 = .ok (.invokevirtual 40, 3) := by decide +kernel
theorem c_Sides_see_52 : mx_cv m_Sides_see m_Sets_add 40 2 [659, 639, 640, 86, 641] = true := by decide +kernel
theorem d_Sides_see_56 : decode m_Sides_see.2.1 56 = .ok (.return_, 1) := by decide +kernel
theorem b_Tape_add_0 : mx_ck m_Tape_add 0 [(.aload_n 0, [], 0), (.getfield 15, [8, 1, 0, 128], 0), (.bipush 80, [], nI 80)] = some 6 := by decide +kernel
theorem b_Tape_add_9 : mx_ck m_Tape_add 9 [(.iconst 0, [], nI 0)] = some 10 := by decide +kernel
theorem b_Tape_add_11 : mx_ck m_Tape_add 11 [(.aload_n 0, [], 0), (.getfield 11, [8, 0, 2, 127], 0), (.aload_n 0, [], 0), (.getfield 15, [8, 1, 0, 128], 0), (.iload_n 1, [], 0), (.iastore, [], 0), (.aload_n 0, [], 0), (.dup, [], 0), (.getfield 15, [8, 1, 0, 128], 0), (.iconst 1, [], nI 1), (.iadd, [], 0), (.putfield 15, [8, 1, 0, 128], 0), (.iconst 1, [], nI 1)] = some 32 := by decide +kernel
theorem d_Tape_add_6 : decode m_Tape_add.2.1 6 = .ok (.if_icmp .lt 5, 3) := by decide +kernel
theorem d_Tape_add_10 : decode m_Tape_add.2.1 10 = .ok (.ireturn, 1) := by decide +kernel
theorem d_Tape_add_32 : decode m_Tape_add.2.1 32 = .ok (.ireturn, 1) := by decide +kernel
theorem b_Tape_fails_0 : mx_ck m_Tape_fails 0 [(.aload_n 0, [], 0), (.iload_n 1, [], 0), (.putfield 74, [8, 6, 0, 136], 0), (.iconst 0, [], nI 0)] = some 6 := by decide +kernel
theorem d_Tape_fails_6 : decode m_Tape_fails.2.1 6 = .ok (.ireturn, 1) := by decide +kernel
theorem b_Tape_init_0 : mx_ck m_Tape_init 0 [(.aload_n 0, [], 0)] = some 1 := by decide +kernel
theorem b_Tape_init_4 : mx_ck m_Tape_init 4 [(.aload_n 0, [], 0), (.bipush 80, [], nI 80)] = some 7 := by decide +kernel
theorem d_Tape_init_1 : decode m_Tape_init.2.1 1 = .ok (.invokespecial 3, 3) := by decide +kernel
theorem d_Tape_init_7 : decode m_Tape_init.2.1 7 = .ok (.newarray .int, 2) := by decide +kernel
theorem d_Tape_init_9 : decode m_Tape_init.2.1 9 = .ok (.putfield 11, 3) := by decide +kernel
theorem d_Tape_init_12 : decode m_Tape_init.2.1 12 = .ok (.return_, 1) := by decide +kernel
theorem b_Tape_isFigure_0 : mx_ck m_Tape_isFigure 0 [(.iload_n 0, [], 0), (.bipush 48, [], nI 48)] = some 3 := by decide +kernel
theorem b_Tape_isFigure_6 : mx_ck m_Tape_isFigure 6 [(.iload_n 0, [], 0), (.bipush 57, [], nI 57)] = some 9 := by decide +kernel
theorem b_Tape_isFigure_12 : mx_ck m_Tape_isFigure 12 [(.iconst 1, [], nI 1)] = some 13 := by decide +kernel
theorem b_Tape_isFigure_16 : mx_ck m_Tape_isFigure 16 [(.iconst 0, [], nI 0)] = some 17 := by decide +kernel
theorem d_Tape_isFigure_3 : decode m_Tape_isFigure.2.1 3 = .ok (.if_icmp .lt 13, 3) := by decide +kernel
theorem d_Tape_isFigure_9 : decode m_Tape_isFigure.2.1 9 = .ok (.if_icmp .gt 7, 3) := by decide +kernel
theorem d_Tape_isFigure_13 : decode m_Tape_isFigure.2.1 13 = .ok (.goto 4, 3) := by decide +kernel
theorem d_Tape_isFigure_17 : decode m_Tape_isFigure.2.1 17 = .ok (.ireturn, 1) := by decide +kernel
theorem b_Tape_mostOf_0 : mx_ck m_Tape_mostOf 0 [(.iload_n 0, [], 0)] = some 1 := by decide +kernel
theorem b_Tape_mostOf_4 : mx_ck m_Tape_mostOf 4 [(.iconst 3, [], nI 3)] = some 5 := by decide +kernel
theorem b_Tape_mostOf_6 : mx_ck m_Tape_mostOf 6 [(.iload_n 0, [], 0), (.iconst 1, [], nI 1)] = some 8 := by decide +kernel
theorem b_Tape_mostOf_11 : mx_ck m_Tape_mostOf 11 [(.iload_n 0, [], 0), (.iconst 2, [], nI 2)] = some 13 := by decide +kernel
theorem b_Tape_mostOf_16 : mx_ck m_Tape_mostOf 16 [(.bipush 7, [], nI 7)] = some 18 := by decide +kernel
theorem b_Tape_mostOf_21 : mx_ck m_Tape_mostOf 21 [(.iload_n 1, [], 0), (.iconst 1, [], nI 1), (.isub, [], 0)] = some 24 := by decide +kernel
theorem d_Tape_mostOf_1 : decode m_Tape_mostOf.2.1 1 = .ok (.ifCond .ne 5, 3) := by decide +kernel
theorem d_Tape_mostOf_5 : decode m_Tape_mostOf.2.1 5 = .ok (.ireturn, 1) := by decide +kernel
theorem d_Tape_mostOf_8 : decode m_Tape_mostOf.2.1 8 = .ok (.if_icmp .eq 8, 3) := by decide +kernel
theorem d_Tape_mostOf_13 : decode m_Tape_mostOf.2.1 13 = .ok (.if_icmp .ne 8, 3) := by decide +kernel
theorem d_Tape_mostOf_18 : decode m_Tape_mostOf.2.1 18 = .ok (.goto 6, 3) := by decide +kernel
theorem d_Tape_mostOf_24 : decode m_Tape_mostOf.2.1 24 = .ok (.ireturn, 1) := by decide +kernel
theorem b_Tape_read_0 : mx_ck m_Tape_read 0 [(.aload_n 0, [], 0), (.iconst 0, [], nI 0), (.putfield 19, [8, 2, 0, 130], 0), (.aload_n 1, [], 0), (.iconst 0, [], nI 0), (.putfield 22, [3, 3, 0, 171], 0), (.aload_n 0, [], 0), (.bipush 115, [], nI 115)] = some 13 := by decide +kernel
theorem b_Tape_read_19 : mx_ck m_Tape_read 19 [(.aload_n 0, [], 0), (.iconst 1, [], nI 1), (.iconst 4, [], nI 4)] = some 22 := by decide +kernel
theorem b_Tape_read_28 : mx_ck m_Tape_read 28 [(.iconst 0, [], nI 0)] = some 29 := by decide +kernel
theorem b_Tape_read_30 : mx_ck m_Tape_read 30 [(.aload_n 1, [], 0), (.aload_n 0, [], 0), (.getfield 35, [8, 4, 0, 132], 0), (.putfield 38, [3, 4, 0, 175], 0), (.aload_n 0, [], 0), (.bipush 59, [], nI 59)] = some 41 := by decide +kernel
theorem b_Tape_read_47 : mx_ck m_Tape_read 47 [(.aload_n 0, [], 0), (.aload_n 1, [], 0)] = some 49 := by decide +kernel
theorem b_Tape_read_55 : mx_ck m_Tape_read 55 [(.iconst 1, [], nI 1)] = some 56 := by decide +kernel
theorem b_Tape_read_59 : mx_ck m_Tape_read 59 [(.iconst 0, [], nI 0)] = some 60 := by decide +kernel
theorem d_Tape_read_13 : decode m_Tape_read.2.1 13 = .ok (.invokevirtual 27, 3) := by decide +kernel
theorem c_Tape_read_13 : mx_cv m_Tape_read m_Tape_takesSign 27 1 [490, 492, 1, 82, 493] = true := by decide +kernel
theorem d_Tape_read_16 : decode m_Tape_read.2.1 16 = .ok (.ifCond .eq 12, 3) := by decide +kernel
theorem d_Tape_read_22 : decode m_Tape_read.2.1 22 = .ok (.invokevirtual 31, 3) := by decide +kernel
theorem c_Tape_read_22 : mx_cv m_Tape_read m_Tape_takesNumber 31 2 [505, 507, 4, 82, 508] = true := by decide +kernel
theorem d_Tape_read_25 : decode m_Tape_read.2.1 25 = .ok (.ifCond .ne 5, 3) := by decide +kernel
theorem d_Tape_read_29 : decode m_Tape_read.2.1 29 = .ok (.ireturn, 1) := by decide +kernel
theorem d_Tape_read_41 : decode m_Tape_read.2.1 41 = .ok (.invokevirtual 27, 3) := by decide +kernel
theorem c_Tape_read_41 : mx_cv m_Tape_read m_Tape_takesSign 27 1 [490, 492, 1, 82, 493] = true := by decide +kernel
theorem d_Tape_read_44 : decode m_Tape_read.2.1 44 = .ok (.ifCond .eq 15, 3) := by decide +kernel
theorem d_Tape_read_49 : decode m_Tape_read.2.1 49 = .ok (.invokevirtual 41, 3) := by decide +kernel
theorem c_Tape_read_49 : mx_cv m_Tape_read m_Tape_readTypes 41 1 [509, 511, 5, 82, 512] = true := by decide +kernel
theorem d_Tape_read_52 : decode m_Tape_read.2.1 52 = .ok (.ifCond .eq 7, 3) := by decide +kernel
theorem d_Tape_read_56 : decode m_Tape_read.2.1 56 = .ok (.goto 4, 3) := by decide +kernel
theorem d_Tape_read_60 : decode m_Tape_read.2.1 60 = .ok (.ireturn, 1) := by decide +kernel
theorem b_Tape_readEquation_0 : mx_ck m_Tape_readEquation 0 [(.iload_n 3, [], 0), (.iload_n 2, [], 0)] = some 2 := by decide +kernel
theorem b_Tape_readEquation_5 : mx_ck m_Tape_readEquation 5 [(.istore 4, [], 0), (.aload_n 0, [], 0), (.iconst 0, [], nI 0), (.iload 4, [], 0)] = some 11 := by decide +kernel
theorem b_Tape_readEquation_17 : mx_ck m_Tape_readEquation 17 [(.iconst 0, [], nI 0)] = some 18 := by decide +kernel
theorem b_Tape_readEquation_19 : mx_ck m_Tape_readEquation 19 [(.aload_n 0, [], 0), (.getfield 35, [8, 4, 0, 132], 0), (.istore 5, [], 0), (.aload_n 0, [], 0), (.bipush 44, [], nI 44)] = some 28 := by decide +kernel
theorem b_Tape_readEquation_34 : mx_ck m_Tape_readEquation 34 [(.aload_n 0, [], 0), (.iload_n 3, [], 0)] = some 36 := by decide +kernel
theorem b_Tape_readEquation_39 : mx_ck m_Tape_readEquation 39 [(.iload 5, [], 0)] = some 41 := by decide +kernel
theorem b_Tape_readEquation_44 : mx_ck m_Tape_readEquation 44 [(.iconst 0, [], nI 0)] = some 45 := by decide +kernel
theorem b_Tape_readEquation_45 : mx_ck m_Tape_readEquation 45 [(.iload 4, [], 0)] = some 47 := by decide +kernel
theorem b_Tape_readEquation_53 : mx_ck m_Tape_readEquation 53 [(.iconst 0, [], nI 0)] = some 54 := by decide +kernel
theorem b_Tape_readEquation_55 : mx_ck m_Tape_readEquation 55 [(.aload_n 1, [], 0), (.iload_n 2, [], 0), (.iconst 1, [], nI 1), (.iadd, [], 0), (.putfield 22, [3, 3, 0, 171], 0), (.aload_n 1, [], 0), (.iload_n 2, [], 0), (.iload_n 3, [], 0), (.iload 5, [], 0), (.aload_n 0, [], 0), (.getfield 35, [8, 4, 0, 132], 0)] = some 71 := by decide +kernel
theorem b_Tape_readEquation_74 : mx_ck m_Tape_readEquation 74 [(.aload_n 0, [], 0), (.bipush 59, [], nI 59)] = some 77 := by decide +kernel
theorem d_Tape_readEquation_2 : decode m_Tape_readEquation.2.1 2 = .ok (.invokestatic 66, 3) := by decide +kernel
theorem c_Tape_readEquation_2 : mx_cs m_Tape_readEquation m_Tape_mostOf 66 2 [532, 533, 82, 534] = true := by decide +kernel
theorem d_Tape_readEquation_11 : decode m_Tape_readEquation.2.1 11 = .ok (.invokevirtual 31, 3) := by decide +kernel
theorem c_Tape_readEquation_11 : mx_cv m_Tape_readEquation m_Tape_takesNumber 31 2 [505, 507, 4, 82, 508] = true := by decide +kernel
theorem d_Tape_readEquation_14 : decode m_Tape_readEquation.2.1 14 = .ok (.ifCond .ne 5, 3) := by decide +kernel
theorem d_Tape_readEquation_18 : decode m_Tape_readEquation.2.1 18 = .ok (.ireturn, 1) := by decide +kernel
theorem d_Tape_readEquation_28 : decode m_Tape_readEquation.2.1 28 = .ok (.invokevirtual 27, 3) := by decide +kernel
theorem c_Tape_readEquation_28 : mx_cv m_Tape_readEquation m_Tape_takesSign 27 1 [490, 492, 1, 82, 493] = true := by decide +kernel
theorem d_Tape_readEquation_31 : decode m_Tape_readEquation.2.1 31 = .ok (.ifCond .eq 22, 3) := by decide +kernel
theorem d_Tape_readEquation_36 : decode m_Tape_readEquation.2.1 36 = .ok (.ifCond .ne 8, 3) := by decide +kernel
theorem d_Tape_readEquation_41 : decode m_Tape_readEquation.2.1 41 = .ok (.goto 4, 3) := by decide +kernel
theorem d_Tape_readEquation_47 : decode m_Tape_readEquation.2.1 47 = .ok (.invokevirtual 31, 3) := by decide +kernel
theorem c_Tape_readEquation_47 : mx_cv m_Tape_readEquation m_Tape_takesNumber 31 2 [505, 507, 4, 82, 508] = true := by decide +kernel
theorem d_Tape_readEquation_50 : decode m_Tape_readEquation.2.1 50 = .ok (.ifCond .ne 5, 3) := by decide +kernel
theorem d_Tape_readEquation_54 : decode m_Tape_readEquation.2.1 54 = .ok (.ireturn, 1) := by decide +kernel
theorem d_Tape_readEquation_71 : decode m_Tape_readEquation.2.1 71 = .ok (.invokevirtual 70, 3) := by decide +kernel
theorem c_Tape_readEquation_71 : mx_cv m_Tape_readEquation m_House_tell 70 4 [535, 536, 537, 83, 538] = true := by decide +kernel
theorem d_Tape_readEquation_77 : decode m_Tape_readEquation.2.1 77 = .ok (.invokevirtual 27, 3) := by decide +kernel
theorem c_Tape_readEquation_77 : mx_cv m_Tape_readEquation m_Tape_takesSign 27 1 [490, 492, 1, 82, 493] = true := by decide +kernel
theorem d_Tape_readEquation_80 : decode m_Tape_readEquation.2.1 80 = .ok (.ireturn, 1) := by decide +kernel
theorem b_Tape_readTypes_0 : mx_ck m_Tape_readTypes 0 [(.iconst 0, [], nI 0), (.istore_n 2, [], 0)] = some 2 := by decide +kernel
theorem b_Tape_readTypes_2 : mx_ck m_Tape_readTypes 2 [(.iload_n 2, [], 0), (.bipush 8, [], nI 8)] = some 5 := by decide +kernel
theorem b_Tape_readTypes_8 : mx_ck m_Tape_readTypes 8 [(.aload_n 0, [], 0)] = some 9 := by decide +kernel
theorem b_Tape_readTypes_12 : mx_ck m_Tape_readTypes 12 [(.aload_n 0, [], 0), (.getfield 48, [8, 3, 0, 131], 0), (.bipush (-2), [], (-2))] = some 18 := by decide +kernel
theorem b_Tape_readTypes_21 : mx_ck m_Tape_readTypes 21 [(.iload_n 2, [], 0)] = some 22 := by decide +kernel
theorem b_Tape_readTypes_25 : mx_ck m_Tape_readTypes 25 [(.aload_n 1, [], 0)] = some 26 := by decide +kernel
theorem b_Tape_readTypes_32 : mx_ck m_Tape_readTypes 32 [(.aload_n 0, [], 0), (.iconst 4, [], nI 4)] = some 34 := by decide +kernel
theorem b_Tape_readTypes_40 : mx_ck m_Tape_readTypes 40 [(.iconst 1, [], nI 1)] = some 41 := by decide +kernel
theorem b_Tape_readTypes_44 : mx_ck m_Tape_readTypes 44 [(.iconst 0, [], nI 0)] = some 45 := by decide +kernel
theorem b_Tape_readTypes_46 : mx_ck m_Tape_readTypes 46 [(.aload_n 0, [], 0), (.getfield 48, [8, 3, 0, 131], 0)] = some 50 := by decide +kernel
theorem b_Tape_readTypes_53 : mx_ck m_Tape_readTypes 53 [(.istore_n 3, [], 0), (.iload_n 3, [], 0)] = some 55 := by decide +kernel
theorem b_Tape_readTypes_58 : mx_ck m_Tape_readTypes 58 [(.aload_n 0, [], 0), (.iconst 1, [], nI 1)] = some 60 := by decide +kernel
theorem b_Tape_readTypes_64 : mx_ck m_Tape_readTypes 64 [(.iload_n 2, [], 0), (.bipush 8, [], nI 8)] = some 67 := by decide +kernel
theorem b_Tape_readTypes_70 : mx_ck m_Tape_readTypes 70 [(.aload_n 0, [], 0), (.iconst 3, [], nI 3)] = some 72 := by decide +kernel
theorem b_Tape_readTypes_76 : mx_ck m_Tape_readTypes 76 [(.aload_n 0, [], 0), (.aload_n 1, [], 0), (.iload_n 2, [], 0), (.iload_n 3, [], 0)] = some 80 := by decide +kernel
theorem b_Tape_readTypes_86 : mx_ck m_Tape_readTypes 86 [(.iconst 0, [], nI 0)] = some 87 := by decide +kernel
theorem b_Tape_readTypes_88 : mx_ck m_Tape_readTypes 88 [(.iinc 2 1, [], nI 1)] = some 91 := by decide +kernel
theorem b_Tape_readTypes_94 : mx_ck m_Tape_readTypes 94 [(.iconst 0, [], nI 0)] = some 95 := by decide +kernel
theorem d_Tape_readTypes_5 : decode m_Tape_readTypes.2.1 5 = .ok (.if_icmp .gt 89, 3) := by decide +kernel
theorem d_Tape_readTypes_9 : decode m_Tape_readTypes.2.1 9 = .ok (.invokevirtual 45, 3) := by decide +kernel
theorem c_Tape_readTypes_9 : mx_cv m_Tape_readTypes m_Tape_step 45 0 [494, 496, 2, 82, 497] = true := by decide +kernel
theorem d_Tape_readTypes_18 : decode m_Tape_readTypes.2.1 18 = .ok (.if_icmp .ne 28, 3) := by decide +kernel
theorem d_Tape_readTypes_22 : decode m_Tape_readTypes.2.1 22 = .ok (.ifCond .le 24, 3) := by decide +kernel
theorem d_Tape_readTypes_26 : decode m_Tape_readTypes.2.1 26 = .ok (.invokevirtual 51, 3) := by decide +kernel
theorem c_Tape_readTypes_26 : mx_cv m_Tape_readTypes m_House_namesOnlyItsOwn 51 0 [513, 514, 515, 83, 516] = true := by decide +kernel
theorem d_Tape_readTypes_29 : decode m_Tape_readTypes.2.1 29 = .ok (.ifCond .ne 11, 3) := by decide +kernel
theorem d_Tape_readTypes_34 : decode m_Tape_readTypes.2.1 34 = .ok (.invokevirtual 55, 3) := by decide +kernel
theorem c_Tape_readTypes_34 : mx_cv m_Tape_readTypes m_Tape_fails 55 1 [501, 503, 3, 82, 504] = true := by decide +kernel
theorem d_Tape_readTypes_37 : decode m_Tape_readTypes.2.1 37 = .ok (.ifCond .eq 7, 3) := by decide +kernel
theorem d_Tape_readTypes_41 : decode m_Tape_readTypes.2.1 41 = .ok (.goto 4, 3) := by decide +kernel
theorem d_Tape_readTypes_45 : decode m_Tape_readTypes.2.1 45 = .ok (.ireturn, 1) := by decide +kernel
theorem d_Tape_readTypes_50 : decode m_Tape_readTypes.2.1 50 = .ok (.invokestatic 58, 3) := by decide +kernel
theorem c_Tape_readTypes_50 : mx_cs m_Tape_readTypes m_Tape_sortOf 58 1 [525, 526, 82, 527] = true := by decide +kernel
theorem d_Tape_readTypes_55 : decode m_Tape_readTypes.2.1 55 = .ok (.ifCond .ge 9, 3) := by decide +kernel
theorem d_Tape_readTypes_60 : decode m_Tape_readTypes.2.1 60 = .ok (.invokevirtual 55, 3) := by decide +kernel
theorem c_Tape_readTypes_60 : mx_cv m_Tape_readTypes m_Tape_fails 55 1 [501, 503, 3, 82, 504] = true := by decide +kernel
theorem d_Tape_readTypes_63 : decode m_Tape_readTypes.2.1 63 = .ok (.ireturn, 1) := by decide +kernel
theorem d_Tape_readTypes_67 : decode m_Tape_readTypes.2.1 67 = .ok (.if_icmp .ne 9, 3) := by decide +kernel
theorem d_Tape_readTypes_72 : decode m_Tape_readTypes.2.1 72 = .ok (.invokevirtual 55, 3) := by decide +kernel
theorem c_Tape_readTypes_72 : mx_cv m_Tape_readTypes m_Tape_fails 55 1 [501, 503, 3, 82, 504] = true := by decide +kernel
theorem d_Tape_readTypes_75 : decode m_Tape_readTypes.2.1 75 = .ok (.ireturn, 1) := by decide +kernel
theorem d_Tape_readTypes_80 : decode m_Tape_readTypes.2.1 80 = .ok (.invokevirtual 62, 3) := by decide +kernel
theorem c_Tape_readTypes_80 : mx_cv m_Tape_readTypes m_Tape_readEquation 62 3 [528, 530, 6, 82, 531] = true := by decide +kernel
theorem d_Tape_readTypes_83 : decode m_Tape_readTypes.2.1 83 = .ok (.ifCond .ne 5, 3) := by decide +kernel
theorem d_Tape_readTypes_87 : decode m_Tape_readTypes.2.1 87 = .ok (.ireturn, 1) := by decide +kernel
theorem d_Tape_readTypes_91 : decode m_Tape_readTypes.2.1 91 = .ok (.goto (-89), 3) := by decide +kernel
theorem d_Tape_readTypes_95 : decode m_Tape_readTypes.2.1 95 = .ok (.ireturn, 1) := by decide +kernel
theorem b_Tape_sortOf_0 : mx_ck m_Tape_sortOf 0 [(.iload_n 0, [], 0)] = some 1 := by decide +kernel
theorem b_Tape_sortOf_96 : mx_ck m_Tape_sortOf 96 [(.iconst 0, [], nI 0)] = some 97 := by decide +kernel
theorem b_Tape_sortOf_98 : mx_ck m_Tape_sortOf 98 [(.iconst 1, [], nI 1)] = some 99 := by decide +kernel
theorem b_Tape_sortOf_100 : mx_ck m_Tape_sortOf 100 [(.iconst 2, [], nI 2)] = some 101 := by decide +kernel
theorem b_Tape_sortOf_102 : mx_ck m_Tape_sortOf 102 [(.iconst 3, [], nI 3)] = some 103 := by decide +kernel
theorem b_Tape_sortOf_104 : mx_ck m_Tape_sortOf 104 [(.iconst 4, [], nI 4)] = some 105 := by decide +kernel
theorem b_Tape_sortOf_106 : mx_ck m_Tape_sortOf 106 [(.iconst 5, [], nI 5)] = some 107 := by decide +kernel
theorem b_Tape_sortOf_108 : mx_ck m_Tape_sortOf 108 [(.iconst (-1), [], (-1))] = some 109 := by decide +kernel
theorem d_Tape_sortOf_1 : decode m_Tape_sortOf.2.1 1 = .ok (.tableswitch 107 98 117 #[103, 95, 107, 107, 99, 107, 107, 107, 107, 107, 105, 107, 107, 107, 97, 107, 107, 107, 107, 101], 95) := by decide +kernel
theorem d_Tape_sortOf_97 : decode m_Tape_sortOf.2.1 97 = .ok (.ireturn, 1) := by decide +kernel
theorem d_Tape_sortOf_99 : decode m_Tape_sortOf.2.1 99 = .ok (.ireturn, 1) := by decide +kernel
theorem d_Tape_sortOf_101 : decode m_Tape_sortOf.2.1 101 = .ok (.ireturn, 1) := by decide +kernel
theorem d_Tape_sortOf_103 : decode m_Tape_sortOf.2.1 103 = .ok (.ireturn, 1) := by decide +kernel
theorem d_Tape_sortOf_105 : decode m_Tape_sortOf.2.1 105 = .ok (.ireturn, 1) := by decide +kernel
theorem d_Tape_sortOf_107 : decode m_Tape_sortOf.2.1 107 = .ok (.ireturn, 1) := by decide +kernel
theorem d_Tape_sortOf_109 : decode m_Tape_sortOf.2.1 109 = .ok (.ireturn, 1) := by decide +kernel
theorem b_Tape_step_0 : mx_ck m_Tape_step 0 [(.aload_n 0, [], 0), (.aload_n 0, [], 0), (.getfield 19, [8, 2, 0, 130], 0), (.putfield 77, [8, 5, 0, 134], 0), (.aload_n 0, [], 0), (.iconst 0, [], nI 0), (.putfield 35, [8, 4, 0, 132], 0)] = some 13 := by decide +kernel
theorem b_Tape_step_13 : mx_ck m_Tape_step 13 [(.aload_n 0, [], 0), (.getfield 19, [8, 2, 0, 130], 0), (.aload_n 0, [], 0), (.getfield 15, [8, 1, 0, 128], 0)] = some 21 := by decide +kernel
theorem b_Tape_step_24 : mx_ck m_Tape_step 24 [(.aload_n 0, [], 0), (.getfield 11, [8, 0, 2, 127], 0), (.aload_n 0, [], 0), (.getfield 19, [8, 2, 0, 130], 0), (.iaload, [], 0)] = some 33 := by decide +kernel
theorem b_Tape_step_39 : mx_ck m_Tape_step 39 [(.aload_n 0, [], 0), (.aload_n 0, [], 0), (.getfield 19, [8, 2, 0, 130], 0), (.aload_n 0, [], 0), (.getfield 77, [8, 5, 0, 134], 0), (.isub, [], 0), (.iconst 2, [], nI 2)] = some 50 := by decide +kernel
theorem b_Tape_step_53 : mx_ck m_Tape_step 53 [(.aload_n 0, [], 0), (.getfield 35, [8, 4, 0, 132], 0), (.bipush 10, [], nI 10), (.imul, [], 0), (.aload_n 0, [], 0), (.getfield 11, [8, 0, 2, 127], 0), (.aload_n 0, [], 0), (.getfield 19, [8, 2, 0, 130], 0), (.iaload, [], 0), (.iadd, [], 0), (.bipush 48, [], nI 48), (.isub, [], 0)] = some 73 := by decide +kernel
theorem b_Tape_step_76 : mx_ck m_Tape_step 76 [(.aload_n 0, [], 0), (.getfield 35, [8, 4, 0, 132], 0)] = some 80 := by decide +kernel
theorem b_Tape_step_80 : mx_ck m_Tape_step 80 [(.putfield 35, [8, 4, 0, 132], 0), (.aload_n 0, [], 0), (.dup, [], 0), (.getfield 19, [8, 2, 0, 130], 0), (.iconst 1, [], nI 1), (.iadd, [], 0), (.putfield 19, [8, 2, 0, 130], 0)] = some 93 := by decide +kernel
theorem b_Tape_step_96 : mx_ck m_Tape_step 96 [(.aload_n 0, [], 0), (.getfield 19, [8, 2, 0, 130], 0), (.aload_n 0, [], 0), (.getfield 77, [8, 5, 0, 134], 0)] = some 104 := by decide +kernel
theorem b_Tape_step_107 : mx_ck m_Tape_step 107 [(.aload_n 0, [], 0), (.aload_n 0, [], 0), (.getfield 19, [8, 2, 0, 130], 0), (.aload_n 0, [], 0), (.getfield 77, [8, 5, 0, 134], 0), (.isub, [], 0), (.iconst 2, [], nI 2)] = some 118 := by decide +kernel
theorem b_Tape_step_121 : mx_ck m_Tape_step 121 [(.iconst (-1), [], (-1))] = some 122 := by decide +kernel
theorem b_Tape_step_125 : mx_ck m_Tape_step 125 [(.bipush (-3), [], (-3))] = some 127 := by decide +kernel
theorem b_Tape_step_127 : mx_ck m_Tape_step 127 [(.putfield 48, [8, 3, 0, 131], 0)] = some 130 := by decide +kernel
theorem b_Tape_step_133 : mx_ck m_Tape_step 133 [(.aload_n 0, [], 0), (.getfield 19, [8, 2, 0, 130], 0), (.aload_n 0, [], 0), (.getfield 15, [8, 1, 0, 128], 0)] = some 141 := by decide +kernel
theorem b_Tape_step_144 : mx_ck m_Tape_step 144 [(.aload_n 0, [], 0), (.bipush (-2), [], (-2)), (.putfield 48, [8, 3, 0, 131], 0)] = some 150 := by decide +kernel
theorem b_Tape_step_153 : mx_ck m_Tape_step 153 [(.aload_n 0, [], 0), (.getfield 11, [8, 0, 2, 127], 0), (.aload_n 0, [], 0), (.getfield 19, [8, 2, 0, 130], 0), (.iaload, [], 0), (.istore_n 1, [], 0), (.aload_n 0, [], 0), (.iload_n 1, [], 0), (.bipush 97, [], nI 97)] = some 167 := by decide +kernel
theorem b_Tape_step_170 : mx_ck m_Tape_step 170 [(.iload_n 1, [], 0), (.bipush 122, [], nI 122)] = some 173 := by decide +kernel
theorem b_Tape_step_176 : mx_ck m_Tape_step 176 [(.iload_n 1, [], 0), (.bipush 44, [], nI 44)] = some 179 := by decide +kernel
theorem b_Tape_step_182 : mx_ck m_Tape_step 182 [(.iload_n 1, [], 0), (.bipush 59, [], nI 59)] = some 185 := by decide +kernel
theorem b_Tape_step_188 : mx_ck m_Tape_step 188 [(.iload_n 1, [], 0)] = some 189 := by decide +kernel
theorem b_Tape_step_192 : mx_ck m_Tape_step 192 [(.bipush (-3), [], (-3))] = some 194 := by decide +kernel
theorem b_Tape_step_194 : mx_ck m_Tape_step 194 [(.putfield 48, [8, 3, 0, 131], 0), (.aload_n 0, [], 0), (.dup, [], 0), (.getfield 19, [8, 2, 0, 130], 0), (.iconst 1, [], nI 1), (.iadd, [], 0), (.putfield 19, [8, 2, 0, 130], 0)] = some 207 := by decide +kernel
theorem d_Tape_step_21 : decode m_Tape_step.2.1 21 = .ok (.if_icmp .ge 75, 3) := by decide +kernel
theorem d_Tape_step_33 : decode m_Tape_step.2.1 33 = .ok (.invokestatic 80, 3) := by decide +kernel
theorem c_Tape_step_33 : mx_cs m_Tape_step m_Tape_isFigure 80 1 [498, 499, 82, 500] = true := by decide +kernel
theorem d_Tape_step_36 : decode m_Tape_step.2.1 36 = .ok (.ifCond .eq 60, 3) := by decide +kernel
theorem d_Tape_step_50 : decode m_Tape_step.2.1 50 = .ok (.if_icmp .ge 26, 3) := by decide +kernel
theorem d_Tape_step_73 : decode m_Tape_step.2.1 73 = .ok (.goto 7, 3) := by decide +kernel
theorem d_Tape_step_93 : decode m_Tape_step.2.1 93 = .ok (.goto (-80), 3) := by decide +kernel
theorem d_Tape_step_104 : decode m_Tape_step.2.1 104 = .ok (.if_icmp .le 29, 3) := by decide +kernel
theorem d_Tape_step_118 : decode m_Tape_step.2.1 118 = .ok (.if_icmp .gt 7, 3) := by decide +kernel
theorem d_Tape_step_122 : decode m_Tape_step.2.1 122 = .ok (.goto 5, 3) := by decide +kernel
theorem d_Tape_step_130 : decode m_Tape_step.2.1 130 = .ok (.goto 77, 3) := by decide +kernel
theorem d_Tape_step_141 : decode m_Tape_step.2.1 141 = .ok (.if_icmp .lt 12, 3) := by decide +kernel
theorem d_Tape_step_150 : decode m_Tape_step.2.1 150 = .ok (.goto 57, 3) := by decide +kernel
theorem d_Tape_step_167 : decode m_Tape_step.2.1 167 = .ok (.if_icmp .lt 9, 3) := by decide +kernel
theorem d_Tape_step_173 : decode m_Tape_step.2.1 173 = .ok (.if_icmp .le 15, 3) := by decide +kernel
theorem d_Tape_step_179 : decode m_Tape_step.2.1 179 = .ok (.if_icmp .eq 9, 3) := by decide +kernel
theorem d_Tape_step_185 : decode m_Tape_step.2.1 185 = .ok (.if_icmp .ne 7, 3) := by decide +kernel
theorem d_Tape_step_189 : decode m_Tape_step.2.1 189 = .ok (.goto 5, 3) := by decide +kernel
theorem d_Tape_step_207 : decode m_Tape_step.2.1 207 = .ok (.return_, 1) := by decide +kernel
theorem b_Tape_takesNumber_0 : mx_ck m_Tape_takesNumber 0 [(.aload_n 0, [], 0)] = some 1 := by decide +kernel
theorem b_Tape_takesNumber_4 : mx_ck m_Tape_takesNumber 4 [(.aload_n 0, [], 0), (.getfield 48, [8, 3, 0, 131], 0), (.iconst (-1), [], (-1))] = some 9 := by decide +kernel
theorem b_Tape_takesNumber_12 : mx_ck m_Tape_takesNumber 12 [(.aload_n 0, [], 0), (.iconst 1, [], nI 1)] = some 14 := by decide +kernel
theorem b_Tape_takesNumber_18 : mx_ck m_Tape_takesNumber 18 [(.aload_n 0, [], 0), (.getfield 35, [8, 4, 0, 132], 0), (.iload_n 1, [], 0)] = some 23 := by decide +kernel
theorem b_Tape_takesNumber_26 : mx_ck m_Tape_takesNumber 26 [(.aload_n 0, [], 0), (.getfield 35, [8, 4, 0, 132], 0), (.iload_n 2, [], 0)] = some 31 := by decide +kernel
theorem b_Tape_takesNumber_34 : mx_ck m_Tape_takesNumber 34 [(.aload_n 0, [], 0), (.iconst 2, [], nI 2)] = some 36 := by decide +kernel
theorem b_Tape_takesNumber_42 : mx_ck m_Tape_takesNumber 42 [(.iconst 1, [], nI 1)] = some 43 := by decide +kernel
theorem b_Tape_takesNumber_46 : mx_ck m_Tape_takesNumber 46 [(.iconst 0, [], nI 0)] = some 47 := by decide +kernel
theorem d_Tape_takesNumber_1 : decode m_Tape_takesNumber.2.1 1 = .ok (.invokevirtual 45, 3) := by decide +kernel
theorem c_Tape_takesNumber_1 : mx_cv m_Tape_takesNumber m_Tape_step 45 0 [494, 496, 2, 82, 497] = true := by decide +kernel
theorem d_Tape_takesNumber_9 : decode m_Tape_takesNumber.2.1 9 = .ok (.if_icmp .eq 9, 3) := by decide +kernel
theorem d_Tape_takesNumber_14 : decode m_Tape_takesNumber.2.1 14 = .ok (.invokevirtual 55, 3) := by decide +kernel
theorem c_Tape_takesNumber_14 : mx_cv m_Tape_takesNumber m_Tape_fails 55 1 [501, 503, 3, 82, 504] = true := by decide +kernel
theorem d_Tape_takesNumber_17 : decode m_Tape_takesNumber.2.1 17 = .ok (.ireturn, 1) := by decide +kernel
theorem d_Tape_takesNumber_23 : decode m_Tape_takesNumber.2.1 23 = .ok (.if_icmp .lt 11, 3) := by decide +kernel
theorem d_Tape_takesNumber_31 : decode m_Tape_takesNumber.2.1 31 = .ok (.if_icmp .le 11, 3) := by decide +kernel
theorem d_Tape_takesNumber_36 : decode m_Tape_takesNumber.2.1 36 = .ok (.invokevirtual 55, 3) := by decide +kernel
theorem c_Tape_takesNumber_36 : mx_cv m_Tape_takesNumber m_Tape_fails 55 1 [501, 503, 3, 82, 504] = true := by decide +kernel
theorem d_Tape_takesNumber_39 : decode m_Tape_takesNumber.2.1 39 = .ok (.ifCond .eq 7, 3) := by decide +kernel
theorem d_Tape_takesNumber_43 : decode m_Tape_takesNumber.2.1 43 = .ok (.goto 4, 3) := by decide +kernel
theorem d_Tape_takesNumber_47 : decode m_Tape_takesNumber.2.1 47 = .ok (.ireturn, 1) := by decide +kernel
theorem b_Tape_takesSign_0 : mx_ck m_Tape_takesSign 0 [(.aload_n 0, [], 0)] = some 1 := by decide +kernel
theorem b_Tape_takesSign_4 : mx_ck m_Tape_takesSign 4 [(.aload_n 0, [], 0), (.getfield 48, [8, 3, 0, 131], 0), (.iload_n 1, [], 0)] = some 9 := by decide +kernel
theorem b_Tape_takesSign_12 : mx_ck m_Tape_takesSign 12 [(.aload_n 0, [], 0), (.iconst 1, [], nI 1)] = some 14 := by decide +kernel
theorem b_Tape_takesSign_20 : mx_ck m_Tape_takesSign 20 [(.iconst 1, [], nI 1)] = some 21 := by decide +kernel
theorem b_Tape_takesSign_24 : mx_ck m_Tape_takesSign 24 [(.iconst 0, [], nI 0)] = some 25 := by decide +kernel
theorem d_Tape_takesSign_1 : decode m_Tape_takesSign.2.1 1 = .ok (.invokevirtual 45, 3) := by decide +kernel
theorem c_Tape_takesSign_1 : mx_cv m_Tape_takesSign m_Tape_step 45 0 [494, 496, 2, 82, 497] = true := by decide +kernel
theorem d_Tape_takesSign_9 : decode m_Tape_takesSign.2.1 9 = .ok (.if_icmp .eq 11, 3) := by decide +kernel
theorem d_Tape_takesSign_14 : decode m_Tape_takesSign.2.1 14 = .ok (.invokevirtual 55, 3) := by decide +kernel
theorem c_Tape_takesSign_14 : mx_cv m_Tape_takesSign m_Tape_fails 55 1 [501, 503, 3, 82, 504] = true := by decide +kernel
theorem d_Tape_takesSign_17 : decode m_Tape_takesSign.2.1 17 = .ok (.ifCond .eq 7, 3) := by decide +kernel
theorem d_Tape_takesSign_21 : decode m_Tape_takesSign.2.1 21 = .ok (.goto 4, 3) := by decide +kernel
theorem d_Tape_takesSign_25 : decode m_Tape_takesSign.2.1 25 = .ok (.ireturn, 1) := by decide +kernel
theorem b_bitCount_0 : mx_ck m_bitCount 0 [(.iload_n 0, [], 0), (.iload_n 0, [], 0), (.iconst 1, [], nI 1), (.iushr, [], 0), (.ldc_w 265, [827], nI 1431655765), (.iand, [], 0), (.isub, [], 0), (.istore_n 0, [], 0), (.iload_n 0, [], 0), (.ldc_w 266, [828], nI 858993459), (.iand, [], 0), (.iload_n 0, [], 0), (.iconst 2, [], nI 2), (.iushr, [], 0), (.ldc_w 266, [828], nI 858993459), (.iand, [], 0), (.iadd, [], 0), (.istore_n 0, [], 0), (.iload_n 0, [], 0), (.iload_n 0, [], 0), (.iconst 4, [], nI 4), (.iushr, [], 0), (.iadd, [], 0), (.ldc_w 267, [829], nI 252645135), (.iand, [], 0), (.istore_n 0, [], 0), (.iload_n 0, [], 0), (.iload_n 0, [], 0), (.bipush 8, [], nI 8), (.iushr, [], 0), (.iadd, [], 0), (.istore_n 0, [], 0), (.iload_n 0, [], 0), (.iload_n 0, [], 0), (.bipush 16, [], nI 16), (.iushr, [], 0), (.iadd, [], 0), (.istore_n 0, [], 0), (.iload_n 0, [], 0), (.bipush 63, [], nI 63), (.iand, [], 0)] = some 52 := by decide +kernel
theorem d_bitCount_52 : decode m_bitCount.2.1 52 = .ok (.ireturn, 1) := by decide +kernel
theorem b_fill_0 : mx_ck m_fill 0 [(.iconst 0, [], nI 0), (.istore_n 2, [], 0), (.aload_n 0, [], 0), (.arraylength, [], 0), (.istore_n 3, [], 0)] = some 5 := by decide +kernel
theorem b_fill_5 : mx_ck m_fill 5 [(.iload_n 2, [], 0), (.iload_n 3, [], 0)] = some 7 := by decide +kernel
theorem b_fill_10 : mx_ck m_fill 10 [(.aload_n 0, [], 0), (.iload_n 2, [], 0), (.iload_n 1, [], 0), (.iastore, [], 0), (.iinc 2 1, [], nI 1)] = some 17 := by decide +kernel
theorem d_fill_7 : decode m_fill.2.1 7 = .ok (.if_icmp .ge 13, 3) := by decide +kernel
theorem d_fill_17 : decode m_fill.2.1 17 = .ok (.goto (-12), 3) := by decide +kernel
theorem d_fill_20 : decode m_fill.2.1 20 = .ok (.return_, 1) := by decide +kernel
