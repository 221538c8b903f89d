theorem b_TS_anew_0 : mx_ck m_TS_anew 0 [(.aload_n 0, [], 0), (.getfield 26, [9, 2, 8, 377], 0), (.iload_n 1, [], 0), (.iload_n 2, [], 0), (.iload_n 3, [], 0), (.iload 4, [], 0)] = some 9 := by decide +kernel
theorem b_TS_anew_15 : mx_ck m_TS_anew 15 [(.ldc 77, [428], (-1000001))] = some 17 := by decide +kernel
theorem b_TS_anew_18 : mx_ck m_TS_anew 18 [(.aload_n 0, [], 0), (.getfield 26, [9, 2, 8, 377], 0), (.getfield 145, [3, 0, 2, 161], 0), (.iload_n 1, [], 0), (.iaload, [], 0), (.istore 5, [], 0), (.aload_n 0, [], 0), (.getfield 42, [9, 6, 24, 381], 0), (.aload_n 0, [], 0), (.getfield 26, [9, 2, 8, 377], 0), (.iload_n 1, [], 0)] = some 38 := by decide +kernel
theorem b_TS_anew_41 : mx_ck m_TS_anew 41 [(.aload_n 0, [], 0), (.getfield 26, [9, 2, 8, 377], 0), (.iload_n 1, [], 0), (.iload_n 2, [], 0), (.iload_n 3, [], 0), (.iload 4, [], 0)] = some 50 := by decide +kernel
theorem b_TS_anew_53 : mx_ck m_TS_anew 53 [(.aload_n 0, [], 0)] = some 54 := by decide +kernel
theorem b_TS_anew_57 : mx_ck m_TS_anew 57 [(.iload 5, [], 0)] = some 59 := by decide +kernel
theorem d_TS_anew_9 : decode m_TS_anew.2.1 9 = .ok (.invokevirtual 141, 3) := by decide +kernel
theorem c_TS_anew_9 : mx_cv m_TS_anew m_House_mayStand 141 4 [571, 518, 519, 83, 520] = true := by decide +kernel
theorem d_TS_anew_12 : decode m_TS_anew.2.1 12 = .ok (.ifCond .ne 6, 3) := by decide +kernel
theorem d_TS_anew_17 : decode m_TS_anew.2.1 17 = .ok (.ireturn, 1) := by decide +kernel
theorem d_TS_anew_38 : decode m_TS_anew.2.1 38 = .ok (.invokevirtual 149, 3) := by decide +kernel
theorem c_TS_anew_38 : mx_cv m_TS_anew m_Acts_keep 149 2 [572, 573, 574, 84, 575] = true := by decide +kernel
theorem d_TS_anew_50 : decode m_TS_anew.2.1 50 = .ok (.invokevirtual 153, 3) := by decide +kernel
theorem c_TS_anew_50 : mx_cv m_TS_anew m_House_tell 153 4 [581, 536, 537, 83, 538] = true := by decide +kernel
theorem d_TS_anew_54 : decode m_TS_anew.2.1 54 = .ok (.invokevirtual 138, 3) := by decide +kernel
theorem c_TS_anew_54 : mx_cv m_TS_anew m_TS_forgetWhatStood 138 0 [549, 551, 8, 79, 552] = true := by decide +kernel
theorem d_TS_anew_59 : decode m_TS_anew.2.1 59 = .ok (.ireturn, 1) := by decide +kernel
theorem b_TS_answers_0 : mx_ck m_TS_answers 0 [(.aload_n 0, [], 0), (.getfield 26, [9, 2, 8, 377], 0), (.iload_n 1, [], 0)] = some 5 := by decide +kernel
theorem b_TS_answers_11 : mx_ck m_TS_answers 11 [(.aload_n 0, [], 0), (.getfield 26, [9, 2, 8, 377], 0), (.iload_n 2, [], 0)] = some 16 := by decide +kernel
theorem b_TS_answers_22 : mx_ck m_TS_answers 22 [(.aload_n 0, [], 0)] = some 23 := by decide +kernel
theorem b_TS_answers_26 : mx_ck m_TS_answers 26 [(.iload_n 1, [], 0), (.iload_n 2, [], 0)] = some 28 := by decide +kernel
theorem b_TS_answers_34 : mx_ck m_TS_answers 34 [(.ldc 77, [428], (-1000001))] = some 36 := by decide +kernel
theorem d_TS_answers_5 : decode m_TS_answers.2.1 5 = .ok (.invokevirtual 157, 3) := by decide +kernel
theorem c_TS_answers_5 : mx_cv m_TS_answers m_House_has 157 1 [586, 522, 523, 83, 524] = true := by decide +kernel
theorem d_TS_answers_8 : decode m_TS_answers.2.1 8 = .ok (.ifCond .eq 26, 3) := by decide +kernel
theorem d_TS_answers_16 : decode m_TS_answers.2.1 16 = .ok (.invokevirtual 157, 3) := by decide +kernel
theorem c_TS_answers_16 : mx_cv m_TS_answers m_House_has 157 1 [586, 522, 523, 83, 524] = true := by decide +kernel
theorem d_TS_answers_19 : decode m_TS_answers.2.1 19 = .ok (.ifCond .eq 15, 3) := by decide +kernel
theorem d_TS_answers_23 : decode m_TS_answers.2.1 23 = .ok (.invokevirtual 173, 3) := by decide +kernel
theorem c_TS_answers_23 : mx_cv m_TS_answers m_TS_cellsNow 173 0 [603, 605, 10, 79, 606] = true := by decide +kernel
theorem d_TS_answers_28 : decode m_TS_answers.2.1 28 = .ok (.invokevirtual 209, 3) := by decide +kernel
theorem c_TS_answers_28 : mx_cv m_TS_answers m_Cells_holdingAnswers 209 2 [719, 720, 721, 85, 722] = true := by decide +kernel
theorem d_TS_answers_31 : decode m_TS_answers.2.1 31 = .ok (.goto 5, 3) := by decide +kernel
theorem d_TS_answers_36 : decode m_TS_answers.2.1 36 = .ok (.ireturn, 1) := by decide +kernel
theorem b_TS_as_0 : mx_ck m_TS_as 0 [(.aload_n 0, [], 0), (.getfield 26, [9, 2, 8, 377], 0), (.iload_n 1, [], 0)] = some 5 := by decide +kernel
theorem b_TS_as_11 : mx_ck m_TS_as 11 [(.iload_n 2, [], 0)] = some 12 := by decide +kernel
theorem b_TS_as_15 : mx_ck m_TS_as 15 [(.iload_n 2, [], 0), (.iconst 5, [], nI 5)] = some 17 := by decide +kernel
theorem b_TS_as_20 : mx_ck m_TS_as 20 [(.ldc 77, [428], (-1000001))] = some 22 := by decide +kernel
theorem b_TS_as_23 : mx_ck m_TS_as 23 [(.aload_n 0, [], 0), (.aload_n 0, [], 0), (.getfield 26, [9, 2, 8, 377], 0), (.getfield 145, [3, 0, 2, 161], 0), (.iload_n 1, [], 0), (.iaload, [], 0)] = some 33 := by decide +kernel
theorem b_TS_as_36 : mx_ck m_TS_as 36 [(.iload_n 2, [], 0)] = some 37 := by decide +kernel
theorem b_TS_as_43 : mx_ck m_TS_as 43 [(.iconst 0, [], nI 0)] = some 44 := by decide +kernel
theorem b_TS_as_47 : mx_ck m_TS_as 47 [(.iconst 3, [], nI 3)] = some 48 := by decide +kernel
theorem b_TS_as_48 : mx_ck m_TS_as 48 [(.putfield 78, [9, 13, 0, 388], 0), (.aload_n 0, [], 0), (.getfield 78, [9, 13, 0, 388], 0)] = some 55 := by decide +kernel
theorem b_TS_as_58 : mx_ck m_TS_as 58 [(.ldc 82, [429], (-1000010)), (.aload_n 0, [], 0), (.getfield 78, [9, 13, 0, 388], 0), (.isub, [], 0)] = some 65 := by decide +kernel
theorem b_TS_as_68 : mx_ck m_TS_as 68 [(.iload_n 1, [], 0)] = some 69 := by decide +kernel
theorem d_TS_as_5 : decode m_TS_as.2.1 5 = .ok (.invokevirtual 157, 3) := by decide +kernel
theorem c_TS_as_5 : mx_cv m_TS_as m_House_has 157 1 [586, 522, 523, 83, 524] = true := by decide +kernel
theorem d_TS_as_8 : decode m_TS_as.2.1 8 = .ok (.ifCond .eq 12, 3) := by decide +kernel
theorem d_TS_as_12 : decode m_TS_as.2.1 12 = .ok (.ifCond .lt 8, 3) := by decide +kernel
theorem d_TS_as_17 : decode m_TS_as.2.1 17 = .ok (.if_icmp .le 6, 3) := by decide +kernel
theorem d_TS_as_22 : decode m_TS_as.2.1 22 = .ok (.ireturn, 1) := by decide +kernel
theorem d_TS_as_33 : decode m_TS_as.2.1 33 = .ok (.invokestatic 262, 3) := by decide +kernel
theorem c_TS_as_33 : mx_cs m_TS_as m_Asks_kindOf 262 1 [846, 847, 89, 848] = true := by decide +kernel
theorem d_TS_as_37 : decode m_TS_as.2.1 37 = .ok (.invokestatic 265, 3) := by decide +kernel
theorem c_TS_as_37 : mx_cs m_TS_as m_Asks_isOne 265 2 [853, 854, 89, 855] = true := by decide +kernel
theorem d_TS_as_40 : decode m_TS_as.2.1 40 = .ok (.ifCond .eq 7, 3) := by decide +kernel
theorem d_TS_as_44 : decode m_TS_as.2.1 44 = .ok (.goto 4, 3) := by decide +kernel
theorem d_TS_as_55 : decode m_TS_as.2.1 55 = .ok (.ifCond .eq 13, 3) := by decide +kernel
theorem d_TS_as_65 : decode m_TS_as.2.1 65 = .ok (.goto 4, 3) := by decide +kernel
theorem d_TS_as_69 : decode m_TS_as.2.1 69 = .ok (.ireturn, 1) := by decide +kernel
theorem b_TS_ask_0 : mx_ck m_TS_ask 0 [(.aload_n 0, [], 0), (.getfield 26, [9, 2, 8, 377], 0), (.iload_n 1, [], 0)] = some 5 := by decide +kernel
theorem b_TS_ask_11 : mx_ck m_TS_ask 11 [(.iload_n 2, [], 0)] = some 12 := by decide +kernel
theorem b_TS_ask_15 : mx_ck m_TS_ask 15 [(.iload_n 2, [], 0), (.iconst 1, [], nI 1)] = some 17 := by decide +kernel
theorem b_TS_ask_20 : mx_ck m_TS_ask 20 [(.ldc 77, [428], (-1000001))] = some 22 := by decide +kernel
theorem b_TS_ask_23 : mx_ck m_TS_ask 23 [(.aload_n 0, [], 0), (.getfield 66, [9, 10, 118, 385], 0), (.aload_n 0, [], 0), (.getfield 26, [9, 2, 8, 377], 0), (.iload_n 1, [], 0)] = some 32 := by decide +kernel
theorem b_TS_ask_35 : mx_ck m_TS_ask 35 [(.iload_n 2, [], 0)] = some 36 := by decide +kernel
theorem b_TS_ask_39 : mx_ck m_TS_ask 39 [(.aload_n 0, [], 0), (.getfield 66, [9, 10, 118, 385], 0)] = some 43 := by decide +kernel
theorem b_TS_ask_49 : mx_ck m_TS_ask 49 [(.aload_n 0, [], 0), (.getfield 66, [9, 10, 118, 385], 0)] = some 53 := by decide +kernel
theorem d_TS_ask_5 : decode m_TS_ask.2.1 5 = .ok (.invokevirtual 157, 3) := by decide +kernel
theorem c_TS_ask_5 : mx_cv m_TS_ask m_House_has 157 1 [586, 522, 523, 83, 524] = true := by decide +kernel
theorem d_TS_ask_8 : decode m_TS_ask.2.1 8 = .ok (.ifCond .eq 12, 3) := by decide +kernel
theorem d_TS_ask_12 : decode m_TS_ask.2.1 12 = .ok (.ifCond .lt 8, 3) := by decide +kernel
theorem d_TS_ask_17 : decode m_TS_ask.2.1 17 = .ok (.if_icmp .le 6, 3) := by decide +kernel
theorem d_TS_ask_22 : decode m_TS_ask.2.1 22 = .ok (.ireturn, 1) := by decide +kernel
theorem d_TS_ask_32 : decode m_TS_ask.2.1 32 = .ok (.invokevirtual 269, 3) := by decide +kernel
theorem c_TS_ask_32 : mx_cv m_TS_ask m_Asks_begin 269 2 [860, 861, 862, 89, 863] = true := by decide +kernel
theorem d_TS_ask_36 : decode m_TS_ask.2.1 36 = .ok (.ifCond .ne 13, 3) := by decide +kernel
theorem d_TS_ask_43 : decode m_TS_ask.2.1 43 = .ok (.invokevirtual 272, 3) := by decide +kernel
theorem c_TS_ask_43 : mx_cv m_TS_ask m_Asks_sizeOfOne 272 0 [865, 866, 867, 89, 868] = true := by decide +kernel
theorem d_TS_ask_46 : decode m_TS_ask.2.1 46 = .ok (.goto 10, 3) := by decide +kernel
theorem d_TS_ask_53 : decode m_TS_ask.2.1 53 = .ok (.invokevirtual 275, 3) := by decide +kernel
theorem c_TS_ask_53 : mx_cv m_TS_ask m_Asks_markOfOne 275 0 [909, 910, 911, 89, 912] = true := by decide +kernel
theorem d_TS_ask_56 : decode m_TS_ask.2.1 56 = .ok (.ireturn, 1) := by decide +kernel
theorem b_TS_askable_0 : mx_ck m_TS_askable 0 [(.aload_n 0, [], 0), (.getfield 26, [9, 2, 8, 377], 0), (.iload_n 1, [], 0)] = some 5 := by decide +kernel
theorem b_TS_askable_11 : mx_ck m_TS_askable 11 [(.aload_n 0, [], 0)] = some 12 := by decide +kernel
theorem b_TS_askable_15 : mx_ck m_TS_askable 15 [(.iload_n 1, [], 0)] = some 16 := by decide +kernel
theorem b_TS_askable_22 : mx_ck m_TS_askable 22 [(.ldc 77, [428], (-1000001))] = some 24 := by decide +kernel
theorem d_TS_askable_5 : decode m_TS_askable.2.1 5 = .ok (.invokevirtual 157, 3) := by decide +kernel
theorem c_TS_askable_5 : mx_cv m_TS_askable m_House_has 157 1 [586, 522, 523, 83, 524] = true := by decide +kernel
theorem d_TS_askable_8 : decode m_TS_askable.2.1 8 = .ok (.ifCond .eq 14, 3) := by decide +kernel
theorem d_TS_askable_12 : decode m_TS_askable.2.1 12 = .ok (.invokevirtual 173, 3) := by decide +kernel
theorem c_TS_askable_12 : mx_cv m_TS_askable m_TS_cellsNow 173 0 [603, 605, 10, 79, 606] = true := by decide +kernel
theorem d_TS_askable_16 : decode m_TS_askable.2.1 16 = .ok (.invokevirtual 212, 3) := by decide +kernel
theorem c_TS_askable_16 : mx_cv m_TS_askable m_Cells_alwaysAnswered 212 1 [735, 736, 737, 85, 738] = true := by decide +kernel
theorem d_TS_askable_19 : decode m_TS_askable.2.1 19 = .ok (.goto 5, 3) := by decide +kernel
theorem d_TS_askable_24 : decode m_TS_askable.2.1 24 = .ok (.ireturn, 1) := by decide +kernel
theorem b_TS_cellAt_0 : mx_ck m_TS_cellAt 0 [(.aload_n 0, [], 0), (.getfield 26, [9, 2, 8, 377], 0)] = some 4 := by decide +kernel
theorem b_TS_cellAt_10 : mx_ck m_TS_cellAt 10 [(.ldc 134, [561], (-1000002))] = some 12 := by decide +kernel
theorem b_TS_cellAt_13 : mx_ck m_TS_cellAt 13 [(.iload_n 1, [], 0), (.iconst (-1), [], (-1))] = some 15 := by decide +kernel
theorem b_TS_cellAt_18 : mx_ck m_TS_cellAt 18 [(.ldc 77, [428], (-1000001))] = some 20 := by decide +kernel
theorem b_TS_cellAt_21 : mx_ck m_TS_cellAt 21 [(.iload_n 1, [], 0), (.iconst (-1), [], (-1))] = some 23 := by decide +kernel
theorem b_TS_cellAt_26 : mx_ck m_TS_cellAt 26 [(.aload_n 0, [], 0)] = some 27 := by decide +kernel
theorem b_TS_cellAt_30 : mx_ck m_TS_cellAt 30 [(.getfield 197, [2, 6, 6, 276], 0), (.getfield 201, [6, 2, 0, 236], 0)] = some 36 := by decide +kernel
theorem b_TS_cellAt_39 : mx_ck m_TS_cellAt 39 [(.aload_n 0, [], 0)] = some 40 := by decide +kernel
theorem b_TS_cellAt_43 : mx_ck m_TS_cellAt 43 [(.iload_n 1, [], 0)] = some 44 := by decide +kernel
theorem d_TS_cellAt_4 : decode m_TS_cellAt.2.1 4 = .ok (.invokevirtual 166, 3) := by decide +kernel
theorem c_TS_cellAt_4 : mx_cv m_TS_cellAt m_House_isNone 166 0 [591, 592, 593, 83, 594] = true := by decide +kernel
theorem d_TS_cellAt_7 : decode m_TS_cellAt.2.1 7 = .ok (.ifCond .eq 6, 3) := by decide +kernel
theorem d_TS_cellAt_12 : decode m_TS_cellAt.2.1 12 = .ok (.ireturn, 1) := by decide +kernel
theorem d_TS_cellAt_15 : decode m_TS_cellAt.2.1 15 = .ok (.if_icmp .ge 6, 3) := by decide +kernel
theorem d_TS_cellAt_20 : decode m_TS_cellAt.2.1 20 = .ok (.ireturn, 1) := by decide +kernel
theorem d_TS_cellAt_23 : decode m_TS_cellAt.2.1 23 = .ok (.if_icmp .ne 16, 3) := by decide +kernel
theorem d_TS_cellAt_27 : decode m_TS_cellAt.2.1 27 = .ok (.invokevirtual 173, 3) := by decide +kernel
theorem c_TS_cellAt_27 : mx_cv m_TS_cellAt m_TS_cellsNow 173 0 [603, 605, 10, 79, 606] = true := by decide +kernel
theorem d_TS_cellAt_36 : decode m_TS_cellAt.2.1 36 = .ok (.goto 11, 3) := by decide +kernel
theorem d_TS_cellAt_40 : decode m_TS_cellAt.2.1 40 = .ok (.invokevirtual 173, 3) := by decide +kernel
theorem c_TS_cellAt_40 : mx_cv m_TS_cellAt m_TS_cellsNow 173 0 [603, 605, 10, 79, 606] = true := by decide +kernel
theorem d_TS_cellAt_44 : decode m_TS_cellAt.2.1 44 = .ok (.invokevirtual 206, 3) := by decide +kernel
theorem c_TS_cellAt_44 : mx_cv m_TS_cellAt m_Cells_inOrder 206 1 [711, 712, 713, 85, 714] = true := by decide +kernel
theorem d_TS_cellAt_47 : decode m_TS_cellAt.2.1 47 = .ok (.ireturn, 1) := by decide +kernel
theorem b_TS_cellsNow_0 : mx_ck m_TS_cellsNow 0 [(.aload_n 0, [], 0), (.getfield 291, [9, 11, 0, 386], 0)] = some 4 := by decide +kernel
theorem b_TS_cellsNow_7 : mx_ck m_TS_cellsNow 7 [(.aload_n 0, [], 0), (.getfield 49, [9, 7, 29, 382], 0), (.aload_n 0, [], 0), (.getfield 26, [9, 2, 8, 377], 0)] = some 15 := by decide +kernel
theorem b_TS_cellsNow_18 : mx_ck m_TS_cellsNow 18 [(.aload_n 0, [], 0), (.iconst 1, [], nI 1), (.putfield 291, [9, 11, 1, 386], 0)] = some 23 := by decide +kernel
theorem b_TS_cellsNow_23 : mx_ck m_TS_cellsNow 23 [(.aload_n 0, [], 0), (.getfield 49, [9, 7, 29, 382], 0)] = some 27 := by decide +kernel
theorem d_TS_cellsNow_4 : decode m_TS_cellsNow.2.1 4 = .ok (.ifCond .ne 19, 3) := by decide +kernel
theorem d_TS_cellsNow_15 : decode m_TS_cellsNow.2.1 15 = .ok (.invokevirtual 250, 3) := by decide +kernel
theorem c_TS_cellsNow_15 : mx_cv m_TS_cellsNow m_Cells_measure 250 1 [607, 608, 609, 85, 610] = true := by decide +kernel
theorem d_TS_cellsNow_27 : decode m_TS_cellsNow.2.1 27 = .ok (.areturn, 1) := by decide +kernel
theorem b_TS_copy_0 : mx_ck m_TS_copy 0 [(.iload_n 1, [], 0)] = some 1 := by decide +kernel
theorem b_TS_copy_7 : mx_ck m_TS_copy 7 [(.iload_n 3, [], 0)] = some 8 := by decide +kernel
theorem b_TS_copy_14 : mx_ck m_TS_copy 14 [(.ldc 77, [428], (-1000001))] = some 16 := by decide +kernel
theorem b_TS_copy_17 : mx_ck m_TS_copy 17 [(.aload_n 0, [], 0), (.aload_n 0, [], 0), (.getfield 10, [9, 0, 2, 375], 0), (.iload_n 1, [], 0), (.iload_n 2, [], 0), (.iload_n 3, [], 0), (.iload 4, [], 0), (.iload 5, [], 0)] = some 29 := by decide +kernel
theorem b_TS_copy_32 : mx_ck m_TS_copy 32 [(.putfield 78, [9, 13, 0, 388], 0), (.aload_n 0, [], 0), (.getfield 78, [9, 13, 0, 388], 0)] = some 39 := by decide +kernel
theorem b_TS_copy_42 : mx_ck m_TS_copy 42 [(.ldc 82, [429], (-1000010)), (.aload_n 0, [], 0), (.getfield 78, [9, 13, 0, 388], 0), (.isub, [], 0)] = some 49 := by decide +kernel
theorem b_TS_copy_50 : mx_ck m_TS_copy 50 [(.aload_n 0, [], 0), (.getfield 10, [9, 0, 2, 375], 0), (.iload_n 1, [], 0), (.iload_n 2, [], 0), (.iload_n 3, [], 0), (.iload 4, [], 0), (.iload 5, [], 0)] = some 61 := by decide +kernel
theorem b_TS_copy_64 : mx_ck m_TS_copy 64 [(.iload 5, [], 0)] = some 66 := by decide +kernel
theorem d_TS_copy_1 : decode m_TS_copy.2.1 1 = .ok (.invokestatic 70, 3) := by decide +kernel
theorem c_TS_copy_1 : mx_cs m_TS_copy m_Rows_isNumber 70 1 [422, 423, 80, 424] = true := by decide +kernel
theorem d_TS_copy_4 : decode m_TS_copy.2.1 4 = .ok (.ifCond .eq 10, 3) := by decide +kernel
theorem d_TS_copy_8 : decode m_TS_copy.2.1 8 = .ok (.invokestatic 70, 3) := by decide +kernel
theorem c_TS_copy_8 : mx_cs m_TS_copy m_Rows_isNumber 70 1 [422, 423, 80, 424] = true := by decide +kernel
theorem d_TS_copy_11 : decode m_TS_copy.2.1 11 = .ok (.ifCond .ne 6, 3) := by decide +kernel
theorem d_TS_copy_16 : decode m_TS_copy.2.1 16 = .ok (.ireturn, 1) := by decide +kernel
theorem d_TS_copy_29 : decode m_TS_copy.2.1 29 = .ok (.invokevirtual 94, 3) := by decide +kernel
theorem c_TS_copy_29 : mx_cv m_TS_copy m_Rows_findingOfMove 94 5 [454, 455, 456, 80, 457] = true := by decide +kernel
theorem d_TS_copy_39 : decode m_TS_copy.2.1 39 = .ok (.ifCond .eq 11, 3) := by decide +kernel
theorem d_TS_copy_49 : decode m_TS_copy.2.1 49 = .ok (.ireturn, 1) := by decide +kernel
theorem d_TS_copy_61 : decode m_TS_copy.2.1 61 = .ok (.invokevirtual 98, 3) := by decide +kernel
theorem c_TS_copy_61 : mx_cv m_TS_copy m_Rows_move 98 5 [458, 459, 460, 80, 461] = true := by decide +kernel
theorem d_TS_copy_66 : decode m_TS_copy.2.1 66 = .ok (.ireturn, 1) := by decide +kernel
theorem b_TS_count_0 : mx_ck m_TS_count 0 [(.iload_n 1, [], 0)] = some 1 := by decide +kernel
theorem b_TS_count_40 : mx_ck m_TS_count 40 [(.aload_n 0, [], 0), (.getfield 10, [9, 0, 2, 375], 0)] = some 44 := by decide +kernel
theorem b_TS_count_48 : mx_ck m_TS_count 48 [(.aload_n 0, [], 0), (.getfield 26, [9, 2, 8, 377], 0), (.getfield 125, [3, 3, 0, 172], 0)] = some 55 := by decide +kernel
theorem b_TS_count_56 : mx_ck m_TS_count 56 [(.aload_n 0, [], 0), (.getfield 26, [9, 2, 8, 377], 0), (.getfield 288, [3, 4, 0, 178], 0)] = some 63 := by decide +kernel
theorem b_TS_count_64 : mx_ck m_TS_count 64 [(.aload_n 0, [], 0)] = some 65 := by decide +kernel
theorem b_TS_count_75 : mx_ck m_TS_count 75 [(.aload_n 0, [], 0), (.getfield 42, [9, 6, 24, 381], 0), (.getfield 131, [0, 4, 0, 201], 0)] = some 82 := by decide +kernel
theorem b_TS_count_83 : mx_ck m_TS_count 83 [(.aload_n 0, [], 0), (.getfield 19, [9, 1, 6, 376], 0), (.getfield 109, [8, 1, 0, 129], 0)] = some 90 := by decide +kernel
theorem b_TS_count_91 : mx_ck m_TS_count 91 [(.ldc 77, [428], (-1000001))] = some 93 := by decide +kernel
theorem d_TS_count_1 : decode m_TS_count.2.1 1 = .ok (.tableswitch 90 0 5 #[39, 47, 55, 63, 74, 82], 39) := by decide +kernel
theorem d_TS_count_44 : decode m_TS_count.2.1 44 = .ok (.invokevirtual 285, 3) := by decide +kernel
theorem c_TS_count_44 : mx_cv m_TS_count m_Rows_present 285 0 [926, 927, 928, 80, 929] = true := by decide +kernel
theorem d_TS_count_47 : decode m_TS_count.2.1 47 = .ok (.ireturn, 1) := by decide +kernel
theorem d_TS_count_55 : decode m_TS_count.2.1 55 = .ok (.ireturn, 1) := by decide +kernel
theorem d_TS_count_63 : decode m_TS_count.2.1 63 = .ok (.ireturn, 1) := by decide +kernel
theorem d_TS_count_65 : decode m_TS_count.2.1 65 = .ok (.invokevirtual 173, 3) := by decide +kernel
theorem c_TS_count_65 : mx_cv m_TS_count m_TS_cellsNow 173 0 [603, 605, 10, 79, 606] = true := by decide +kernel
theorem d_TS_count_68 : decode m_TS_count.2.1 68 = .ok (.invokevirtual 194, 3) := by decide +kernel
theorem c_TS_count_68 : mx_cv m_TS_count m_Cells_withoutValue 194 0 [703, 704, 705, 85, 706] = true := by decide +kernel
theorem d_TS_count_71 : decode m_TS_count.2.1 71 = .ok (.invokestatic 253, 3) := by decide +kernel
theorem c_TS_count_71 : mx_cs m_TS_count m_bitCount 253 1 [824, 825, 92, 826] = true := by decide +kernel
theorem d_TS_count_74 : decode m_TS_count.2.1 74 = .ok (.ireturn, 1) := by decide +kernel
theorem d_TS_count_82 : decode m_TS_count.2.1 82 = .ok (.ireturn, 1) := by decide +kernel
theorem d_TS_count_90 : decode m_TS_count.2.1 90 = .ok (.ireturn, 1) := by decide +kernel
theorem d_TS_count_93 : decode m_TS_count.2.1 93 = .ok (.ireturn, 1) := by decide +kernel
theorem b_TS_drawEquation_0 : mx_ck m_TS_drawEquation 0 [(.aload_n 0, [], 0), (.getfield 30, [9, 3, 12, 378], 0), (.getfield 125, [3, 3, 0, 172], 0), (.iconst 1, [], nI 1)] = some 8 := by decide +kernel
theorem b_TS_drawEquation_12 : mx_ck m_TS_drawEquation 12 [(.lload_n 1, [], 0), (.aload_n 0, [], 0), (.getfield 30, [9, 3, 12, 378], 0), (.getfield 125, [3, 3, 0, 172], 0), (.i2l, [], 0), (.lrem, [], 0), (.l2i, [], 0), (.istore_n 3, [], 0), (.lload_n 1, [], 0), (.ldc2_w 299, [8, 820], 0), (.ldiv, [], 0), (.ldc2_w 301, [6, 821], 0), (.lrem, [], 0), (.l2i, [], 0), (.istore 4, [], 0), (.lload_n 1, [], 0), (.ldc2_w 303, [64, 822], 0), (.ldiv, [], 0), (.ldc2_w 299, [8, 820], 0), (.lrem, [], 0), (.l2i, [], 0), (.istore 5, [], 0), (.lload_n 1, [], 0), (.ldc2_w 305, [512, 823], 0), (.ldiv, [], 0), (.ldc2_w 299, [8, 820], 0), (.lrem, [], 0), (.l2i, [], 0), (.istore 6, [], 0), (.aload_n 0, [], 0), (.getfield 30, [9, 3, 12, 378], 0), (.iload_n 3, [], 0), (.iload 4, [], 0), (.iload 5, [], 0), (.iload 6, [], 0)] = some 71 := by decide +kernel
theorem b_TS_drawEquation_77 : mx_ck m_TS_drawEquation 77 [(.aload_n 0, [], 0), (.getfield 30, [9, 3, 12, 378], 0), (.iload_n 3, [], 0), (.iload 4, [], 0), (.iload 5, [], 0), (.iload 6, [], 0)] = some 88 := by decide +kernel
theorem d_TS_drawEquation_8 : decode m_TS_drawEquation.2.1 8 = .ok (.if_icmp .ge 4, 3) := by decide +kernel
theorem d_TS_drawEquation_11 : decode m_TS_drawEquation.2.1 11 = .ok (.return_, 1) := by decide +kernel
theorem d_TS_drawEquation_71 : decode m_TS_drawEquation.2.1 71 = .ok (.invokevirtual 141, 3) := by decide +kernel
theorem c_TS_drawEquation_71 : mx_cv m_TS_drawEquation m_House_mayStand 141 4 [571, 518, 519, 83, 520] = true := by decide +kernel
theorem d_TS_drawEquation_74 : decode m_TS_drawEquation.2.1 74 = .ok (.ifCond .eq 17, 3) := by decide +kernel
theorem d_TS_drawEquation_88 : decode m_TS_drawEquation.2.1 88 = .ok (.invokevirtual 153, 3) := by decide +kernel
theorem c_TS_drawEquation_88 : mx_cv m_TS_drawEquation m_House_tell 153 4 [581, 536, 537, 83, 538] = true := by decide +kernel
theorem d_TS_drawEquation_91 : decode m_TS_drawEquation.2.1 91 = .ok (.return_, 1) := by decide +kernel
theorem b_TS_drawn_0 : mx_ck m_TS_drawn 0 [(.aload_n 0, [], 0), (.getfield 26, [9, 2, 8, 377], 0)] = some 4 := by decide +kernel
theorem b_TS_drawn_10 : mx_ck m_TS_drawn 10 [(.ldc 134, [561], (-1000002))] = some 12 := by decide +kernel
theorem b_TS_drawn_13 : mx_ck m_TS_drawn 13 [(.iload_n 1, [], 0)] = some 14 := by decide +kernel
theorem b_TS_drawn_17 : mx_ck m_TS_drawn 17 [(.iload_n 1, [], 0), (.bipush 20, [], nI 20)] = some 20 := by decide +kernel
theorem b_TS_drawn_23 : mx_ck m_TS_drawn 23 [(.iload_n 2, [], 0), (.iconst 1, [], nI 1)] = some 25 := by decide +kernel
theorem b_TS_drawn_28 : mx_ck m_TS_drawn 28 [(.iload_n 2, [], 0), (.ldc 238, [813], nI 999999)] = some 31 := by decide +kernel
theorem b_TS_drawn_34 : mx_ck m_TS_drawn 34 [(.iload_n 3, [], 0)] = some 35 := by decide +kernel
theorem b_TS_drawn_38 : mx_ck m_TS_drawn 38 [(.iload_n 3, [], 0), (.iconst 1, [], nI 1)] = some 40 := by decide +kernel
theorem b_TS_drawn_43 : mx_ck m_TS_drawn 43 [(.ldc 77, [428], (-1000001))] = some 45 := by decide +kernel
theorem b_TS_drawn_46 : mx_ck m_TS_drawn 46 [(.aload_n 0, [], 0), (.getfield 30, [9, 3, 12, 378], 0), (.aload_n 0, [], 0), (.getfield 26, [9, 2, 8, 377], 0)] = some 54 := by decide +kernel
theorem b_TS_drawn_57 : mx_ck m_TS_drawn 57 [(.iload_n 2, [], 0), (.i2l, [], 0), (.lstore 4, [], 0), (.iconst 0, [], nI 0), (.istore 6, [], 0)] = some 64 := by decide +kernel
theorem b_TS_drawn_64 : mx_ck m_TS_drawn 64 [(.iload 6, [], 0), (.iload_n 1, [], 0)] = some 67 := by decide +kernel
theorem b_TS_drawn_70 : mx_ck m_TS_drawn 70 [(.lload 4, [], 0), (.ldc2_w 242, [16807, 814], 0), (.lmul, [], 0), (.ldc2_w 244, [2147483647, 815], 0), (.lrem, [], 0), (.lstore 4, [], 0), (.aload_n 0, [], 0), (.lload 4, [], 0)] = some 85 := by decide +kernel
theorem b_TS_drawn_88 : mx_ck m_TS_drawn 88 [(.iinc 6 1, [], nI 1)] = some 91 := by decide +kernel
theorem b_TS_drawn_94 : mx_ck m_TS_drawn 94 [(.aload_n 0, [], 0), (.getfield 53, [9, 8, 66, 383], 0), (.aload_n 0, [], 0), (.getfield 30, [9, 3, 12, 378], 0)] = some 102 := by decide +kernel
theorem b_TS_drawn_105 : mx_ck m_TS_drawn 105 [(.iload_n 3, [], 0)] = some 106 := by decide +kernel
theorem b_TS_drawn_109 : mx_ck m_TS_drawn 109 [(.aload_n 0, [], 0), (.getfield 30, [9, 3, 12, 378], 0), (.getfield 125, [3, 3, 0, 172], 0), (.aload_n 0, [], 0), (.getfield 53, [9, 8, 66, 383], 0)] = some 120 := by decide +kernel
theorem b_TS_drawn_126 : mx_ck m_TS_drawn 126 [(.isub, [], 0)] = some 127 := by decide +kernel
theorem b_TS_drawn_130 : mx_ck m_TS_drawn 130 [(.aload_n 0, [], 0), (.getfield 53, [9, 8, 66, 383], 0), (.getfield 197, [2, 6, 6, 276], 0), (.getfield 201, [6, 2, 0, 236], 0)] = some 140 := by decide +kernel
theorem d_TS_drawn_4 : decode m_TS_drawn.2.1 4 = .ok (.invokevirtual 166, 3) := by decide +kernel
theorem c_TS_drawn_4 : mx_cv m_TS_drawn m_House_isNone 166 0 [591, 592, 593, 83, 594] = true := by decide +kernel
theorem d_TS_drawn_7 : decode m_TS_drawn.2.1 7 = .ok (.ifCond .eq 6, 3) := by decide +kernel
theorem d_TS_drawn_12 : decode m_TS_drawn.2.1 12 = .ok (.ireturn, 1) := by decide +kernel
theorem d_TS_drawn_14 : decode m_TS_drawn.2.1 14 = .ok (.ifCond .lt 29, 3) := by decide +kernel
theorem d_TS_drawn_20 : decode m_TS_drawn.2.1 20 = .ok (.if_icmp .gt 23, 3) := by decide +kernel
theorem d_TS_drawn_25 : decode m_TS_drawn.2.1 25 = .ok (.if_icmp .lt 18, 3) := by decide +kernel
theorem d_TS_drawn_31 : decode m_TS_drawn.2.1 31 = .ok (.if_icmp .gt 12, 3) := by decide +kernel
theorem d_TS_drawn_35 : decode m_TS_drawn.2.1 35 = .ok (.ifCond .lt 8, 3) := by decide +kernel
theorem d_TS_drawn_40 : decode m_TS_drawn.2.1 40 = .ok (.if_icmp .le 6, 3) := by decide +kernel
theorem d_TS_drawn_45 : decode m_TS_drawn.2.1 45 = .ok (.ireturn, 1) := by decide +kernel
theorem d_TS_drawn_54 : decode m_TS_drawn.2.1 54 = .ok (.invokevirtual 239, 3) := by decide +kernel
theorem c_TS_drawn_54 : mx_cv m_TS_drawn m_House_takeFrom 239 1 [544, 545, 546, 83, 547] = true := by decide +kernel
theorem d_TS_drawn_67 : decode m_TS_drawn.2.1 67 = .ok (.if_icmp .ge 27, 3) := by decide +kernel
theorem d_TS_drawn_85 : decode m_TS_drawn.2.1 85 = .ok (.invokevirtual 246, 3) := by decide +kernel
theorem c_TS_drawn_85 : mx_cv m_TS_drawn m_TS_drawEquation 246 1 [816, 818, 25, 79, 819] = true := by decide +kernel
theorem d_TS_drawn_91 : decode m_TS_drawn.2.1 91 = .ok (.goto (-27), 3) := by decide +kernel
theorem d_TS_drawn_102 : decode m_TS_drawn.2.1 102 = .ok (.invokevirtual 250, 3) := by decide +kernel
theorem c_TS_drawn_102 : mx_cv m_TS_drawn m_Cells_measure 250 1 [607, 608, 609, 85, 610] = true := by decide +kernel
theorem d_TS_drawn_106 : decode m_TS_drawn.2.1 106 = .ok (.ifCond .ne 24, 3) := by decide +kernel
theorem d_TS_drawn_120 : decode m_TS_drawn.2.1 120 = .ok (.invokevirtual 194, 3) := by decide +kernel
theorem c_TS_drawn_120 : mx_cv m_TS_drawn m_Cells_withoutValue 194 0 [703, 704, 705, 85, 706] = true := by decide +kernel
theorem d_TS_drawn_123 : decode m_TS_drawn.2.1 123 = .ok (.invokestatic 253, 3) := by decide +kernel
theorem c_TS_drawn_123 : mx_cs m_TS_drawn m_bitCount 253 1 [824, 825, 92, 826] = true := by decide +kernel
theorem d_TS_drawn_127 : decode m_TS_drawn.2.1 127 = .ok (.goto 13, 3) := by decide +kernel
theorem d_TS_drawn_140 : decode m_TS_drawn.2.1 140 = .ok (.ireturn, 1) := by decide +kernel
theorem b_TS_drop_0 : mx_ck m_TS_drop 0 [(.iload_n 1, [], 0)] = some 1 := by decide +kernel
theorem b_TS_drop_7 : mx_ck m_TS_drop 7 [(.ldc 77, [428], (-1000001))] = some 9 := by decide +kernel
theorem b_TS_drop_10 : mx_ck m_TS_drop 10 [(.aload_n 0, [], 0), (.aload_n 0, [], 0), (.getfield 10, [9, 0, 2, 375], 0), (.iload_n 1, [], 0), (.iconst 0, [], nI 0), (.iconst 0, [], nI 0)] = some 18 := by decide +kernel
theorem b_TS_drop_21 : mx_ck m_TS_drop 21 [(.putfield 78, [9, 13, 0, 388], 0), (.aload_n 0, [], 0), (.getfield 78, [9, 13, 0, 388], 0)] = some 28 := by decide +kernel
theorem b_TS_drop_31 : mx_ck m_TS_drop 31 [(.ldc 82, [429], (-1000010)), (.aload_n 0, [], 0), (.getfield 78, [9, 13, 0, 388], 0), (.isub, [], 0)] = some 38 := by decide +kernel
theorem b_TS_drop_41 : mx_ck m_TS_drop 41 [(.aload_n 0, [], 0), (.getfield 10, [9, 0, 2, 375], 0), (.iload_n 1, [], 0)] = some 46 := by decide +kernel
theorem d_TS_drop_1 : decode m_TS_drop.2.1 1 = .ok (.invokestatic 70, 3) := by decide +kernel
theorem c_TS_drop_1 : mx_cs m_TS_drop m_Rows_isNumber 70 1 [422, 423, 80, 424] = true := by decide +kernel
theorem d_TS_drop_4 : decode m_TS_drop.2.1 4 = .ok (.ifCond .ne 6, 3) := by decide +kernel
theorem d_TS_drop_9 : decode m_TS_drop.2.1 9 = .ok (.ireturn, 1) := by decide +kernel
theorem d_TS_drop_18 : decode m_TS_drop.2.1 18 = .ok (.invokevirtual 87, 3) := by decide +kernel
theorem c_TS_drop_18 : mx_cv m_TS_drop m_Rows_findingAt 87 3 [438, 439, 440, 80, 441] = true := by decide +kernel
theorem d_TS_drop_28 : decode m_TS_drop.2.1 28 = .ok (.ifCond .eq 13, 3) := by decide +kernel
theorem d_TS_drop_38 : decode m_TS_drop.2.1 38 = .ok (.goto 11, 3) := by decide +kernel
theorem d_TS_drop_46 : decode m_TS_drop.2.1 46 = .ok (.invokevirtual 102, 3) := by decide +kernel
theorem c_TS_drop_46 : mx_cv m_TS_drop m_Rows_lose 102 1 [469, 470, 471, 80, 472] = true := by decide +kernel
theorem d_TS_drop_49 : decode m_TS_drop.2.1 49 = .ok (.ireturn, 1) := by decide +kernel
theorem b_TS_empties_0 : mx_ck m_TS_empties 0 [(.aload_n 0, [], 0), (.getfield 26, [9, 2, 8, 377], 0)] = some 4 := by decide +kernel
theorem b_TS_empties_10 : mx_ck m_TS_empties 10 [(.ldc 134, [561], (-1000002))] = some 12 := by decide +kernel
theorem b_TS_empties_15 : mx_ck m_TS_empties 15 [(.aload_n 0, [], 0)] = some 16 := by decide +kernel
theorem d_TS_empties_4 : decode m_TS_empties.2.1 4 = .ok (.invokevirtual 166, 3) := by decide +kernel
theorem c_TS_empties_4 : mx_cv m_TS_empties m_House_isNone 166 0 [591, 592, 593, 83, 594] = true := by decide +kernel
theorem d_TS_empties_7 : decode m_TS_empties.2.1 7 = .ok (.ifCond .eq 8, 3) := by decide +kernel
theorem d_TS_empties_12 : decode m_TS_empties.2.1 12 = .ok (.goto 10, 3) := by decide +kernel
theorem d_TS_empties_16 : decode m_TS_empties.2.1 16 = .ok (.invokevirtual 173, 3) := by decide +kernel
theorem c_TS_empties_16 : mx_cv m_TS_empties m_TS_cellsNow 173 0 [603, 605, 10, 79, 606] = true := by decide +kernel
theorem d_TS_empties_19 : decode m_TS_empties.2.1 19 = .ok (.invokevirtual 194, 3) := by decide +kernel
theorem c_TS_empties_19 : mx_cv m_TS_empties m_Cells_withoutValue 194 0 [703, 704, 705, 85, 706] = true := by decide +kernel
theorem d_TS_empties_22 : decode m_TS_empties.2.1 22 = .ok (.ireturn, 1) := by decide +kernel
theorem b_TS_ends_0 : mx_ck m_TS_ends 0 [(.aload_n 0, [], 0), (.getfield 26, [9, 2, 8, 377], 0), (.iload_n 1, [], 0)] = some 5 := by decide +kernel
theorem b_TS_ends_11 : mx_ck m_TS_ends 11 [(.iload_n 2, [], 0)] = some 12 := by decide +kernel
theorem b_TS_ends_15 : mx_ck m_TS_ends 15 [(.iload_n 2, [], 0), (.iconst 1, [], nI 1)] = some 17 := by decide +kernel
theorem b_TS_ends_20 : mx_ck m_TS_ends 20 [(.ldc 77, [428], (-1000001))] = some 22 := by decide +kernel
theorem b_TS_ends_23 : mx_ck m_TS_ends 23 [(.aload_n 0, [], 0)] = some 24 := by decide +kernel
theorem b_TS_ends_27 : mx_ck m_TS_ends 27 [(.iload_n 1, [], 0), (.iload_n 2, [], 0)] = some 29 := by decide +kernel
theorem d_TS_ends_5 : decode m_TS_ends.2.1 5 = .ok (.invokevirtual 157, 3) := by decide +kernel
theorem c_TS_ends_5 : mx_cv m_TS_ends m_House_has 157 1 [586, 522, 523, 83, 524] = true := by decide +kernel
theorem d_TS_ends_8 : decode m_TS_ends.2.1 8 = .ok (.ifCond .eq 12, 3) := by decide +kernel
theorem d_TS_ends_12 : decode m_TS_ends.2.1 12 = .ok (.ifCond .lt 8, 3) := by decide +kernel
theorem d_TS_ends_17 : decode m_TS_ends.2.1 17 = .ok (.if_icmp .le 6, 3) := by decide +kernel
theorem d_TS_ends_22 : decode m_TS_ends.2.1 22 = .ok (.ireturn, 1) := by decide +kernel
theorem d_TS_ends_24 : decode m_TS_ends.2.1 24 = .ok (.invokevirtual 173, 3) := by decide +kernel
theorem c_TS_ends_24 : mx_cv m_TS_ends m_TS_cellsNow 173 0 [603, 605, 10, 79, 606] = true := by decide +kernel
theorem d_TS_ends_29 : decode m_TS_ends.2.1 29 = .ok (.invokevirtual 215, 3) := by decide +kernel
theorem c_TS_ends_29 : mx_cv m_TS_ends m_Cells_holdingSide 215 2 [743, 744, 745, 85, 746] = true := by decide +kernel
theorem d_TS_ends_32 : decode m_TS_ends.2.1 32 = .ok (.ireturn, 1) := by decide +kernel
theorem b_TS_fault_0 : mx_ck m_TS_fault 0 [(.aload_n 0, [], 0), (.getfield 19, [9, 1, 6, 376], 0), (.getfield 128, [8, 6, 0, 135], 0)] = some 7 := by decide +kernel
theorem d_TS_fault_7 : decode m_TS_fault.2.1 7 = .ok (.ireturn, 1) := by decide +kernel
theorem b_TS_feed_0 : mx_ck m_TS_feed 0 [(.iload_n 1, [], 0)] = some 1 := by decide +kernel
theorem b_TS_feed_4 : mx_ck m_TS_feed 4 [(.iload_n 1, [], 0), (.sipush 255, [], nI 255)] = some 8 := by decide +kernel
theorem b_TS_feed_11 : mx_ck m_TS_feed 11 [(.ldc 77, [428], (-1000001))] = some 13 := by decide +kernel
theorem b_TS_feed_14 : mx_ck m_TS_feed 14 [(.aload_n 0, [], 0), (.getfield 19, [9, 1, 6, 376], 0), (.iload_n 1, [], 0)] = some 19 := by decide +kernel
theorem b_TS_feed_25 : mx_ck m_TS_feed 25 [(.aload_n 0, [], 0), (.getfield 19, [9, 1, 6, 376], 0), (.getfield 109, [8, 1, 0, 129], 0)] = some 32 := by decide +kernel
theorem b_TS_feed_35 : mx_ck m_TS_feed 35 [(.ldc 112, [481], (-1000003))] = some 37 := by decide +kernel
theorem d_TS_feed_1 : decode m_TS_feed.2.1 1 = .ok (.ifCond .lt 10, 3) := by decide +kernel
theorem d_TS_feed_8 : decode m_TS_feed.2.1 8 = .ok (.if_icmp .le 6, 3) := by decide +kernel
theorem d_TS_feed_13 : decode m_TS_feed.2.1 13 = .ok (.ireturn, 1) := by decide +kernel
theorem d_TS_feed_19 : decode m_TS_feed.2.1 19 = .ok (.invokevirtual 106, 3) := by decide +kernel
theorem c_TS_feed_19 : mx_cv m_TS_feed m_Tape_add 106 1 [477, 478, 479, 82, 480] = true := by decide +kernel
theorem d_TS_feed_22 : decode m_TS_feed.2.1 22 = .ok (.ifCond .eq 13, 3) := by decide +kernel
theorem d_TS_feed_32 : decode m_TS_feed.2.1 32 = .ok (.goto 5, 3) := by decide +kernel
theorem d_TS_feed_37 : decode m_TS_feed.2.1 37 = .ok (.ireturn, 1) := by decide +kernel
theorem b_TS_fits_0 : mx_ck m_TS_fits 0 [(.iload_n 2, [], 0)] = some 1 := by decide +kernel
theorem b_TS_fits_4 : mx_ck m_TS_fits 4 [(.iload_n 3, [], 0)] = some 5 := by decide +kernel
theorem b_TS_fits_8 : mx_ck m_TS_fits 8 [(.aload_n 0, [], 0), (.getfield 26, [9, 2, 8, 377], 0), (.getfield 145, [3, 0, 2, 161], 0), (.iload_n 1, [], 0), (.iaload, [], 0)] = some 17 := by decide +kernel
theorem b_TS_fits_17 : mx_ck m_TS_fits 17 [(.istore 6, [], 0), (.iload_n 2, [], 0), (.iconst 1, [], nI 1)] = some 21 := by decide +kernel
theorem b_TS_fits_24 : mx_ck m_TS_fits 24 [(.iload_n 3, [], 0)] = some 25 := by decide +kernel
theorem b_TS_fits_28 : mx_ck m_TS_fits 28 [(.aload_n 0, [], 0), (.getfield 26, [9, 2, 8, 377], 0), (.getfield 160, [3, 1, 3, 165], 0), (.iload_n 1, [], 0), (.iaload, [], 0)] = some 37 := by decide +kernel
theorem b_TS_fits_37 : mx_ck m_TS_fits 37 [(.istore 7, [], 0), (.iload_n 2, [], 0), (.iconst 2, [], nI 2)] = some 41 := by decide +kernel
theorem b_TS_fits_44 : mx_ck m_TS_fits 44 [(.iload_n 3, [], 0)] = some 45 := by decide +kernel
theorem b_TS_fits_48 : mx_ck m_TS_fits 48 [(.aload_n 0, [], 0), (.getfield 26, [9, 2, 8, 377], 0), (.getfield 163, [3, 2, 4, 169], 0), (.iload_n 1, [], 0), (.iaload, [], 0)] = some 57 := by decide +kernel
theorem b_TS_fits_57 : mx_ck m_TS_fits 57 [(.istore 8, [], 0), (.aload_n 0, [], 0), (.getfield 26, [9, 2, 8, 377], 0), (.iload_n 1, [], 0), (.iload 6, [], 0), (.iload 7, [], 0), (.iload 8, [], 0)] = some 70 := by decide +kernel
theorem b_TS_fits_76 : mx_ck m_TS_fits 76 [(.iconst 0, [], nI 0)] = some 77 := by decide +kernel
theorem b_TS_fits_78 : mx_ck m_TS_fits 78 [(.aload_n 0, [], 0), (.getfield 30, [9, 3, 12, 378], 0), (.aload_n 0, [], 0), (.getfield 26, [9, 2, 8, 377], 0)] = some 86 := by decide +kernel
theorem b_TS_fits_89 : mx_ck m_TS_fits 89 [(.aload_n 0, [], 0), (.getfield 30, [9, 3, 12, 378], 0), (.iload_n 1, [], 0), (.iload 6, [], 0), (.iload 7, [], 0), (.iload 8, [], 0)] = some 100 := by decide +kernel
theorem b_TS_fits_103 : mx_ck m_TS_fits 103 [(.aload_n 0, [], 0), (.getfield 53, [9, 8, 66, 383], 0), (.aload_n 0, [], 0), (.getfield 30, [9, 3, 12, 378], 0)] = some 111 := by decide +kernel
theorem b_TS_fits_114 : mx_ck m_TS_fits 114 [(.aload_n 0, [], 0), (.getfield 53, [9, 8, 66, 383], 0), (.iload_n 1, [], 0)] = some 119 := by decide +kernel
theorem b_TS_fits_122 : mx_ck m_TS_fits 122 [(.iconst 1, [], nI 1), (.iload 5, [], 0), (.ishl, [], 0), (.iconst 1, [], nI 1), (.isub, [], 0), (.iand, [], 0), (.iload 4, [], 0)] = some 131 := by decide +kernel
theorem b_TS_fits_134 : mx_ck m_TS_fits 134 [(.iconst 1, [], nI 1)] = some 135 := by decide +kernel
theorem b_TS_fits_138 : mx_ck m_TS_fits 138 [(.iconst 0, [], nI 0)] = some 139 := by decide +kernel
theorem d_TS_fits_1 : decode m_TS_fits.2.1 1 = .ok (.ifCond .ne 7, 3) := by decide +kernel
theorem d_TS_fits_5 : decode m_TS_fits.2.1 5 = .ok (.goto 12, 3) := by decide +kernel
theorem d_TS_fits_21 : decode m_TS_fits.2.1 21 = .ok (.if_icmp .ne 7, 3) := by decide +kernel
theorem d_TS_fits_25 : decode m_TS_fits.2.1 25 = .ok (.goto 12, 3) := by decide +kernel
theorem d_TS_fits_41 : decode m_TS_fits.2.1 41 = .ok (.if_icmp .ne 7, 3) := by decide +kernel
theorem d_TS_fits_45 : decode m_TS_fits.2.1 45 = .ok (.goto 12, 3) := by decide +kernel
theorem d_TS_fits_70 : decode m_TS_fits.2.1 70 = .ok (.invokevirtual 141, 3) := by decide +kernel
theorem c_TS_fits_70 : mx_cv m_TS_fits m_House_mayStand 141 4 [571, 518, 519, 83, 520] = true := by decide +kernel
theorem d_TS_fits_73 : decode m_TS_fits.2.1 73 = .ok (.ifCond .ne 5, 3) := by decide +kernel
theorem d_TS_fits_77 : decode m_TS_fits.2.1 77 = .ok (.ireturn, 1) := by decide +kernel
theorem d_TS_fits_86 : decode m_TS_fits.2.1 86 = .ok (.invokevirtual 239, 3) := by decide +kernel
theorem c_TS_fits_86 : mx_cv m_TS_fits m_House_takeFrom 239 1 [544, 545, 546, 83, 547] = true := by decide +kernel
theorem d_TS_fits_100 : decode m_TS_fits.2.1 100 = .ok (.invokevirtual 153, 3) := by decide +kernel
theorem c_TS_fits_100 : mx_cv m_TS_fits m_House_tell 153 4 [581, 536, 537, 83, 538] = true := by decide +kernel
theorem d_TS_fits_111 : decode m_TS_fits.2.1 111 = .ok (.invokevirtual 250, 3) := by decide +kernel
theorem c_TS_fits_111 : mx_cv m_TS_fits m_Cells_measure 250 1 [607, 608, 609, 85, 610] = true := by decide +kernel
theorem d_TS_fits_119 : decode m_TS_fits.2.1 119 = .ok (.invokevirtual 184, 3) := by decide +kernel
theorem c_TS_fits_119 : mx_cv m_TS_fits m_Cells_lyingIn 184 1 [694, 695, 696, 85, 697] = true := by decide +kernel
theorem d_TS_fits_131 : decode m_TS_fits.2.1 131 = .ok (.if_icmp .ne 7, 3) := by decide +kernel
theorem d_TS_fits_135 : decode m_TS_fits.2.1 135 = .ok (.goto 4, 3) := by decide +kernel
theorem d_TS_fits_139 : decode m_TS_fits.2.1 139 = .ok (.ireturn, 1) := by decide +kernel
theorem b_TS_forgetWhatStood_0 : mx_ck m_TS_forgetWhatStood 0 [(.aload_n 0, [], 0), (.iconst 0, [], nI 0), (.putfield 291, [9, 11, 1, 386], 0), (.aload_n 0, [], 0), (.iconst 0, [], nI 0), (.putfield 295, [9, 12, 1, 387], 0)] = some 10 := by decide +kernel
theorem d_TS_forgetWhatStood_10 : decode m_TS_forgetWhatStood.2.1 10 = .ok (.return_, 1) := by decide +kernel
theorem b_TS_greatestDivisor_0 : mx_ck m_TS_greatestDivisor 0 [(.iload_n 0, [], 0), (.istore_n 2, [], 0), (.iload_n 1, [], 0), (.istore_n 3, [], 0), (.iconst 0, [], nI 0), (.istore 4, [], 0)] = some 7 := by decide +kernel
theorem b_TS_greatestDivisor_7 : mx_ck m_TS_greatestDivisor 7 [(.iload 4, [], 0), (.bipush 64, [], nI 64)] = some 11 := by decide +kernel
theorem b_TS_greatestDivisor_14 : mx_ck m_TS_greatestDivisor 14 [(.iload_n 3, [], 0)] = some 15 := by decide +kernel
theorem b_TS_greatestDivisor_18 : mx_ck m_TS_greatestDivisor 18 [(.iload_n 2, [], 0), (.iload_n 3, [], 0), (.irem, [], 0), (.istore 5, [], 0), (.iload_n 3, [], 0), (.istore_n 2, [], 0), (.iload 5, [], 0), (.istore_n 3, [], 0), (.iinc 4 1, [], nI 1)] = some 31 := by decide +kernel
theorem b_TS_greatestDivisor_34 : mx_ck m_TS_greatestDivisor 34 [(.iload_n 2, [], 0)] = some 35 := by decide +kernel
theorem d_TS_greatestDivisor_11 : decode m_TS_greatestDivisor.2.1 11 = .ok (.if_icmp .ge 23, 3) := by decide +kernel
theorem d_TS_greatestDivisor_15 : decode m_TS_greatestDivisor.2.1 15 = .ok (.ifCond .eq 19, 3) := by decide +kernel
theorem d_TS_greatestDivisor_31 : decode m_TS_greatestDivisor.2.1 31 = .ok (.goto (-24), 3) := by decide +kernel
theorem d_TS_greatestDivisor_35 : decode m_TS_greatestDivisor.2.1 35 = .ok (.ireturn, 1) := by decide +kernel
theorem b_TS_house_0 : mx_ck m_TS_house 0 [(.aload_n 0, [], 0), (.getfield 19, [9, 1, 6, 376], 0), (.aload_n 0, [], 0), (.getfield 30, [9, 3, 12, 378], 0)] = some 8 := by decide +kernel
theorem b_TS_house_11 : mx_ck m_TS_house 11 [(.istore_n 1, [], 0), (.aload_n 0, [], 0), (.getfield 19, [9, 1, 6, 376], 0), (.iconst 0, [], nI 0), (.putfield 109, [8, 1, 0, 129], 0), (.iload_n 1, [], 0)] = some 21 := by decide +kernel
theorem b_TS_house_24 : mx_ck m_TS_house 24 [(.ldc 117, [539], (-1000100)), (.aload_n 0, [], 0), (.getfield 19, [9, 1, 6, 376], 0), (.getfield 118, [8, 5, 0, 133], 0), (.isub, [], 0)] = some 34 := by decide +kernel
theorem b_TS_house_35 : mx_ck m_TS_house 35 [(.aload_n 0, [], 0), (.aload_n 0, [], 0), (.getfield 30, [9, 3, 12, 378], 0)] = some 40 := by decide +kernel
theorem b_TS_house_43 : mx_ck m_TS_house 43 [(.aload_n 0, [], 0), (.getfield 26, [9, 2, 8, 377], 0), (.getfield 125, [3, 3, 0, 172], 0)] = some 50 := by decide +kernel
theorem d_TS_house_8 : decode m_TS_house.2.1 8 = .ok (.invokevirtual 113, 3) := by decide +kernel
theorem c_TS_house_8 : mx_cv m_TS_house m_Tape_read 113 1 [486, 487, 488, 82, 489] = true := by decide +kernel
theorem d_TS_house_21 : decode m_TS_house.2.1 21 = .ok (.ifCond .ne 14, 3) := by decide +kernel
theorem d_TS_house_34 : decode m_TS_house.2.1 34 = .ok (.ireturn, 1) := by decide +kernel
theorem d_TS_house_40 : decode m_TS_house.2.1 40 = .ok (.invokevirtual 121, 3) := by decide +kernel
theorem c_TS_house_40 : mx_cv m_TS_house m_TS_standIn 121 1 [540, 542, 7, 79, 543] = true := by decide +kernel
theorem d_TS_house_50 : decode m_TS_house.2.1 50 = .ok (.ireturn, 1) := by decide +kernel
theorem b_TS_image_0 : mx_ck m_TS_image 0 [(.iload_n 1, [], 0)] = some 1 := by decide +kernel
theorem b_TS_image_4 : mx_ck m_TS_image 4 [(.iload_n 1, [], 0), (.iconst 2, [], nI 2)] = some 6 := by decide +kernel
theorem b_TS_image_9 : mx_ck m_TS_image 9 [(.ldc 77, [428], (-1000001))] = some 11 := by decide +kernel
theorem b_TS_image_12 : mx_ck m_TS_image 12 [(.aload_n 0, [], 0), (.getfield 26, [9, 2, 8, 377], 0)] = some 16 := by decide +kernel
theorem b_TS_image_22 : mx_ck m_TS_image 22 [(.ldc 134, [561], (-1000002))] = some 24 := by decide +kernel
theorem b_TS_image_25 : mx_ck m_TS_image 25 [(.aload_n 0, [], 0), (.iload_n 1, [], 0)] = some 27 := by decide +kernel
theorem b_TS_image_30 : mx_ck m_TS_image 30 [(.aload_n 0, [], 0), (.getfield 26, [9, 2, 8, 377], 0)] = some 34 := by decide +kernel
theorem b_TS_image_37 : mx_ck m_TS_image 37 [(.iconst 1, [], nI 1)] = some 38 := by decide +kernel
theorem d_TS_image_1 : decode m_TS_image.2.1 1 = .ok (.ifCond .lt 8, 3) := by decide +kernel
theorem d_TS_image_6 : decode m_TS_image.2.1 6 = .ok (.if_icmp .lt 6, 3) := by decide +kernel
theorem d_TS_image_11 : decode m_TS_image.2.1 11 = .ok (.ireturn, 1) := by decide +kernel
theorem d_TS_image_16 : decode m_TS_image.2.1 16 = .ok (.invokevirtual 166, 3) := by decide +kernel
theorem c_TS_image_16 : mx_cv m_TS_image m_House_isNone 166 0 [591, 592, 593, 83, 594] = true := by decide +kernel
theorem d_TS_image_19 : decode m_TS_image.2.1 19 = .ok (.ifCond .eq 6, 3) := by decide +kernel
theorem d_TS_image_24 : decode m_TS_image.2.1 24 = .ok (.ireturn, 1) := by decide +kernel
theorem d_TS_image_27 : decode m_TS_image.2.1 27 = .ok (.invokevirtual 258, 3) := by decide +kernel
theorem c_TS_image_27 : mx_cv m_TS_image m_TS_imageOf 258 1 [834, 836, 26, 79, 837] = true := by decide +kernel
theorem d_TS_image_34 : decode m_TS_image.2.1 34 = .ok (.invokevirtual 239, 3) := by decide +kernel
theorem c_TS_image_34 : mx_cv m_TS_image m_House_takeFrom 239 1 [544, 545, 546, 83, 547] = true := by decide +kernel
theorem d_TS_image_38 : decode m_TS_image.2.1 38 = .ok (.ireturn, 1) := by decide +kernel
theorem b_TS_imageOf_0 : mx_ck m_TS_imageOf 0 [(.iload_n 1, [], 0)] = some 1 := by decide +kernel
theorem b_TS_imageOf_4 : mx_ck m_TS_imageOf 4 [(.aload_n 0, [], 0), (.getfield 33, [9, 4, 16, 379], 0)] = some 8 := by decide +kernel
theorem b_TS_imageOf_11 : mx_ck m_TS_imageOf 11 [(.aload_n 0, [], 0), (.getfield 36, [9, 5, 20, 380], 0)] = some 15 := by decide +kernel
theorem d_TS_imageOf_1 : decode m_TS_imageOf.2.1 1 = .ok (.ifCond .ne 10, 3) := by decide +kernel
theorem d_TS_imageOf_8 : decode m_TS_imageOf.2.1 8 = .ok (.goto 7, 3) := by decide +kernel
theorem d_TS_imageOf_15 : decode m_TS_imageOf.2.1 15 = .ok (.areturn, 1) := by decide +kernel
theorem b_TS_init_0 : mx_ck m_TS_init 0 [(.aload_n 0, [], 0)] = some 1 := by decide +kernel
theorem b_TS_init_4 : mx_ck m_TS_init 4 [(.aload_n 0, [], 0)] = some 5 := by decide +kernel
theorem b_TS_init_8 : mx_ck m_TS_init 8 [(.dup, [], 0)] = some 9 := by decide +kernel
theorem b_TS_init_15 : mx_ck m_TS_init 15 [(.aload_n 0, [], 0)] = some 16 := by decide +kernel
theorem b_TS_init_19 : mx_ck m_TS_init 19 [(.dup, [], 0)] = some 20 := by decide +kernel
theorem b_TS_init_26 : mx_ck m_TS_init 26 [(.aload_n 0, [], 0)] = some 27 := by decide +kernel
theorem b_TS_init_30 : mx_ck m_TS_init 30 [(.dup, [], 0)] = some 31 := by decide +kernel
theorem b_TS_init_37 : mx_ck m_TS_init 37 [(.aload_n 0, [], 0)] = some 38 := by decide +kernel
theorem b_TS_init_41 : mx_ck m_TS_init 41 [(.dup, [], 0)] = some 42 := by decide +kernel
theorem b_TS_init_48 : mx_ck m_TS_init 48 [(.aload_n 0, [], 0)] = some 49 := by decide +kernel
theorem b_TS_init_52 : mx_ck m_TS_init 52 [(.dup, [], 0)] = some 53 := by decide +kernel
theorem b_TS_init_59 : mx_ck m_TS_init 59 [(.aload_n 0, [], 0)] = some 60 := by decide +kernel
theorem b_TS_init_63 : mx_ck m_TS_init 63 [(.dup, [], 0)] = some 64 := by decide +kernel
theorem b_TS_init_70 : mx_ck m_TS_init 70 [(.aload_n 0, [], 0)] = some 71 := by decide +kernel
theorem b_TS_init_74 : mx_ck m_TS_init 74 [(.dup, [], 0)] = some 75 := by decide +kernel
theorem b_TS_init_81 : mx_ck m_TS_init 81 [(.aload_n 0, [], 0)] = some 82 := by decide +kernel
theorem b_TS_init_85 : mx_ck m_TS_init 85 [(.dup, [], 0)] = some 86 := by decide +kernel
theorem b_TS_init_92 : mx_ck m_TS_init 92 [(.aload_n 0, [], 0)] = some 93 := by decide +kernel
theorem b_TS_init_96 : mx_ck m_TS_init 96 [(.dup, [], 0)] = some 97 := by decide +kernel
theorem b_TS_init_103 : mx_ck m_TS_init 103 [(.aload_n 0, [], 0)] = some 104 := by decide +kernel
theorem b_TS_init_107 : mx_ck m_TS_init 107 [(.dup, [], 0)] = some 108 := by decide +kernel
theorem b_TS_init_114 : mx_ck m_TS_init 114 [(.aload_n 0, [], 0)] = some 115 := by decide +kernel
theorem b_TS_init_118 : mx_ck m_TS_init 118 [(.dup, [], 0)] = some 119 := by decide +kernel
theorem d_TS_init_1 : decode m_TS_init.2.1 1 = .ok (.invokespecial 1, 3) := by decide +kernel
theorem d_TS_init_5 : decode m_TS_init.2.1 5 = .ok (.new 7, 3) := by decide +kernel
theorem d_TS_init_9 : decode m_TS_init.2.1 9 = .ok (.invokespecial 9, 3) := by decide +kernel
theorem d_TS_init_12 : decode m_TS_init.2.1 12 = .ok (.putfield 10, 3) := by decide +kernel
theorem d_TS_init_16 : decode m_TS_init.2.1 16 = .ok (.new 16, 3) := by decide +kernel
theorem d_TS_init_20 : decode m_TS_init.2.1 20 = .ok (.invokespecial 18, 3) := by decide +kernel
theorem d_TS_init_23 : decode m_TS_init.2.1 23 = .ok (.putfield 19, 3) := by decide +kernel
theorem d_TS_init_27 : decode m_TS_init.2.1 27 = .ok (.new 23, 3) := by decide +kernel
theorem d_TS_init_31 : decode m_TS_init.2.1 31 = .ok (.invokespecial 25, 3) := by decide +kernel
theorem d_TS_init_34 : decode m_TS_init.2.1 34 = .ok (.putfield 26, 3) := by decide +kernel
theorem d_TS_init_38 : decode m_TS_init.2.1 38 = .ok (.new 23, 3) := by decide +kernel
theorem d_TS_init_42 : decode m_TS_init.2.1 42 = .ok (.invokespecial 25, 3) := by decide +kernel
theorem d_TS_init_45 : decode m_TS_init.2.1 45 = .ok (.putfield 30, 3) := by decide +kernel
theorem d_TS_init_49 : decode m_TS_init.2.1 49 = .ok (.new 23, 3) := by decide +kernel
theorem d_TS_init_53 : decode m_TS_init.2.1 53 = .ok (.invokespecial 25, 3) := by decide +kernel
theorem d_TS_init_56 : decode m_TS_init.2.1 56 = .ok (.putfield 33, 3) := by decide +kernel
theorem d_TS_init_60 : decode m_TS_init.2.1 60 = .ok (.new 23, 3) := by decide +kernel
theorem d_TS_init_64 : decode m_TS_init.2.1 64 = .ok (.invokespecial 25, 3) := by decide +kernel
theorem d_TS_init_67 : decode m_TS_init.2.1 67 = .ok (.putfield 36, 3) := by decide +kernel
theorem d_TS_init_71 : decode m_TS_init.2.1 71 = .ok (.new 39, 3) := by decide +kernel
theorem d_TS_init_75 : decode m_TS_init.2.1 75 = .ok (.invokespecial 41, 3) := by decide +kernel
theorem d_TS_init_78 : decode m_TS_init.2.1 78 = .ok (.putfield 42, 3) := by decide +kernel
theorem d_TS_init_82 : decode m_TS_init.2.1 82 = .ok (.new 46, 3) := by decide +kernel
theorem d_TS_init_86 : decode m_TS_init.2.1 86 = .ok (.invokespecial 48, 3) := by decide +kernel
theorem d_TS_init_89 : decode m_TS_init.2.1 89 = .ok (.putfield 49, 3) := by decide +kernel
theorem d_TS_init_93 : decode m_TS_init.2.1 93 = .ok (.new 46, 3) := by decide +kernel
theorem d_TS_init_97 : decode m_TS_init.2.1 97 = .ok (.invokespecial 48, 3) := by decide +kernel
theorem d_TS_init_100 : decode m_TS_init.2.1 100 = .ok (.putfield 53, 3) := by decide +kernel
theorem d_TS_init_104 : decode m_TS_init.2.1 104 = .ok (.new 56, 3) := by decide +kernel
theorem d_TS_init_108 : decode m_TS_init.2.1 108 = .ok (.invokespecial 58, 3) := by decide +kernel
theorem d_TS_init_111 : decode m_TS_init.2.1 111 = .ok (.putfield 59, 3) := by decide +kernel
theorem d_TS_init_115 : decode m_TS_init.2.1 115 = .ok (.new 63, 3) := by decide +kernel
theorem d_TS_init_119 : decode m_TS_init.2.1 119 = .ok (.invokespecial 65, 3) := by decide +kernel
theorem d_TS_init_122 : decode m_TS_init.2.1 122 = .ok (.putfield 66, 3) := by decide +kernel
theorem d_TS_init_125 : decode m_TS_init.2.1 125 = .ok (.return_, 1) := by decide +kernel
theorem b_TS_kind_0 : mx_ck m_TS_kind 0 [(.aload_n 0, [], 0), (.getfield 26, [9, 2, 8, 377], 0), (.iload_n 1, [], 0)] = some 5 := by decide +kernel
theorem b_TS_kind_11 : mx_ck m_TS_kind 11 [(.aload_n 0, [], 0), (.getfield 26, [9, 2, 8, 377], 0), (.getfield 145, [3, 0, 2, 161], 0), (.iload_n 1, [], 0), (.iaload, [], 0)] = some 20 := by decide +kernel
theorem b_TS_kind_26 : mx_ck m_TS_kind 26 [(.ldc 77, [428], (-1000001))] = some 28 := by decide +kernel
theorem d_TS_kind_5 : decode m_TS_kind.2.1 5 = .ok (.invokevirtual 157, 3) := by decide +kernel
theorem c_TS_kind_5 : mx_cv m_TS_kind m_House_has 157 1 [586, 522, 523, 83, 524] = true := by decide +kernel
theorem d_TS_kind_8 : decode m_TS_kind.2.1 8 = .ok (.ifCond .eq 18, 3) := by decide +kernel
theorem d_TS_kind_20 : decode m_TS_kind.2.1 20 = .ok (.invokestatic 262, 3) := by decide +kernel
theorem c_TS_kind_20 : mx_cs m_TS_kind m_Asks_kindOf 262 1 [846, 847, 89, 848] = true := by decide +kernel
theorem d_TS_kind_23 : decode m_TS_kind.2.1 23 = .ok (.goto 5, 3) := by decide +kernel
theorem d_TS_kind_28 : decode m_TS_kind.2.1 28 = .ok (.ireturn, 1) := by decide +kernel
theorem b_TS_lies_0 : mx_ck m_TS_lies 0 [(.aload_n 0, [], 0), (.getfield 26, [9, 2, 8, 377], 0), (.iload_n 1, [], 0)] = some 5 := by decide +kernel
theorem b_TS_lies_11 : mx_ck m_TS_lies 11 [(.aload_n 0, [], 0), (.getfield 26, [9, 2, 8, 377], 0), (.iload_n 2, [], 0)] = some 16 := by decide +kernel
theorem b_TS_lies_22 : mx_ck m_TS_lies 22 [(.ldc 77, [428], (-1000001))] = some 24 := by decide +kernel
theorem b_TS_lies_25 : mx_ck m_TS_lies 25 [(.aload_n 0, [], 0)] = some 26 := by decide +kernel
theorem b_TS_lies_29 : mx_ck m_TS_lies 29 [(.getfield 181, [2, 14, 36, 285], 0), (.iload_n 1, [], 0), (.iaload, [], 0), (.iload_n 2, [], 0), (.ishr, [], 0), (.iconst 1, [], nI 1), (.iand, [], 0)] = some 38 := by decide +kernel
theorem d_TS_lies_5 : decode m_TS_lies.2.1 5 = .ok (.invokevirtual 157, 3) := by decide +kernel
theorem c_TS_lies_5 : mx_cv m_TS_lies m_House_has 157 1 [586, 522, 523, 83, 524] = true := by decide +kernel
theorem d_TS_lies_8 : decode m_TS_lies.2.1 8 = .ok (.ifCond .eq 14, 3) := by decide +kernel
theorem d_TS_lies_16 : decode m_TS_lies.2.1 16 = .ok (.invokevirtual 157, 3) := by decide +kernel
theorem c_TS_lies_16 : mx_cv m_TS_lies m_House_has 157 1 [586, 522, 523, 83, 524] = true := by decide +kernel
theorem d_TS_lies_19 : decode m_TS_lies.2.1 19 = .ok (.ifCond .ne 6, 3) := by decide +kernel
theorem d_TS_lies_24 : decode m_TS_lies.2.1 24 = .ok (.ireturn, 1) := by decide +kernel
theorem d_TS_lies_26 : decode m_TS_lies.2.1 26 = .ok (.invokevirtual 173, 3) := by decide +kernel
theorem c_TS_lies_26 : mx_cv m_TS_lies m_TS_cellsNow 173 0 [603, 605, 10, 79, 606] = true := by decide +kernel
theorem d_TS_lies_38 : decode m_TS_lies.2.1 38 = .ok (.ireturn, 1) := by decide +kernel
theorem b_TS_lowest_0 : mx_ck m_TS_lowest 0 [(.aload_n 0, [], 0), (.getfield 26, [9, 2, 8, 377], 0)] = some 4 := by decide +kernel
theorem b_TS_lowest_10 : mx_ck m_TS_lowest 10 [(.ldc 134, [561], (-1000002))] = some 12 := by decide +kernel
theorem b_TS_lowest_13 : mx_ck m_TS_lowest 13 [(.aload_n 0, [], 0), (.getfield 26, [9, 2, 8, 377], 0), (.iload_n 1, [], 0)] = some 18 := by decide +kernel
theorem b_TS_lowest_24 : mx_ck m_TS_lowest 24 [(.aload_n 0, [], 0), (.getfield 26, [9, 2, 8, 377], 0), (.iload_n 2, [], 0)] = some 29 := by decide +kernel
theorem b_TS_lowest_35 : mx_ck m_TS_lowest 35 [(.ldc 77, [428], (-1000001))] = some 37 := by decide +kernel
theorem b_TS_lowest_38 : mx_ck m_TS_lowest 38 [(.aload_n 0, [], 0)] = some 39 := by decide +kernel
theorem b_TS_lowest_42 : mx_ck m_TS_lowest 42 [(.iload_n 1, [], 0), (.iload_n 2, [], 0)] = some 44 := by decide +kernel
theorem d_TS_lowest_4 : decode m_TS_lowest.2.1 4 = .ok (.invokevirtual 166, 3) := by decide +kernel
theorem c_TS_lowest_4 : mx_cv m_TS_lowest m_House_isNone 166 0 [591, 592, 593, 83, 594] = true := by decide +kernel
theorem d_TS_lowest_7 : decode m_TS_lowest.2.1 7 = .ok (.ifCond .eq 6, 3) := by decide +kernel
theorem d_TS_lowest_12 : decode m_TS_lowest.2.1 12 = .ok (.ireturn, 1) := by decide +kernel
theorem d_TS_lowest_18 : decode m_TS_lowest.2.1 18 = .ok (.invokevirtual 170, 3) := by decide +kernel
theorem c_TS_lowest_18 : mx_cv m_TS_lowest m_House_isSet 170 1 [595, 596, 597, 83, 598] = true := by decide +kernel
theorem d_TS_lowest_21 : decode m_TS_lowest.2.1 21 = .ok (.ifCond .eq 14, 3) := by decide +kernel
theorem d_TS_lowest_29 : decode m_TS_lowest.2.1 29 = .ok (.invokevirtual 170, 3) := by decide +kernel
theorem c_TS_lowest_29 : mx_cv m_TS_lowest m_House_isSet 170 1 [595, 596, 597, 83, 598] = true := by decide +kernel
theorem d_TS_lowest_32 : decode m_TS_lowest.2.1 32 = .ok (.ifCond .ne 6, 3) := by decide +kernel
theorem d_TS_lowest_37 : decode m_TS_lowest.2.1 37 = .ok (.ireturn, 1) := by decide +kernel
theorem d_TS_lowest_39 : decode m_TS_lowest.2.1 39 = .ok (.invokevirtual 173, 3) := by decide +kernel
theorem c_TS_lowest_39 : mx_cv m_TS_lowest m_TS_cellsNow 173 0 [603, 605, 10, 79, 606] = true := by decide +kernel
theorem d_TS_lowest_44 : decode m_TS_lowest.2.1 44 = .ok (.invokevirtual 177, 3) := by decide +kernel
theorem c_TS_lowest_44 : mx_cv m_TS_lowest m_Cells_leastHeight 177 2 [681, 682, 683, 85, 684] = true := by decide +kernel
theorem d_TS_lowest_47 : decode m_TS_lowest.2.1 47 = .ok (.ireturn, 1) := by decide +kernel
theorem b_TS_others_0 : mx_ck m_TS_others 0 [(.aload_n 0, [], 0), (.getfield 26, [9, 2, 8, 377], 0), (.iload_n 1, [], 0)] = some 5 := by decide +kernel
theorem b_TS_others_11 : mx_ck m_TS_others 11 [(.ldc 77, [428], (-1000001))] = some 13 := by decide +kernel
theorem b_TS_others_14 : mx_ck m_TS_others 14 [(.iload_n 2, [], 0)] = some 15 := by decide +kernel
theorem b_TS_others_40 : mx_ck m_TS_others 40 [(.aload_n 0, [], 0)] = some 41 := by decide +kernel
theorem b_TS_others_44 : mx_ck m_TS_others 44 [(.getfield 181, [2, 14, 36, 285], 0), (.iload_n 1, [], 0), (.iaload, [], 0)] = some 49 := by decide +kernel
theorem b_TS_others_50 : mx_ck m_TS_others 50 [(.aload_n 0, [], 0)] = some 51 := by decide +kernel
theorem b_TS_others_54 : mx_ck m_TS_others 54 [(.getfield 181, [2, 14, 36, 285], 0), (.iload_n 1, [], 0), (.iaload, [], 0), (.aload_n 0, [], 0)] = some 60 := by decide +kernel
theorem b_TS_others_63 : mx_ck m_TS_others 63 [(.iload_n 1, [], 0)] = some 64 := by decide +kernel
theorem b_TS_others_67 : mx_ck m_TS_others 67 [(.iand, [], 0)] = some 68 := by decide +kernel
theorem b_TS_others_69 : mx_ck m_TS_others 69 [(.aload_n 0, [], 0), (.getfield 26, [9, 2, 8, 377], 0)] = some 73 := by decide +kernel
theorem b_TS_others_76 : mx_ck m_TS_others 76 [(.aload_n 0, [], 0)] = some 77 := by decide +kernel
theorem b_TS_others_80 : mx_ck m_TS_others 80 [(.getfield 191, [2, 15, 37, 287], 0), (.iload_n 1, [], 0), (.iaload, [], 0), (.iconst (-1), [], (-1)), (.ixor, [], 0), (.iand, [], 0)] = some 88 := by decide +kernel
theorem b_TS_others_89 : mx_ck m_TS_others 89 [(.ldc 77, [428], (-1000001))] = some 91 := by decide +kernel
theorem d_TS_others_5 : decode m_TS_others.2.1 5 = .ok (.invokevirtual 157, 3) := by decide +kernel
theorem c_TS_others_5 : mx_cv m_TS_others m_House_has 157 1 [586, 522, 523, 83, 524] = true := by decide +kernel
theorem d_TS_others_8 : decode m_TS_others.2.1 8 = .ok (.ifCond .ne 6, 3) := by decide +kernel
theorem d_TS_others_13 : decode m_TS_others.2.1 13 = .ok (.ireturn, 1) := by decide +kernel
theorem d_TS_others_15 : decode m_TS_others.2.1 15 = .ok (.tableswitch 74 0 2 #[25, 35, 54], 25) := by decide +kernel
theorem d_TS_others_41 : decode m_TS_others.2.1 41 = .ok (.invokevirtual 173, 3) := by decide +kernel
theorem c_TS_others_41 : mx_cv m_TS_others m_TS_cellsNow 173 0 [603, 605, 10, 79, 606] = true := by decide +kernel
theorem d_TS_others_49 : decode m_TS_others.2.1 49 = .ok (.ireturn, 1) := by decide +kernel
theorem d_TS_others_51 : decode m_TS_others.2.1 51 = .ok (.invokevirtual 173, 3) := by decide +kernel
theorem c_TS_others_51 : mx_cv m_TS_others m_TS_cellsNow 173 0 [603, 605, 10, 79, 606] = true := by decide +kernel
theorem d_TS_others_60 : decode m_TS_others.2.1 60 = .ok (.invokevirtual 173, 3) := by decide +kernel
theorem c_TS_others_60 : mx_cv m_TS_others m_TS_cellsNow 173 0 [603, 605, 10, 79, 606] = true := by decide +kernel
theorem d_TS_others_64 : decode m_TS_others.2.1 64 = .ok (.invokevirtual 184, 3) := by decide +kernel
theorem c_TS_others_64 : mx_cv m_TS_others m_Cells_lyingIn 184 1 [694, 695, 696, 85, 697] = true := by decide +kernel
theorem d_TS_others_68 : decode m_TS_others.2.1 68 = .ok (.ireturn, 1) := by decide +kernel
theorem d_TS_others_73 : decode m_TS_others.2.1 73 = .ok (.invokevirtual 187, 3) := by decide +kernel
theorem c_TS_others_73 : mx_cv m_TS_others m_House_all 187 0 [698, 600, 601, 83, 602] = true := by decide +kernel
theorem d_TS_others_77 : decode m_TS_others.2.1 77 = .ok (.invokevirtual 173, 3) := by decide +kernel
theorem c_TS_others_77 : mx_cv m_TS_others m_TS_cellsNow 173 0 [603, 605, 10, 79, 606] = true := by decide +kernel
theorem d_TS_others_88 : decode m_TS_others.2.1 88 = .ok (.ireturn, 1) := by decide +kernel
theorem d_TS_others_91 : decode m_TS_others.2.1 91 = .ok (.ireturn, 1) := by decide +kernel
theorem b_TS_pick_0 : mx_ck m_TS_pick 0 [(.aload_n 0, [], 0), (.getfield 26, [9, 2, 8, 377], 0), (.iload_n 1, [], 0)] = some 5 := by decide +kernel
theorem b_TS_pick_11 : mx_ck m_TS_pick 11 [(.iload_n 2, [], 0), (.iconst 1, [], nI 1)] = some 13 := by decide +kernel
theorem b_TS_pick_16 : mx_ck m_TS_pick 16 [(.iload_n 2, [], 0), (.iconst 4, [], nI 4)] = some 18 := by decide +kernel
theorem b_TS_pick_21 : mx_ck m_TS_pick 21 [(.iload_n 3, [], 0)] = some 22 := by decide +kernel
theorem b_TS_pick_25 : mx_ck m_TS_pick 25 [(.iload_n 3, [], 0), (.iconst 1, [], nI 1)] = some 27 := by decide +kernel
theorem b_TS_pick_30 : mx_ck m_TS_pick 30 [(.ldc 77, [428], (-1000001))] = some 32 := by decide +kernel
theorem b_TS_pick_33 : mx_ck m_TS_pick 33 [(.aload_n 0, [], 0)] = some 34 := by decide +kernel
theorem b_TS_pick_37 : mx_ck m_TS_pick 37 [(.iload_n 1, [], 0), (.iload_n 2, [], 0)] = some 39 := by decide +kernel
theorem b_TS_pick_42 : mx_ck m_TS_pick 42 [(.istore 4, [], 0), (.aload_n 0, [], 0)] = some 45 := by decide +kernel
theorem b_TS_pick_48 : mx_ck m_TS_pick 48 [(.iload_n 2, [], 0)] = some 49 := by decide +kernel
theorem b_TS_pick_52 : mx_ck m_TS_pick 52 [(.istore 5, [], 0), (.iload 4, [], 0), (.iload 5, [], 0)] = some 58 := by decide +kernel
theorem b_TS_pick_61 : mx_ck m_TS_pick 61 [(.istore 6, [], 0), (.iload 6, [], 0), (.iconst 1, [], nI 1)] = some 66 := by decide +kernel
theorem b_TS_pick_69 : mx_ck m_TS_pick 69 [(.ldc 77, [428], (-1000001))] = some 71 := by decide +kernel
theorem b_TS_pick_72 : mx_ck m_TS_pick 72 [(.iload_n 3, [], 0)] = some 73 := by decide +kernel
theorem b_TS_pick_76 : mx_ck m_TS_pick 76 [(.iload 4, [], 0)] = some 78 := by decide +kernel
theorem b_TS_pick_81 : mx_ck m_TS_pick 81 [(.iload 5, [], 0)] = some 83 := by decide +kernel
theorem b_TS_pick_83 : mx_ck m_TS_pick 83 [(.iload 6, [], 0), (.idiv, [], 0)] = some 86 := by decide +kernel
theorem d_TS_pick_5 : decode m_TS_pick.2.1 5 = .ok (.invokevirtual 157, 3) := by decide +kernel
theorem c_TS_pick_5 : mx_cv m_TS_pick m_House_has 157 1 [586, 522, 523, 83, 524] = true := by decide +kernel
theorem d_TS_pick_8 : decode m_TS_pick.2.1 8 = .ok (.ifCond .eq 22, 3) := by decide +kernel
theorem d_TS_pick_13 : decode m_TS_pick.2.1 13 = .ok (.if_icmp .lt 17, 3) := by decide +kernel
theorem d_TS_pick_18 : decode m_TS_pick.2.1 18 = .ok (.if_icmp .gt 12, 3) := by decide +kernel
theorem d_TS_pick_22 : decode m_TS_pick.2.1 22 = .ok (.ifCond .lt 8, 3) := by decide +kernel
theorem d_TS_pick_27 : decode m_TS_pick.2.1 27 = .ok (.if_icmp .le 6, 3) := by decide +kernel
theorem d_TS_pick_32 : decode m_TS_pick.2.1 32 = .ok (.ireturn, 1) := by decide +kernel
theorem d_TS_pick_34 : decode m_TS_pick.2.1 34 = .ok (.invokevirtual 218, 3) := by decide +kernel
theorem c_TS_pick_34 : mx_cv m_TS_pick m_TS_plainNow 218 0 [755, 757, 21, 79, 758] = true := by decide +kernel
theorem d_TS_pick_39 : decode m_TS_pick.2.1 39 = .ok (.invokevirtual 222, 3) := by decide +kernel
theorem c_TS_pick_39 : mx_cv m_TS_pick m_Plain_howMany 222 2 [782, 783, 784, 88, 785] = true := by decide +kernel
theorem d_TS_pick_45 : decode m_TS_pick.2.1 45 = .ok (.invokevirtual 218, 3) := by decide +kernel
theorem c_TS_pick_45 : mx_cv m_TS_pick m_TS_plainNow 218 0 [755, 757, 21, 79, 758] = true := by decide +kernel
theorem d_TS_pick_49 : decode m_TS_pick.2.1 49 = .ok (.invokevirtual 225, 3) := by decide +kernel
theorem c_TS_pick_49 : mx_cv m_TS_pick m_Plain_ofAny 225 1 [790, 791, 792, 88, 793] = true := by decide +kernel
theorem d_TS_pick_58 : decode m_TS_pick.2.1 58 = .ok (.invokestatic 228, 3) := by decide +kernel
theorem c_TS_pick_58 : mx_cs m_TS_pick m_TS_greatestDivisor 228 2 [794, 795, 79, 796] = true := by decide +kernel
theorem d_TS_pick_66 : decode m_TS_pick.2.1 66 = .ok (.if_icmp .ge 6, 3) := by decide +kernel
theorem d_TS_pick_71 : decode m_TS_pick.2.1 71 = .ok (.ireturn, 1) := by decide +kernel
theorem d_TS_pick_73 : decode m_TS_pick.2.1 73 = .ok (.ifCond .ne 8, 3) := by decide +kernel
theorem d_TS_pick_78 : decode m_TS_pick.2.1 78 = .ok (.goto 5, 3) := by decide +kernel
theorem d_TS_pick_86 : decode m_TS_pick.2.1 86 = .ok (.ireturn, 1) := by decide +kernel
theorem b_TS_plain_0 : mx_ck m_TS_plain 0 [(.aload_n 0, [], 0), (.getfield 26, [9, 2, 8, 377], 0), (.iload_n 1, [], 0)] = some 5 := by decide +kernel
theorem b_TS_plain_11 : mx_ck m_TS_plain 11 [(.iload_n 2, [], 0), (.iconst 1, [], nI 1)] = some 13 := by decide +kernel
theorem b_TS_plain_16 : mx_ck m_TS_plain 16 [(.iload_n 2, [], 0), (.iconst 4, [], nI 4)] = some 18 := by decide +kernel
theorem b_TS_plain_21 : mx_ck m_TS_plain 21 [(.ldc 77, [428], (-1000001))] = some 23 := by decide +kernel
theorem b_TS_plain_24 : mx_ck m_TS_plain 24 [(.aload_n 0, [], 0)] = some 25 := by decide +kernel
theorem b_TS_plain_28 : mx_ck m_TS_plain 28 [(.iload_n 1, [], 0), (.iload_n 2, [], 0)] = some 30 := by decide +kernel
theorem d_TS_plain_5 : decode m_TS_plain.2.1 5 = .ok (.invokevirtual 157, 3) := by decide +kernel
theorem c_TS_plain_5 : mx_cv m_TS_plain m_House_has 157 1 [586, 522, 523, 83, 524] = true := by decide +kernel
theorem d_TS_plain_8 : decode m_TS_plain.2.1 8 = .ok (.ifCond .eq 13, 3) := by decide +kernel
theorem d_TS_plain_13 : decode m_TS_plain.2.1 13 = .ok (.if_icmp .lt 8, 3) := by decide +kernel
theorem d_TS_plain_18 : decode m_TS_plain.2.1 18 = .ok (.if_icmp .le 6, 3) := by decide +kernel
theorem d_TS_plain_23 : decode m_TS_plain.2.1 23 = .ok (.ireturn, 1) := by decide +kernel
theorem d_TS_plain_25 : decode m_TS_plain.2.1 25 = .ok (.invokevirtual 218, 3) := by decide +kernel
theorem c_TS_plain_25 : mx_cv m_TS_plain m_TS_plainNow 218 0 [755, 757, 21, 79, 758] = true := by decide +kernel
theorem d_TS_plain_30 : decode m_TS_plain.2.1 30 = .ok (.invokevirtual 222, 3) := by decide +kernel
theorem c_TS_plain_30 : mx_cv m_TS_plain m_Plain_howMany 222 2 [782, 783, 784, 88, 785] = true := by decide +kernel
theorem d_TS_plain_33 : decode m_TS_plain.2.1 33 = .ok (.ireturn, 1) := by decide +kernel
theorem b_TS_plainNow_0 : mx_ck m_TS_plainNow 0 [(.aload_n 0, [], 0), (.getfield 295, [9, 12, 0, 387], 0)] = some 4 := by decide +kernel
theorem b_TS_plainNow_7 : mx_ck m_TS_plainNow 7 [(.aload_n 0, [], 0), (.getfield 59, [9, 9, 103, 384], 0), (.aload_n 0, [], 0), (.getfield 26, [9, 2, 8, 377], 0)] = some 15 := by decide +kernel
theorem b_TS_plainNow_18 : mx_ck m_TS_plainNow 18 [(.aload_n 0, [], 0), (.iconst 1, [], nI 1), (.putfield 295, [9, 12, 1, 387], 0)] = some 23 := by decide +kernel
theorem b_TS_plainNow_23 : mx_ck m_TS_plainNow 23 [(.aload_n 0, [], 0), (.getfield 59, [9, 9, 103, 384], 0)] = some 27 := by decide +kernel
theorem d_TS_plainNow_4 : decode m_TS_plainNow.2.1 4 = .ok (.ifCond .ne 19, 3) := by decide +kernel
theorem d_TS_plainNow_15 : decode m_TS_plainNow.2.1 15 = .ok (.invokevirtual 298, 3) := by decide +kernel
theorem c_TS_plainNow_15 : mx_cv m_TS_plainNow m_Plain_measure 298 1 [759, 760, 761, 88, 762] = true := by decide +kernel
theorem d_TS_plainNow_27 : decode m_TS_plainNow.2.1 27 = .ok (.areturn, 1) := by decide +kernel
theorem b_TS_restore_0 : mx_ck m_TS_restore 0 [(.iload_n 1, [], 0)] = some 1 := by decide +kernel
theorem b_TS_restore_4 : mx_ck m_TS_restore 4 [(.iload_n 1, [], 0), (.iconst 2, [], nI 2)] = some 6 := by decide +kernel
theorem b_TS_restore_9 : mx_ck m_TS_restore 9 [(.ldc 77, [428], (-1000001))] = some 11 := by decide +kernel
theorem b_TS_restore_12 : mx_ck m_TS_restore 12 [(.aload_n 0, [], 0), (.iload_n 1, [], 0)] = some 14 := by decide +kernel
theorem b_TS_restore_23 : mx_ck m_TS_restore 23 [(.ldc 134, [561], (-1000002))] = some 25 := by decide +kernel
theorem b_TS_restore_26 : mx_ck m_TS_restore 26 [(.aload_n 0, [], 0), (.aload_n 0, [], 0), (.iload_n 1, [], 0)] = some 29 := by decide +kernel
theorem b_TS_restore_35 : mx_ck m_TS_restore 35 [(.iconst 1, [], nI 1)] = some 36 := by decide +kernel
theorem d_TS_restore_1 : decode m_TS_restore.2.1 1 = .ok (.ifCond .lt 8, 3) := by decide +kernel
theorem d_TS_restore_6 : decode m_TS_restore.2.1 6 = .ok (.if_icmp .lt 6, 3) := by decide +kernel
theorem d_TS_restore_11 : decode m_TS_restore.2.1 11 = .ok (.ireturn, 1) := by decide +kernel
theorem d_TS_restore_14 : decode m_TS_restore.2.1 14 = .ok (.invokevirtual 258, 3) := by decide +kernel
theorem c_TS_restore_14 : mx_cv m_TS_restore m_TS_imageOf 258 1 [834, 836, 26, 79, 837] = true := by decide +kernel
theorem d_TS_restore_17 : decode m_TS_restore.2.1 17 = .ok (.invokevirtual 166, 3) := by decide +kernel
theorem c_TS_restore_17 : mx_cv m_TS_restore m_House_isNone 166 0 [591, 592, 593, 83, 594] = true := by decide +kernel
theorem d_TS_restore_20 : decode m_TS_restore.2.1 20 = .ok (.ifCond .eq 6, 3) := by decide +kernel
theorem d_TS_restore_25 : decode m_TS_restore.2.1 25 = .ok (.ireturn, 1) := by decide +kernel
theorem d_TS_restore_29 : decode m_TS_restore.2.1 29 = .ok (.invokevirtual 258, 3) := by decide +kernel
theorem c_TS_restore_29 : mx_cv m_TS_restore m_TS_imageOf 258 1 [834, 836, 26, 79, 837] = true := by decide +kernel
theorem d_TS_restore_32 : decode m_TS_restore.2.1 32 = .ok (.invokevirtual 121, 3) := by decide +kernel
theorem c_TS_restore_32 : mx_cv m_TS_restore m_TS_standIn 121 1 [540, 542, 7, 79, 543] = true := by decide +kernel
theorem d_TS_restore_36 : decode m_TS_restore.2.1 36 = .ok (.ireturn, 1) := by decide +kernel
theorem b_TS_row_0 : mx_ck m_TS_row 0 [(.iload_n 1, [], 0)] = some 1 := by decide +kernel
theorem b_TS_row_7 : mx_ck m_TS_row 7 [(.iload_n 2, [], 0)] = some 8 := by decide +kernel
theorem b_TS_row_14 : mx_ck m_TS_row 14 [(.iload_n 3, [], 0), (.bipush 40, [], nI 40)] = some 17 := by decide +kernel
theorem b_TS_row_20 : mx_ck m_TS_row 20 [(.ldc 77, [428], (-1000001))] = some 22 := by decide +kernel
theorem b_TS_row_23 : mx_ck m_TS_row 23 [(.aload_n 0, [], 0), (.iload_n 3, [], 0)] = some 25 := by decide +kernel
theorem b_TS_row_28 : mx_ck m_TS_row 28 [(.iconst 4, [], nI 4)] = some 29 := by decide +kernel
theorem b_TS_row_32 : mx_ck m_TS_row 32 [(.iconst 0, [], nI 0)] = some 33 := by decide +kernel
theorem b_TS_row_33 : mx_ck m_TS_row 33 [(.putfield 78, [9, 13, 0, 388], 0), (.aload_n 0, [], 0), (.getfield 78, [9, 13, 0, 388], 0)] = some 40 := by decide +kernel
theorem b_TS_row_43 : mx_ck m_TS_row 43 [(.ldc 82, [429], (-1000010)), (.aload_n 0, [], 0), (.getfield 78, [9, 13, 0, 388], 0), (.isub, [], 0)] = some 50 := by decide +kernel
theorem b_TS_row_51 : mx_ck m_TS_row 51 [(.aload_n 0, [], 0), (.getfield 10, [9, 0, 2, 375], 0), (.iload_n 1, [], 0), (.iload_n 2, [], 0), (.iload_n 3, [], 0)] = some 58 := by decide +kernel
theorem b_TS_row_61 : mx_ck m_TS_row 61 [(.iload_n 3, [], 0)] = some 62 := by decide +kernel
theorem d_TS_row_1 : decode m_TS_row.2.1 1 = .ok (.invokestatic 70, 3) := by decide +kernel
theorem c_TS_row_1 : mx_cs m_TS_row m_Rows_isNumber 70 1 [422, 423, 80, 424] = true := by decide +kernel
theorem d_TS_row_4 : decode m_TS_row.2.1 4 = .ok (.ifCond .eq 16, 3) := by decide +kernel
theorem d_TS_row_8 : decode m_TS_row.2.1 8 = .ok (.invokestatic 74, 3) := by decide +kernel
theorem c_TS_row_8 : mx_cs m_TS_row m_Rows_isLane 74 1 [425, 426, 80, 427] = true := by decide +kernel
theorem d_TS_row_11 : decode m_TS_row.2.1 11 = .ok (.ifCond .eq 9, 3) := by decide +kernel
theorem d_TS_row_17 : decode m_TS_row.2.1 17 = .ok (.if_icmp .le 6, 3) := by decide +kernel
theorem d_TS_row_22 : decode m_TS_row.2.1 22 = .ok (.ireturn, 1) := by decide +kernel
theorem d_TS_row_25 : decode m_TS_row.2.1 25 = .ok (.ifCond .ge 7, 3) := by decide +kernel
theorem d_TS_row_29 : decode m_TS_row.2.1 29 = .ok (.goto 4, 3) := by decide +kernel
theorem d_TS_row_40 : decode m_TS_row.2.1 40 = .ok (.ifCond .eq 11, 3) := by decide +kernel
theorem d_TS_row_50 : decode m_TS_row.2.1 50 = .ok (.ireturn, 1) := by decide +kernel
theorem d_TS_row_58 : decode m_TS_row.2.1 58 = .ok (.invokevirtual 83, 3) := by decide +kernel
theorem c_TS_row_58 : mx_cv m_TS_row m_Rows_make 83 3 [430, 431, 432, 80, 433] = true := by decide +kernel
theorem d_TS_row_62 : decode m_TS_row.2.1 62 = .ok (.ireturn, 1) := by decide +kernel
theorem b_TS_set_0 : mx_ck m_TS_set 0 [(.iload_n 1, [], 0)] = some 1 := by decide +kernel
theorem b_TS_set_7 : mx_ck m_TS_set 7 [(.ldc 77, [428], (-1000001))] = some 9 := by decide +kernel
theorem b_TS_set_10 : mx_ck m_TS_set 10 [(.aload_n 0, [], 0), (.aload_n 0, [], 0), (.getfield 10, [9, 0, 2, 375], 0), (.iload_n 1, [], 0), (.iload_n 2, [], 0), (.iconst 1, [], nI 1)] = some 18 := by decide +kernel
theorem b_TS_set_21 : mx_ck m_TS_set 21 [(.putfield 78, [9, 13, 0, 388], 0), (.aload_n 0, [], 0), (.getfield 78, [9, 13, 0, 388], 0)] = some 28 := by decide +kernel
theorem b_TS_set_31 : mx_ck m_TS_set 31 [(.ldc 82, [429], (-1000010)), (.aload_n 0, [], 0), (.getfield 78, [9, 13, 0, 388], 0), (.isub, [], 0)] = some 38 := by decide +kernel
theorem b_TS_set_41 : mx_ck m_TS_set 41 [(.aload_n 0, [], 0), (.getfield 10, [9, 0, 2, 375], 0), (.iload_n 1, [], 0), (.iload_n 2, [], 0), (.iload_n 3, [], 0)] = some 48 := by decide +kernel
theorem d_TS_set_1 : decode m_TS_set.2.1 1 = .ok (.invokestatic 70, 3) := by decide +kernel
theorem c_TS_set_1 : mx_cs m_TS_set m_Rows_isNumber 70 1 [422, 423, 80, 424] = true := by decide +kernel
theorem d_TS_set_4 : decode m_TS_set.2.1 4 = .ok (.ifCond .ne 6, 3) := by decide +kernel
theorem d_TS_set_9 : decode m_TS_set.2.1 9 = .ok (.ireturn, 1) := by decide +kernel
theorem d_TS_set_18 : decode m_TS_set.2.1 18 = .ok (.invokevirtual 87, 3) := by decide +kernel
theorem c_TS_set_18 : mx_cv m_TS_set m_Rows_findingAt 87 3 [438, 439, 440, 80, 441] = true := by decide +kernel
theorem d_TS_set_28 : decode m_TS_set.2.1 28 = .ok (.ifCond .eq 13, 3) := by decide +kernel
theorem d_TS_set_38 : decode m_TS_set.2.1 38 = .ok (.goto 13, 3) := by decide +kernel
theorem d_TS_set_48 : decode m_TS_set.2.1 48 = .ok (.invokevirtual 91, 3) := by decide +kernel
theorem c_TS_set_48 : mx_cv m_TS_set m_Rows_put 91 3 [446, 447, 448, 80, 449] = true := by decide +kernel
theorem d_TS_set_51 : decode m_TS_set.2.1 51 = .ok (.ireturn, 1) := by decide +kernel
theorem b_TS_standIn_0 : mx_ck m_TS_standIn 0 [(.aload_n 0, [], 0), (.getfield 26, [9, 2, 8, 377], 0), (.aload_n 1, [], 0)] = some 5 := by decide +kernel
theorem b_TS_standIn_8 : mx_ck m_TS_standIn 8 [(.aload_n 0, [], 0), (.getfield 42, [9, 6, 24, 381], 0), (.iconst 0, [], nI 0), (.putfield 131, [0, 4, 0, 201], 0), (.aload_n 0, [], 0)] = some 17 := by decide +kernel
theorem d_TS_standIn_5 : decode m_TS_standIn.2.1 5 = .ok (.invokevirtual 239, 3) := by decide +kernel
theorem c_TS_standIn_5 : mx_cv m_TS_standIn m_House_takeFrom 239 1 [544, 545, 546, 83, 547] = true := by decide +kernel
theorem d_TS_standIn_17 : decode m_TS_standIn.2.1 17 = .ok (.invokevirtual 138, 3) := by decide +kernel
theorem c_TS_standIn_17 : mx_cv m_TS_standIn m_TS_forgetWhatStood 138 0 [549, 551, 8, 79, 552] = true := by decide +kernel
theorem d_TS_standIn_20 : decode m_TS_standIn.2.1 20 = .ok (.return_, 1) := by decide +kernel
theorem b_TS_status_0 : mx_ck m_TS_status 0 [(.aload_n 0, [], 0), (.getfield 78, [9, 13, 0, 388], 0)] = some 4 := by decide +kernel
theorem d_TS_status_4 : decode m_TS_status.2.1 4 = .ok (.ireturn, 1) := by decide +kernel
theorem b_TS_trace_0 : mx_ck m_TS_trace 0 [(.iload_n 1, [], 0)] = some 1 := by decide +kernel
theorem b_TS_trace_4 : mx_ck m_TS_trace 4 [(.iload_n 1, [], 0), (.aload_n 0, [], 0), (.getfield 66, [9, 10, 118, 385], 0), (.getfield 278, [1, 1, 0, 357], 0)] = some 12 := by decide +kernel
theorem b_TS_trace_15 : mx_ck m_TS_trace 15 [(.ldc_w 281, [921], (-1000000))] = some 18 := by decide +kernel
theorem b_TS_trace_21 : mx_ck m_TS_trace 21 [(.aload_n 0, [], 0), (.getfield 66, [9, 10, 118, 385], 0), (.getfield 282, [1, 0, 2, 355], 0), (.iload_n 1, [], 0), (.iaload, [], 0)] = some 30 := by decide +kernel
theorem d_TS_trace_1 : decode m_TS_trace.2.1 1 = .ok (.ifCond .lt 14, 3) := by decide +kernel
theorem d_TS_trace_12 : decode m_TS_trace.2.1 12 = .ok (.if_icmp .lt 9, 3) := by decide +kernel
theorem d_TS_trace_18 : decode m_TS_trace.2.1 18 = .ok (.goto 12, 3) := by decide +kernel
theorem d_TS_trace_30 : decode m_TS_trace.2.1 30 = .ok (.ireturn, 1) := by decide +kernel
theorem b_TS_type_0 : mx_ck m_TS_type 0 [(.aload_n 0, [], 0), (.getfield 26, [9, 2, 8, 377], 0), (.iload_n 1, [], 0)] = some 5 := by decide +kernel
theorem b_TS_type_11 : mx_ck m_TS_type 11 [(.ldc 77, [428], (-1000001))] = some 13 := by decide +kernel
theorem b_TS_type_14 : mx_ck m_TS_type 14 [(.iload_n 2, [], 0)] = some 15 := by decide +kernel
theorem b_TS_type_40 : mx_ck m_TS_type 40 [(.aload_n 0, [], 0), (.getfield 26, [9, 2, 8, 377], 0), (.getfield 145, [3, 0, 2, 161], 0), (.iload_n 1, [], 0), (.iaload, [], 0)] = some 49 := by decide +kernel
theorem b_TS_type_50 : mx_ck m_TS_type 50 [(.aload_n 0, [], 0), (.getfield 26, [9, 2, 8, 377], 0), (.getfield 160, [3, 1, 3, 165], 0), (.iload_n 1, [], 0), (.iaload, [], 0)] = some 59 := by decide +kernel
theorem b_TS_type_60 : mx_ck m_TS_type 60 [(.aload_n 0, [], 0), (.getfield 26, [9, 2, 8, 377], 0), (.getfield 163, [3, 2, 4, 169], 0), (.iload_n 1, [], 0), (.iaload, [], 0)] = some 69 := by decide +kernel
theorem b_TS_type_70 : mx_ck m_TS_type 70 [(.ldc 77, [428], (-1000001))] = some 72 := by decide +kernel
theorem d_TS_type_5 : decode m_TS_type.2.1 5 = .ok (.invokevirtual 157, 3) := by decide +kernel
theorem c_TS_type_5 : mx_cv m_TS_type m_House_has 157 1 [586, 522, 523, 83, 524] = true := by decide +kernel
theorem d_TS_type_8 : decode m_TS_type.2.1 8 = .ok (.ifCond .ne 6, 3) := by decide +kernel
theorem d_TS_type_13 : decode m_TS_type.2.1 13 = .ok (.ireturn, 1) := by decide +kernel
theorem d_TS_type_15 : decode m_TS_type.2.1 15 = .ok (.tableswitch 55 0 2 #[25, 35, 45], 25) := by decide +kernel
theorem d_TS_type_49 : decode m_TS_type.2.1 49 = .ok (.ireturn, 1) := by decide +kernel
theorem d_TS_type_59 : decode m_TS_type.2.1 59 = .ok (.ireturn, 1) := by decide +kernel
theorem d_TS_type_69 : decode m_TS_type.2.1 69 = .ok (.ireturn, 1) := by decide +kernel
theorem d_TS_type_72 : decode m_TS_type.2.1 72 = .ok (.ireturn, 1) := by decide +kernel
theorem b_TS_undo_0 : mx_ck m_TS_undo 0 [(.aload_n 0, [], 0), (.getfield 42, [9, 6, 24, 381], 0), (.getfield 131, [0, 4, 0, 201], 0)] = some 7 := by decide +kernel
theorem b_TS_undo_10 : mx_ck m_TS_undo 10 [(.ldc 134, [561], (-1000002))] = some 12 := by decide +kernel
theorem b_TS_undo_13 : mx_ck m_TS_undo 13 [(.aload_n 0, [], 0), (.getfield 42, [9, 6, 24, 381], 0), (.aload_n 0, [], 0), (.getfield 26, [9, 2, 8, 377], 0)] = some 21 := by decide +kernel
theorem b_TS_undo_24 : mx_ck m_TS_undo 24 [(.aload_n 0, [], 0)] = some 25 := by decide +kernel
theorem b_TS_undo_28 : mx_ck m_TS_undo 28 [(.aload_n 0, [], 0), (.getfield 42, [9, 6, 24, 381], 0), (.getfield 131, [0, 4, 0, 201], 0)] = some 35 := by decide +kernel
theorem d_TS_undo_7 : decode m_TS_undo.2.1 7 = .ok (.ifCond .ne 6, 3) := by decide +kernel
theorem d_TS_undo_12 : decode m_TS_undo.2.1 12 = .ok (.ireturn, 1) := by decide +kernel
theorem d_TS_undo_21 : decode m_TS_undo.2.1 21 = .ok (.invokevirtual 135, 3) := by decide +kernel
theorem c_TS_undo_21 : mx_cv m_TS_undo m_Acts_takeBack 135 1 [562, 563, 564, 84, 565] = true := by decide +kernel
theorem d_TS_undo_25 : decode m_TS_undo.2.1 25 = .ok (.invokevirtual 138, 3) := by decide +kernel
theorem c_TS_undo_25 : mx_cv m_TS_undo m_TS_forgetWhatStood 138 0 [549, 551, 8, 79, 552] = true := by decide +kernel
theorem d_TS_undo_35 : decode m_TS_undo.2.1 35 = .ok (.ireturn, 1) := by decide +kernel
theorem b_TS_who_0 : mx_ck m_TS_who 0 [(.aload_n 0, [], 0), (.getfield 26, [9, 2, 8, 377], 0), (.iload_n 1, [], 0)] = some 5 := by decide +kernel
theorem b_TS_who_11 : mx_ck m_TS_who 11 [(.iload_n 2, [], 0)] = some 12 := by decide +kernel
theorem b_TS_who_15 : mx_ck m_TS_who 15 [(.iload_n 2, [], 0), (.iconst 2, [], nI 2)] = some 17 := by decide +kernel
theorem b_TS_who_20 : mx_ck m_TS_who 20 [(.iload_n 3, [], 0)] = some 21 := by decide +kernel
theorem b_TS_who_27 : mx_ck m_TS_who 27 [(.iload 5, [], 0), (.iconst 1, [], nI 1)] = some 30 := by decide +kernel
theorem b_TS_who_33 : mx_ck m_TS_who 33 [(.iload 5, [], 0), (.aload_n 0, [], 0), (.getfield 26, [9, 2, 8, 377], 0), (.getfield 125, [3, 3, 0, 172], 0)] = some 42 := by decide +kernel
theorem b_TS_who_45 : mx_ck m_TS_who 45 [(.ldc 77, [428], (-1000001))] = some 47 := by decide +kernel
theorem b_TS_who_48 : mx_ck m_TS_who 48 [(.aload_n 0, [], 0), (.aload_n 0, [], 0), (.getfield 10, [9, 0, 2, 375], 0), (.iload_n 3, [], 0), (.iload 4, [], 0), (.iload 5, [], 0)] = some 58 := by decide +kernel
theorem b_TS_who_61 : mx_ck m_TS_who 61 [(.putfield 78, [9, 13, 0, 388], 0), (.aload_n 0, [], 0), (.getfield 78, [9, 13, 0, 388], 0)] = some 68 := by decide +kernel
theorem b_TS_who_71 : mx_ck m_TS_who 71 [(.ldc 82, [429], (-1000010)), (.aload_n 0, [], 0), (.getfield 78, [9, 13, 0, 388], 0), (.isub, [], 0)] = some 78 := by decide +kernel
theorem b_TS_who_79 : mx_ck m_TS_who 79 [(.aload_n 0, [], 0), (.getfield 10, [9, 0, 2, 375], 0), (.iload_n 3, [], 0), (.iload 4, [], 0), (.iload 5, [], 0)] = some 88 := by decide +kernel
theorem b_TS_who_91 : mx_ck m_TS_who 91 [(.istore 6, [], 0), (.iload_n 2, [], 0)] = some 94 := by decide +kernel
theorem b_TS_who_97 : mx_ck m_TS_who 97 [(.bipush 6, [], nI 6)] = some 99 := by decide +kernel
theorem b_TS_who_102 : mx_ck m_TS_who 102 [(.bipush 8, [], nI 8)] = some 104 := by decide +kernel
theorem b_TS_who_104 : mx_ck m_TS_who 104 [(.istore 7, [], 0), (.iconst 0, [], nI 0), (.istore 8, [], 0), (.iconst 0, [], nI 0), (.istore 9, [], 0)] = some 112 := by decide +kernel
theorem b_TS_who_112 : mx_ck m_TS_who 112 [(.iload 9, [], 0), (.iload 7, [], 0)] = some 116 := by decide +kernel
theorem b_TS_who_119 : mx_ck m_TS_who 119 [(.aload_n 0, [], 0), (.iload_n 1, [], 0), (.iload_n 2, [], 0), (.iload 9, [], 0), (.iload 6, [], 0), (.iload 5, [], 0)] = some 128 := by decide +kernel
theorem b_TS_who_134 : mx_ck m_TS_who 134 [(.iload 8, [], 0), (.iconst 1, [], nI 1), (.iload 9, [], 0), (.ishl, [], 0), (.ior, [], 0), (.istore 8, [], 0)] = some 143 := by decide +kernel
theorem b_TS_who_143 : mx_ck m_TS_who 143 [(.iinc 9 1, [], nI 1)] = some 146 := by decide +kernel
theorem b_TS_who_149 : mx_ck m_TS_who 149 [(.iload 8, [], 0)] = some 151 := by decide +kernel
theorem d_TS_who_5 : decode m_TS_who.2.1 5 = .ok (.invokevirtual 157, 3) := by decide +kernel
theorem c_TS_who_5 : mx_cv m_TS_who m_House_has 157 1 [586, 522, 523, 83, 524] = true := by decide +kernel
theorem d_TS_who_8 : decode m_TS_who.2.1 8 = .ok (.ifCond .eq 37, 3) := by decide +kernel
theorem d_TS_who_12 : decode m_TS_who.2.1 12 = .ok (.ifCond .lt 33, 3) := by decide +kernel
theorem d_TS_who_17 : decode m_TS_who.2.1 17 = .ok (.if_icmp .gt 28, 3) := by decide +kernel
theorem d_TS_who_21 : decode m_TS_who.2.1 21 = .ok (.invokestatic 70, 3) := by decide +kernel
theorem c_TS_who_21 : mx_cs m_TS_who m_Rows_isNumber 70 1 [422, 423, 80, 424] = true := by decide +kernel
theorem d_TS_who_24 : decode m_TS_who.2.1 24 = .ok (.ifCond .eq 21, 3) := by decide +kernel
theorem d_TS_who_30 : decode m_TS_who.2.1 30 = .ok (.if_icmp .lt 15, 3) := by decide +kernel
theorem d_TS_who_42 : decode m_TS_who.2.1 42 = .ok (.if_icmp .le 6, 3) := by decide +kernel
theorem d_TS_who_47 : decode m_TS_who.2.1 47 = .ok (.ireturn, 1) := by decide +kernel
theorem d_TS_who_58 : decode m_TS_who.2.1 58 = .ok (.invokevirtual 87, 3) := by decide +kernel
theorem c_TS_who_58 : mx_cv m_TS_who m_Rows_findingAt 87 3 [438, 439, 440, 80, 441] = true := by decide +kernel
theorem d_TS_who_68 : decode m_TS_who.2.1 68 = .ok (.ifCond .eq 11, 3) := by decide +kernel
theorem d_TS_who_78 : decode m_TS_who.2.1 78 = .ok (.ireturn, 1) := by decide +kernel
theorem d_TS_who_88 : decode m_TS_who.2.1 88 = .ok (.invokevirtual 231, 3) := by decide +kernel
theorem c_TS_who_88 : mx_cv m_TS_who m_Rows_bits 231 3 [801, 802, 803, 80, 804] = true := by decide +kernel
theorem d_TS_who_94 : decode m_TS_who.2.1 94 = .ok (.ifCond .ne 8, 3) := by decide +kernel
theorem d_TS_who_99 : decode m_TS_who.2.1 99 = .ok (.goto 5, 3) := by decide +kernel
theorem d_TS_who_116 : decode m_TS_who.2.1 116 = .ok (.if_icmp .ge 33, 3) := by decide +kernel
theorem d_TS_who_128 : decode m_TS_who.2.1 128 = .ok (.invokevirtual 234, 3) := by decide +kernel
theorem c_TS_who_128 : mx_cv m_TS_who m_TS_fits 234 5 [805, 807, 24, 79, 808] = true := by decide +kernel
theorem d_TS_who_131 : decode m_TS_who.2.1 131 = .ok (.ifCond .eq 12, 3) := by decide +kernel
theorem d_TS_who_146 : decode m_TS_who.2.1 146 = .ok (.goto (-34), 3) := by decide +kernel
theorem d_TS_who_151 : decode m_TS_who.2.1 151 = .ok (.ireturn, 1) := by decide +kernel
