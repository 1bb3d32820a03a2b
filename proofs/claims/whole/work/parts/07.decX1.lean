theorem dX9_count_73 : decode cX9_count 73 = .ok (.getfield 24, 3) := by decide +kernel
theorem dX9_count_76 : decode cX9_count 76 = .ok (.getfield 211, 3) := by decide +kernel
theorem dX9_count_79 : decode cX9_count 79 = .ok (.ireturn, 1) := by decide +kernel
theorem dX9_count_80 : decode cX9_count 80 = .ok (.aload_n 0, 1) := by decide +kernel
theorem dX9_count_81 : decode cX9_count 81 = .ok (.getfield 31, 3) := by decide +kernel
theorem dX9_count_84 : decode cX9_count 84 = .ok (.getfield 91, 3) := by decide +kernel
theorem dX9_count_87 : decode cX9_count 87 = .ok (.ireturn, 1) := by decide +kernel
theorem dX9_count_88 : decode cX9_count 88 = .ok (.aload_n 0, 1) := by decide +kernel
theorem dX9_count_89 : decode cX9_count 89 = .ok (.getfield 20, 3) := by decide +kernel
theorem dX9_count_92 : decode cX9_count 92 = .ok (.getfield 70, 3) := by decide +kernel
theorem dX9_count_95 : decode cX9_count 95 = .ok (.ireturn, 1) := by decide +kernel
theorem dX9_count_96 : decode cX9_count 96 = .ok (.aload_n 0, 1) := by decide +kernel
theorem dX9_count_97 : decode cX9_count 97 = .ok (.getfield 38, 3) := by decide +kernel
theorem dX9_count_100 : decode cX9_count 100 = .ok (.aload_n 0, 1) := by decide +kernel
theorem dX9_count_101 : decode cX9_count 101 = .ok (.getfield 24, 3) := by decide +kernel
theorem dX9_count_104 : decode cX9_count 104 = .ok (.invokevirtual 332, 3) := by decide +kernel
theorem dX9_count_107 : decode cX9_count 107 = .ok (.ireturn, 1) := by decide +kernel
theorem dX9_count_108 : decode cX9_count 108 = .ok (.aload_n 0, 1) := by decide +kernel
theorem dX9_count_109 : decode cX9_count 109 = .ok (.getfield 24, 3) := by decide +kernel
theorem dX9_count_112 : decode cX9_count 112 = .ok (.invokevirtual 335, 3) := by decide +kernel
theorem dX9_count_115 : decode cX9_count 115 = .ok (.ireturn, 1) := by decide +kernel
theorem dX9_count_116 : decode cX9_count 116 = .ok (.iconst (-1), 1) := by decide +kernel
theorem dX9_count_117 : decode cX9_count 117 = .ok (.ireturn, 1) := by decide +kernel
theorem dX9_beginAct_0 : decode cX9_beginAct 0 = .ok (.aload_n 0, 1) := by decide +kernel
theorem dX9_beginAct_1 : decode cX9_beginAct 1 = .ok (.getfield 31, 3) := by decide +kernel
theorem dX9_beginAct_4 : decode cX9_beginAct 4 = .ok (.aload_n 0, 1) := by decide +kernel
theorem dX9_beginAct_5 : decode cX9_beginAct 5 = .ok (.getfield 24, 3) := by decide +kernel
theorem dX9_beginAct_8 : decode cX9_beginAct 8 = .ok (.invokevirtual 338, 3) := by decide +kernel
theorem dX9_beginAct_11 : decode cX9_beginAct 11 = .ok (.aload_n 0, 1) := by decide +kernel
theorem dX9_beginAct_12 : decode cX9_beginAct 12 = .ok (.invokevirtual 94, 3) := by decide +kernel
theorem dX9_beginAct_15 : decode cX9_beginAct 15 = .ok (.return_, 1) := by decide +kernel
theorem dX9_forgetAnswers_0 : decode cX9_forgetAnswers 0 = .ok (.aload_n 0, 1) := by decide +kernel
theorem dX9_forgetAnswers_1 : decode cX9_forgetAnswers 1 = .ok (.getfield 52, 3) := by decide +kernel
theorem dX9_forgetAnswers_4 : decode cX9_forgetAnswers 4 = .ok (.iconst 0, 1) := by decide +kernel
theorem dX9_forgetAnswers_5 : decode cX9_forgetAnswers 5 = .ok (.putfield 341, 3) := by decide +kernel
theorem dX9_forgetAnswers_8 : decode cX9_forgetAnswers 8 = .ok (.aload_n 0, 1) := by decide +kernel
theorem dX9_forgetAnswers_9 : decode cX9_forgetAnswers 9 = .ok (.getfield 52, 3) := by decide +kernel
theorem dX9_forgetAnswers_12 : decode cX9_forgetAnswers 12 = .ok (.iconst 0, 1) := by decide +kernel
theorem dX9_forgetAnswers_13 : decode cX9_forgetAnswers 13 = .ok (.putfield 345, 3) := by decide +kernel
theorem dX9_forgetAnswers_16 : decode cX9_forgetAnswers 16 = .ok (.aload_n 0, 1) := by decide +kernel
theorem dX9_forgetAnswers_17 : decode cX9_forgetAnswers 17 = .ok (.getfield 45, 3) := by decide +kernel
theorem dX9_forgetAnswers_20 : decode cX9_forgetAnswers 20 = .ok (.iconst 0, 1) := by decide +kernel
theorem dX9_forgetAnswers_21 : decode cX9_forgetAnswers 21 = .ok (.putfield 348, 3) := by decide +kernel
theorem dX9_forgetAnswers_24 : decode cX9_forgetAnswers 24 = .ok (.aload_n 0, 1) := by decide +kernel
theorem dX9_forgetAnswers_25 : decode cX9_forgetAnswers 25 = .ok (.getfield 59, 3) := by decide +kernel
theorem dX9_forgetAnswers_28 : decode cX9_forgetAnswers 28 = .ok (.bipush (-2), 2) := by decide +kernel
theorem dX9_forgetAnswers_30 : decode cX9_forgetAnswers 30 = .ok (.putfield 351, 3) := by decide +kernel
theorem dX9_forgetAnswers_33 : decode cX9_forgetAnswers 33 = .ok (.return_, 1) := by decide +kernel
theorem dX9_areTwoRows_0 : decode cX9_areTwoRows 0 = .ok (.aload_n 0, 1) := by decide +kernel
theorem dX9_areTwoRows_1 : decode cX9_areTwoRows 1 = .ok (.getfield 24, 3) := by decide +kernel
theorem dX9_areTwoRows_4 : decode cX9_areTwoRows 4 = .ok (.iload_n 1, 1) := by decide +kernel
theorem dX9_areTwoRows_5 : decode cX9_areTwoRows 5 = .ok (.invokevirtual 120, 3) := by decide +kernel
theorem dX9_areTwoRows_8 : decode cX9_areTwoRows 8 = .ok (.ifCond .eq 23, 3) := by decide +kernel
theorem dX9_areTwoRows_11 : decode cX9_areTwoRows 11 = .ok (.aload_n 0, 1) := by decide +kernel
theorem dX9_areTwoRows_12 : decode cX9_areTwoRows 12 = .ok (.getfield 24, 3) := by decide +kernel
theorem dX9_areTwoRows_15 : decode cX9_areTwoRows 15 = .ok (.iload_n 2, 1) := by decide +kernel
theorem dX9_areTwoRows_16 : decode cX9_areTwoRows 16 = .ok (.invokevirtual 120, 3) := by decide +kernel
theorem dX9_areTwoRows_19 : decode cX9_areTwoRows 19 = .ok (.ifCond .eq 12, 3) := by decide +kernel
theorem dX9_areTwoRows_22 : decode cX9_areTwoRows 22 = .ok (.iload_n 1, 1) := by decide +kernel
theorem dX9_areTwoRows_23 : decode cX9_areTwoRows 23 = .ok (.iload_n 2, 1) := by decide +kernel
theorem dX9_areTwoRows_24 : decode cX9_areTwoRows 24 = .ok (.if_icmp .eq 7, 3) := by decide +kernel
theorem dX9_areTwoRows_27 : decode cX9_areTwoRows 27 = .ok (.iconst 1, 1) := by decide +kernel
theorem dX9_areTwoRows_28 : decode cX9_areTwoRows 28 = .ok (.goto 4, 3) := by decide +kernel
theorem dX9_areTwoRows_31 : decode cX9_areTwoRows 31 = .ok (.iconst 0, 1) := by decide +kernel
theorem dX9_areTwoRows_32 : decode cX9_areTwoRows 32 = .ok (.ireturn, 1) := by decide +kernel
theorem dX9_makeMove_0 : decode cX9_makeMove 0 = .ok (.aload_n 0, 1) := by decide +kernel
theorem dX9_makeMove_1 : decode cX9_makeMove 1 = .ok (.getfield 24, 3) := by decide +kernel
theorem dX9_makeMove_4 : decode cX9_makeMove 4 = .ok (.getfield 138, 3) := by decide +kernel
theorem dX9_makeMove_7 : decode cX9_makeMove 7 = .ok (.bipush 24, 2) := by decide +kernel
theorem dX9_makeMove_9 : decode cX9_makeMove 9 = .ok (.if_icmp .ge 24, 3) := by decide +kernel
theorem dX9_makeMove_12 : decode cX9_makeMove 12 = .ok (.aload_n 0, 1) := by decide +kernel
theorem dX9_makeMove_13 : decode cX9_makeMove 13 = .ok (.getfield 24, 3) := by decide +kernel
theorem dX9_makeMove_16 : decode cX9_makeMove 16 = .ok (.aload_n 0, 1) := by decide +kernel
theorem dX9_makeMove_17 : decode cX9_makeMove 17 = .ok (.getfield 66, 3) := by decide +kernel
theorem dX9_makeMove_20 : decode cX9_makeMove 20 = .ok (.iload_n 1, 1) := by decide +kernel
theorem dX9_makeMove_21 : decode cX9_makeMove 21 = .ok (.iload_n 2, 1) := by decide +kernel
theorem dX9_makeMove_22 : decode cX9_makeMove 22 = .ok (.iload_n 3, 1) := by decide +kernel
theorem dX9_makeMove_23 : decode cX9_makeMove 23 = .ok (.iload 4, 2) := by decide +kernel
theorem dX9_makeMove_25 : decode cX9_makeMove 25 = .ok (.iload 5, 2) := by decide +kernel
theorem dX9_makeMove_27 : decode cX9_makeMove 27 = .ok (.invokevirtual 252, 3) := by decide +kernel
theorem dX9_makeMove_30 : decode cX9_makeMove 30 = .ok (.ifCond .ne 5, 3) := by decide +kernel
theorem dX9_makeMove_33 : decode cX9_makeMove 33 = .ok (.iconst 0, 1) := by decide +kernel
theorem dX9_makeMove_34 : decode cX9_makeMove 34 = .ok (.ireturn, 1) := by decide +kernel
theorem dX9_makeMove_35 : decode cX9_makeMove 35 = .ok (.aload_n 0, 1) := by decide +kernel
theorem dX9_makeMove_36 : decode cX9_makeMove 36 = .ok (.invokevirtual 104, 3) := by decide +kernel
theorem dX9_makeMove_39 : decode cX9_makeMove 39 = .ok (.aload_n 0, 1) := by decide +kernel
theorem dX9_makeMove_40 : decode cX9_makeMove 40 = .ok (.getfield 24, 3) := by decide +kernel
theorem dX9_makeMove_43 : decode cX9_makeMove 43 = .ok (.aload_n 0, 1) := by decide +kernel
theorem dX9_makeMove_44 : decode cX9_makeMove 44 = .ok (.getfield 66, 3) := by decide +kernel
theorem dX9_makeMove_47 : decode cX9_makeMove 47 = .ok (.invokevirtual 152, 3) := by decide +kernel
theorem dX9_makeMove_50 : decode cX9_makeMove 50 = .ok (.aload_n 0, 1) := by decide +kernel
theorem dX9_makeMove_51 : decode cX9_makeMove 51 = .ok (.getfield 24, 3) := by decide +kernel
theorem dX9_makeMove_54 : decode cX9_makeMove 54 = .ok (.iload_n 1, 1) := by decide +kernel
theorem dX9_makeMove_55 : decode cX9_makeMove 55 = .ok (.iload_n 2, 1) := by decide +kernel
theorem dX9_makeMove_56 : decode cX9_makeMove 56 = .ok (.iload_n 3, 1) := by decide +kernel
theorem dX9_makeMove_57 : decode cX9_makeMove 57 = .ok (.iload 4, 2) := by decide +kernel
theorem dX9_makeMove_59 : decode cX9_makeMove 59 = .ok (.iload 5, 2) := by decide +kernel
theorem dX9_makeMove_61 : decode cX9_makeMove 61 = .ok (.invokevirtual 354, 3) := by decide +kernel
theorem dX9_makeMove_64 : decode cX9_makeMove 64 = .ok (.iconst 1, 1) := by decide +kernel
theorem dX9_makeMove_65 : decode cX9_makeMove 65 = .ok (.ireturn, 1) := by decide +kernel
theorem dX9_layParts_0 : decode cX9_layParts 0 = .ok (.iconst 0, 1) := by decide +kernel
theorem dX9_layParts_1 : decode cX9_layParts 1 = .ok (.istore_n 2, 1) := by decide +kernel
theorem dX9_layParts_2 : decode cX9_layParts 2 = .ok (.iload_n 2, 1) := by decide +kernel
theorem dX9_layParts_3 : decode cX9_layParts 3 = .ok (.aload_n 0, 1) := by decide +kernel
theorem dX9_layParts_4 : decode cX9_layParts 4 = .ok (.getfield 24, 3) := by decide +kernel
theorem dX9_layParts_7 : decode cX9_layParts 7 = .ok (.getfield 113, 3) := by decide +kernel
theorem dX9_layParts_10 : decode cX9_layParts 10 = .ok (.if_icmp .ge 32, 3) := by decide +kernel
theorem dX9_layParts_13 : decode cX9_layParts 13 = .ok (.aload_n 0, 1) := by decide +kernel
theorem dX9_layParts_14 : decode cX9_layParts 14 = .ok (.getfield 24, 3) := by decide +kernel
theorem dX9_layParts_17 : decode cX9_layParts 17 = .ok (.getfield 198, 3) := by decide +kernel
theorem dX9_layParts_20 : decode cX9_layParts 20 = .ok (.iload_n 1, 1) := by decide +kernel
theorem dX9_layParts_21 : decode cX9_layParts 21 = .ok (.bipush 6, 2) := by decide +kernel
theorem dX9_layParts_23 : decode cX9_layParts 23 = .ok (.imul, 1) := by decide +kernel
theorem dX9_layParts_24 : decode cX9_layParts 24 = .ok (.iload_n 2, 1) := by decide +kernel
theorem dX9_layParts_25 : decode cX9_layParts 25 = .ok (.iadd, 1) := by decide +kernel
theorem dX9_layParts_26 : decode cX9_layParts 26 = .ok (.aload_n 0, 1) := by decide +kernel
theorem dX9_layParts_27 : decode cX9_layParts 27 = .ok (.getfield 38, 3) := by decide +kernel
theorem dX9_layParts_30 : decode cX9_layParts 30 = .ok (.getfield 246, 3) := by decide +kernel
theorem dX9_layParts_33 : decode cX9_layParts 33 = .ok (.iload_n 2, 1) := by decide +kernel
theorem dX9_layParts_34 : decode cX9_layParts 34 = .ok (.iaload, 1) := by decide +kernel
theorem dX9_layParts_35 : decode cX9_layParts 35 = .ok (.iastore, 1) := by decide +kernel
theorem dX9_layParts_36 : decode cX9_layParts 36 = .ok (.iinc 2 1, 3) := by decide +kernel
theorem dX9_layParts_39 : decode cX9_layParts 39 = .ok (.goto (-37), 3) := by decide +kernel
theorem dX9_layParts_42 : decode cX9_layParts 42 = .ok (.aload_n 0, 1) := by decide +kernel
theorem dX9_layParts_43 : decode cX9_layParts 43 = .ok (.getfield 24, 3) := by decide +kernel
theorem dX9_layParts_46 : decode cX9_layParts 46 = .ok (.invokevirtual 110, 3) := by decide +kernel
theorem dX9_layParts_49 : decode cX9_layParts 49 = .ok (.return_, 1) := by decide +kernel
