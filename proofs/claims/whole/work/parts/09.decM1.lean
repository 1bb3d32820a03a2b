theorem dX10_join_44 : decode cX10_join 44 = .ok (.getfield 26, 3) := by decide +kernel
theorem dX10_join_47 : decode cX10_join 47 = .ok (.iload_n 3, 1) := by decide +kernel
theorem dX10_join_48 : decode cX10_join 48 = .ok (.aload_n 0, 1) := by decide +kernel
theorem dX10_join_49 : decode cX10_join 49 = .ok (.iload_n 1, 1) := by decide +kernel
theorem dX10_join_50 : decode cX10_join 50 = .ok (.iload_n 3, 1) := by decide +kernel
theorem dX10_join_51 : decode cX10_join 51 = .ok (.invokevirtual 105, 3) := by decide +kernel
theorem dX10_join_54 : decode cX10_join 54 = .ok (.aload_n 0, 1) := by decide +kernel
theorem dX10_join_55 : decode cX10_join 55 = .ok (.iload_n 2, 1) := by decide +kernel
theorem dX10_join_56 : decode cX10_join 56 = .ok (.iload_n 3, 1) := by decide +kernel
theorem dX10_join_57 : decode cX10_join 57 = .ok (.invokevirtual 105, 3) := by decide +kernel
theorem dX10_join_60 : decode cX10_join 60 = .ok (.iadd, 1) := by decide +kernel
theorem dX10_join_61 : decode cX10_join 61 = .ok (.iastore, 1) := by decide +kernel
theorem dX10_join_62 : decode cX10_join 62 = .ok (.iinc 3 1, 3) := by decide +kernel
theorem dX10_join_65 : decode cX10_join 65 = .ok (.goto (-32), 3) := by decide +kernel
theorem dX10_join_68 : decode cX10_join 68 = .ok (.aload_n 0, 1) := by decide +kernel
theorem dX10_join_69 : decode cX10_join 69 = .ok (.invokevirtual 196, 3) := by decide +kernel
theorem dX10_join_72 : decode cX10_join 72 = .ok (.ifCond .eq 5, 3) := by decide +kernel
theorem dX10_join_75 : decode cX10_join 75 = .ok (.iconst (-1), 1) := by decide +kernel
theorem dX10_join_76 : decode cX10_join 76 = .ok (.ireturn, 1) := by decide +kernel
theorem dX10_join_77 : decode cX10_join 77 = .ok (.aload_n 0, 1) := by decide +kernel
theorem dX10_join_78 : decode cX10_join 78 = .ok (.iload_n 2, 1) := by decide +kernel
theorem dX10_join_79 : decode cX10_join 79 = .ok (.invokevirtual 202, 3) := by decide +kernel
theorem dX10_join_82 : decode cX10_join 82 = .ok (.iconst 0, 1) := by decide +kernel
theorem dX10_join_83 : decode cX10_join 83 = .ok (.istore_n 3, 1) := by decide +kernel
theorem dX10_join_84 : decode cX10_join 84 = .ok (.iload_n 3, 1) := by decide +kernel
theorem dX10_join_85 : decode cX10_join 85 = .ok (.aload_n 0, 1) := by decide +kernel
theorem dX10_join_86 : decode cX10_join 86 = .ok (.getfield 13, 3) := by decide +kernel
theorem dX10_join_89 : decode cX10_join 89 = .ok (.iconst 0, 1) := by decide +kernel
theorem dX10_join_90 : decode cX10_join 90 = .ok (.iaload, 1) := by decide +kernel
theorem dX10_join_91 : decode cX10_join 91 = .ok (.if_icmp .ge 16, 3) := by decide +kernel
theorem dX10_join_94 : decode cX10_join 94 = .ok (.aload_n 0, 1) := by decide +kernel
theorem dX10_join_95 : decode cX10_join 95 = .ok (.iload_n 1, 1) := by decide +kernel
theorem dX10_join_96 : decode cX10_join 96 = .ok (.iload_n 3, 1) := by decide +kernel
theorem dX10_join_97 : decode cX10_join 97 = .ok (.iconst 0, 1) := by decide +kernel
theorem dX10_join_98 : decode cX10_join 98 = .ok (.invokevirtual 182, 3) := by decide +kernel
theorem dX10_join_101 : decode cX10_join 101 = .ok (.iinc 3 1, 3) := by decide +kernel
theorem dX10_join_104 : decode cX10_join 104 = .ok (.goto (-20), 3) := by decide +kernel
theorem dX10_join_107 : decode cX10_join 107 = .ok (.aload_n 0, 1) := by decide +kernel
theorem dX10_join_108 : decode cX10_join 108 = .ok (.invokevirtual 118, 3) := by decide +kernel
theorem dX10_join_111 : decode cX10_join 111 = .ok (.aload_n 0, 1) := by decide +kernel
theorem dX10_join_112 : decode cX10_join 112 = .ok (.iload_n 2, 1) := by decide +kernel
theorem dX10_join_113 : decode cX10_join 113 = .ok (.invokevirtual 121, 3) := by decide +kernel
theorem dX10_join_116 : decode cX10_join 116 = .ok (.ireturn, 1) := by decide +kernel
theorem dX10_doubled_0 : decode cX10_doubled 0 = .ok (.aload_n 0, 1) := by decide +kernel
theorem dX10_doubled_1 : decode cX10_doubled 1 = .ok (.iload_n 1, 1) := by decide +kernel
theorem dX10_doubled_2 : decode cX10_doubled 2 = .ok (.invokevirtual 90, 3) := by decide +kernel
theorem dX10_doubled_5 : decode cX10_doubled 5 = .ok (.ifCond .eq 11, 3) := by decide +kernel
theorem dX10_doubled_8 : decode cX10_doubled 8 = .ok (.aload_n 0, 1) := by decide +kernel
theorem dX10_doubled_9 : decode cX10_doubled 9 = .ok (.iload_n 1, 1) := by decide +kernel
theorem dX10_doubled_10 : decode cX10_doubled 10 = .ok (.invokevirtual 199, 3) := by decide +kernel
theorem dX10_doubled_13 : decode cX10_doubled 13 = .ok (.ifCond .ne 5, 3) := by decide +kernel
theorem dX10_doubled_16 : decode cX10_doubled 16 = .ok (.iconst (-1), 1) := by decide +kernel
theorem dX10_doubled_17 : decode cX10_doubled 17 = .ok (.ireturn, 1) := by decide +kernel
theorem dX10_doubled_18 : decode cX10_doubled 18 = .ok (.iconst 0, 1) := by decide +kernel
theorem dX10_doubled_19 : decode cX10_doubled 19 = .ok (.istore_n 2, 1) := by decide +kernel
theorem dX10_doubled_20 : decode cX10_doubled 20 = .ok (.iload_n 2, 1) := by decide +kernel
theorem dX10_doubled_21 : decode cX10_doubled 21 = .ok (.aload_n 0, 1) := by decide +kernel
theorem dX10_doubled_22 : decode cX10_doubled 22 = .ok (.getfield 13, 3) := by decide +kernel
theorem dX10_doubled_25 : decode cX10_doubled 25 = .ok (.iconst 0, 1) := by decide +kernel
theorem dX10_doubled_26 : decode cX10_doubled 26 = .ok (.iaload, 1) := by decide +kernel
theorem dX10_doubled_27 : decode cX10_doubled 27 = .ok (.if_icmp .ge 23, 3) := by decide +kernel
theorem dX10_doubled_30 : decode cX10_doubled 30 = .ok (.aload_n 0, 1) := by decide +kernel
theorem dX10_doubled_31 : decode cX10_doubled 31 = .ok (.getfield 26, 3) := by decide +kernel
theorem dX10_doubled_34 : decode cX10_doubled 34 = .ok (.iload_n 2, 1) := by decide +kernel
theorem dX10_doubled_35 : decode cX10_doubled 35 = .ok (.iconst 2, 1) := by decide +kernel
theorem dX10_doubled_36 : decode cX10_doubled 36 = .ok (.aload_n 0, 1) := by decide +kernel
theorem dX10_doubled_37 : decode cX10_doubled 37 = .ok (.iload_n 1, 1) := by decide +kernel
theorem dX10_doubled_38 : decode cX10_doubled 38 = .ok (.iload_n 2, 1) := by decide +kernel
theorem dX10_doubled_39 : decode cX10_doubled 39 = .ok (.invokevirtual 105, 3) := by decide +kernel
theorem dX10_doubled_42 : decode cX10_doubled 42 = .ok (.imul, 1) := by decide +kernel
theorem dX10_doubled_43 : decode cX10_doubled 43 = .ok (.iastore, 1) := by decide +kernel
theorem dX10_doubled_44 : decode cX10_doubled 44 = .ok (.iinc 2 1, 3) := by decide +kernel
theorem dX10_doubled_47 : decode cX10_doubled 47 = .ok (.goto (-27), 3) := by decide +kernel
theorem dX10_doubled_50 : decode cX10_doubled 50 = .ok (.aload_n 0, 1) := by decide +kernel
theorem dX10_doubled_51 : decode cX10_doubled 51 = .ok (.invokevirtual 196, 3) := by decide +kernel
theorem dX10_doubled_54 : decode cX10_doubled 54 = .ok (.ifCond .eq 5, 3) := by decide +kernel
theorem dX10_doubled_57 : decode cX10_doubled 57 = .ok (.iconst (-1), 1) := by decide +kernel
theorem dX10_doubled_58 : decode cX10_doubled 58 = .ok (.ireturn, 1) := by decide +kernel
theorem dX10_doubled_59 : decode cX10_doubled 59 = .ok (.aload_n 0, 1) := by decide +kernel
theorem dX10_doubled_60 : decode cX10_doubled 60 = .ok (.iload_n 1, 1) := by decide +kernel
theorem dX10_doubled_61 : decode cX10_doubled 61 = .ok (.invokevirtual 202, 3) := by decide +kernel
theorem dX10_doubled_64 : decode cX10_doubled 64 = .ok (.aload_n 0, 1) := by decide +kernel
theorem dX10_doubled_65 : decode cX10_doubled 65 = .ok (.iload_n 1, 1) := by decide +kernel
theorem dX10_doubled_66 : decode cX10_doubled 66 = .ok (.invokevirtual 121, 3) := by decide +kernel
theorem dX10_doubled_69 : decode cX10_doubled 69 = .ok (.ireturn, 1) := by decide +kernel
theorem dX10_halve_0 : decode cX10_halve 0 = .ok (.aload_n 0, 1) := by decide +kernel
theorem dX10_halve_1 : decode cX10_halve 1 = .ok (.iload_n 1, 1) := by decide +kernel
theorem dX10_halve_2 : decode cX10_halve 2 = .ok (.invokevirtual 90, 3) := by decide +kernel
theorem dX10_halve_5 : decode cX10_halve 5 = .ok (.ifCond .eq 11, 3) := by decide +kernel
theorem dX10_halve_8 : decode cX10_halve 8 = .ok (.aload_n 0, 1) := by decide +kernel
theorem dX10_halve_9 : decode cX10_halve 9 = .ok (.iload_n 1, 1) := by decide +kernel
theorem dX10_halve_10 : decode cX10_halve 10 = .ok (.invokevirtual 199, 3) := by decide +kernel
theorem dX10_halve_13 : decode cX10_halve 13 = .ok (.ifCond .ne 5, 3) := by decide +kernel
theorem dX10_halve_16 : decode cX10_halve 16 = .ok (.iconst (-1), 1) := by decide +kernel
theorem dX10_halve_17 : decode cX10_halve 17 = .ok (.ireturn, 1) := by decide +kernel
theorem dX10_halve_18 : decode cX10_halve 18 = .ok (.aload_n 0, 1) := by decide +kernel
theorem dX10_halve_19 : decode cX10_halve 19 = .ok (.iload_n 1, 1) := by decide +kernel
theorem dX10_halve_20 : decode cX10_halve 20 = .ok (.invokevirtual 121, 3) := by decide +kernel
theorem dX10_halve_23 : decode cX10_halve 23 = .ok (.istore_n 2, 1) := by decide +kernel
theorem dX10_halve_24 : decode cX10_halve 24 = .ok (.aload_n 0, 1) := by decide +kernel
theorem dX10_halve_25 : decode cX10_halve 25 = .ok (.iload_n 2, 1) := by decide +kernel
theorem dX10_halve_26 : decode cX10_halve 26 = .ok (.iconst 2, 1) := by decide +kernel
theorem dX10_halve_27 : decode cX10_halve 27 = .ok (.idiv, 1) := by decide +kernel
theorem dX10_halve_28 : decode cX10_halve 28 = .ok (.invokevirtual 190, 3) := by decide +kernel
theorem dX10_halve_31 : decode cX10_halve 31 = .ok (.aload_n 0, 1) := by decide +kernel
theorem dX10_halve_32 : decode cX10_halve 32 = .ok (.invokevirtual 196, 3) := by decide +kernel
theorem dX10_halve_35 : decode cX10_halve 35 = .ok (.ifCond .eq 5, 3) := by decide +kernel
theorem dX10_halve_38 : decode cX10_halve 38 = .ok (.iconst (-1), 1) := by decide +kernel
theorem dX10_halve_39 : decode cX10_halve 39 = .ok (.ireturn, 1) := by decide +kernel
theorem dX10_halve_40 : decode cX10_halve 40 = .ok (.aload_n 0, 1) := by decide +kernel
theorem dX10_halve_41 : decode cX10_halve 41 = .ok (.iload_n 1, 1) := by decide +kernel
theorem dX10_halve_42 : decode cX10_halve 42 = .ok (.invokevirtual 202, 3) := by decide +kernel
theorem dX10_halve_45 : decode cX10_halve 45 = .ok (.iload_n 2, 1) := by decide +kernel
theorem dX10_halve_46 : decode cX10_halve 46 = .ok (.iconst 2, 1) := by decide +kernel
theorem dX10_halve_47 : decode cX10_halve 47 = .ok (.irem, 1) := by decide +kernel
theorem dX10_halve_48 : decode cX10_halve 48 = .ok (.ireturn, 1) := by decide +kernel
theorem dX10_clear_0 : decode cX10_clear 0 = .ok (.aload_n 0, 1) := by decide +kernel
theorem dX10_clear_1 : decode cX10_clear 1 = .ok (.iload_n 1, 1) := by decide +kernel
theorem dX10_clear_2 : decode cX10_clear 2 = .ok (.invokevirtual 90, 3) := by decide +kernel
theorem dX10_clear_5 : decode cX10_clear 5 = .ok (.ifCond .eq 11, 3) := by decide +kernel
theorem dX10_clear_8 : decode cX10_clear 8 = .ok (.aload_n 0, 1) := by decide +kernel
theorem dX10_clear_9 : decode cX10_clear 9 = .ok (.iload_n 1, 1) := by decide +kernel
theorem dX10_clear_10 : decode cX10_clear 10 = .ok (.invokevirtual 199, 3) := by decide +kernel
theorem dX10_clear_13 : decode cX10_clear 13 = .ok (.ifCond .ne 5, 3) := by decide +kernel
theorem dX10_clear_16 : decode cX10_clear 16 = .ok (.iconst (-1), 1) := by decide +kernel
theorem dX10_clear_17 : decode cX10_clear 17 = .ok (.ireturn, 1) := by decide +kernel
theorem dX10_clear_18 : decode cX10_clear 18 = .ok (.aload_n 0, 1) := by decide +kernel
theorem dX10_clear_19 : decode cX10_clear 19 = .ok (.iload_n 1, 1) := by decide +kernel
theorem dX10_clear_20 : decode cX10_clear 20 = .ok (.invokevirtual 121, 3) := by decide +kernel
theorem dX10_clear_23 : decode cX10_clear 23 = .ok (.istore_n 2, 1) := by decide +kernel
theorem dX10_clear_24 : decode cX10_clear 24 = .ok (.iconst 0, 1) := by decide +kernel
theorem dX10_clear_25 : decode cX10_clear 25 = .ok (.istore_n 3, 1) := by decide +kernel
theorem dX10_clear_26 : decode cX10_clear 26 = .ok (.iload_n 3, 1) := by decide +kernel
theorem dX10_clear_27 : decode cX10_clear 27 = .ok (.aload_n 0, 1) := by decide +kernel
theorem dX10_clear_28 : decode cX10_clear 28 = .ok (.getfield 13, 3) := by decide +kernel
theorem dX10_clear_31 : decode cX10_clear 31 = .ok (.iconst 0, 1) := by decide +kernel
theorem dX10_clear_32 : decode cX10_clear 32 = .ok (.iaload, 1) := by decide +kernel
theorem dX10_clear_33 : decode cX10_clear 33 = .ok (.if_icmp .ge 16, 3) := by decide +kernel
theorem dX10_clear_36 : decode cX10_clear 36 = .ok (.aload_n 0, 1) := by decide +kernel
theorem dX10_clear_37 : decode cX10_clear 37 = .ok (.getfield 26, 3) := by decide +kernel
theorem dX10_clear_40 : decode cX10_clear 40 = .ok (.iload_n 3, 1) := by decide +kernel
theorem dX10_clear_41 : decode cX10_clear 41 = .ok (.iconst 0, 1) := by decide +kernel
theorem dX10_clear_42 : decode cX10_clear 42 = .ok (.iastore, 1) := by decide +kernel
theorem dX10_clear_43 : decode cX10_clear 43 = .ok (.iinc 3 1, 3) := by decide +kernel
theorem dX10_clear_46 : decode cX10_clear 46 = .ok (.goto (-20), 3) := by decide +kernel
theorem dX10_clear_49 : decode cX10_clear 49 = .ok (.aload_n 0, 1) := by decide +kernel
theorem dX10_clear_50 : decode cX10_clear 50 = .ok (.iload_n 1, 1) := by decide +kernel
theorem dX10_clear_51 : decode cX10_clear 51 = .ok (.invokevirtual 202, 3) := by decide +kernel
theorem dX10_clear_54 : decode cX10_clear 54 = .ok (.iload_n 2, 1) := by decide +kernel
theorem dX10_clear_55 : decode cX10_clear 55 = .ok (.ireturn, 1) := by decide +kernel
theorem dX10_pay_0 : decode cX10_pay 0 = .ok (.aload_n 0, 1) := by decide +kernel
theorem dX10_pay_1 : decode cX10_pay 1 = .ok (.iload_n 1, 1) := by decide +kernel
theorem dX10_pay_2 : decode cX10_pay 2 = .ok (.iload_n 2, 1) := by decide +kernel
theorem dX10_pay_3 : decode cX10_pay 3 = .ok (.iload_n 3, 1) := by decide +kernel
theorem dX10_pay_4 : decode cX10_pay 4 = .ok (.invokevirtual 205, 3) := by decide +kernel
theorem dX10_pay_7 : decode cX10_pay 7 = .ok (.ifCond .ne 5, 3) := by decide +kernel
theorem dX10_pay_10 : decode cX10_pay 10 = .ok (.iconst (-1), 1) := by decide +kernel
theorem dX10_pay_11 : decode cX10_pay 11 = .ok (.ireturn, 1) := by decide +kernel
theorem dX10_pay_12 : decode cX10_pay 12 = .ok (.aload_n 0, 1) := by decide +kernel
theorem dX10_pay_13 : decode cX10_pay 13 = .ok (.iload_n 1, 1) := by decide +kernel
theorem dX10_pay_14 : decode cX10_pay 14 = .ok (.iload_n 2, 1) := by decide +kernel
theorem dX10_pay_15 : decode cX10_pay 15 = .ok (.iload_n 3, 1) := by decide +kernel
theorem dX10_pay_16 : decode cX10_pay 16 = .ok (.invokevirtual 209, 3) := by decide +kernel
theorem dX10_pay_19 : decode cX10_pay 19 = .ok (.istore 4, 2) := by decide +kernel
theorem dX10_pay_21 : decode cX10_pay 21 = .ok (.iload 4, 2) := by decide +kernel
theorem dX10_pay_23 : decode cX10_pay 23 = .ok (.bipush (-2), 2) := by decide +kernel
theorem dX10_pay_25 : decode cX10_pay 25 = .ok (.if_icmp .ne 6, 3) := by decide +kernel
theorem dX10_pay_28 : decode cX10_pay 28 = .ok (.bipush (-2), 2) := by decide +kernel
theorem dX10_pay_30 : decode cX10_pay 30 = .ok (.ireturn, 1) := by decide +kernel
theorem dX10_pay_31 : decode cX10_pay 31 = .ok (.aload_n 0, 1) := by decide +kernel
theorem dX10_pay_32 : decode cX10_pay 32 = .ok (.invokevirtual 115, 3) := by decide +kernel
theorem dX10_pay_35 : decode cX10_pay 35 = .ok (.iconst 0, 1) := by decide +kernel
theorem dX10_pay_36 : decode cX10_pay 36 = .ok (.istore 5, 2) := by decide +kernel
theorem dX10_pay_38 : decode cX10_pay 38 = .ok (.iload 5, 2) := by decide +kernel
theorem dX10_pay_40 : decode cX10_pay 40 = .ok (.aload_n 0, 1) := by decide +kernel
theorem dX10_pay_41 : decode cX10_pay 41 = .ok (.getfield 13, 3) := by decide +kernel
theorem dX10_pay_44 : decode cX10_pay 44 = .ok (.iconst 0, 1) := by decide +kernel
theorem dX10_pay_45 : decode cX10_pay 45 = .ok (.iaload, 1) := by decide +kernel
theorem dX10_pay_46 : decode cX10_pay 46 = .ok (.if_icmp .ge 53, 3) := by decide +kernel
theorem dX10_pay_49 : decode cX10_pay 49 = .ok (.aload_n 0, 1) := by decide +kernel
theorem dX10_pay_50 : decode cX10_pay 50 = .ok (.iload_n 1, 1) := by decide +kernel
theorem dX10_pay_51 : decode cX10_pay 51 = .ok (.iload 5, 2) := by decide +kernel
theorem dX10_pay_53 : decode cX10_pay 53 = .ok (.aload_n 0, 1) := by decide +kernel
theorem dX10_pay_54 : decode cX10_pay 54 = .ok (.iload_n 1, 1) := by decide +kernel
theorem dX10_pay_55 : decode cX10_pay 55 = .ok (.iload 5, 2) := by decide +kernel
theorem dX10_pay_57 : decode cX10_pay 57 = .ok (.invokevirtual 105, 3) := by decide +kernel
theorem dX10_pay_60 : decode cX10_pay 60 = .ok (.aload_n 0, 1) := by decide +kernel
theorem dX10_pay_61 : decode cX10_pay 61 = .ok (.getfield 45, 3) := by decide +kernel
theorem dX10_pay_64 : decode cX10_pay 64 = .ok (.iload 5, 2) := by decide +kernel
theorem dX10_pay_66 : decode cX10_pay 66 = .ok (.iaload, 1) := by decide +kernel
theorem dX10_pay_67 : decode cX10_pay 67 = .ok (.isub, 1) := by decide +kernel
theorem dX10_pay_68 : decode cX10_pay 68 = .ok (.invokevirtual 182, 3) := by decide +kernel
theorem dX10_pay_71 : decode cX10_pay 71 = .ok (.aload_n 0, 1) := by decide +kernel
theorem dX10_pay_72 : decode cX10_pay 72 = .ok (.iload_n 2, 1) := by decide +kernel
theorem dX10_pay_73 : decode cX10_pay 73 = .ok (.iload 5, 2) := by decide +kernel
theorem dX10_pay_75 : decode cX10_pay 75 = .ok (.aload_n 0, 1) := by decide +kernel
theorem dX10_pay_76 : decode cX10_pay 76 = .ok (.iload_n 2, 1) := by decide +kernel
theorem dX10_pay_77 : decode cX10_pay 77 = .ok (.iload 5, 2) := by decide +kernel
theorem dX10_pay_79 : decode cX10_pay 79 = .ok (.invokevirtual 105, 3) := by decide +kernel
theorem dX10_pay_82 : decode cX10_pay 82 = .ok (.aload_n 0, 1) := by decide +kernel
theorem dX10_pay_83 : decode cX10_pay 83 = .ok (.getfield 45, 3) := by decide +kernel
theorem dX10_pay_86 : decode cX10_pay 86 = .ok (.iload 5, 2) := by decide +kernel
theorem dX10_pay_88 : decode cX10_pay 88 = .ok (.iaload, 1) := by decide +kernel
theorem dX10_pay_89 : decode cX10_pay 89 = .ok (.iadd, 1) := by decide +kernel
theorem dX10_pay_90 : decode cX10_pay 90 = .ok (.invokevirtual 182, 3) := by decide +kernel
theorem dX10_pay_93 : decode cX10_pay 93 = .ok (.iinc 5 1, 3) := by decide +kernel
theorem dX10_pay_96 : decode cX10_pay 96 = .ok (.goto (-58), 3) := by decide +kernel
theorem dX10_pay_99 : decode cX10_pay 99 = .ok (.aload_n 0, 1) := by decide +kernel
theorem dX10_pay_100 : decode cX10_pay 100 = .ok (.invokevirtual 118, 3) := by decide +kernel
theorem dX10_pay_103 : decode cX10_pay 103 = .ok (.iload 4, 2) := by decide +kernel
theorem dX10_pay_105 : decode cX10_pay 105 = .ok (.ireturn, 1) := by decide +kernel
theorem dX10_isAsBegan_0 : decode cX10_isAsBegan 0 = .ok (.iconst 0, 1) := by decide +kernel
theorem dX10_isAsBegan_1 : decode cX10_isAsBegan 1 = .ok (.istore_n 1, 1) := by decide +kernel
theorem dX10_isAsBegan_2 : decode cX10_isAsBegan 2 = .ok (.iload_n 1, 1) := by decide +kernel
theorem dX10_isAsBegan_3 : decode cX10_isAsBegan 3 = .ok (.bipush 24, 2) := by decide +kernel
theorem dX10_isAsBegan_5 : decode cX10_isAsBegan 5 = .ok (.if_icmp .ge 32, 3) := by decide +kernel
theorem dX10_isAsBegan_8 : decode cX10_isAsBegan 8 = .ok (.aload_n 0, 1) := by decide +kernel
theorem dX10_isAsBegan_9 : decode cX10_isAsBegan 9 = .ok (.getfield 13, 3) := by decide +kernel
theorem dX10_isAsBegan_12 : decode cX10_isAsBegan 12 = .ok (.bipush 8, 2) := by decide +kernel
theorem dX10_isAsBegan_14 : decode cX10_isAsBegan 14 = .ok (.iload_n 1, 1) := by decide +kernel
theorem dX10_isAsBegan_15 : decode cX10_isAsBegan 15 = .ok (.iadd, 1) := by decide +kernel
theorem dX10_isAsBegan_16 : decode cX10_isAsBegan 16 = .ok (.iaload, 1) := by decide +kernel
theorem dX10_isAsBegan_17 : decode cX10_isAsBegan 17 = .ok (.aload_n 0, 1) := by decide +kernel
theorem dX10_isAsBegan_18 : decode cX10_isAsBegan 18 = .ok (.getfield 13, 3) := by decide +kernel
theorem dX10_isAsBegan_21 : decode cX10_isAsBegan 21 = .ok (.bipush 32, 2) := by decide +kernel
theorem dX10_isAsBegan_23 : decode cX10_isAsBegan 23 = .ok (.iload_n 1, 1) := by decide +kernel
theorem dX10_isAsBegan_24 : decode cX10_isAsBegan 24 = .ok (.iadd, 1) := by decide +kernel
theorem dX10_isAsBegan_25 : decode cX10_isAsBegan 25 = .ok (.iaload, 1) := by decide +kernel
theorem dX10_isAsBegan_26 : decode cX10_isAsBegan 26 = .ok (.if_icmp .eq 5, 3) := by decide +kernel
theorem dX10_isAsBegan_29 : decode cX10_isAsBegan 29 = .ok (.iconst 0, 1) := by decide +kernel
theorem dX10_isAsBegan_30 : decode cX10_isAsBegan 30 = .ok (.ireturn, 1) := by decide +kernel
theorem dX10_isAsBegan_31 : decode cX10_isAsBegan 31 = .ok (.iinc 1 1, 3) := by decide +kernel
theorem dX10_isAsBegan_34 : decode cX10_isAsBegan 34 = .ok (.goto (-32), 3) := by decide +kernel
theorem dX10_isAsBegan_37 : decode cX10_isAsBegan 37 = .ok (.iconst 1, 1) := by decide +kernel
theorem dX10_isAsBegan_38 : decode cX10_isAsBegan 38 = .ok (.ireturn, 1) := by decide +kernel
theorem dX10_start_0 : decode cX10_start 0 = .ok (.aload_n 0, 1) := by decide +kernel
theorem dX10_start_1 : decode cX10_start 1 = .ok (.getfield 13, 3) := by decide +kernel
theorem dX10_start_4 : decode cX10_start 4 = .ok (.bipush 56, 2) := by decide +kernel
theorem dX10_start_6 : decode cX10_start 6 = .ok (.iaload, 1) := by decide +kernel
theorem dX10_start_7 : decode cX10_start 7 = .ok (.ifCond .ne 23, 3) := by decide +kernel
theorem dX10_start_10 : decode cX10_start 10 = .ok (.aload_n 0, 1) := by decide +kernel
theorem dX10_start_11 : decode cX10_start 11 = .ok (.getfield 13, 3) := by decide +kernel
theorem dX10_start_14 : decode cX10_start 14 = .ok (.sipush 177, 3) := by decide +kernel
theorem dX10_start_17 : decode cX10_start 17 = .ok (.iaload, 1) := by decide +kernel
theorem dX10_start_18 : decode cX10_start 18 = .ok (.ifCond .ne 12, 3) := by decide +kernel
theorem dX10_start_21 : decode cX10_start 21 = .ok (.aload_n 0, 1) := by decide +kernel
theorem dX10_start_22 : decode cX10_start 22 = .ok (.invokevirtual 213, 3) := by decide +kernel
theorem dX10_start_25 : decode cX10_start 25 = .ok (.ifCond .eq 5, 3) := by decide +kernel
theorem dX10_start_28 : decode cX10_start 28 = .ok (.iconst (-1), 1) := by decide +kernel
theorem dX10_start_29 : decode cX10_start 29 = .ok (.ireturn, 1) := by decide +kernel
theorem dX10_start_30 : decode cX10_start 30 = .ok (.aload_n 0, 1) := by decide +kernel
theorem dX10_start_31 : decode cX10_start 31 = .ok (.invokevirtual 115, 3) := by decide +kernel
theorem dX10_start_34 : decode cX10_start 34 = .ok (.aload_n 0, 1) := by decide +kernel
theorem dX10_start_35 : decode cX10_start 35 = .ok (.getfield 13, 3) := by decide +kernel
theorem dX10_start_38 : decode cX10_start 38 = .ok (.bipush 56, 2) := by decide +kernel
theorem dX10_start_40 : decode cX10_start 40 = .ok (.iaload, 1) := by decide +kernel
theorem dX10_start_41 : decode cX10_start 41 = .ok (.istore_n 1, 1) := by decide +kernel
theorem dX10_start_42 : decode cX10_start 42 = .ok (.aload_n 0, 1) := by decide +kernel
theorem dX10_start_43 : decode cX10_start 43 = .ok (.invokevirtual 118, 3) := by decide +kernel
theorem dX10_start_46 : decode cX10_start 46 = .ok (.iload_n 1, 1) := by decide +kernel
theorem dX10_start_47 : decode cX10_start 47 = .ok (.ireturn, 1) := by decide +kernel
theorem dX10_see_0 : decode cX10_see 0 = .ok (.iload_n 1, 1) := by decide +kernel
theorem dX10_see_1 : decode cX10_see 1 = .ok (.i2l, 1) := by decide +kernel
theorem dX10_see_2 : decode cX10_see 2 = .ok (.lconst 0, 1) := by decide +kernel
theorem dX10_see_3 : decode cX10_see 3 = .ok (.aload_n 0, 1) := by decide +kernel
theorem dX10_see_4 : decode cX10_see 4 = .ok (.getfield 13, 3) := by decide +kernel
theorem dX10_see_7 : decode cX10_see 7 = .ok (.bipush 56, 2) := by decide +kernel
theorem dX10_see_9 : decode cX10_see 9 = .ok (.iaload, 1) := by decide +kernel
theorem dX10_see_10 : decode cX10_see 10 = .ok (.i2l, 1) := by decide +kernel
theorem dX10_see_11 : decode cX10_see 11 = .ok (.invokestatic 86, 3) := by decide +kernel
theorem dX10_see_14 : decode cX10_see 14 = .ok (.ifCond .eq 33, 3) := by decide +kernel
theorem dX10_see_17 : decode cX10_see 17 = .ok (.aload_n 0, 1) := by decide +kernel
theorem dX10_see_18 : decode cX10_see 18 = .ok (.iload_n 2, 1) := by decide +kernel
theorem dX10_see_19 : decode cX10_see 19 = .ok (.iload_n 3, 1) := by decide +kernel
theorem dX10_see_20 : decode cX10_see 20 = .ok (.invokevirtual 132, 3) := by decide +kernel
theorem dX10_see_23 : decode cX10_see 23 = .ok (.ifCond .eq 24, 3) := by decide +kernel
theorem dX10_see_26 : decode cX10_see 26 = .ok (.iload 4, 2) := by decide +kernel
theorem dX10_see_28 : decode cX10_see 28 = .ok (.invokestatic 148, 3) := by decide +kernel
theorem dX10_see_31 : decode cX10_see 31 = .ok (.ifCond .eq 16, 3) := by decide +kernel
theorem dX10_see_34 : decode cX10_see 34 = .ok (.aload_n 0, 1) := by decide +kernel
theorem dX10_see_35 : decode cX10_see 35 = .ok (.getfield 13, 3) := by decide +kernel
theorem dX10_see_38 : decode cX10_see 38 = .ok (.sipush 177, 3) := by decide +kernel
theorem dX10_see_41 : decode cX10_see 41 = .ok (.iaload, 1) := by decide +kernel
theorem dX10_see_42 : decode cX10_see 42 = .ok (.bipush 12, 2) := by decide +kernel
theorem dX10_see_44 : decode cX10_see 44 = .ok (.if_icmp .ne 5, 3) := by decide +kernel
theorem dX10_see_47 : decode cX10_see 47 = .ok (.iconst (-1), 1) := by decide +kernel
theorem dX10_see_48 : decode cX10_see 48 = .ok (.ireturn, 1) := by decide +kernel
theorem dX10_see_49 : decode cX10_see 49 = .ok (.aload_n 0, 1) := by decide +kernel
theorem dX10_see_50 : decode cX10_see 50 = .ok (.invokevirtual 115, 3) := by decide +kernel
theorem dX10_see_53 : decode cX10_see 53 = .ok (.sipush 178, 3) := by decide +kernel
theorem dX10_see_56 : decode cX10_see 56 = .ok (.iconst 4, 1) := by decide +kernel
theorem dX10_see_57 : decode cX10_see 57 = .ok (.aload_n 0, 1) := by decide +kernel
theorem dX10_see_58 : decode cX10_see 58 = .ok (.getfield 13, 3) := by decide +kernel
theorem dX10_see_61 : decode cX10_see 61 = .ok (.sipush 177, 3) := by decide +kernel
theorem dX10_see_64 : decode cX10_see 64 = .ok (.iaload, 1) := by decide +kernel
theorem dX10_see_65 : decode cX10_see 65 = .ok (.imul, 1) := by decide +kernel
theorem dX10_see_66 : decode cX10_see 66 = .ok (.iadd, 1) := by decide +kernel
theorem dX10_see_67 : decode cX10_see 67 = .ok (.istore 5, 2) := by decide +kernel
theorem dX10_see_69 : decode cX10_see 69 = .ok (.aload_n 0, 1) := by decide +kernel
theorem dX10_see_70 : decode cX10_see 70 = .ok (.getfield 13, 3) := by decide +kernel
theorem dX10_see_73 : decode cX10_see 73 = .ok (.iload 5, 2) := by decide +kernel
theorem dX10_see_75 : decode cX10_see 75 = .ok (.iload_n 1, 1) := by decide +kernel
theorem dX10_see_76 : decode cX10_see 76 = .ok (.iastore, 1) := by decide +kernel
theorem dX10_see_77 : decode cX10_see 77 = .ok (.aload_n 0, 1) := by decide +kernel
theorem dX10_see_78 : decode cX10_see 78 = .ok (.getfield 13, 3) := by decide +kernel
theorem dX10_see_81 : decode cX10_see 81 = .ok (.iload 5, 2) := by decide +kernel
theorem dX10_see_83 : decode cX10_see 83 = .ok (.iconst 1, 1) := by decide +kernel
theorem dX10_see_84 : decode cX10_see 84 = .ok (.iadd, 1) := by decide +kernel
theorem dX10_see_85 : decode cX10_see 85 = .ok (.iload_n 2, 1) := by decide +kernel
theorem dX10_see_86 : decode cX10_see 86 = .ok (.iastore, 1) := by decide +kernel
theorem dX10_see_87 : decode cX10_see 87 = .ok (.aload_n 0, 1) := by decide +kernel
theorem dX10_see_88 : decode cX10_see 88 = .ok (.getfield 13, 3) := by decide +kernel
theorem dX10_see_91 : decode cX10_see 91 = .ok (.iload 5, 2) := by decide +kernel
theorem dX10_see_93 : decode cX10_see 93 = .ok (.iconst 2, 1) := by decide +kernel
theorem dX10_see_94 : decode cX10_see 94 = .ok (.iadd, 1) := by decide +kernel
theorem dX10_see_95 : decode cX10_see 95 = .ok (.iload_n 3, 1) := by decide +kernel
theorem dX10_see_96 : decode cX10_see 96 = .ok (.iastore, 1) := by decide +kernel
theorem dX10_see_97 : decode cX10_see 97 = .ok (.aload_n 0, 1) := by decide +kernel
theorem dX10_see_98 : decode cX10_see 98 = .ok (.getfield 13, 3) := by decide +kernel
theorem dX10_see_101 : decode cX10_see 101 = .ok (.iload 5, 2) := by decide +kernel
theorem dX10_see_103 : decode cX10_see 103 = .ok (.iconst 3, 1) := by decide +kernel
theorem dX10_see_104 : decode cX10_see 104 = .ok (.iadd, 1) := by decide +kernel
theorem dX10_see_105 : decode cX10_see 105 = .ok (.iload 4, 2) := by decide +kernel
theorem dX10_see_107 : decode cX10_see 107 = .ok (.iastore, 1) := by decide +kernel
theorem dX10_see_108 : decode cX10_see 108 = .ok (.aload_n 0, 1) := by decide +kernel
theorem dX10_see_109 : decode cX10_see 109 = .ok (.getfield 13, 3) := by decide +kernel
theorem dX10_see_112 : decode cX10_see 112 = .ok (.sipush 177, 3) := by decide +kernel
theorem dX10_see_115 : decode cX10_see 115 = .ok (.dup2, 1) := by decide +kernel
theorem dX10_see_116 : decode cX10_see 116 = .ok (.iaload, 1) := by decide +kernel
theorem dX10_see_117 : decode cX10_see 117 = .ok (.iconst 1, 1) := by decide +kernel
theorem dX10_see_118 : decode cX10_see 118 = .ok (.iadd, 1) := by decide +kernel
theorem dX10_see_119 : decode cX10_see 119 = .ok (.iastore, 1) := by decide +kernel
theorem dX10_see_120 : decode cX10_see 120 = .ok (.aload_n 0, 1) := by decide +kernel
theorem dX10_see_121 : decode cX10_see 121 = .ok (.getfield 13, 3) := by decide +kernel
theorem dX10_see_124 : decode cX10_see 124 = .ok (.sipush 177, 3) := by decide +kernel
theorem dX10_see_127 : decode cX10_see 127 = .ok (.iaload, 1) := by decide +kernel
theorem dX10_see_128 : decode cX10_see 128 = .ok (.ireturn, 1) := by decide +kernel
theorem dX10_unsee_0 : decode cX10_unsee 0 = .ok (.iload_n 1, 1) := by decide +kernel
theorem dX10_unsee_1 : decode cX10_unsee 1 = .ok (.i2l, 1) := by decide +kernel
theorem dX10_unsee_2 : decode cX10_unsee 2 = .ok (.lconst 0, 1) := by decide +kernel
theorem dX10_unsee_3 : decode cX10_unsee 3 = .ok (.aload_n 0, 1) := by decide +kernel
theorem dX10_unsee_4 : decode cX10_unsee 4 = .ok (.getfield 13, 3) := by decide +kernel
theorem dX10_unsee_7 : decode cX10_unsee 7 = .ok (.sipush 177, 3) := by decide +kernel
theorem dX10_unsee_10 : decode cX10_unsee 10 = .ok (.iaload, 1) := by decide +kernel
theorem dX10_unsee_11 : decode cX10_unsee 11 = .ok (.iconst 1, 1) := by decide +kernel
theorem dX10_unsee_12 : decode cX10_unsee 12 = .ok (.isub, 1) := by decide +kernel
theorem dX10_unsee_13 : decode cX10_unsee 13 = .ok (.i2l, 1) := by decide +kernel
theorem dX10_unsee_14 : decode cX10_unsee 14 = .ok (.invokestatic 86, 3) := by decide +kernel
theorem dX10_unsee_17 : decode cX10_unsee 17 = .ok (.ifCond .ne 5, 3) := by decide +kernel
theorem dX10_unsee_20 : decode cX10_unsee 20 = .ok (.iconst (-1), 1) := by decide +kernel
theorem dX10_unsee_21 : decode cX10_unsee 21 = .ok (.ireturn, 1) := by decide +kernel
theorem dX10_unsee_22 : decode cX10_unsee 22 = .ok (.aload_n 0, 1) := by decide +kernel
theorem dX10_unsee_23 : decode cX10_unsee 23 = .ok (.invokevirtual 115, 3) := by decide +kernel
theorem dX10_unsee_26 : decode cX10_unsee 26 = .ok (.aload_n 0, 1) := by decide +kernel
theorem dX10_unsee_27 : decode cX10_unsee 27 = .ok (.iload_n 1, 1) := by decide +kernel
theorem dX10_unsee_28 : decode cX10_unsee 28 = .ok (.invokevirtual 175, 3) := by decide +kernel
theorem dX10_unsee_31 : decode cX10_unsee 31 = .ok (.aload_n 0, 1) := by decide +kernel
theorem dX10_unsee_32 : decode cX10_unsee 32 = .ok (.getfield 13, 3) := by decide +kernel
theorem dX10_unsee_35 : decode cX10_unsee 35 = .ok (.sipush 177, 3) := by decide +kernel
theorem dX10_unsee_38 : decode cX10_unsee 38 = .ok (.iaload, 1) := by decide +kernel
theorem dX10_unsee_39 : decode cX10_unsee 39 = .ok (.ireturn, 1) := by decide +kernel
theorem dX10_sieve_0 : decode cX10_sieve 0 = .ok (.iconst 0, 1) := by decide +kernel
theorem dX10_sieve_1 : decode cX10_sieve 1 = .ok (.istore_n 1, 1) := by decide +kernel
theorem dX10_sieve_2 : decode cX10_sieve 2 = .ok (.iconst 0, 1) := by decide +kernel
theorem dX10_sieve_3 : decode cX10_sieve 3 = .ok (.istore_n 2, 1) := by decide +kernel
theorem dX10_sieve_4 : decode cX10_sieve 4 = .ok (.iload_n 2, 1) := by decide +kernel
theorem dX10_sieve_5 : decode cX10_sieve 5 = .ok (.aload_n 0, 1) := by decide +kernel
theorem dX10_sieve_6 : decode cX10_sieve 6 = .ok (.getfield 13, 3) := by decide +kernel
theorem dX10_sieve_9 : decode cX10_sieve 9 = .ok (.sipush 177, 3) := by decide +kernel
theorem dX10_sieve_12 : decode cX10_sieve 12 = .ok (.iaload, 1) := by decide +kernel
theorem dX10_sieve_13 : decode cX10_sieve 13 = .ok (.if_icmp .ge 20, 3) := by decide +kernel
theorem dX10_sieve_16 : decode cX10_sieve 16 = .ok (.aload_n 0, 1) := by decide +kernel
theorem dX10_sieve_17 : decode cX10_sieve 17 = .ok (.iload_n 2, 1) := by decide +kernel
theorem dX10_sieve_18 : decode cX10_sieve 18 = .ok (.invokevirtual 216, 3) := by decide +kernel
theorem dX10_sieve_21 : decode cX10_sieve 21 = .ok (.ifCond .ne 6, 3) := by decide +kernel
theorem dX10_sieve_24 : decode cX10_sieve 24 = .ok (.iinc 1 1, 3) := by decide +kernel
theorem dX10_sieve_27 : decode cX10_sieve 27 = .ok (.iinc 2 1, 3) := by decide +kernel
theorem dX10_sieve_30 : decode cX10_sieve 30 = .ok (.goto (-26), 3) := by decide +kernel
theorem dX10_sieve_33 : decode cX10_sieve 33 = .ok (.iload_n 1, 1) := by decide +kernel
theorem dX10_sieve_34 : decode cX10_sieve 34 = .ok (.ifCond .ne 5, 3) := by decide +kernel
theorem dX10_sieve_37 : decode cX10_sieve 37 = .ok (.iconst (-1), 1) := by decide +kernel
theorem dX10_sieve_38 : decode cX10_sieve 38 = .ok (.ireturn, 1) := by decide +kernel
theorem dX10_sieve_39 : decode cX10_sieve 39 = .ok (.aload_n 0, 1) := by decide +kernel
theorem dX10_sieve_40 : decode cX10_sieve 40 = .ok (.invokevirtual 115, 3) := by decide +kernel
theorem dX10_sieve_43 : decode cX10_sieve 43 = .ok (.aload_n 0, 1) := by decide +kernel
theorem dX10_sieve_44 : decode cX10_sieve 44 = .ok (.getfield 13, 3) := by decide +kernel
theorem dX10_sieve_47 : decode cX10_sieve 47 = .ok (.sipush 177, 3) := by decide +kernel
theorem dX10_sieve_50 : decode cX10_sieve 50 = .ok (.iaload, 1) := by decide +kernel
theorem dX10_sieve_51 : decode cX10_sieve 51 = .ok (.iconst 1, 1) := by decide +kernel
theorem dX10_sieve_52 : decode cX10_sieve 52 = .ok (.isub, 1) := by decide +kernel
theorem dX10_sieve_53 : decode cX10_sieve 53 = .ok (.istore_n 2, 1) := by decide +kernel
theorem dX10_sieve_54 : decode cX10_sieve 54 = .ok (.iload_n 2, 1) := by decide +kernel
theorem dX10_sieve_55 : decode cX10_sieve 55 = .ok (.ifCond .lt 22, 3) := by decide +kernel
theorem dX10_sieve_58 : decode cX10_sieve 58 = .ok (.aload_n 0, 1) := by decide +kernel
theorem dX10_sieve_59 : decode cX10_sieve 59 = .ok (.iload_n 2, 1) := by decide +kernel
theorem dX10_sieve_60 : decode cX10_sieve 60 = .ok (.invokevirtual 216, 3) := by decide +kernel
theorem dX10_sieve_63 : decode cX10_sieve 63 = .ok (.ifCond .ne 8, 3) := by decide +kernel
theorem dX10_sieve_66 : decode cX10_sieve 66 = .ok (.aload_n 0, 1) := by decide +kernel
theorem dX10_sieve_67 : decode cX10_sieve 67 = .ok (.iload_n 2, 1) := by decide +kernel
theorem dX10_sieve_68 : decode cX10_sieve 68 = .ok (.invokevirtual 175, 3) := by decide +kernel
theorem dX10_sieve_71 : decode cX10_sieve 71 = .ok (.iinc 2 (-1), 3) := by decide +kernel
theorem dX10_sieve_74 : decode cX10_sieve 74 = .ok (.goto (-20), 3) := by decide +kernel
theorem dX10_sieve_77 : decode cX10_sieve 77 = .ok (.iload_n 1, 1) := by decide +kernel
theorem dX10_sieve_78 : decode cX10_sieve 78 = .ok (.ireturn, 1) := by decide +kernel
theorem dX10_of_0 : decode cX10_of 0 = .ok (.aload_n 0, 1) := by decide +kernel
theorem dX10_of_1 : decode cX10_of 1 = .ok (.iload_n 1, 1) := by decide +kernel
theorem dX10_of_2 : decode cX10_of 2 = .ok (.iload_n 2, 1) := by decide +kernel
theorem dX10_of_3 : decode cX10_of 3 = .ok (.invokevirtual 132, 3) := by decide +kernel
theorem dX10_of_6 : decode cX10_of 6 = .ok (.ifCond .eq 12, 3) := by decide +kernel
theorem dX10_of_9 : decode cX10_of 9 = .ok (.aload_n 0, 1) := by decide +kernel
theorem dX10_of_10 : decode cX10_of 10 = .ok (.iload_n 1, 1) := by decide +kernel
theorem dX10_of_11 : decode cX10_of 11 = .ok (.iload_n 2, 1) := by decide +kernel
theorem dX10_of_12 : decode cX10_of 12 = .ok (.invokevirtual 105, 3) := by decide +kernel
theorem dX10_of_15 : decode cX10_of 15 = .ok (.goto 4, 3) := by decide +kernel
theorem dX10_of_18 : decode cX10_of 18 = .ok (.iconst (-1), 1) := by decide +kernel
theorem dX10_of_19 : decode cX10_of 19 = .ok (.ireturn, 1) := by decide +kernel
theorem dX10_sum_0 : decode cX10_sum 0 = .ok (.iload_n 1, 1) := by decide +kernel
theorem dX10_sum_1 : decode cX10_sum 1 = .ok (.iconst (-1), 1) := by decide +kernel
theorem dX10_sum_2 : decode cX10_sum 2 = .ok (.if_icmp .eq 22, 3) := by decide +kernel
theorem dX10_sum_5 : decode cX10_sum 5 = .ok (.aload_n 0, 1) := by decide +kernel
theorem dX10_sum_6 : decode cX10_sum 6 = .ok (.iload_n 1, 1) := by decide +kernel
theorem dX10_sum_7 : decode cX10_sum 7 = .ok (.invokevirtual 90, 3) := by decide +kernel
theorem dX10_sum_10 : decode cX10_sum 10 = .ok (.ifCond .eq 11, 3) := by decide +kernel
theorem dX10_sum_13 : decode cX10_sum 13 = .ok (.aload_n 0, 1) := by decide +kernel
theorem dX10_sum_14 : decode cX10_sum 14 = .ok (.iload_n 1, 1) := by decide +kernel
theorem dX10_sum_15 : decode cX10_sum 15 = .ok (.invokevirtual 121, 3) := by decide +kernel
theorem dX10_sum_18 : decode cX10_sum 18 = .ok (.goto 5, 3) := by decide +kernel
theorem dX10_sum_21 : decode cX10_sum 21 = .ok (.bipush (-2), 2) := by decide +kernel
theorem dX10_sum_23 : decode cX10_sum 23 = .ok (.ireturn, 1) := by decide +kernel
theorem dX10_sum_24 : decode cX10_sum 24 = .ok (.iconst 0, 1) := by decide +kernel
theorem dX10_sum_25 : decode cX10_sum 25 = .ok (.istore_n 2, 1) := by decide +kernel
theorem dX10_sum_26 : decode cX10_sum 26 = .ok (.iconst 0, 1) := by decide +kernel
theorem dX10_sum_27 : decode cX10_sum 27 = .ok (.istore_n 3, 1) := by decide +kernel
theorem dX10_sum_28 : decode cX10_sum 28 = .ok (.iload_n 3, 1) := by decide +kernel
theorem dX10_sum_29 : decode cX10_sum 29 = .ok (.aload_n 0, 1) := by decide +kernel
theorem dX10_sum_30 : decode cX10_sum 30 = .ok (.getfield 13, 3) := by decide +kernel
theorem dX10_sum_33 : decode cX10_sum 33 = .ok (.iconst 1, 1) := by decide +kernel
theorem dX10_sum_34 : decode cX10_sum 34 = .ok (.iaload, 1) := by decide +kernel
theorem dX10_sum_35 : decode cX10_sum 35 = .ok (.if_icmp .ge 17, 3) := by decide +kernel
theorem dX10_sum_38 : decode cX10_sum 38 = .ok (.iload_n 2, 1) := by decide +kernel
theorem dX10_sum_39 : decode cX10_sum 39 = .ok (.aload_n 0, 1) := by decide +kernel
theorem dX10_sum_40 : decode cX10_sum 40 = .ok (.iload_n 3, 1) := by decide +kernel
theorem dX10_sum_41 : decode cX10_sum 41 = .ok (.invokevirtual 121, 3) := by decide +kernel
theorem dX10_sum_44 : decode cX10_sum 44 = .ok (.iadd, 1) := by decide +kernel
theorem dX10_sum_45 : decode cX10_sum 45 = .ok (.istore_n 2, 1) := by decide +kernel
theorem dX10_sum_46 : decode cX10_sum 46 = .ok (.iinc 3 1, 3) := by decide +kernel
theorem dX10_sum_49 : decode cX10_sum 49 = .ok (.goto (-21), 3) := by decide +kernel
theorem dX10_sum_52 : decode cX10_sum 52 = .ok (.iload_n 2, 1) := by decide +kernel
theorem dX10_sum_53 : decode cX10_sum 53 = .ok (.ireturn, 1) := by decide +kernel
theorem dX10_counters_0 : decode cX10_counters 0 = .ok (.iload_n 1, 1) := by decide +kernel
theorem dX10_counters_1 : decode cX10_counters 1 = .ok (.iconst (-1), 1) := by decide +kernel
theorem dX10_counters_2 : decode cX10_counters 2 = .ok (.if_icmp .eq 22, 3) := by decide +kernel
theorem dX10_counters_5 : decode cX10_counters 5 = .ok (.aload_n 0, 1) := by decide +kernel
theorem dX10_counters_6 : decode cX10_counters 6 = .ok (.iload_n 1, 1) := by decide +kernel
theorem dX10_counters_7 : decode cX10_counters 7 = .ok (.invokevirtual 90, 3) := by decide +kernel
theorem dX10_counters_10 : decode cX10_counters 10 = .ok (.ifCond .eq 11, 3) := by decide +kernel
theorem dX10_counters_13 : decode cX10_counters 13 = .ok (.aload_n 0, 1) := by decide +kernel
theorem dX10_counters_14 : decode cX10_counters 14 = .ok (.iload_n 1, 1) := by decide +kernel
theorem dX10_counters_15 : decode cX10_counters 15 = .ok (.invokevirtual 199, 3) := by decide +kernel
theorem dX10_counters_18 : decode cX10_counters 18 = .ok (.goto 5, 3) := by decide +kernel
theorem dX10_counters_21 : decode cX10_counters 21 = .ok (.bipush (-2), 2) := by decide +kernel
theorem dX10_counters_23 : decode cX10_counters 23 = .ok (.ireturn, 1) := by decide +kernel
theorem dX10_counters_24 : decode cX10_counters 24 = .ok (.iconst 0, 1) := by decide +kernel
theorem dX10_counters_25 : decode cX10_counters 25 = .ok (.istore_n 2, 1) := by decide +kernel
theorem dX10_counters_26 : decode cX10_counters 26 = .ok (.iconst 0, 1) := by decide +kernel
theorem dX10_counters_27 : decode cX10_counters 27 = .ok (.istore_n 3, 1) := by decide +kernel
theorem dX10_counters_28 : decode cX10_counters 28 = .ok (.iload_n 3, 1) := by decide +kernel
theorem dX10_counters_29 : decode cX10_counters 29 = .ok (.aload_n 0, 1) := by decide +kernel
theorem dX10_counters_30 : decode cX10_counters 30 = .ok (.getfield 13, 3) := by decide +kernel
theorem dX10_counters_33 : decode cX10_counters 33 = .ok (.iconst 1, 1) := by decide +kernel
theorem dX10_counters_34 : decode cX10_counters 34 = .ok (.iaload, 1) := by decide +kernel
theorem dX10_counters_35 : decode cX10_counters 35 = .ok (.if_icmp .ge 17, 3) := by decide +kernel
theorem dX10_counters_38 : decode cX10_counters 38 = .ok (.iload_n 2, 1) := by decide +kernel
theorem dX10_counters_39 : decode cX10_counters 39 = .ok (.aload_n 0, 1) := by decide +kernel
theorem dX10_counters_40 : decode cX10_counters 40 = .ok (.iload_n 3, 1) := by decide +kernel
theorem dX10_counters_41 : decode cX10_counters 41 = .ok (.invokevirtual 199, 3) := by decide +kernel
theorem dX10_counters_44 : decode cX10_counters 44 = .ok (.iadd, 1) := by decide +kernel
theorem dX10_counters_45 : decode cX10_counters 45 = .ok (.istore_n 2, 1) := by decide +kernel
theorem dX10_counters_46 : decode cX10_counters 46 = .ok (.iinc 3 1, 3) := by decide +kernel
theorem dX10_counters_49 : decode cX10_counters 49 = .ok (.goto (-21), 3) := by decide +kernel
theorem dX10_counters_52 : decode cX10_counters 52 = .ok (.iload_n 2, 1) := by decide +kernel
theorem dX10_counters_53 : decode cX10_counters 53 = .ok (.ireturn, 1) := by decide +kernel
theorem dX10_worth_0 : decode cX10_worth 0 = .ok (.aload_n 0, 1) := by decide +kernel
theorem dX10_worth_1 : decode cX10_worth 1 = .ok (.iload_n 1, 1) := by decide +kernel
theorem dX10_worth_2 : decode cX10_worth 2 = .ok (.invokevirtual 94, 3) := by decide +kernel
theorem dX10_worth_5 : decode cX10_worth 5 = .ok (.ifCond .eq 15, 3) := by decide +kernel
theorem dX10_worth_8 : decode cX10_worth 8 = .ok (.iload_n 2, 1) := by decide +kernel
theorem dX10_worth_9 : decode cX10_worth 9 = .ok (.i2l, 1) := by decide +kernel
theorem dX10_worth_10 : decode cX10_worth 10 = .ok (.lconst 0, 1) := by decide +kernel
theorem dX10_worth_11 : decode cX10_worth 11 = .ok (.ldc2_w 111, 3) := by decide +kernel
theorem dX10_worth_14 : decode cX10_worth 14 = .ok (.invokestatic 86, 3) := by decide +kernel
theorem dX10_worth_17 : decode cX10_worth 17 = .ok (.ifCond .ne 5, 3) := by decide +kernel
theorem dX10_worth_20 : decode cX10_worth 20 = .ok (.iconst (-1), 1) := by decide +kernel
theorem dX10_worth_21 : decode cX10_worth 21 = .ok (.ireturn, 1) := by decide +kernel
theorem dX10_worth_22 : decode cX10_worth 22 = .ok (.iconst 0, 1) := by decide +kernel
theorem dX10_worth_23 : decode cX10_worth 23 = .ok (.istore_n 3, 1) := by decide +kernel
theorem dX10_worth_24 : decode cX10_worth 24 = .ok (.iconst 0, 1) := by decide +kernel
theorem dX10_worth_25 : decode cX10_worth 25 = .ok (.istore 4, 2) := by decide +kernel
theorem dX10_worth_27 : decode cX10_worth 27 = .ok (.iload 4, 2) := by decide +kernel
theorem dX10_worth_29 : decode cX10_worth 29 = .ok (.aload_n 0, 1) := by decide +kernel
theorem dX10_worth_30 : decode cX10_worth 30 = .ok (.getfield 13, 3) := by decide +kernel
theorem dX10_worth_33 : decode cX10_worth 33 = .ok (.iconst 1, 1) := by decide +kernel
theorem dX10_worth_34 : decode cX10_worth 34 = .ok (.iaload, 1) := by decide +kernel
theorem dX10_worth_35 : decode cX10_worth 35 = .ok (.if_icmp .ge 19, 3) := by decide +kernel
theorem dX10_worth_38 : decode cX10_worth 38 = .ok (.iload_n 3, 1) := by decide +kernel
theorem dX10_worth_39 : decode cX10_worth 39 = .ok (.aload_n 0, 1) := by decide +kernel
theorem dX10_worth_40 : decode cX10_worth 40 = .ok (.iload 4, 2) := by decide +kernel
theorem dX10_worth_42 : decode cX10_worth 42 = .ok (.iload_n 1, 1) := by decide +kernel
theorem dX10_worth_43 : decode cX10_worth 43 = .ok (.invokevirtual 105, 3) := by decide +kernel
theorem dX10_worth_46 : decode cX10_worth 46 = .ok (.iadd, 1) := by decide +kernel
theorem dX10_worth_47 : decode cX10_worth 47 = .ok (.istore_n 3, 1) := by decide +kernel
theorem dX10_worth_48 : decode cX10_worth 48 = .ok (.iinc 4 1, 3) := by decide +kernel
theorem dX10_worth_51 : decode cX10_worth 51 = .ok (.goto (-24), 3) := by decide +kernel
theorem dX10_worth_54 : decode cX10_worth 54 = .ok (.iload_n 2, 1) := by decide +kernel
theorem dX10_worth_55 : decode cX10_worth 55 = .ok (.ifCond .ne 11, 3) := by decide +kernel
theorem dX10_worth_58 : decode cX10_worth 58 = .ok (.aload_n 0, 1) := by decide +kernel
theorem dX10_worth_59 : decode cX10_worth 59 = .ok (.iload_n 1, 1) := by decide +kernel
theorem dX10_worth_60 : decode cX10_worth 60 = .ok (.invokevirtual 97, 3) := by decide +kernel
theorem dX10_worth_63 : decode cX10_worth 63 = .ok (.goto 17, 3) := by decide +kernel
theorem dX10_worth_66 : decode cX10_worth 66 = .ok (.iload_n 2, 1) := by decide +kernel
theorem dX10_worth_67 : decode cX10_worth 67 = .ok (.iconst 1, 1) := by decide +kernel
theorem dX10_worth_68 : decode cX10_worth 68 = .ok (.if_icmp .ne 11, 3) := by decide +kernel
theorem dX10_worth_71 : decode cX10_worth 71 = .ok (.aload_n 0, 1) := by decide +kernel
theorem dX10_worth_72 : decode cX10_worth 72 = .ok (.iload_n 1, 1) := by decide +kernel
theorem dX10_worth_73 : decode cX10_worth 73 = .ok (.invokevirtual 108, 3) := by decide +kernel
theorem dX10_worth_76 : decode cX10_worth 76 = .ok (.goto 4, 3) := by decide +kernel
theorem dX10_worth_79 : decode cX10_worth 79 = .ok (.iload_n 3, 1) := by decide +kernel
theorem dX10_worth_80 : decode cX10_worth 80 = .ok (.ireturn, 1) := by decide +kernel
theorem dX10_plainOf_0 : decode cX10_plainOf 0 = .ok (.iload_n 1, 1) := by decide +kernel
theorem dX10_plainOf_1 : decode cX10_plainOf 1 = .ok (.ifCond .lt 25, 3) := by decide +kernel
theorem dX10_plainOf_4 : decode cX10_plainOf 4 = .ok (.aload_n 0, 1) := by decide +kernel
theorem dX10_plainOf_5 : decode cX10_plainOf 5 = .ok (.getfield 13, 3) := by decide +kernel
theorem dX10_plainOf_8 : decode cX10_plainOf 8 = .ok (.iconst 0, 1) := by decide +kernel
theorem dX10_plainOf_9 : decode cX10_plainOf 9 = .ok (.iaload, 1) := by decide +kernel
theorem dX10_plainOf_10 : decode cX10_plainOf 10 = .ok (.ifCond .eq 16, 3) := by decide +kernel
theorem dX10_plainOf_13 : decode cX10_plainOf 13 = .ok (.iload_n 2, 1) := by decide +kernel
theorem dX10_plainOf_14 : decode cX10_plainOf 14 = .ok (.iconst (-1), 1) := by decide +kernel
theorem dX10_plainOf_15 : decode cX10_plainOf 15 = .ok (.if_icmp .eq 14, 3) := by decide +kernel
theorem dX10_plainOf_18 : decode cX10_plainOf 18 = .ok (.aload_n 0, 1) := by decide +kernel
theorem dX10_plainOf_19 : decode cX10_plainOf 19 = .ok (.iload_n 2, 1) := by decide +kernel
theorem dX10_plainOf_20 : decode cX10_plainOf 20 = .ok (.invokevirtual 94, 3) := by decide +kernel
theorem dX10_plainOf_23 : decode cX10_plainOf 23 = .ok (.ifCond .ne 6, 3) := by decide +kernel
theorem dX10_plainOf_26 : decode cX10_plainOf 26 = .ok (.bipush (-2), 2) := by decide +kernel
theorem dX10_plainOf_28 : decode cX10_plainOf 28 = .ok (.ireturn, 1) := by decide +kernel
theorem dX10_plainOf_29 : decode cX10_plainOf 29 = .ok (.aload_n 0, 1) := by decide +kernel
theorem dX10_plainOf_30 : decode cX10_plainOf 30 = .ok (.iload_n 1, 1) := by decide +kernel
theorem dX10_plainOf_31 : decode cX10_plainOf 31 = .ok (.invokevirtual 190, 3) := by decide +kernel
theorem dX10_plainOf_34 : decode cX10_plainOf 34 = .ok (.iload_n 2, 1) := by decide +kernel
theorem dX10_plainOf_35 : decode cX10_plainOf 35 = .ok (.iconst (-1), 1) := by decide +kernel
theorem dX10_plainOf_36 : decode cX10_plainOf 36 = .ok (.if_icmp .eq 10, 3) := by decide +kernel
theorem dX10_plainOf_39 : decode cX10_plainOf 39 = .ok (.aload_n 0, 1) := by decide +kernel
theorem dX10_plainOf_40 : decode cX10_plainOf 40 = .ok (.getfield 26, 3) := by decide +kernel
theorem dX10_plainOf_43 : decode cX10_plainOf 43 = .ok (.iload_n 2, 1) := by decide +kernel
theorem dX10_plainOf_44 : decode cX10_plainOf 44 = .ok (.iaload, 1) := by decide +kernel
theorem dX10_plainOf_45 : decode cX10_plainOf 45 = .ok (.ireturn, 1) := by decide +kernel
theorem dX10_plainOf_46 : decode cX10_plainOf 46 = .ok (.iconst 0, 1) := by decide +kernel
theorem dX10_plainOf_47 : decode cX10_plainOf 47 = .ok (.istore_n 3, 1) := by decide +kernel
theorem dX10_plainOf_48 : decode cX10_plainOf 48 = .ok (.iconst 0, 1) := by decide +kernel
theorem dX10_plainOf_49 : decode cX10_plainOf 49 = .ok (.istore 4, 2) := by decide +kernel
theorem dX10_plainOf_51 : decode cX10_plainOf 51 = .ok (.iload 4, 2) := by decide +kernel
theorem dX10_plainOf_53 : decode cX10_plainOf 53 = .ok (.aload_n 0, 1) := by decide +kernel
theorem dX10_plainOf_54 : decode cX10_plainOf 54 = .ok (.getfield 13, 3) := by decide +kernel
theorem dX10_plainOf_57 : decode cX10_plainOf 57 = .ok (.iconst 0, 1) := by decide +kernel
theorem dX10_plainOf_58 : decode cX10_plainOf 58 = .ok (.iaload, 1) := by decide +kernel
theorem dX10_plainOf_59 : decode cX10_plainOf 59 = .ok (.if_icmp .ge 19, 3) := by decide +kernel
theorem dX10_plainOf_62 : decode cX10_plainOf 62 = .ok (.iload_n 3, 1) := by decide +kernel
theorem dX10_plainOf_63 : decode cX10_plainOf 63 = .ok (.aload_n 0, 1) := by decide +kernel
theorem dX10_plainOf_64 : decode cX10_plainOf 64 = .ok (.getfield 26, 3) := by decide +kernel
theorem dX10_plainOf_67 : decode cX10_plainOf 67 = .ok (.iload 4, 2) := by decide +kernel
theorem dX10_plainOf_69 : decode cX10_plainOf 69 = .ok (.iaload, 1) := by decide +kernel
theorem dX10_plainOf_70 : decode cX10_plainOf 70 = .ok (.iadd, 1) := by decide +kernel
theorem dX10_plainOf_71 : decode cX10_plainOf 71 = .ok (.istore_n 3, 1) := by decide +kernel
theorem dX10_plainOf_72 : decode cX10_plainOf 72 = .ok (.iinc 4 1, 3) := by decide +kernel
theorem dX10_plainOf_75 : decode cX10_plainOf 75 = .ok (.goto (-24), 3) := by decide +kernel
theorem dX10_plainOf_78 : decode cX10_plainOf 78 = .ok (.iload_n 3, 1) := by decide +kernel
theorem dX10_plainOf_79 : decode cX10_plainOf 79 = .ok (.ireturn, 1) := by decide +kernel
theorem dX10_carries_0 : decode cX10_carries 0 = .ok (.aload_n 0, 1) := by decide +kernel
theorem dX10_carries_1 : decode cX10_carries 1 = .ok (.iload_n 1, 1) := by decide +kernel
theorem dX10_carries_2 : decode cX10_carries 2 = .ok (.invokevirtual 90, 3) := by decide +kernel
theorem dX10_carries_5 : decode cX10_carries 5 = .ok (.ifCond .ne 5, 3) := by decide +kernel
theorem dX10_carries_8 : decode cX10_carries 8 = .ok (.iconst (-1), 1) := by decide +kernel
theorem dX10_carries_9 : decode cX10_carries 9 = .ok (.ireturn, 1) := by decide +kernel
theorem dX10_carries_10 : decode cX10_carries 10 = .ok (.iconst 0, 1) := by decide +kernel
theorem dX10_carries_11 : decode cX10_carries 11 = .ok (.istore_n 2, 1) := by decide +kernel
theorem dX10_carries_12 : decode cX10_carries 12 = .ok (.iconst 0, 1) := by decide +kernel
theorem dX10_carries_13 : decode cX10_carries 13 = .ok (.istore_n 3, 1) := by decide +kernel
theorem dX10_carries_14 : decode cX10_carries 14 = .ok (.iconst 0, 1) := by decide +kernel
theorem dX10_carries_15 : decode cX10_carries 15 = .ok (.istore 4, 2) := by decide +kernel
theorem dX10_carries_17 : decode cX10_carries 17 = .ok (.iload 4, 2) := by decide +kernel
theorem dX10_carries_19 : decode cX10_carries 19 = .ok (.iconst 1, 1) := by decide +kernel
theorem dX10_carries_20 : decode cX10_carries 20 = .ok (.iadd, 1) := by decide +kernel
theorem dX10_carries_21 : decode cX10_carries 21 = .ok (.aload_n 0, 1) := by decide +kernel
theorem dX10_carries_22 : decode cX10_carries 22 = .ok (.getfield 13, 3) := by decide +kernel
theorem dX10_carries_25 : decode cX10_carries 25 = .ok (.iconst 0, 1) := by decide +kernel
theorem dX10_carries_26 : decode cX10_carries 26 = .ok (.iaload, 1) := by decide +kernel
theorem dX10_carries_27 : decode cX10_carries 27 = .ok (.if_icmp .ge 32, 3) := by decide +kernel
theorem dX10_carries_30 : decode cX10_carries 30 = .ok (.aload_n 0, 1) := by decide +kernel
theorem dX10_carries_31 : decode cX10_carries 31 = .ok (.iload_n 1, 1) := by decide +kernel
theorem dX10_carries_32 : decode cX10_carries 32 = .ok (.iload 4, 2) := by decide +kernel
theorem dX10_carries_34 : decode cX10_carries 34 = .ok (.invokevirtual 105, 3) := by decide +kernel
theorem dX10_carries_37 : decode cX10_carries 37 = .ok (.iload_n 3, 1) := by decide +kernel
theorem dX10_carries_38 : decode cX10_carries 38 = .ok (.iadd, 1) := by decide +kernel
theorem dX10_carries_39 : decode cX10_carries 39 = .ok (.aload_n 0, 1) := by decide +kernel
theorem dX10_carries_40 : decode cX10_carries 40 = .ok (.iload 4, 2) := by decide +kernel
theorem dX10_carries_42 : decode cX10_carries 42 = .ok (.iconst 1, 1) := by decide +kernel
theorem dX10_carries_43 : decode cX10_carries 43 = .ok (.iadd, 1) := by decide +kernel
theorem dX10_carries_44 : decode cX10_carries 44 = .ok (.invokevirtual 97, 3) := by decide +kernel
theorem dX10_carries_47 : decode cX10_carries 47 = .ok (.idiv, 1) := by decide +kernel
theorem dX10_carries_48 : decode cX10_carries 48 = .ok (.istore_n 3, 1) := by decide +kernel
theorem dX10_carries_49 : decode cX10_carries 49 = .ok (.iload_n 2, 1) := by decide +kernel
theorem dX10_carries_50 : decode cX10_carries 50 = .ok (.iload_n 3, 1) := by decide +kernel
theorem dX10_carries_51 : decode cX10_carries 51 = .ok (.iadd, 1) := by decide +kernel
theorem dX10_carries_52 : decode cX10_carries 52 = .ok (.istore_n 2, 1) := by decide +kernel
theorem dX10_carries_53 : decode cX10_carries 53 = .ok (.iinc 4 1, 3) := by decide +kernel
theorem dX10_carries_56 : decode cX10_carries 56 = .ok (.goto (-39), 3) := by decide +kernel
theorem dX10_carries_59 : decode cX10_carries 59 = .ok (.iload_n 2, 1) := by decide +kernel
theorem dX10_carries_60 : decode cX10_carries 60 = .ok (.ireturn, 1) := by decide +kernel
theorem dX10_compare_0 : decode cX10_compare 0 = .ok (.aload_n 0, 1) := by decide +kernel
theorem dX10_compare_1 : decode cX10_compare 1 = .ok (.iload_n 1, 1) := by decide +kernel
theorem dX10_compare_2 : decode cX10_compare 2 = .ok (.invokevirtual 90, 3) := by decide +kernel
theorem dX10_compare_5 : decode cX10_compare 5 = .ok (.ifCond .eq 11, 3) := by decide +kernel
theorem dX10_compare_8 : decode cX10_compare 8 = .ok (.aload_n 0, 1) := by decide +kernel
theorem dX10_compare_9 : decode cX10_compare 9 = .ok (.iload_n 2, 1) := by decide +kernel
theorem dX10_compare_10 : decode cX10_compare 10 = .ok (.invokevirtual 90, 3) := by decide +kernel
theorem dX10_compare_13 : decode cX10_compare 13 = .ok (.ifCond .ne 6, 3) := by decide +kernel
theorem dX10_compare_16 : decode cX10_compare 16 = .ok (.bipush (-2), 2) := by decide +kernel
theorem dX10_compare_18 : decode cX10_compare 18 = .ok (.ireturn, 1) := by decide +kernel
theorem dX10_compare_19 : decode cX10_compare 19 = .ok (.aload_n 0, 1) := by decide +kernel
theorem dX10_compare_20 : decode cX10_compare 20 = .ok (.iload_n 1, 1) := by decide +kernel
theorem dX10_compare_21 : decode cX10_compare 21 = .ok (.invokevirtual 121, 3) := by decide +kernel
theorem dX10_compare_24 : decode cX10_compare 24 = .ok (.istore_n 3, 1) := by decide +kernel
theorem dX10_compare_25 : decode cX10_compare 25 = .ok (.aload_n 0, 1) := by decide +kernel
theorem dX10_compare_26 : decode cX10_compare 26 = .ok (.iload_n 2, 1) := by decide +kernel
theorem dX10_compare_27 : decode cX10_compare 27 = .ok (.invokevirtual 121, 3) := by decide +kernel
theorem dX10_compare_30 : decode cX10_compare 30 = .ok (.istore 4, 2) := by decide +kernel
theorem dX10_compare_32 : decode cX10_compare 32 = .ok (.iload_n 3, 1) := by decide +kernel
theorem dX10_compare_33 : decode cX10_compare 33 = .ok (.iload 4, 2) := by decide +kernel
theorem dX10_compare_35 : decode cX10_compare 35 = .ok (.if_icmp .le 7, 3) := by decide +kernel
theorem dX10_compare_38 : decode cX10_compare 38 = .ok (.iconst 1, 1) := by decide +kernel
theorem dX10_compare_39 : decode cX10_compare 39 = .ok (.goto 14, 3) := by decide +kernel
theorem dX10_compare_42 : decode cX10_compare 42 = .ok (.iload_n 3, 1) := by decide +kernel
theorem dX10_compare_43 : decode cX10_compare 43 = .ok (.iload 4, 2) := by decide +kernel
theorem dX10_compare_45 : decode cX10_compare 45 = .ok (.if_icmp .ne 7, 3) := by decide +kernel
theorem dX10_compare_48 : decode cX10_compare 48 = .ok (.iconst 0, 1) := by decide +kernel
theorem dX10_compare_49 : decode cX10_compare 49 = .ok (.goto 4, 3) := by decide +kernel
theorem dX10_compare_52 : decode cX10_compare 52 = .ok (.iconst (-1), 1) := by decide +kernel
theorem dX10_compare_53 : decode cX10_compare 53 = .ok (.ireturn, 1) := by decide +kernel
theorem dX10_apart_0 : decode cX10_apart 0 = .ok (.aload_n 0, 1) := by decide +kernel
theorem dX10_apart_1 : decode cX10_apart 1 = .ok (.iload_n 1, 1) := by decide +kernel
theorem dX10_apart_2 : decode cX10_apart 2 = .ok (.invokevirtual 90, 3) := by decide +kernel
theorem dX10_apart_5 : decode cX10_apart 5 = .ok (.ifCond .eq 11, 3) := by decide +kernel
theorem dX10_apart_8 : decode cX10_apart 8 = .ok (.aload_n 0, 1) := by decide +kernel
theorem dX10_apart_9 : decode cX10_apart 9 = .ok (.iload_n 2, 1) := by decide +kernel
theorem dX10_apart_10 : decode cX10_apart 10 = .ok (.invokevirtual 90, 3) := by decide +kernel
theorem dX10_apart_13 : decode cX10_apart 13 = .ok (.ifCond .ne 5, 3) := by decide +kernel
theorem dX10_apart_16 : decode cX10_apart 16 = .ok (.iconst (-1), 1) := by decide +kernel
theorem dX10_apart_17 : decode cX10_apart 17 = .ok (.ireturn, 1) := by decide +kernel
theorem dX10_apart_18 : decode cX10_apart 18 = .ok (.aload_n 0, 1) := by decide +kernel
theorem dX10_apart_19 : decode cX10_apart 19 = .ok (.iload_n 1, 1) := by decide +kernel
theorem dX10_apart_20 : decode cX10_apart 20 = .ok (.invokevirtual 121, 3) := by decide +kernel
theorem dX10_apart_23 : decode cX10_apart 23 = .ok (.aload_n 0, 1) := by decide +kernel
theorem dX10_apart_24 : decode cX10_apart 24 = .ok (.iload_n 2, 1) := by decide +kernel
theorem dX10_apart_25 : decode cX10_apart 25 = .ok (.invokevirtual 121, 3) := by decide +kernel
theorem dX10_apart_28 : decode cX10_apart 28 = .ok (.if_icmp .eq 6, 3) := by decide +kernel
theorem dX10_apart_31 : decode cX10_apart 31 = .ok (.bipush (-2), 2) := by decide +kernel
theorem dX10_apart_33 : decode cX10_apart 33 = .ok (.ireturn, 1) := by decide +kernel
theorem dX10_apart_34 : decode cX10_apart 34 = .ok (.iconst 0, 1) := by decide +kernel
theorem dX10_apart_35 : decode cX10_apart 35 = .ok (.istore_n 3, 1) := by decide +kernel
theorem dX10_apart_36 : decode cX10_apart 36 = .ok (.iconst 0, 1) := by decide +kernel
theorem dX10_apart_37 : decode cX10_apart 37 = .ok (.istore 4, 2) := by decide +kernel
theorem dX10_apart_39 : decode cX10_apart 39 = .ok (.iconst 0, 1) := by decide +kernel
theorem dX10_apart_40 : decode cX10_apart 40 = .ok (.istore 5, 2) := by decide +kernel
theorem dX10_apart_42 : decode cX10_apart 42 = .ok (.iload 5, 2) := by decide +kernel
theorem dX10_apart_44 : decode cX10_apart 44 = .ok (.iconst 1, 1) := by decide +kernel
theorem dX10_apart_45 : decode cX10_apart 45 = .ok (.iadd, 1) := by decide +kernel
theorem dX10_apart_46 : decode cX10_apart 46 = .ok (.aload_n 0, 1) := by decide +kernel
theorem dX10_apart_47 : decode cX10_apart 47 = .ok (.getfield 13, 3) := by decide +kernel
theorem dX10_apart_50 : decode cX10_apart 50 = .ok (.iconst 0, 1) := by decide +kernel
theorem dX10_apart_51 : decode cX10_apart 51 = .ok (.iaload, 1) := by decide +kernel
theorem dX10_apart_52 : decode cX10_apart 52 = .ok (.if_icmp .ge 54, 3) := by decide +kernel
theorem dX10_apart_55 : decode cX10_apart 55 = .ok (.aload_n 0, 1) := by decide +kernel
theorem dX10_apart_56 : decode cX10_apart 56 = .ok (.iload_n 1, 1) := by decide +kernel
theorem dX10_apart_57 : decode cX10_apart 57 = .ok (.iload 5, 2) := by decide +kernel
theorem dX10_apart_59 : decode cX10_apart 59 = .ok (.invokevirtual 105, 3) := by decide +kernel
theorem dX10_apart_62 : decode cX10_apart 62 = .ok (.iload 4, 2) := by decide +kernel
theorem dX10_apart_64 : decode cX10_apart 64 = .ok (.iadd, 1) := by decide +kernel
theorem dX10_apart_65 : decode cX10_apart 65 = .ok (.aload_n 0, 1) := by decide +kernel
theorem dX10_apart_66 : decode cX10_apart 66 = .ok (.iload_n 2, 1) := by decide +kernel
theorem dX10_apart_67 : decode cX10_apart 67 = .ok (.iload 5, 2) := by decide +kernel
theorem dX10_apart_69 : decode cX10_apart 69 = .ok (.invokevirtual 105, 3) := by decide +kernel
theorem dX10_apart_72 : decode cX10_apart 72 = .ok (.isub, 1) := by decide +kernel
theorem dX10_apart_73 : decode cX10_apart 73 = .ok (.aload_n 0, 1) := by decide +kernel
theorem dX10_apart_74 : decode cX10_apart 74 = .ok (.iload 5, 2) := by decide +kernel
theorem dX10_apart_76 : decode cX10_apart 76 = .ok (.iconst 1, 1) := by decide +kernel
theorem dX10_apart_77 : decode cX10_apart 77 = .ok (.iadd, 1) := by decide +kernel
theorem dX10_apart_78 : decode cX10_apart 78 = .ok (.invokevirtual 97, 3) := by decide +kernel
theorem dX10_apart_81 : decode cX10_apart 81 = .ok (.idiv, 1) := by decide +kernel
theorem dX10_apart_82 : decode cX10_apart 82 = .ok (.istore 4, 2) := by decide +kernel
theorem dX10_apart_84 : decode cX10_apart 84 = .ok (.iload_n 3, 1) := by decide +kernel
theorem dX10_apart_85 : decode cX10_apart 85 = .ok (.iload 4, 2) := by decide +kernel
theorem dX10_apart_87 : decode cX10_apart 87 = .ok (.ifCond .ge 9, 3) := by decide +kernel
theorem dX10_apart_90 : decode cX10_apart 90 = .ok (.iload 4, 2) := by decide +kernel
theorem dX10_apart_92 : decode cX10_apart 92 = .ok (.ineg, 1) := by decide +kernel
theorem dX10_apart_93 : decode cX10_apart 93 = .ok (.goto 5, 3) := by decide +kernel
theorem dX10_apart_96 : decode cX10_apart 96 = .ok (.iload 4, 2) := by decide +kernel
theorem dX10_apart_98 : decode cX10_apart 98 = .ok (.iadd, 1) := by decide +kernel
theorem dX10_apart_99 : decode cX10_apart 99 = .ok (.istore_n 3, 1) := by decide +kernel
theorem dX10_apart_100 : decode cX10_apart 100 = .ok (.iinc 5 1, 3) := by decide +kernel
theorem dX10_apart_103 : decode cX10_apart 103 = .ok (.goto (-61), 3) := by decide +kernel
theorem dX10_apart_106 : decode cX10_apart 106 = .ok (.iload_n 3, 1) := by decide +kernel
theorem dX10_apart_107 : decode cX10_apart 107 = .ok (.ireturn, 1) := by decide +kernel
theorem dX10_fullest_0 : decode cX10_fullest 0 = .ok (.iconst (-1), 1) := by decide +kernel
theorem dX10_fullest_1 : decode cX10_fullest 1 = .ok (.istore_n 1, 1) := by decide +kernel
theorem dX10_fullest_2 : decode cX10_fullest 2 = .ok (.iconst (-1), 1) := by decide +kernel
theorem dX10_fullest_3 : decode cX10_fullest 3 = .ok (.istore_n 2, 1) := by decide +kernel
theorem dX10_fullest_4 : decode cX10_fullest 4 = .ok (.iconst 0, 1) := by decide +kernel
theorem dX10_fullest_5 : decode cX10_fullest 5 = .ok (.istore_n 3, 1) := by decide +kernel
theorem dX10_fullest_6 : decode cX10_fullest 6 = .ok (.iload_n 3, 1) := by decide +kernel
theorem dX10_fullest_7 : decode cX10_fullest 7 = .ok (.aload_n 0, 1) := by decide +kernel
theorem dX10_fullest_8 : decode cX10_fullest 8 = .ok (.getfield 13, 3) := by decide +kernel
theorem dX10_fullest_11 : decode cX10_fullest 11 = .ok (.iconst 1, 1) := by decide +kernel
theorem dX10_fullest_12 : decode cX10_fullest 12 = .ok (.iaload, 1) := by decide +kernel
theorem dX10_fullest_13 : decode cX10_fullest 13 = .ok (.if_icmp .ge 59, 3) := by decide +kernel
theorem dX10_fullest_16 : decode cX10_fullest 16 = .ok (.iconst 0, 1) := by decide +kernel
theorem dX10_fullest_17 : decode cX10_fullest 17 = .ok (.istore 4, 2) := by decide +kernel
theorem dX10_fullest_19 : decode cX10_fullest 19 = .ok (.iload 4, 2) := by decide +kernel
theorem dX10_fullest_21 : decode cX10_fullest 21 = .ok (.aload_n 0, 1) := by decide +kernel
theorem dX10_fullest_22 : decode cX10_fullest 22 = .ok (.getfield 13, 3) := by decide +kernel
theorem dX10_fullest_25 : decode cX10_fullest 25 = .ok (.iconst 0, 1) := by decide +kernel
theorem dX10_fullest_26 : decode cX10_fullest 26 = .ok (.iaload, 1) := by decide +kernel
theorem dX10_fullest_27 : decode cX10_fullest 27 = .ok (.if_icmp .ge 39, 3) := by decide +kernel
theorem dX10_fullest_30 : decode cX10_fullest 30 = .ok (.aload_n 0, 1) := by decide +kernel
theorem dX10_fullest_31 : decode cX10_fullest 31 = .ok (.iload_n 3, 1) := by decide +kernel
theorem dX10_fullest_32 : decode cX10_fullest 32 = .ok (.iload 4, 2) := by decide +kernel
theorem dX10_fullest_34 : decode cX10_fullest 34 = .ok (.invokevirtual 105, 3) := by decide +kernel
theorem dX10_fullest_37 : decode cX10_fullest 37 = .ok (.iload_n 2, 1) := by decide +kernel
theorem dX10_fullest_38 : decode cX10_fullest 38 = .ok (.if_icmp .gt 6, 3) := by decide +kernel
theorem dX10_fullest_41 : decode cX10_fullest 41 = .ok (.goto 19, 3) := by decide +kernel
theorem dX10_fullest_44 : decode cX10_fullest 44 = .ok (.aload_n 0, 1) := by decide +kernel
theorem dX10_fullest_45 : decode cX10_fullest 45 = .ok (.iload_n 3, 1) := by decide +kernel
theorem dX10_fullest_46 : decode cX10_fullest 46 = .ok (.iload 4, 2) := by decide +kernel
theorem dX10_fullest_48 : decode cX10_fullest 48 = .ok (.invokevirtual 105, 3) := by decide +kernel
theorem dX10_fullest_51 : decode cX10_fullest 51 = .ok (.istore_n 2, 1) := by decide +kernel
theorem dX10_fullest_52 : decode cX10_fullest 52 = .ok (.bipush 10, 2) := by decide +kernel
theorem dX10_fullest_54 : decode cX10_fullest 54 = .ok (.iload_n 3, 1) := by decide +kernel
theorem dX10_fullest_55 : decode cX10_fullest 55 = .ok (.imul, 1) := by decide +kernel
theorem dX10_fullest_56 : decode cX10_fullest 56 = .ok (.iload 4, 2) := by decide +kernel
theorem dX10_fullest_58 : decode cX10_fullest 58 = .ok (.iadd, 1) := by decide +kernel
theorem dX10_fullest_59 : decode cX10_fullest 59 = .ok (.istore_n 1, 1) := by decide +kernel
theorem dX10_fullest_60 : decode cX10_fullest 60 = .ok (.iinc 4 1, 3) := by decide +kernel
theorem dX10_fullest_63 : decode cX10_fullest 63 = .ok (.goto (-44), 3) := by decide +kernel
theorem dX10_fullest_66 : decode cX10_fullest 66 = .ok (.iinc 3 1, 3) := by decide +kernel
theorem dX10_fullest_69 : decode cX10_fullest 69 = .ok (.goto (-63), 3) := by decide +kernel
theorem dX10_fullest_72 : decode cX10_fullest 72 = .ok (.iload_n 1, 1) := by decide +kernel
theorem dX10_fullest_73 : decode cX10_fullest 73 = .ok (.ireturn, 1) := by decide +kernel
theorem dX10_floor_0 : decode cX10_floor 0 = .ok (.lload_n 0, 1) := by decide +kernel
theorem dX10_floor_1 : decode cX10_floor 1 = .ok (.lload_n 2, 1) := by decide +kernel
theorem dX10_floor_2 : decode cX10_floor 2 = .ok (.ldiv, 1) := by decide +kernel
theorem dX10_floor_3 : decode cX10_floor 3 = .ok (.lstore 4, 2) := by decide +kernel
theorem dX10_floor_5 : decode cX10_floor 5 = .ok (.lload_n 0, 1) := by decide +kernel
theorem dX10_floor_6 : decode cX10_floor 6 = .ok (.lload_n 2, 1) := by decide +kernel
theorem dX10_floor_7 : decode cX10_floor 7 = .ok (.lrem, 1) := by decide +kernel
theorem dX10_floor_8 : decode cX10_floor 8 = .ok (.lconst 0, 1) := by decide +kernel
theorem dX10_floor_9 : decode cX10_floor 9 = .ok (.lcmp, 1) := by decide +kernel
theorem dX10_floor_10 : decode cX10_floor 10 = .ok (.ifCond .ge 10, 3) := by decide +kernel
theorem dX10_floor_13 : decode cX10_floor 13 = .ok (.lload 4, 2) := by decide +kernel
theorem dX10_floor_15 : decode cX10_floor 15 = .ok (.lconst 1, 1) := by decide +kernel
theorem dX10_floor_16 : decode cX10_floor 16 = .ok (.lsub, 1) := by decide +kernel
theorem dX10_floor_17 : decode cX10_floor 17 = .ok (.goto 5, 3) := by decide +kernel
theorem dX10_floor_20 : decode cX10_floor 20 = .ok (.lload 4, 2) := by decide +kernel
theorem dX10_floor_22 : decode cX10_floor 22 = .ok (.lreturn, 1) := by decide +kernel
theorem dX10_ways_0 : decode cX10_ways 0 = .ok (.aload_n 0, 1) := by decide +kernel
theorem dX10_ways_1 : decode cX10_ways 1 = .ok (.iload_n 1, 1) := by decide +kernel
theorem dX10_ways_2 : decode cX10_ways 2 = .ok (.invokevirtual 90, 3) := by decide +kernel
theorem dX10_ways_5 : decode cX10_ways 5 = .ok (.ifCond .eq 7, 3) := by decide +kernel
theorem dX10_ways_8 : decode cX10_ways 8 = .ok (.iload_n 2, 1) := by decide +kernel
theorem dX10_ways_9 : decode cX10_ways 9 = .ok (.ifCond .ge 7, 3) := by decide +kernel
theorem dX10_ways_12 : decode cX10_ways 12 = .ok (.ldc2_w 219, 3) := by decide +kernel
theorem dX10_ways_15 : decode cX10_ways 15 = .ok (.lreturn, 1) := by decide +kernel
theorem dX10_ways_16 : decode cX10_ways 16 = .ok (.iconst 0, 1) := by decide +kernel
theorem dX10_ways_17 : decode cX10_ways 17 = .ok (.istore_n 3, 1) := by decide +kernel
theorem dX10_ways_18 : decode cX10_ways 18 = .ok (.iload_n 3, 1) := by decide +kernel
theorem dX10_ways_19 : decode cX10_ways 19 = .ok (.sipush 420, 3) := by decide +kernel
theorem dX10_ways_22 : decode cX10_ways 22 = .ok (.if_icmp .ge 16, 3) := by decide +kernel
theorem dX10_ways_25 : decode cX10_ways 25 = .ok (.aload_n 0, 1) := by decide +kernel
theorem dX10_ways_26 : decode cX10_ways 26 = .ok (.getfield 33, 3) := by decide +kernel
theorem dX10_ways_29 : decode cX10_ways 29 = .ok (.iload_n 3, 1) := by decide +kernel
theorem dX10_ways_30 : decode cX10_ways 30 = .ok (.lconst 0, 1) := by decide +kernel
theorem dX10_ways_31 : decode cX10_ways 31 = .ok (.lastore, 1) := by decide +kernel
theorem dX10_ways_32 : decode cX10_ways 32 = .ok (.iinc 3 1, 3) := by decide +kernel
theorem dX10_ways_35 : decode cX10_ways 35 = .ok (.goto (-17), 3) := by decide +kernel
theorem dX10_ways_38 : decode cX10_ways 38 = .ok (.aload_n 0, 1) := by decide +kernel
theorem dX10_ways_39 : decode cX10_ways 39 = .ok (.getfield 33, 3) := by decide +kernel
theorem dX10_ways_42 : decode cX10_ways 42 = .ok (.iconst 0, 1) := by decide +kernel
theorem dX10_ways_43 : decode cX10_ways 43 = .ok (.lconst 1, 1) := by decide +kernel
theorem dX10_ways_44 : decode cX10_ways 44 = .ok (.lastore, 1) := by decide +kernel
theorem dX10_ways_45 : decode cX10_ways 45 = .ok (.iload_n 2, 1) := by decide +kernel
theorem dX10_ways_46 : decode cX10_ways 46 = .ok (.i2l, 1) := by decide +kernel
theorem dX10_ways_47 : decode cX10_ways 47 = .ok (.lstore_n 3, 1) := by decide +kernel
theorem dX10_ways_48 : decode cX10_ways 48 = .ok (.iconst 0, 1) := by decide +kernel
theorem dX10_ways_49 : decode cX10_ways 49 = .ok (.istore 5, 2) := by decide +kernel
theorem dX10_ways_51 : decode cX10_ways 51 = .ok (.iload 5, 2) := by decide +kernel
theorem dX10_ways_53 : decode cX10_ways 53 = .ok (.iconst 1, 1) := by decide +kernel
theorem dX10_ways_54 : decode cX10_ways 54 = .ok (.iadd, 1) := by decide +kernel
theorem dX10_ways_55 : decode cX10_ways 55 = .ok (.aload_n 0, 1) := by decide +kernel
theorem dX10_ways_56 : decode cX10_ways 56 = .ok (.getfield 13, 3) := by decide +kernel
theorem dX10_ways_59 : decode cX10_ways 59 = .ok (.iconst 0, 1) := by decide +kernel
theorem dX10_ways_60 : decode cX10_ways 60 = .ok (.iaload, 1) := by decide +kernel
theorem dX10_ways_61 : decode cX10_ways 61 = .ok (.if_icmp .ge 200, 3) := by decide +kernel
theorem dX10_ways_64 : decode cX10_ways 64 = .ok (.aload_n 0, 1) := by decide +kernel
theorem dX10_ways_65 : decode cX10_ways 65 = .ok (.iload 5, 2) := by decide +kernel
theorem dX10_ways_67 : decode cX10_ways 67 = .ok (.iconst 1, 1) := by decide +kernel
theorem dX10_ways_68 : decode cX10_ways 68 = .ok (.iadd, 1) := by decide +kernel
theorem dX10_ways_69 : decode cX10_ways 69 = .ok (.invokevirtual 97, 3) := by decide +kernel
theorem dX10_ways_72 : decode cX10_ways 72 = .ok (.istore 6, 2) := by decide +kernel
theorem dX10_ways_74 : decode cX10_ways 74 = .ok (.lload_n 3, 1) := by decide +kernel
theorem dX10_ways_75 : decode cX10_ways 75 = .ok (.iload 6, 2) := by decide +kernel
theorem dX10_ways_77 : decode cX10_ways 77 = .ok (.i2l, 1) := by decide +kernel
theorem dX10_ways_78 : decode cX10_ways 78 = .ok (.ldiv, 1) := by decide +kernel
theorem dX10_ways_79 : decode cX10_ways 79 = .ok (.lstore 7, 2) := by decide +kernel
theorem dX10_ways_81 : decode cX10_ways 81 = .ok (.iconst 0, 1) := by decide +kernel
theorem dX10_ways_82 : decode cX10_ways 82 = .ok (.istore 9, 2) := by decide +kernel
theorem dX10_ways_84 : decode cX10_ways 84 = .ok (.iload 9, 2) := by decide +kernel
theorem dX10_ways_86 : decode cX10_ways 86 = .ok (.sipush 420, 3) := by decide +kernel
theorem dX10_ways_89 : decode cX10_ways 89 = .ok (.if_icmp .ge 17, 3) := by decide +kernel
theorem dX10_ways_92 : decode cX10_ways 92 = .ok (.aload_n 0, 1) := by decide +kernel
theorem dX10_ways_93 : decode cX10_ways 93 = .ok (.getfield 36, 3) := by decide +kernel
theorem dX10_ways_96 : decode cX10_ways 96 = .ok (.iload 9, 2) := by decide +kernel
theorem dX10_ways_98 : decode cX10_ways 98 = .ok (.lconst 0, 1) := by decide +kernel
theorem dX10_ways_99 : decode cX10_ways 99 = .ok (.lastore, 1) := by decide +kernel
theorem dX10_ways_100 : decode cX10_ways 100 = .ok (.iinc 9 1, 3) := by decide +kernel
theorem dX10_ways_103 : decode cX10_ways 103 = .ok (.goto (-19), 3) := by decide +kernel
theorem dX10_ways_106 : decode cX10_ways 106 = .ok (.iconst 0, 1) := by decide +kernel
theorem dX10_ways_107 : decode cX10_ways 107 = .ok (.istore 9, 2) := by decide +kernel
theorem dX10_ways_109 : decode cX10_ways 109 = .ok (.iload 9, 2) := by decide +kernel
theorem dX10_ways_111 : decode cX10_ways 111 = .ok (.sipush 420, 3) := by decide +kernel
theorem dX10_ways_114 : decode cX10_ways 114 = .ok (.if_icmp .ge 107, 3) := by decide +kernel
theorem dX10_ways_117 : decode cX10_ways 117 = .ok (.lload_n 3, 1) := by decide +kernel
theorem dX10_ways_118 : decode cX10_ways 118 = .ok (.iload 9, 2) := by decide +kernel
theorem dX10_ways_120 : decode cX10_ways 120 = .ok (.i2l, 1) := by decide +kernel
theorem dX10_ways_121 : decode cX10_ways 121 = .ok (.lsub, 1) := by decide +kernel
theorem dX10_ways_122 : decode cX10_ways 122 = .ok (.lstore 10, 2) := by decide +kernel
theorem dX10_ways_124 : decode cX10_ways 124 = .ok (.aload_n 0, 1) := by decide +kernel
theorem dX10_ways_125 : decode cX10_ways 125 = .ok (.getfield 33, 3) := by decide +kernel
theorem dX10_ways_128 : decode cX10_ways 128 = .ok (.iload 9, 2) := by decide +kernel
theorem dX10_ways_130 : decode cX10_ways 130 = .ok (.laload, 1) := by decide +kernel
theorem dX10_ways_131 : decode cX10_ways 131 = .ok (.lconst 0, 1) := by decide +kernel
theorem dX10_ways_132 : decode cX10_ways 132 = .ok (.lcmp, 1) := by decide +kernel
theorem dX10_ways_133 : decode cX10_ways 133 = .ok (.ifCond .eq 82, 3) := by decide +kernel
theorem dX10_ways_136 : decode cX10_ways 136 = .ok (.lload 10, 2) := by decide +kernel
theorem dX10_ways_138 : decode cX10_ways 138 = .ok (.lconst 0, 1) := by decide +kernel
theorem dX10_ways_139 : decode cX10_ways 139 = .ok (.lcmp, 1) := by decide +kernel
theorem dX10_ways_140 : decode cX10_ways 140 = .ok (.ifCond .ge 6, 3) := by decide +kernel
theorem dX10_ways_143 : decode cX10_ways 143 = .ok (.goto 72, 3) := by decide +kernel
theorem dX10_ways_146 : decode cX10_ways 146 = .ok (.lload 10, 2) := by decide +kernel
theorem dX10_ways_148 : decode cX10_ways 148 = .ok (.iload 6, 2) := by decide +kernel
theorem dX10_ways_150 : decode cX10_ways 150 = .ok (.i2l, 1) := by decide +kernel
theorem dX10_ways_151 : decode cX10_ways 151 = .ok (.lrem, 1) := by decide +kernel
theorem dX10_ways_152 : decode cX10_ways 152 = .ok (.lstore 12, 2) := by decide +kernel
theorem dX10_ways_154 : decode cX10_ways 154 = .ok (.lload 12, 2) := by decide +kernel
theorem dX10_ways_156 : decode cX10_ways 156 = .ok (.aload_n 0, 1) := by decide +kernel
theorem dX10_ways_157 : decode cX10_ways 157 = .ok (.iload_n 1, 1) := by decide +kernel
theorem dX10_ways_158 : decode cX10_ways 158 = .ok (.iload 5, 2) := by decide +kernel
theorem dX10_ways_160 : decode cX10_ways 160 = .ok (.invokevirtual 105, 3) := by decide +kernel
theorem dX10_ways_163 : decode cX10_ways 163 = .ok (.i2l, 1) := by decide +kernel
theorem dX10_ways_164 : decode cX10_ways 164 = .ok (.lcmp, 1) := by decide +kernel
theorem dX10_ways_165 : decode cX10_ways 165 = .ok (.ifCond .gt 50, 3) := by decide +kernel
theorem dX10_ways_168 : decode cX10_ways 168 = .ok (.lload 12, 2) := by decide +kernel
theorem dX10_ways_170 : decode cX10_ways 170 = .ok (.lload 10, 2) := by decide +kernel
theorem dX10_ways_172 : decode cX10_ways 172 = .ok (.lcmp, 1) := by decide +kernel
theorem dX10_ways_173 : decode cX10_ways 173 = .ok (.ifCond .gt 42, 3) := by decide +kernel
theorem dX10_ways_176 : decode cX10_ways 176 = .ok (.aload_n 0, 1) := by decide +kernel
theorem dX10_ways_177 : decode cX10_ways 177 = .ok (.getfield 36, 3) := by decide +kernel
theorem dX10_ways_180 : decode cX10_ways 180 = .ok (.lload 7, 2) := by decide +kernel
theorem dX10_ways_182 : decode cX10_ways 182 = .ok (.lload 10, 2) := by decide +kernel
theorem dX10_ways_184 : decode cX10_ways 184 = .ok (.lload 12, 2) := by decide +kernel
theorem dX10_ways_186 : decode cX10_ways 186 = .ok (.lsub, 1) := by decide +kernel
theorem dX10_ways_187 : decode cX10_ways 187 = .ok (.iload 6, 2) := by decide +kernel
theorem dX10_ways_189 : decode cX10_ways 189 = .ok (.i2l, 1) := by decide +kernel
theorem dX10_ways_190 : decode cX10_ways 190 = .ok (.ldiv, 1) := by decide +kernel
theorem dX10_ways_191 : decode cX10_ways 191 = .ok (.lsub, 1) := by decide +kernel
theorem dX10_ways_192 : decode cX10_ways 192 = .ok (.l2i, 1) := by decide +kernel
theorem dX10_ways_193 : decode cX10_ways 193 = .ok (.dup2, 1) := by decide +kernel
theorem dX10_ways_194 : decode cX10_ways 194 = .ok (.laload, 1) := by decide +kernel
theorem dX10_ways_195 : decode cX10_ways 195 = .ok (.aload_n 0, 1) := by decide +kernel
theorem dX10_ways_196 : decode cX10_ways 196 = .ok (.getfield 33, 3) := by decide +kernel
theorem dX10_ways_199 : decode cX10_ways 199 = .ok (.iload 9, 2) := by decide +kernel
theorem dX10_ways_201 : decode cX10_ways 201 = .ok (.laload, 1) := by decide +kernel
theorem dX10_ways_202 : decode cX10_ways 202 = .ok (.ladd, 1) := by decide +kernel
theorem dX10_ways_203 : decode cX10_ways 203 = .ok (.lastore, 1) := by decide +kernel
theorem dX10_ways_204 : decode cX10_ways 204 = .ok (.lload 12, 2) := by decide +kernel
theorem dX10_ways_206 : decode cX10_ways 206 = .ok (.iload 6, 2) := by decide +kernel
theorem dX10_ways_208 : decode cX10_ways 208 = .ok (.i2l, 1) := by decide +kernel
theorem dX10_ways_209 : decode cX10_ways 209 = .ok (.ladd, 1) := by decide +kernel
theorem dX10_ways_210 : decode cX10_ways 210 = .ok (.lstore 12, 2) := by decide +kernel
theorem dX10_ways_212 : decode cX10_ways 212 = .ok (.goto (-58), 3) := by decide +kernel
theorem dX10_ways_215 : decode cX10_ways 215 = .ok (.iinc 9 1, 3) := by decide +kernel
theorem dX10_ways_218 : decode cX10_ways 218 = .ok (.goto (-109), 3) := by decide +kernel
theorem dX10_ways_221 : decode cX10_ways 221 = .ok (.lload 7, 2) := by decide +kernel
theorem dX10_ways_223 : decode cX10_ways 223 = .ok (.lstore_n 3, 1) := by decide +kernel
theorem dX10_ways_224 : decode cX10_ways 224 = .ok (.iconst 0, 1) := by decide +kernel
theorem dX10_ways_225 : decode cX10_ways 225 = .ok (.istore 9, 2) := by decide +kernel
theorem dX10_ways_227 : decode cX10_ways 227 = .ok (.iload 9, 2) := by decide +kernel
theorem dX10_ways_229 : decode cX10_ways 229 = .ok (.sipush 420, 3) := by decide +kernel
theorem dX10_ways_232 : decode cX10_ways 232 = .ok (.if_icmp .ge 23, 3) := by decide +kernel
theorem dX10_ways_235 : decode cX10_ways 235 = .ok (.aload_n 0, 1) := by decide +kernel
theorem dX10_ways_236 : decode cX10_ways 236 = .ok (.getfield 33, 3) := by decide +kernel
theorem dX10_ways_239 : decode cX10_ways 239 = .ok (.iload 9, 2) := by decide +kernel
theorem dX10_ways_241 : decode cX10_ways 241 = .ok (.aload_n 0, 1) := by decide +kernel
theorem dX10_ways_242 : decode cX10_ways 242 = .ok (.getfield 36, 3) := by decide +kernel
theorem dX10_ways_245 : decode cX10_ways 245 = .ok (.iload 9, 2) := by decide +kernel
theorem dX10_ways_247 : decode cX10_ways 247 = .ok (.laload, 1) := by decide +kernel
theorem dX10_ways_248 : decode cX10_ways 248 = .ok (.lastore, 1) := by decide +kernel
theorem dX10_ways_249 : decode cX10_ways 249 = .ok (.iinc 9 1, 3) := by decide +kernel
theorem dX10_ways_252 : decode cX10_ways 252 = .ok (.goto (-25), 3) := by decide +kernel
theorem dX10_ways_255 : decode cX10_ways 255 = .ok (.iinc 5 1, 3) := by decide +kernel
theorem dX10_ways_258 : decode cX10_ways 258 = .ok (.goto (-207), 3) := by decide +kernel
theorem dX10_ways_261 : decode cX10_ways 261 = .ok (.lconst 0, 1) := by decide +kernel
theorem dX10_ways_262 : decode cX10_ways 262 = .ok (.lstore 5, 2) := by decide +kernel
theorem dX10_ways_264 : decode cX10_ways 264 = .ok (.iconst 0, 1) := by decide +kernel
theorem dX10_ways_265 : decode cX10_ways 265 = .ok (.istore 7, 2) := by decide +kernel
theorem dX10_ways_267 : decode cX10_ways 267 = .ok (.iload 7, 2) := by decide +kernel
theorem dX10_ways_269 : decode cX10_ways 269 = .ok (.sipush 420, 3) := by decide +kernel
theorem dX10_ways_272 : decode cX10_ways 272 = .ok (.if_icmp .ge 59, 3) := by decide +kernel
theorem dX10_ways_275 : decode cX10_ways 275 = .ok (.aload_n 0, 1) := by decide +kernel
theorem dX10_ways_276 : decode cX10_ways 276 = .ok (.getfield 33, 3) := by decide +kernel
theorem dX10_ways_279 : decode cX10_ways 279 = .ok (.iload 7, 2) := by decide +kernel
theorem dX10_ways_281 : decode cX10_ways 281 = .ok (.laload, 1) := by decide +kernel
theorem dX10_ways_282 : decode cX10_ways 282 = .ok (.lconst 0, 1) := by decide +kernel
theorem dX10_ways_283 : decode cX10_ways 283 = .ok (.lcmp, 1) := by decide +kernel
theorem dX10_ways_284 : decode cX10_ways 284 = .ok (.ifCond .le 41, 3) := by decide +kernel
theorem dX10_ways_287 : decode cX10_ways 287 = .ok (.lload_n 3, 1) := by decide +kernel
theorem dX10_ways_288 : decode cX10_ways 288 = .ok (.iload 7, 2) := by decide +kernel
theorem dX10_ways_290 : decode cX10_ways 290 = .ok (.i2l, 1) := by decide +kernel
theorem dX10_ways_291 : decode cX10_ways 291 = .ok (.lsub, 1) := by decide +kernel
theorem dX10_ways_292 : decode cX10_ways 292 = .ok (.lconst 0, 1) := by decide +kernel
theorem dX10_ways_293 : decode cX10_ways 293 = .ok (.aload_n 0, 1) := by decide +kernel
theorem dX10_ways_294 : decode cX10_ways 294 = .ok (.iload_n 1, 1) := by decide +kernel
theorem dX10_ways_295 : decode cX10_ways 295 = .ok (.aload_n 0, 1) := by decide +kernel
theorem dX10_ways_296 : decode cX10_ways 296 = .ok (.getfield 13, 3) := by decide +kernel
theorem dX10_ways_299 : decode cX10_ways 299 = .ok (.iconst 0, 1) := by decide +kernel
theorem dX10_ways_300 : decode cX10_ways 300 = .ok (.iaload, 1) := by decide +kernel
theorem dX10_ways_301 : decode cX10_ways 301 = .ok (.iconst 1, 1) := by decide +kernel
theorem dX10_ways_302 : decode cX10_ways 302 = .ok (.isub, 1) := by decide +kernel
theorem dX10_ways_303 : decode cX10_ways 303 = .ok (.invokevirtual 105, 3) := by decide +kernel
theorem dX10_ways_306 : decode cX10_ways 306 = .ok (.i2l, 1) := by decide +kernel
theorem dX10_ways_307 : decode cX10_ways 307 = .ok (.invokestatic 86, 3) := by decide +kernel
theorem dX10_ways_310 : decode cX10_ways 310 = .ok (.ifCond .eq 15, 3) := by decide +kernel
theorem dX10_ways_313 : decode cX10_ways 313 = .ok (.lload 5, 2) := by decide +kernel
theorem dX10_ways_315 : decode cX10_ways 315 = .ok (.aload_n 0, 1) := by decide +kernel
theorem dX10_ways_316 : decode cX10_ways 316 = .ok (.getfield 33, 3) := by decide +kernel
theorem dX10_ways_319 : decode cX10_ways 319 = .ok (.iload 7, 2) := by decide +kernel
theorem dX10_ways_321 : decode cX10_ways 321 = .ok (.laload, 1) := by decide +kernel
theorem dX10_ways_322 : decode cX10_ways 322 = .ok (.ladd, 1) := by decide +kernel
theorem dX10_ways_323 : decode cX10_ways 323 = .ok (.lstore 5, 2) := by decide +kernel
theorem dX10_ways_325 : decode cX10_ways 325 = .ok (.iinc 7 1, 3) := by decide +kernel
theorem dX10_ways_328 : decode cX10_ways 328 = .ok (.goto (-61), 3) := by decide +kernel
theorem dX10_ways_331 : decode cX10_ways 331 = .ok (.lload 5, 2) := by decide +kernel
theorem dX10_ways_333 : decode cX10_ways 333 = .ok (.lreturn, 1) := by decide +kernel
theorem dX10_costAt_0 : decode cX10_costAt 0 = .ok (.aload_n 0, 1) := by decide +kernel
theorem dX10_costAt_1 : decode cX10_costAt 1 = .ok (.getfield 29, 3) := by decide +kernel
theorem dX10_costAt_4 : decode cX10_costAt 4 = .ok (.iload_n 1, 1) := by decide +kernel
theorem dX10_costAt_5 : decode cX10_costAt 5 = .ok (.laload, 1) := by decide +kernel
theorem dX10_costAt_6 : decode cX10_costAt 6 = .ok (.iload_n 2, 1) := by decide +kernel
theorem dX10_costAt_7 : decode cX10_costAt 7 = .ok (.i2l, 1) := by decide +kernel
theorem dX10_costAt_8 : decode cX10_costAt 8 = .ok (.lsub, 1) := by decide +kernel
theorem dX10_costAt_9 : decode cX10_costAt 9 = .ok (.lstore_n 3, 1) := by decide +kernel
theorem dX10_costAt_10 : decode cX10_costAt 10 = .ok (.iload_n 1, 1) := by decide +kernel
theorem dX10_costAt_11 : decode cX10_costAt 11 = .ok (.aload_n 0, 1) := by decide +kernel
theorem dX10_costAt_12 : decode cX10_costAt 12 = .ok (.getfield 13, 3) := by decide +kernel
theorem dX10_costAt_15 : decode cX10_costAt 15 = .ok (.iconst 0, 1) := by decide +kernel
theorem dX10_costAt_16 : decode cX10_costAt 16 = .ok (.iaload, 1) := by decide +kernel
theorem dX10_costAt_17 : decode cX10_costAt 17 = .ok (.iconst 1, 1) := by decide +kernel
theorem dX10_costAt_18 : decode cX10_costAt 18 = .ok (.isub, 1) := by decide +kernel
theorem dX10_costAt_19 : decode cX10_costAt 19 = .ok (.if_icmp .ne 43, 3) := by decide +kernel
theorem dX10_costAt_22 : decode cX10_costAt 22 = .ok (.lload_n 3, 1) := by decide +kernel
theorem dX10_costAt_23 : decode cX10_costAt 23 = .ok (.aload_n 0, 1) := by decide +kernel
theorem dX10_costAt_24 : decode cX10_costAt 24 = .ok (.getfield 39, 3) := by decide +kernel
theorem dX10_costAt_27 : decode cX10_costAt 27 = .ok (.iload_n 1, 1) := by decide +kernel
theorem dX10_costAt_28 : decode cX10_costAt 28 = .ok (.iaload, 1) := by decide +kernel
theorem dX10_costAt_29 : decode cX10_costAt 29 = .ok (.i2l, 1) := by decide +kernel
theorem dX10_costAt_30 : decode cX10_costAt 30 = .ok (.aload_n 0, 1) := by decide +kernel
theorem dX10_costAt_31 : decode cX10_costAt 31 = .ok (.getfield 42, 3) := by decide +kernel
theorem dX10_costAt_34 : decode cX10_costAt 34 = .ok (.iload_n 1, 1) := by decide +kernel
theorem dX10_costAt_35 : decode cX10_costAt 35 = .ok (.iaload, 1) := by decide +kernel
theorem dX10_costAt_36 : decode cX10_costAt 36 = .ok (.i2l, 1) := by decide +kernel
theorem dX10_costAt_37 : decode cX10_costAt 37 = .ok (.invokestatic 86, 3) := by decide +kernel
theorem dX10_costAt_40 : decode cX10_costAt 40 = .ok (.ifCond .eq 19, 3) := by decide +kernel
theorem dX10_costAt_43 : decode cX10_costAt 43 = .ok (.lload_n 3, 1) := by decide +kernel
theorem dX10_costAt_44 : decode cX10_costAt 44 = .ok (.lconst 0, 1) := by decide +kernel
theorem dX10_costAt_45 : decode cX10_costAt 45 = .ok (.lcmp, 1) := by decide +kernel
theorem dX10_costAt_46 : decode cX10_costAt 46 = .ok (.ifCond .ge 8, 3) := by decide +kernel
theorem dX10_costAt_49 : decode cX10_costAt 49 = .ok (.lload_n 3, 1) := by decide +kernel
theorem dX10_costAt_50 : decode cX10_costAt 50 = .ok (.lneg, 1) := by decide +kernel
theorem dX10_costAt_51 : decode cX10_costAt 51 = .ok (.goto 4, 3) := by decide +kernel
theorem dX10_costAt_54 : decode cX10_costAt 54 = .ok (.lload_n 3, 1) := by decide +kernel
theorem dX10_costAt_55 : decode cX10_costAt 55 = .ok (.l2i, 1) := by decide +kernel
theorem dX10_costAt_56 : decode cX10_costAt 56 = .ok (.goto 5, 3) := by decide +kernel
theorem dX10_costAt_59 : decode cX10_costAt 59 = .ok (.ldc 221, 2) := by decide +kernel
theorem dX10_costAt_61 : decode cX10_costAt 61 = .ok (.ireturn, 1) := by decide +kernel
theorem dX10_costAt_62 : decode cX10_costAt 62 = .ok (.ldc 221, 2) := by decide +kernel
theorem dX10_costAt_64 : decode cX10_costAt 64 = .ok (.istore 5, 2) := by decide +kernel
theorem dX10_costAt_66 : decode cX10_costAt 66 = .ok (.aload_n 0, 1) := by decide +kernel
theorem dX10_costAt_67 : decode cX10_costAt 67 = .ok (.getfield 39, 3) := by decide +kernel
theorem dX10_costAt_70 : decode cX10_costAt 70 = .ok (.iload_n 1, 1) := by decide +kernel
theorem dX10_costAt_71 : decode cX10_costAt 71 = .ok (.iaload, 1) := by decide +kernel
theorem dX10_costAt_72 : decode cX10_costAt 72 = .ok (.istore 6, 2) := by decide +kernel
theorem dX10_costAt_74 : decode cX10_costAt 74 = .ok (.iload 6, 2) := by decide +kernel
theorem dX10_costAt_76 : decode cX10_costAt 76 = .ok (.aload_n 0, 1) := by decide +kernel
theorem dX10_costAt_77 : decode cX10_costAt 77 = .ok (.getfield 42, 3) := by decide +kernel
theorem dX10_costAt_80 : decode cX10_costAt 80 = .ok (.iload_n 1, 1) := by decide +kernel
theorem dX10_costAt_81 : decode cX10_costAt 81 = .ok (.iaload, 1) := by decide +kernel
theorem dX10_costAt_82 : decode cX10_costAt 82 = .ok (.if_icmp .gt 106, 3) := by decide +kernel
theorem dX10_costAt_85 : decode cX10_costAt 85 = .ok (.lload_n 3, 1) := by decide +kernel
theorem dX10_costAt_86 : decode cX10_costAt 86 = .ok (.iload 6, 2) := by decide +kernel
theorem dX10_costAt_88 : decode cX10_costAt 88 = .ok (.i2l, 1) := by decide +kernel
theorem dX10_costAt_89 : decode cX10_costAt 89 = .ok (.lsub, 1) := by decide +kernel
theorem dX10_costAt_90 : decode cX10_costAt 90 = .ok (.aload_n 0, 1) := by decide +kernel
theorem dX10_costAt_91 : decode cX10_costAt 91 = .ok (.iload_n 1, 1) := by decide +kernel
theorem dX10_costAt_92 : decode cX10_costAt 92 = .ok (.iconst 1, 1) := by decide +kernel
theorem dX10_costAt_93 : decode cX10_costAt 93 = .ok (.iadd, 1) := by decide +kernel
theorem dX10_costAt_94 : decode cX10_costAt 94 = .ok (.invokevirtual 97, 3) := by decide +kernel
theorem dX10_costAt_97 : decode cX10_costAt 97 = .ok (.i2l, 1) := by decide +kernel
theorem dX10_costAt_98 : decode cX10_costAt 98 = .ok (.lrem, 1) := by decide +kernel
theorem dX10_costAt_99 : decode cX10_costAt 99 = .ok (.lconst 0, 1) := by decide +kernel
theorem dX10_costAt_100 : decode cX10_costAt 100 = .ok (.lcmp, 1) := by decide +kernel
theorem dX10_costAt_101 : decode cX10_costAt 101 = .ok (.ifCond .eq 6, 3) := by decide +kernel
theorem dX10_costAt_104 : decode cX10_costAt 104 = .ok (.goto 78, 3) := by decide +kernel
theorem dX10_costAt_107 : decode cX10_costAt 107 = .ok (.aload_n 0, 1) := by decide +kernel
theorem dX10_costAt_108 : decode cX10_costAt 108 = .ok (.getfield 48, 3) := by decide +kernel
theorem dX10_costAt_111 : decode cX10_costAt 111 = .ok (.sipush 420, 3) := by decide +kernel
theorem dX10_costAt_114 : decode cX10_costAt 114 = .ok (.iload_n 1, 1) := by decide +kernel
theorem dX10_costAt_115 : decode cX10_costAt 115 = .ok (.iconst 1, 1) := by decide +kernel
theorem dX10_costAt_116 : decode cX10_costAt 116 = .ok (.iadd, 1) := by decide +kernel
theorem dX10_costAt_117 : decode cX10_costAt 117 = .ok (.imul, 1) := by decide +kernel
theorem dX10_costAt_118 : decode cX10_costAt 118 = .ok (.aload_n 0, 1) := by decide +kernel
theorem dX10_costAt_119 : decode cX10_costAt 119 = .ok (.getfield 29, 3) := by decide +kernel
theorem dX10_costAt_122 : decode cX10_costAt 122 = .ok (.iload_n 1, 1) := by decide +kernel
theorem dX10_costAt_123 : decode cX10_costAt 123 = .ok (.iconst 1, 1) := by decide +kernel
theorem dX10_costAt_124 : decode cX10_costAt 124 = .ok (.iadd, 1) := by decide +kernel
theorem dX10_costAt_125 : decode cX10_costAt 125 = .ok (.laload, 1) := by decide +kernel
theorem dX10_costAt_126 : decode cX10_costAt 126 = .ok (.lload_n 3, 1) := by decide +kernel
theorem dX10_costAt_127 : decode cX10_costAt 127 = .ok (.iload 6, 2) := by decide +kernel
theorem dX10_costAt_129 : decode cX10_costAt 129 = .ok (.i2l, 1) := by decide +kernel
theorem dX10_costAt_130 : decode cX10_costAt 130 = .ok (.lsub, 1) := by decide +kernel
theorem dX10_costAt_131 : decode cX10_costAt 131 = .ok (.aload_n 0, 1) := by decide +kernel
theorem dX10_costAt_132 : decode cX10_costAt 132 = .ok (.iload_n 1, 1) := by decide +kernel
theorem dX10_costAt_133 : decode cX10_costAt 133 = .ok (.iconst 1, 1) := by decide +kernel
theorem dX10_costAt_134 : decode cX10_costAt 134 = .ok (.iadd, 1) := by decide +kernel
theorem dX10_costAt_135 : decode cX10_costAt 135 = .ok (.invokevirtual 97, 3) := by decide +kernel
theorem dX10_costAt_138 : decode cX10_costAt 138 = .ok (.i2l, 1) := by decide +kernel
theorem dX10_costAt_139 : decode cX10_costAt 139 = .ok (.ldiv, 1) := by decide +kernel
theorem dX10_costAt_140 : decode cX10_costAt 140 = .ok (.lsub, 1) := by decide +kernel
theorem dX10_costAt_141 : decode cX10_costAt 141 = .ok (.l2i, 1) := by decide +kernel
theorem dX10_costAt_142 : decode cX10_costAt 142 = .ok (.iadd, 1) := by decide +kernel
theorem dX10_costAt_143 : decode cX10_costAt 143 = .ok (.iaload, 1) := by decide +kernel
theorem dX10_costAt_144 : decode cX10_costAt 144 = .ok (.istore 7, 2) := by decide +kernel
theorem dX10_costAt_146 : decode cX10_costAt 146 = .ok (.iload 6, 2) := by decide +kernel
theorem dX10_costAt_148 : decode cX10_costAt 148 = .ok (.ifCond .ge 9, 3) := by decide +kernel
theorem dX10_costAt_151 : decode cX10_costAt 151 = .ok (.iload 6, 2) := by decide +kernel
theorem dX10_costAt_153 : decode cX10_costAt 153 = .ok (.ineg, 1) := by decide +kernel
theorem dX10_costAt_154 : decode cX10_costAt 154 = .ok (.goto 5, 3) := by decide +kernel
theorem dX10_costAt_157 : decode cX10_costAt 157 = .ok (.iload 6, 2) := by decide +kernel
theorem dX10_costAt_159 : decode cX10_costAt 159 = .ok (.iload 7, 2) := by decide +kernel
theorem dX10_costAt_161 : decode cX10_costAt 161 = .ok (.iadd, 1) := by decide +kernel
theorem dX10_costAt_162 : decode cX10_costAt 162 = .ok (.istore 8, 2) := by decide +kernel
theorem dX10_costAt_164 : decode cX10_costAt 164 = .ok (.iload 7, 2) := by decide +kernel
theorem dX10_costAt_166 : decode cX10_costAt 166 = .ok (.ldc 221, 2) := by decide +kernel
theorem dX10_costAt_168 : decode cX10_costAt 168 = .ok (.if_icmp .ge 14, 3) := by decide +kernel
theorem dX10_costAt_171 : decode cX10_costAt 171 = .ok (.iload 8, 2) := by decide +kernel
theorem dX10_costAt_173 : decode cX10_costAt 173 = .ok (.iload 5, 2) := by decide +kernel
theorem dX10_costAt_175 : decode cX10_costAt 175 = .ok (.if_icmp .ge 7, 3) := by decide +kernel
theorem dX10_costAt_178 : decode cX10_costAt 178 = .ok (.iload 8, 2) := by decide +kernel
theorem dX10_costAt_180 : decode cX10_costAt 180 = .ok (.istore 5, 2) := by decide +kernel
theorem dX10_costAt_182 : decode cX10_costAt 182 = .ok (.iinc 6 1, 3) := by decide +kernel
theorem dX10_costAt_185 : decode cX10_costAt 185 = .ok (.goto (-111), 3) := by decide +kernel
theorem dX10_costAt_188 : decode cX10_costAt 188 = .ok (.iload 5, 2) := by decide +kernel
theorem dX10_costAt_190 : decode cX10_costAt 190 = .ok (.ireturn, 1) := by decide +kernel
theorem dX10_fewest_0 : decode cX10_fewest 0 = .ok (.aload_n 0, 1) := by decide +kernel
theorem dX10_fewest_1 : decode cX10_fewest 1 = .ok (.getfield 29, 3) := by decide +kernel
theorem dX10_fewest_4 : decode cX10_fewest 4 = .ok (.iconst 0, 1) := by decide +kernel
theorem dX10_fewest_5 : decode cX10_fewest 5 = .ok (.lload_n 1, 1) := by decide +kernel
theorem dX10_fewest_6 : decode cX10_fewest 6 = .ok (.lastore, 1) := by decide +kernel
theorem dX10_fewest_7 : decode cX10_fewest 7 = .ok (.iconst 0, 1) := by decide +kernel
theorem dX10_fewest_8 : decode cX10_fewest 8 = .ok (.istore_n 3, 1) := by decide +kernel
theorem dX10_fewest_9 : decode cX10_fewest 9 = .ok (.iload_n 3, 1) := by decide +kernel
theorem dX10_fewest_10 : decode cX10_fewest 10 = .ok (.iconst 1, 1) := by decide +kernel
theorem dX10_fewest_11 : decode cX10_fewest 11 = .ok (.iadd, 1) := by decide +kernel
theorem dX10_fewest_12 : decode cX10_fewest 12 = .ok (.aload_n 0, 1) := by decide +kernel
theorem dX10_fewest_13 : decode cX10_fewest 13 = .ok (.getfield 13, 3) := by decide +kernel
theorem dX10_fewest_16 : decode cX10_fewest 16 = .ok (.iconst 0, 1) := by decide +kernel
theorem dX10_fewest_17 : decode cX10_fewest 17 = .ok (.iaload, 1) := by decide +kernel
theorem dX10_fewest_18 : decode cX10_fewest 18 = .ok (.if_icmp .ge 42, 3) := by decide +kernel
theorem dX10_fewest_21 : decode cX10_fewest 21 = .ok (.aload_n 0, 1) := by decide +kernel
theorem dX10_fewest_22 : decode cX10_fewest 22 = .ok (.getfield 29, 3) := by decide +kernel
theorem dX10_fewest_25 : decode cX10_fewest 25 = .ok (.iload_n 3, 1) := by decide +kernel
theorem dX10_fewest_26 : decode cX10_fewest 26 = .ok (.iconst 1, 1) := by decide +kernel
theorem dX10_fewest_27 : decode cX10_fewest 27 = .ok (.iadd, 1) := by decide +kernel
theorem dX10_fewest_28 : decode cX10_fewest 28 = .ok (.aload_n 0, 1) := by decide +kernel
theorem dX10_fewest_29 : decode cX10_fewest 29 = .ok (.getfield 29, 3) := by decide +kernel
theorem dX10_fewest_32 : decode cX10_fewest 32 = .ok (.iload_n 3, 1) := by decide +kernel
theorem dX10_fewest_33 : decode cX10_fewest 33 = .ok (.laload, 1) := by decide +kernel
theorem dX10_fewest_34 : decode cX10_fewest 34 = .ok (.aload_n 0, 1) := by decide +kernel
theorem dX10_fewest_35 : decode cX10_fewest 35 = .ok (.getfield 39, 3) := by decide +kernel
theorem dX10_fewest_38 : decode cX10_fewest 38 = .ok (.iload_n 3, 1) := by decide +kernel
theorem dX10_fewest_39 : decode cX10_fewest 39 = .ok (.iaload, 1) := by decide +kernel
theorem dX10_fewest_40 : decode cX10_fewest 40 = .ok (.i2l, 1) := by decide +kernel
theorem dX10_fewest_41 : decode cX10_fewest 41 = .ok (.lsub, 1) := by decide +kernel
theorem dX10_fewest_42 : decode cX10_fewest 42 = .ok (.aload_n 0, 1) := by decide +kernel
theorem dX10_fewest_43 : decode cX10_fewest 43 = .ok (.iload_n 3, 1) := by decide +kernel
theorem dX10_fewest_44 : decode cX10_fewest 44 = .ok (.iconst 1, 1) := by decide +kernel
theorem dX10_fewest_45 : decode cX10_fewest 45 = .ok (.iadd, 1) := by decide +kernel
theorem dX10_fewest_46 : decode cX10_fewest 46 = .ok (.invokevirtual 97, 3) := by decide +kernel
theorem dX10_fewest_49 : decode cX10_fewest 49 = .ok (.i2l, 1) := by decide +kernel
theorem dX10_fewest_50 : decode cX10_fewest 50 = .ok (.invokestatic 222, 3) := by decide +kernel
theorem dX10_fewest_53 : decode cX10_fewest 53 = .ok (.lastore, 1) := by decide +kernel
theorem dX10_fewest_54 : decode cX10_fewest 54 = .ok (.iinc 3 1, 3) := by decide +kernel
theorem dX10_fewest_57 : decode cX10_fewest 57 = .ok (.goto (-48), 3) := by decide +kernel
theorem dX10_fewest_60 : decode cX10_fewest 60 = .ok (.aload_n 0, 1) := by decide +kernel
theorem dX10_fewest_61 : decode cX10_fewest 61 = .ok (.getfield 13, 3) := by decide +kernel
theorem dX10_fewest_64 : decode cX10_fewest 64 = .ok (.iconst 0, 1) := by decide +kernel
theorem dX10_fewest_65 : decode cX10_fewest 65 = .ok (.iaload, 1) := by decide +kernel
theorem dX10_fewest_66 : decode cX10_fewest 66 = .ok (.iconst 1, 1) := by decide +kernel
theorem dX10_fewest_67 : decode cX10_fewest 67 = .ok (.isub, 1) := by decide +kernel
theorem dX10_fewest_68 : decode cX10_fewest 68 = .ok (.istore_n 3, 1) := by decide +kernel
theorem dX10_fewest_69 : decode cX10_fewest 69 = .ok (.iload_n 3, 1) := by decide +kernel
theorem dX10_fewest_70 : decode cX10_fewest 70 = .ok (.ifCond .lt 41, 3) := by decide +kernel
theorem dX10_fewest_73 : decode cX10_fewest 73 = .ok (.iconst 0, 1) := by decide +kernel
theorem dX10_fewest_74 : decode cX10_fewest 74 = .ok (.istore 4, 2) := by decide +kernel
theorem dX10_fewest_76 : decode cX10_fewest 76 = .ok (.iload 4, 2) := by decide +kernel
theorem dX10_fewest_78 : decode cX10_fewest 78 = .ok (.sipush 420, 3) := by decide +kernel
theorem dX10_fewest_81 : decode cX10_fewest 81 = .ok (.if_icmp .ge 24, 3) := by decide +kernel
theorem dX10_fewest_84 : decode cX10_fewest 84 = .ok (.aload_n 0, 1) := by decide +kernel
theorem dX10_fewest_85 : decode cX10_fewest 85 = .ok (.getfield 48, 3) := by decide +kernel
theorem dX10_fewest_88 : decode cX10_fewest 88 = .ok (.sipush 420, 3) := by decide +kernel
theorem dX10_fewest_91 : decode cX10_fewest 91 = .ok (.iload_n 3, 1) := by decide +kernel
theorem dX10_fewest_92 : decode cX10_fewest 92 = .ok (.imul, 1) := by decide +kernel
theorem dX10_fewest_93 : decode cX10_fewest 93 = .ok (.iload 4, 2) := by decide +kernel
theorem dX10_fewest_95 : decode cX10_fewest 95 = .ok (.iadd, 1) := by decide +kernel
theorem dX10_fewest_96 : decode cX10_fewest 96 = .ok (.ldc 221, 2) := by decide +kernel
theorem dX10_fewest_98 : decode cX10_fewest 98 = .ok (.iastore, 1) := by decide +kernel
theorem dX10_fewest_99 : decode cX10_fewest 99 = .ok (.iinc 4 1, 3) := by decide +kernel
theorem dX10_fewest_102 : decode cX10_fewest 102 = .ok (.goto (-26), 3) := by decide +kernel
theorem dX10_fewest_105 : decode cX10_fewest 105 = .ok (.iinc 3 (-1), 3) := by decide +kernel
theorem dX10_fewest_108 : decode cX10_fewest 108 = .ok (.goto (-39), 3) := by decide +kernel
theorem dX10_fewest_111 : decode cX10_fewest 111 = .ok (.aload_n 0, 1) := by decide +kernel
theorem dX10_fewest_112 : decode cX10_fewest 112 = .ok (.getfield 13, 3) := by decide +kernel
theorem dX10_fewest_115 : decode cX10_fewest 115 = .ok (.iconst 0, 1) := by decide +kernel
theorem dX10_fewest_116 : decode cX10_fewest 116 = .ok (.iaload, 1) := by decide +kernel
theorem dX10_fewest_117 : decode cX10_fewest 117 = .ok (.iconst 1, 1) := by decide +kernel
theorem dX10_fewest_118 : decode cX10_fewest 118 = .ok (.isub, 1) := by decide +kernel
theorem dX10_fewest_119 : decode cX10_fewest 119 = .ok (.istore_n 3, 1) := by decide +kernel
theorem dX10_fewest_120 : decode cX10_fewest 120 = .ok (.iload_n 3, 1) := by decide +kernel
theorem dX10_fewest_121 : decode cX10_fewest 121 = .ok (.ifCond .lt 48, 3) := by decide +kernel
theorem dX10_fewest_124 : decode cX10_fewest 124 = .ok (.iconst 0, 1) := by decide +kernel
theorem dX10_fewest_125 : decode cX10_fewest 125 = .ok (.istore 4, 2) := by decide +kernel
theorem dX10_fewest_127 : decode cX10_fewest 127 = .ok (.iload 4, 2) := by decide +kernel
theorem dX10_fewest_129 : decode cX10_fewest 129 = .ok (.aload_n 0, 1) := by decide +kernel
theorem dX10_fewest_130 : decode cX10_fewest 130 = .ok (.iload_n 3, 1) := by decide +kernel
theorem dX10_fewest_131 : decode cX10_fewest 131 = .ok (.invokevirtual 226, 3) := by decide +kernel
theorem dX10_fewest_134 : decode cX10_fewest 134 = .ok (.if_icmp .ge 29, 3) := by decide +kernel
theorem dX10_fewest_137 : decode cX10_fewest 137 = .ok (.aload_n 0, 1) := by decide +kernel
theorem dX10_fewest_138 : decode cX10_fewest 138 = .ok (.getfield 48, 3) := by decide +kernel
theorem dX10_fewest_141 : decode cX10_fewest 141 = .ok (.sipush 420, 3) := by decide +kernel
theorem dX10_fewest_144 : decode cX10_fewest 144 = .ok (.iload_n 3, 1) := by decide +kernel
theorem dX10_fewest_145 : decode cX10_fewest 145 = .ok (.imul, 1) := by decide +kernel
theorem dX10_fewest_146 : decode cX10_fewest 146 = .ok (.iload 4, 2) := by decide +kernel
theorem dX10_fewest_148 : decode cX10_fewest 148 = .ok (.iadd, 1) := by decide +kernel
theorem dX10_fewest_149 : decode cX10_fewest 149 = .ok (.aload_n 0, 1) := by decide +kernel
theorem dX10_fewest_150 : decode cX10_fewest 150 = .ok (.iload_n 3, 1) := by decide +kernel
theorem dX10_fewest_151 : decode cX10_fewest 151 = .ok (.iload 4, 2) := by decide +kernel
theorem dX10_fewest_153 : decode cX10_fewest 153 = .ok (.invokevirtual 229, 3) := by decide +kernel
theorem dX10_fewest_156 : decode cX10_fewest 156 = .ok (.iastore, 1) := by decide +kernel
theorem dX10_fewest_157 : decode cX10_fewest 157 = .ok (.iinc 4 1, 3) := by decide +kernel
theorem dX10_fewest_160 : decode cX10_fewest 160 = .ok (.goto (-33), 3) := by decide +kernel
theorem dX10_fewest_163 : decode cX10_fewest 163 = .ok (.iinc 3 (-1), 3) := by decide +kernel
theorem dX10_fewest_166 : decode cX10_fewest 166 = .ok (.goto (-46), 3) := by decide +kernel
theorem dX10_fewest_169 : decode cX10_fewest 169 = .ok (.aload_n 0, 1) := by decide +kernel
theorem dX10_fewest_170 : decode cX10_fewest 170 = .ok (.getfield 48, 3) := by decide +kernel
theorem dX10_fewest_173 : decode cX10_fewest 173 = .ok (.iconst 0, 1) := by decide +kernel
theorem dX10_fewest_174 : decode cX10_fewest 174 = .ok (.iaload, 1) := by decide +kernel
theorem dX10_fewest_175 : decode cX10_fewest 175 = .ok (.istore_n 3, 1) := by decide +kernel
theorem dX10_fewest_176 : decode cX10_fewest 176 = .ok (.iload_n 3, 1) := by decide +kernel
theorem dX10_fewest_177 : decode cX10_fewest 177 = .ok (.ldc 221, 2) := by decide +kernel
theorem dX10_fewest_179 : decode cX10_fewest 179 = .ok (.if_icmp .lt 6, 3) := by decide +kernel
theorem dX10_fewest_182 : decode cX10_fewest 182 = .ok (.bipush (-2), 2) := by decide +kernel
theorem dX10_fewest_184 : decode cX10_fewest 184 = .ok (.ireturn, 1) := by decide +kernel
theorem dX10_fewest_185 : decode cX10_fewest 185 = .ok (.lload_n 1, 1) := by decide +kernel
theorem dX10_fewest_186 : decode cX10_fewest 186 = .ok (.lstore 4, 2) := by decide +kernel
theorem dX10_fewest_188 : decode cX10_fewest 188 = .ok (.iconst 0, 1) := by decide +kernel
theorem dX10_fewest_189 : decode cX10_fewest 189 = .ok (.istore 6, 2) := by decide +kernel
theorem dX10_fewest_191 : decode cX10_fewest 191 = .ok (.iload 6, 2) := by decide +kernel
theorem dX10_fewest_193 : decode cX10_fewest 193 = .ok (.aload_n 0, 1) := by decide +kernel
theorem dX10_fewest_194 : decode cX10_fewest 194 = .ok (.getfield 13, 3) := by decide +kernel
theorem dX10_fewest_197 : decode cX10_fewest 197 = .ok (.iconst 0, 1) := by decide +kernel
theorem dX10_fewest_198 : decode cX10_fewest 198 = .ok (.iaload, 1) := by decide +kernel
theorem dX10_fewest_199 : decode cX10_fewest 199 = .ok (.if_icmp .ge 72, 3) := by decide +kernel
theorem dX10_fewest_202 : decode cX10_fewest 202 = .ok (.aload_n 0, 1) := by decide +kernel
theorem dX10_fewest_203 : decode cX10_fewest 203 = .ok (.getfield 45, 3) := by decide +kernel
theorem dX10_fewest_206 : decode cX10_fewest 206 = .ok (.iload 6, 2) := by decide +kernel
theorem dX10_fewest_208 : decode cX10_fewest 208 = .ok (.lload 4, 2) := by decide +kernel
theorem dX10_fewest_210 : decode cX10_fewest 210 = .ok (.l2i, 1) := by decide +kernel
theorem dX10_fewest_211 : decode cX10_fewest 211 = .ok (.iastore, 1) := by decide +kernel
theorem dX10_fewest_212 : decode cX10_fewest 212 = .ok (.iload 6, 2) := by decide +kernel
theorem dX10_fewest_214 : decode cX10_fewest 214 = .ok (.iconst 1, 1) := by decide +kernel
theorem dX10_fewest_215 : decode cX10_fewest 215 = .ok (.iadd, 1) := by decide +kernel
theorem dX10_fewest_216 : decode cX10_fewest 216 = .ok (.aload_n 0, 1) := by decide +kernel
theorem dX10_fewest_217 : decode cX10_fewest 217 = .ok (.getfield 13, 3) := by decide +kernel
theorem dX10_fewest_220 : decode cX10_fewest 220 = .ok (.iconst 0, 1) := by decide +kernel
theorem dX10_fewest_221 : decode cX10_fewest 221 = .ok (.iaload, 1) := by decide +kernel
theorem dX10_fewest_222 : decode cX10_fewest 222 = .ok (.if_icmp .ne 5, 3) := by decide +kernel
theorem dX10_fewest_225 : decode cX10_fewest 225 = .ok (.iload_n 3, 1) := by decide +kernel
theorem dX10_fewest_226 : decode cX10_fewest 226 = .ok (.ireturn, 1) := by decide +kernel
theorem dX10_fewest_227 : decode cX10_fewest 227 = .ok (.aload_n 0, 1) := by decide +kernel
theorem dX10_fewest_228 : decode cX10_fewest 228 = .ok (.getfield 45, 3) := by decide +kernel
theorem dX10_fewest_231 : decode cX10_fewest 231 = .ok (.iload 6, 2) := by decide +kernel
theorem dX10_fewest_233 : decode cX10_fewest 233 = .ok (.aload_n 0, 1) := by decide +kernel
theorem dX10_fewest_234 : decode cX10_fewest 234 = .ok (.iload 6, 2) := by decide +kernel
theorem dX10_fewest_236 : decode cX10_fewest 236 = .ok (.lload 4, 2) := by decide +kernel
theorem dX10_fewest_238 : decode cX10_fewest 238 = .ok (.invokevirtual 232, 3) := by decide +kernel
theorem dX10_fewest_241 : decode cX10_fewest 241 = .ok (.iastore, 1) := by decide +kernel
theorem dX10_fewest_242 : decode cX10_fewest 242 = .ok (.lload 4, 2) := by decide +kernel
theorem dX10_fewest_244 : decode cX10_fewest 244 = .ok (.aload_n 0, 1) := by decide +kernel
theorem dX10_fewest_245 : decode cX10_fewest 245 = .ok (.getfield 45, 3) := by decide +kernel
theorem dX10_fewest_248 : decode cX10_fewest 248 = .ok (.iload 6, 2) := by decide +kernel
theorem dX10_fewest_250 : decode cX10_fewest 250 = .ok (.iaload, 1) := by decide +kernel
theorem dX10_fewest_251 : decode cX10_fewest 251 = .ok (.i2l, 1) := by decide +kernel
theorem dX10_fewest_252 : decode cX10_fewest 252 = .ok (.lsub, 1) := by decide +kernel
theorem dX10_fewest_253 : decode cX10_fewest 253 = .ok (.aload_n 0, 1) := by decide +kernel
theorem dX10_fewest_254 : decode cX10_fewest 254 = .ok (.iload 6, 2) := by decide +kernel
theorem dX10_fewest_256 : decode cX10_fewest 256 = .ok (.iconst 1, 1) := by decide +kernel
theorem dX10_fewest_257 : decode cX10_fewest 257 = .ok (.iadd, 1) := by decide +kernel
theorem dX10_fewest_258 : decode cX10_fewest 258 = .ok (.invokevirtual 97, 3) := by decide +kernel
theorem dX10_fewest_261 : decode cX10_fewest 261 = .ok (.i2l, 1) := by decide +kernel
theorem dX10_fewest_262 : decode cX10_fewest 262 = .ok (.ldiv, 1) := by decide +kernel
theorem dX10_fewest_263 : decode cX10_fewest 263 = .ok (.lstore 4, 2) := by decide +kernel
theorem dX10_fewest_265 : decode cX10_fewest 265 = .ok (.iinc 6 1, 3) := by decide +kernel
theorem dX10_fewest_268 : decode cX10_fewest 268 = .ok (.goto (-77), 3) := by decide +kernel
theorem dX10_fewest_271 : decode cX10_fewest 271 = .ok (.iload_n 3, 1) := by decide +kernel
theorem dX10_fewest_272 : decode cX10_fewest 272 = .ok (.ireturn, 1) := by decide +kernel
theorem dX10_widthAt_0 : decode cX10_widthAt 0 = .ok (.iconst 1, 1) := by decide +kernel
theorem dX10_widthAt_1 : decode cX10_widthAt 1 = .ok (.istore_n 2, 1) := by decide +kernel
theorem dX10_widthAt_2 : decode cX10_widthAt 2 = .ok (.iconst 0, 1) := by decide +kernel
theorem dX10_widthAt_3 : decode cX10_widthAt 3 = .ok (.istore_n 3, 1) := by decide +kernel
theorem dX10_widthAt_4 : decode cX10_widthAt 4 = .ok (.iload_n 3, 1) := by decide +kernel
theorem dX10_widthAt_5 : decode cX10_widthAt 5 = .ok (.iload_n 1, 1) := by decide +kernel
theorem dX10_widthAt_6 : decode cX10_widthAt 6 = .ok (.if_icmp .ge 35, 3) := by decide +kernel
theorem dX10_widthAt_9 : decode cX10_widthAt 9 = .ok (.iload_n 2, 1) := by decide +kernel
theorem dX10_widthAt_10 : decode cX10_widthAt 10 = .ok (.aload_n 0, 1) := by decide +kernel
theorem dX10_widthAt_11 : decode cX10_widthAt 11 = .ok (.getfield 42, 3) := by decide +kernel
theorem dX10_widthAt_14 : decode cX10_widthAt 14 = .ok (.iload_n 3, 1) := by decide +kernel
theorem dX10_widthAt_15 : decode cX10_widthAt 15 = .ok (.iaload, 1) := by decide +kernel
theorem dX10_widthAt_16 : decode cX10_widthAt 16 = .ok (.iadd, 1) := by decide +kernel
theorem dX10_widthAt_17 : decode cX10_widthAt 17 = .ok (.aload_n 0, 1) := by decide +kernel
theorem dX10_widthAt_18 : decode cX10_widthAt 18 = .ok (.getfield 39, 3) := by decide +kernel
theorem dX10_widthAt_21 : decode cX10_widthAt 21 = .ok (.iload_n 3, 1) := by decide +kernel
theorem dX10_widthAt_22 : decode cX10_widthAt 22 = .ok (.iaload, 1) := by decide +kernel
theorem dX10_widthAt_23 : decode cX10_widthAt 23 = .ok (.isub, 1) := by decide +kernel
theorem dX10_widthAt_24 : decode cX10_widthAt 24 = .ok (.aload_n 0, 1) := by decide +kernel
theorem dX10_widthAt_25 : decode cX10_widthAt 25 = .ok (.iload_n 3, 1) := by decide +kernel
theorem dX10_widthAt_26 : decode cX10_widthAt 26 = .ok (.iconst 1, 1) := by decide +kernel
theorem dX10_widthAt_27 : decode cX10_widthAt 27 = .ok (.iadd, 1) := by decide +kernel
theorem dX10_widthAt_28 : decode cX10_widthAt 28 = .ok (.invokevirtual 97, 3) := by decide +kernel
theorem dX10_widthAt_31 : decode cX10_widthAt 31 = .ok (.idiv, 1) := by decide +kernel
theorem dX10_widthAt_32 : decode cX10_widthAt 32 = .ok (.iconst 2, 1) := by decide +kernel
theorem dX10_widthAt_33 : decode cX10_widthAt 33 = .ok (.iadd, 1) := by decide +kernel
theorem dX10_widthAt_34 : decode cX10_widthAt 34 = .ok (.istore_n 2, 1) := by decide +kernel
theorem dX10_widthAt_35 : decode cX10_widthAt 35 = .ok (.iinc 3 1, 3) := by decide +kernel
theorem dX10_widthAt_38 : decode cX10_widthAt 38 = .ok (.goto (-34), 3) := by decide +kernel
theorem dX10_widthAt_41 : decode cX10_widthAt 41 = .ok (.iload_n 2, 1) := by decide +kernel
theorem dX10_widthAt_42 : decode cX10_widthAt 42 = .ok (.ireturn, 1) := by decide +kernel
theorem dX10_firstOf_0 : decode cX10_firstOf 0 = .ok (.aload_n 0, 1) := by decide +kernel
theorem dX10_firstOf_1 : decode cX10_firstOf 1 = .ok (.getfield 48, 3) := by decide +kernel
theorem dX10_firstOf_4 : decode cX10_firstOf 4 = .ok (.sipush 420, 3) := by decide +kernel
theorem dX10_firstOf_7 : decode cX10_firstOf 7 = .ok (.iload_n 1, 1) := by decide +kernel
theorem dX10_firstOf_8 : decode cX10_firstOf 8 = .ok (.imul, 1) := by decide +kernel
theorem dX10_firstOf_9 : decode cX10_firstOf 9 = .ok (.aload_n 0, 1) := by decide +kernel
theorem dX10_firstOf_10 : decode cX10_firstOf 10 = .ok (.getfield 29, 3) := by decide +kernel
theorem dX10_firstOf_13 : decode cX10_firstOf 13 = .ok (.iload_n 1, 1) := by decide +kernel
theorem dX10_firstOf_14 : decode cX10_firstOf 14 = .ok (.laload, 1) := by decide +kernel
theorem dX10_firstOf_15 : decode cX10_firstOf 15 = .ok (.lload_n 2, 1) := by decide +kernel
theorem dX10_firstOf_16 : decode cX10_firstOf 16 = .ok (.lsub, 1) := by decide +kernel
theorem dX10_firstOf_17 : decode cX10_firstOf 17 = .ok (.l2i, 1) := by decide +kernel
theorem dX10_firstOf_18 : decode cX10_firstOf 18 = .ok (.iadd, 1) := by decide +kernel
theorem dX10_firstOf_19 : decode cX10_firstOf 19 = .ok (.iaload, 1) := by decide +kernel
theorem dX10_firstOf_20 : decode cX10_firstOf 20 = .ok (.istore 4, 2) := by decide +kernel
theorem dX10_firstOf_22 : decode cX10_firstOf 22 = .ok (.aload_n 0, 1) := by decide +kernel
theorem dX10_firstOf_23 : decode cX10_firstOf 23 = .ok (.getfield 39, 3) := by decide +kernel
theorem dX10_firstOf_26 : decode cX10_firstOf 26 = .ok (.iload_n 1, 1) := by decide +kernel
theorem dX10_firstOf_27 : decode cX10_firstOf 27 = .ok (.iaload, 1) := by decide +kernel
theorem dX10_firstOf_28 : decode cX10_firstOf 28 = .ok (.istore 5, 2) := by decide +kernel
theorem dX10_firstOf_30 : decode cX10_firstOf 30 = .ok (.iload 5, 2) := by decide +kernel
theorem dX10_firstOf_32 : decode cX10_firstOf 32 = .ok (.aload_n 0, 1) := by decide +kernel
theorem dX10_firstOf_33 : decode cX10_firstOf 33 = .ok (.getfield 42, 3) := by decide +kernel
theorem dX10_firstOf_36 : decode cX10_firstOf 36 = .ok (.iload_n 1, 1) := by decide +kernel
theorem dX10_firstOf_37 : decode cX10_firstOf 37 = .ok (.iaload, 1) := by decide +kernel
theorem dX10_firstOf_38 : decode cX10_firstOf 38 = .ok (.if_icmp .gt 94, 3) := by decide +kernel
theorem dX10_firstOf_41 : decode cX10_firstOf 41 = .ok (.lload_n 2, 1) := by decide +kernel
theorem dX10_firstOf_42 : decode cX10_firstOf 42 = .ok (.iload 5, 2) := by decide +kernel
theorem dX10_firstOf_44 : decode cX10_firstOf 44 = .ok (.i2l, 1) := by decide +kernel
theorem dX10_firstOf_45 : decode cX10_firstOf 45 = .ok (.lsub, 1) := by decide +kernel
theorem dX10_firstOf_46 : decode cX10_firstOf 46 = .ok (.aload_n 0, 1) := by decide +kernel
theorem dX10_firstOf_47 : decode cX10_firstOf 47 = .ok (.iload_n 1, 1) := by decide +kernel
theorem dX10_firstOf_48 : decode cX10_firstOf 48 = .ok (.iconst 1, 1) := by decide +kernel
theorem dX10_firstOf_49 : decode cX10_firstOf 49 = .ok (.iadd, 1) := by decide +kernel
theorem dX10_firstOf_50 : decode cX10_firstOf 50 = .ok (.invokevirtual 97, 3) := by decide +kernel
theorem dX10_firstOf_53 : decode cX10_firstOf 53 = .ok (.i2l, 1) := by decide +kernel
theorem dX10_firstOf_54 : decode cX10_firstOf 54 = .ok (.lrem, 1) := by decide +kernel
theorem dX10_firstOf_55 : decode cX10_firstOf 55 = .ok (.lconst 0, 1) := by decide +kernel
theorem dX10_firstOf_56 : decode cX10_firstOf 56 = .ok (.lcmp, 1) := by decide +kernel
theorem dX10_firstOf_57 : decode cX10_firstOf 57 = .ok (.ifCond .eq 6, 3) := by decide +kernel
theorem dX10_firstOf_60 : decode cX10_firstOf 60 = .ok (.goto 66, 3) := by decide +kernel
theorem dX10_firstOf_63 : decode cX10_firstOf 63 = .ok (.aload_n 0, 1) := by decide +kernel
theorem dX10_firstOf_64 : decode cX10_firstOf 64 = .ok (.getfield 29, 3) := by decide +kernel
theorem dX10_firstOf_67 : decode cX10_firstOf 67 = .ok (.iload_n 1, 1) := by decide +kernel
theorem dX10_firstOf_68 : decode cX10_firstOf 68 = .ok (.iconst 1, 1) := by decide +kernel
theorem dX10_firstOf_69 : decode cX10_firstOf 69 = .ok (.iadd, 1) := by decide +kernel
theorem dX10_firstOf_70 : decode cX10_firstOf 70 = .ok (.laload, 1) := by decide +kernel
theorem dX10_firstOf_71 : decode cX10_firstOf 71 = .ok (.lload_n 2, 1) := by decide +kernel
theorem dX10_firstOf_72 : decode cX10_firstOf 72 = .ok (.iload 5, 2) := by decide +kernel
theorem dX10_firstOf_74 : decode cX10_firstOf 74 = .ok (.i2l, 1) := by decide +kernel
theorem dX10_firstOf_75 : decode cX10_firstOf 75 = .ok (.lsub, 1) := by decide +kernel
theorem dX10_firstOf_76 : decode cX10_firstOf 76 = .ok (.aload_n 0, 1) := by decide +kernel
theorem dX10_firstOf_77 : decode cX10_firstOf 77 = .ok (.iload_n 1, 1) := by decide +kernel
theorem dX10_firstOf_78 : decode cX10_firstOf 78 = .ok (.iconst 1, 1) := by decide +kernel
theorem dX10_firstOf_79 : decode cX10_firstOf 79 = .ok (.iadd, 1) := by decide +kernel
theorem dX10_firstOf_80 : decode cX10_firstOf 80 = .ok (.invokevirtual 97, 3) := by decide +kernel
theorem dX10_firstOf_83 : decode cX10_firstOf 83 = .ok (.i2l, 1) := by decide +kernel
theorem dX10_firstOf_84 : decode cX10_firstOf 84 = .ok (.ldiv, 1) := by decide +kernel
theorem dX10_firstOf_85 : decode cX10_firstOf 85 = .ok (.lsub, 1) := by decide +kernel
theorem dX10_firstOf_86 : decode cX10_firstOf 86 = .ok (.l2i, 1) := by decide +kernel
theorem dX10_firstOf_87 : decode cX10_firstOf 87 = .ok (.istore 6, 2) := by decide +kernel
theorem dX10_firstOf_89 : decode cX10_firstOf 89 = .ok (.iload 5, 2) := by decide +kernel
theorem dX10_firstOf_91 : decode cX10_firstOf 91 = .ok (.ifCond .ge 9, 3) := by decide +kernel
theorem dX10_firstOf_94 : decode cX10_firstOf 94 = .ok (.iload 5, 2) := by decide +kernel
theorem dX10_firstOf_96 : decode cX10_firstOf 96 = .ok (.ineg, 1) := by decide +kernel
theorem dX10_firstOf_97 : decode cX10_firstOf 97 = .ok (.goto 5, 3) := by decide +kernel
theorem dX10_firstOf_100 : decode cX10_firstOf 100 = .ok (.iload 5, 2) := by decide +kernel
theorem dX10_firstOf_102 : decode cX10_firstOf 102 = .ok (.aload_n 0, 1) := by decide +kernel
theorem dX10_firstOf_103 : decode cX10_firstOf 103 = .ok (.getfield 48, 3) := by decide +kernel
theorem dX10_firstOf_106 : decode cX10_firstOf 106 = .ok (.sipush 420, 3) := by decide +kernel
theorem dX10_firstOf_109 : decode cX10_firstOf 109 = .ok (.iload_n 1, 1) := by decide +kernel
theorem dX10_firstOf_110 : decode cX10_firstOf 110 = .ok (.iconst 1, 1) := by decide +kernel
theorem dX10_firstOf_111 : decode cX10_firstOf 111 = .ok (.iadd, 1) := by decide +kernel
theorem dX10_firstOf_112 : decode cX10_firstOf 112 = .ok (.imul, 1) := by decide +kernel
theorem dX10_firstOf_113 : decode cX10_firstOf 113 = .ok (.iload 6, 2) := by decide +kernel
theorem dX10_firstOf_115 : decode cX10_firstOf 115 = .ok (.iadd, 1) := by decide +kernel
theorem dX10_firstOf_116 : decode cX10_firstOf 116 = .ok (.iaload, 1) := by decide +kernel
theorem dX10_firstOf_117 : decode cX10_firstOf 117 = .ok (.iadd, 1) := by decide +kernel
theorem dX10_firstOf_118 : decode cX10_firstOf 118 = .ok (.iload 4, 2) := by decide +kernel
theorem dX10_firstOf_120 : decode cX10_firstOf 120 = .ok (.if_icmp .ne 6, 3) := by decide +kernel
theorem dX10_firstOf_123 : decode cX10_firstOf 123 = .ok (.iload 5, 2) := by decide +kernel
theorem dX10_firstOf_125 : decode cX10_firstOf 125 = .ok (.ireturn, 1) := by decide +kernel
theorem dX10_firstOf_126 : decode cX10_firstOf 126 = .ok (.iinc 5 1, 3) := by decide +kernel
theorem dX10_firstOf_129 : decode cX10_firstOf 129 = .ok (.goto (-99), 3) := by decide +kernel
theorem dX10_firstOf_132 : decode cX10_firstOf 132 = .ok (.iconst 0, 1) := by decide +kernel
theorem dX10_firstOf_133 : decode cX10_firstOf 133 = .ok (.ireturn, 1) := by decide +kernel
theorem dX10_taken_0 : decode cX10_taken 0 = .ok (.aload_n 0, 1) := by decide +kernel
theorem dX10_taken_1 : decode cX10_taken 1 = .ok (.iload_n 1, 1) := by decide +kernel
theorem dX10_taken_2 : decode cX10_taken 2 = .ok (.invokevirtual 90, 3) := by decide +kernel
theorem dX10_taken_5 : decode cX10_taken 5 = .ok (.ifCond .eq 20, 3) := by decide +kernel
theorem dX10_taken_8 : decode cX10_taken 8 = .ok (.iload_n 2, 1) := by decide +kernel
theorem dX10_taken_9 : decode cX10_taken 9 = .ok (.ifCond .lt 16, 3) := by decide +kernel
theorem dX10_taken_12 : decode cX10_taken 12 = .ok (.iload_n 3, 1) := by decide +kernel
theorem dX10_taken_13 : decode cX10_taken 13 = .ok (.iconst (-1), 1) := by decide +kernel
theorem dX10_taken_14 : decode cX10_taken 14 = .ok (.if_icmp .eq 14, 3) := by decide +kernel
theorem dX10_taken_17 : decode cX10_taken 17 = .ok (.aload_n 0, 1) := by decide +kernel
theorem dX10_taken_18 : decode cX10_taken 18 = .ok (.iload_n 3, 1) := by decide +kernel
theorem dX10_taken_19 : decode cX10_taken 19 = .ok (.invokevirtual 94, 3) := by decide +kernel
theorem dX10_taken_22 : decode cX10_taken 22 = .ok (.ifCond .ne 6, 3) := by decide +kernel
theorem dX10_taken_25 : decode cX10_taken 25 = .ok (.bipush (-3), 2) := by decide +kernel
theorem dX10_taken_27 : decode cX10_taken 27 = .ok (.ireturn, 1) := by decide +kernel
theorem dX10_taken_28 : decode cX10_taken 28 = .ok (.iconst 0, 1) := by decide +kernel
theorem dX10_taken_29 : decode cX10_taken 29 = .ok (.istore 4, 2) := by decide +kernel
theorem dX10_taken_31 : decode cX10_taken 31 = .ok (.iload 4, 2) := by decide +kernel
theorem dX10_taken_33 : decode cX10_taken 33 = .ok (.aload_n 0, 1) := by decide +kernel
theorem dX10_taken_34 : decode cX10_taken 34 = .ok (.getfield 13, 3) := by decide +kernel
theorem dX10_taken_37 : decode cX10_taken 37 = .ok (.iconst 0, 1) := by decide +kernel
theorem dX10_taken_38 : decode cX10_taken 38 = .ok (.iaload, 1) := by decide +kernel
theorem dX10_taken_39 : decode cX10_taken 39 = .ok (.if_icmp .ge 31, 3) := by decide +kernel
theorem dX10_taken_42 : decode cX10_taken 42 = .ok (.aload_n 0, 1) := by decide +kernel
theorem dX10_taken_43 : decode cX10_taken 43 = .ok (.getfield 39, 3) := by decide +kernel
theorem dX10_taken_46 : decode cX10_taken 46 = .ok (.iload 4, 2) := by decide +kernel
theorem dX10_taken_48 : decode cX10_taken 48 = .ok (.iconst 0, 1) := by decide +kernel
theorem dX10_taken_49 : decode cX10_taken 49 = .ok (.iastore, 1) := by decide +kernel
theorem dX10_taken_50 : decode cX10_taken 50 = .ok (.aload_n 0, 1) := by decide +kernel
theorem dX10_taken_51 : decode cX10_taken 51 = .ok (.getfield 42, 3) := by decide +kernel
theorem dX10_taken_54 : decode cX10_taken 54 = .ok (.iload 4, 2) := by decide +kernel
theorem dX10_taken_56 : decode cX10_taken 56 = .ok (.aload_n 0, 1) := by decide +kernel
theorem dX10_taken_57 : decode cX10_taken 57 = .ok (.iload_n 1, 1) := by decide +kernel
theorem dX10_taken_58 : decode cX10_taken 58 = .ok (.iload 4, 2) := by decide +kernel
theorem dX10_taken_60 : decode cX10_taken 60 = .ok (.invokevirtual 105, 3) := by decide +kernel
theorem dX10_taken_63 : decode cX10_taken 63 = .ok (.iastore, 1) := by decide +kernel
theorem dX10_taken_64 : decode cX10_taken 64 = .ok (.iinc 4 1, 3) := by decide +kernel
theorem dX10_taken_67 : decode cX10_taken 67 = .ok (.goto (-36), 3) := by decide +kernel
theorem dX10_taken_70 : decode cX10_taken 70 = .ok (.aload_n 0, 1) := by decide +kernel
theorem dX10_taken_71 : decode cX10_taken 71 = .ok (.iload_n 2, 1) := by decide +kernel
theorem dX10_taken_72 : decode cX10_taken 72 = .ok (.i2l, 1) := by decide +kernel
theorem dX10_taken_73 : decode cX10_taken 73 = .ok (.invokevirtual 236, 3) := by decide +kernel
theorem dX10_taken_76 : decode cX10_taken 76 = .ok (.istore 4, 2) := by decide +kernel
theorem dX10_taken_78 : decode cX10_taken 78 = .ok (.iload 4, 2) := by decide +kernel
theorem dX10_taken_80 : decode cX10_taken 80 = .ok (.bipush (-2), 2) := by decide +kernel
theorem dX10_taken_82 : decode cX10_taken 82 = .ok (.if_icmp .eq 8, 3) := by decide +kernel
theorem dX10_taken_85 : decode cX10_taken 85 = .ok (.iload_n 3, 1) := by decide +kernel
theorem dX10_taken_86 : decode cX10_taken 86 = .ok (.iconst (-1), 1) := by decide +kernel
theorem dX10_taken_87 : decode cX10_taken 87 = .ok (.if_icmp .ne 8, 3) := by decide +kernel
theorem dX10_taken_90 : decode cX10_taken 90 = .ok (.iload 4, 2) := by decide +kernel
theorem dX10_taken_92 : decode cX10_taken 92 = .ok (.goto 9, 3) := by decide +kernel
theorem dX10_taken_95 : decode cX10_taken 95 = .ok (.aload_n 0, 1) := by decide +kernel
theorem dX10_taken_96 : decode cX10_taken 96 = .ok (.getfield 45, 3) := by decide +kernel
theorem dX10_taken_99 : decode cX10_taken 99 = .ok (.iload_n 3, 1) := by decide +kernel
theorem dX10_taken_100 : decode cX10_taken 100 = .ok (.iaload, 1) := by decide +kernel
theorem dX10_taken_101 : decode cX10_taken 101 = .ok (.ireturn, 1) := by decide +kernel
theorem dX10_canPay_0 : decode cX10_canPay 0 = .ok (.aload_n 0, 1) := by decide +kernel
theorem dX10_canPay_1 : decode cX10_canPay 1 = .ok (.iload_n 1, 1) := by decide +kernel
theorem dX10_canPay_2 : decode cX10_canPay 2 = .ok (.invokevirtual 90, 3) := by decide +kernel
theorem dX10_canPay_5 : decode cX10_canPay 5 = .ok (.ifCond .eq 25, 3) := by decide +kernel
theorem dX10_canPay_8 : decode cX10_canPay 8 = .ok (.aload_n 0, 1) := by decide +kernel
theorem dX10_canPay_9 : decode cX10_canPay 9 = .ok (.iload_n 2, 1) := by decide +kernel
theorem dX10_canPay_10 : decode cX10_canPay 10 = .ok (.invokevirtual 90, 3) := by decide +kernel
theorem dX10_canPay_13 : decode cX10_canPay 13 = .ok (.ifCond .eq 17, 3) := by decide +kernel
theorem dX10_canPay_16 : decode cX10_canPay 16 = .ok (.iload_n 1, 1) := by decide +kernel
theorem dX10_canPay_17 : decode cX10_canPay 17 = .ok (.iload_n 2, 1) := by decide +kernel
theorem dX10_canPay_18 : decode cX10_canPay 18 = .ok (.if_icmp .eq 12, 3) := by decide +kernel
theorem dX10_canPay_21 : decode cX10_canPay 21 = .ok (.iload_n 3, 1) := by decide +kernel
theorem dX10_canPay_22 : decode cX10_canPay 22 = .ok (.iconst 1, 1) := by decide +kernel
theorem dX10_canPay_23 : decode cX10_canPay 23 = .ok (.if_icmp .lt 7, 3) := by decide +kernel
theorem dX10_canPay_26 : decode cX10_canPay 26 = .ok (.iconst 1, 1) := by decide +kernel
theorem dX10_canPay_27 : decode cX10_canPay 27 = .ok (.goto 4, 3) := by decide +kernel
theorem dX10_canPay_30 : decode cX10_canPay 30 = .ok (.iconst 0, 1) := by decide +kernel
theorem dX10_canPay_31 : decode cX10_canPay 31 = .ok (.ireturn, 1) := by decide +kernel
theorem dX10_lesser_0 : decode cX10_lesser 0 = .ok (.iload_n 0, 1) := by decide +kernel
theorem dX10_lesser_1 : decode cX10_lesser 1 = .ok (.iload_n 1, 1) := by decide +kernel
theorem dX10_lesser_2 : decode cX10_lesser 2 = .ok (.if_icmp .ge 7, 3) := by decide +kernel
theorem dX10_lesser_5 : decode cX10_lesser 5 = .ok (.iload_n 0, 1) := by decide +kernel
theorem dX10_lesser_6 : decode cX10_lesser 6 = .ok (.goto 4, 3) := by decide +kernel
theorem dX10_lesser_9 : decode cX10_lesser 9 = .ok (.iload_n 1, 1) := by decide +kernel
theorem dX10_lesser_10 : decode cX10_lesser 10 = .ok (.ireturn, 1) := by decide +kernel
theorem dX10_payment_0 : decode cX10_payment 0 = .ok (.iconst 0, 1) := by decide +kernel
theorem dX10_payment_1 : decode cX10_payment 1 = .ok (.istore 4, 2) := by decide +kernel
theorem dX10_payment_3 : decode cX10_payment 3 = .ok (.iload 4, 2) := by decide +kernel
theorem dX10_payment_5 : decode cX10_payment 5 = .ok (.aload_n 0, 1) := by decide +kernel
theorem dX10_payment_6 : decode cX10_payment 6 = .ok (.getfield 13, 3) := by decide +kernel
theorem dX10_payment_9 : decode cX10_payment 9 = .ok (.iconst 0, 1) := by decide +kernel
theorem dX10_payment_10 : decode cX10_payment 10 = .ok (.iaload, 1) := by decide +kernel
theorem dX10_payment_11 : decode cX10_payment 11 = .ok (.if_icmp .ge 64, 3) := by decide +kernel
theorem dX10_payment_14 : decode cX10_payment 14 = .ok (.aload_n 0, 1) := by decide +kernel
theorem dX10_payment_15 : decode cX10_payment 15 = .ok (.getfield 39, 3) := by decide +kernel
theorem dX10_payment_18 : decode cX10_payment 18 = .ok (.iload 4, 2) := by decide +kernel
theorem dX10_payment_20 : decode cX10_payment 20 = .ok (.aload_n 0, 1) := by decide +kernel
theorem dX10_payment_21 : decode cX10_payment 21 = .ok (.iload_n 2, 1) := by decide +kernel
theorem dX10_payment_22 : decode cX10_payment 22 = .ok (.iload 4, 2) := by decide +kernel
theorem dX10_payment_24 : decode cX10_payment 24 = .ok (.invokevirtual 105, 3) := by decide +kernel
theorem dX10_payment_27 : decode cX10_payment 27 = .ok (.bipush 99, 2) := by decide +kernel
theorem dX10_payment_29 : decode cX10_payment 29 = .ok (.aload_n 0, 1) := by decide +kernel
theorem dX10_payment_30 : decode cX10_payment 30 = .ok (.iload_n 1, 1) := by decide +kernel
theorem dX10_payment_31 : decode cX10_payment 31 = .ok (.iload 4, 2) := by decide +kernel
theorem dX10_payment_33 : decode cX10_payment 33 = .ok (.invokevirtual 105, 3) := by decide +kernel
theorem dX10_payment_36 : decode cX10_payment 36 = .ok (.isub, 1) := by decide +kernel
theorem dX10_payment_37 : decode cX10_payment 37 = .ok (.invokestatic 240, 3) := by decide +kernel
theorem dX10_payment_40 : decode cX10_payment 40 = .ok (.ineg, 1) := by decide +kernel
theorem dX10_payment_41 : decode cX10_payment 41 = .ok (.iastore, 1) := by decide +kernel
theorem dX10_payment_42 : decode cX10_payment 42 = .ok (.aload_n 0, 1) := by decide +kernel
theorem dX10_payment_43 : decode cX10_payment 43 = .ok (.getfield 42, 3) := by decide +kernel
theorem dX10_payment_46 : decode cX10_payment 46 = .ok (.iload 4, 2) := by decide +kernel
theorem dX10_payment_48 : decode cX10_payment 48 = .ok (.aload_n 0, 1) := by decide +kernel
theorem dX10_payment_49 : decode cX10_payment 49 = .ok (.iload_n 1, 1) := by decide +kernel
theorem dX10_payment_50 : decode cX10_payment 50 = .ok (.iload 4, 2) := by decide +kernel
theorem dX10_payment_52 : decode cX10_payment 52 = .ok (.invokevirtual 105, 3) := by decide +kernel
theorem dX10_payment_55 : decode cX10_payment 55 = .ok (.bipush 99, 2) := by decide +kernel
theorem dX10_payment_57 : decode cX10_payment 57 = .ok (.aload_n 0, 1) := by decide +kernel
theorem dX10_payment_58 : decode cX10_payment 58 = .ok (.iload_n 2, 1) := by decide +kernel
theorem dX10_payment_59 : decode cX10_payment 59 = .ok (.iload 4, 2) := by decide +kernel
theorem dX10_payment_61 : decode cX10_payment 61 = .ok (.invokevirtual 105, 3) := by decide +kernel
theorem dX10_payment_64 : decode cX10_payment 64 = .ok (.isub, 1) := by decide +kernel
theorem dX10_payment_65 : decode cX10_payment 65 = .ok (.invokestatic 240, 3) := by decide +kernel
theorem dX10_payment_68 : decode cX10_payment 68 = .ok (.iastore, 1) := by decide +kernel
theorem dX10_payment_69 : decode cX10_payment 69 = .ok (.iinc 4 1, 3) := by decide +kernel
theorem dX10_payment_72 : decode cX10_payment 72 = .ok (.goto (-69), 3) := by decide +kernel
theorem dX10_payment_75 : decode cX10_payment 75 = .ok (.aload_n 0, 1) := by decide +kernel
theorem dX10_payment_76 : decode cX10_payment 76 = .ok (.iload_n 3, 1) := by decide +kernel
theorem dX10_payment_77 : decode cX10_payment 77 = .ok (.i2l, 1) := by decide +kernel
theorem dX10_payment_78 : decode cX10_payment 78 = .ok (.invokevirtual 236, 3) := by decide +kernel
theorem dX10_payment_81 : decode cX10_payment 81 = .ok (.ireturn, 1) := by decide +kernel
theorem dX10_pays_0 : decode cX10_pays 0 = .ok (.aload_n 0, 1) := by decide +kernel
theorem dX10_pays_1 : decode cX10_pays 1 = .ok (.iload_n 1, 1) := by decide +kernel
theorem dX10_pays_2 : decode cX10_pays 2 = .ok (.iload_n 2, 1) := by decide +kernel
theorem dX10_pays_3 : decode cX10_pays 3 = .ok (.iload_n 3, 1) := by decide +kernel
theorem dX10_pays_4 : decode cX10_pays 4 = .ok (.invokevirtual 205, 3) := by decide +kernel
theorem dX10_pays_7 : decode cX10_pays 7 = .ok (.ifCond .eq 13, 3) := by decide +kernel
theorem dX10_pays_10 : decode cX10_pays 10 = .ok (.aload_n 0, 1) := by decide +kernel
theorem dX10_pays_11 : decode cX10_pays 11 = .ok (.iload_n 1, 1) := by decide +kernel
theorem dX10_pays_12 : decode cX10_pays 12 = .ok (.iload_n 2, 1) := by decide +kernel
theorem dX10_pays_13 : decode cX10_pays 13 = .ok (.iload_n 3, 1) := by decide +kernel
theorem dX10_pays_14 : decode cX10_pays 14 = .ok (.invokevirtual 209, 3) := by decide +kernel
theorem dX10_pays_17 : decode cX10_pays 17 = .ok (.goto 4, 3) := by decide +kernel
theorem dX10_pays_20 : decode cX10_pays 20 = .ok (.iconst (-1), 1) := by decide +kernel
theorem dX10_pays_21 : decode cX10_pays 21 = .ok (.ireturn, 1) := by decide +kernel
theorem dX10_paysOf_0 : decode cX10_paysOf 0 = .ok (.aload_n 0, 1) := by decide +kernel
theorem dX10_paysOf_1 : decode cX10_paysOf 1 = .ok (.iload_n 1, 1) := by decide +kernel
