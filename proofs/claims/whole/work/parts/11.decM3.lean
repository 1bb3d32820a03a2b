theorem dX10_report_109 : decode cX10_report 109 = .ok (.aload_n 0, 1) := by decide +kernel
theorem dX10_report_110 : decode cX10_report 110 = .ok (.iload_n 2, 1) := by decide +kernel
theorem dX10_report_111 : decode cX10_report 111 = .ok (.invokevirtual 306, 3) := by decide +kernel
theorem dX10_report_114 : decode cX10_report 114 = .ok (.ireturn, 1) := by decide +kernel
theorem dX10_plainRows_0 : decode cX10_plainRows 0 = .ok (.iconst 0, 1) := by decide +kernel
theorem dX10_plainRows_1 : decode cX10_plainRows 1 = .ok (.istore_n 1, 1) := by decide +kernel
theorem dX10_plainRows_2 : decode cX10_plainRows 2 = .ok (.iconst 0, 1) := by decide +kernel
theorem dX10_plainRows_3 : decode cX10_plainRows 3 = .ok (.istore_n 2, 1) := by decide +kernel
theorem dX10_plainRows_4 : decode cX10_plainRows 4 = .ok (.iload_n 2, 1) := by decide +kernel
theorem dX10_plainRows_5 : decode cX10_plainRows 5 = .ok (.aload_n 0, 1) := by decide +kernel
theorem dX10_plainRows_6 : decode cX10_plainRows 6 = .ok (.getfield 13, 3) := by decide +kernel
theorem dX10_plainRows_9 : decode cX10_plainRows 9 = .ok (.iconst 1, 1) := by decide +kernel
theorem dX10_plainRows_10 : decode cX10_plainRows 10 = .ok (.iaload, 1) := by decide +kernel
theorem dX10_plainRows_11 : decode cX10_plainRows 11 = .ok (.if_icmp .ge 32, 3) := by decide +kernel
theorem dX10_plainRows_14 : decode cX10_plainRows 14 = .ok (.aload_n 0, 1) := by decide +kernel
theorem dX10_plainRows_15 : decode cX10_plainRows 15 = .ok (.aload_n 0, 1) := by decide +kernel
theorem dX10_plainRows_16 : decode cX10_plainRows 16 = .ok (.iload_n 2, 1) := by decide +kernel
theorem dX10_plainRows_17 : decode cX10_plainRows 17 = .ok (.invokevirtual 121, 3) := by decide +kernel
theorem dX10_plainRows_20 : decode cX10_plainRows 20 = .ok (.invokevirtual 190, 3) := by decide +kernel
theorem dX10_plainRows_23 : decode cX10_plainRows 23 = .ok (.aload_n 0, 1) := by decide +kernel
theorem dX10_plainRows_24 : decode cX10_plainRows 24 = .ok (.iload_n 2, 1) := by decide +kernel
theorem dX10_plainRows_25 : decode cX10_plainRows 25 = .ok (.invokevirtual 193, 3) := by decide +kernel
theorem dX10_plainRows_28 : decode cX10_plainRows 28 = .ok (.ifCond .eq 9, 3) := by decide +kernel
theorem dX10_plainRows_31 : decode cX10_plainRows 31 = .ok (.iload_n 1, 1) := by decide +kernel
theorem dX10_plainRows_32 : decode cX10_plainRows 32 = .ok (.iconst 1, 1) := by decide +kernel
theorem dX10_plainRows_33 : decode cX10_plainRows 33 = .ok (.iload_n 2, 1) := by decide +kernel
theorem dX10_plainRows_34 : decode cX10_plainRows 34 = .ok (.ishl, 1) := by decide +kernel
theorem dX10_plainRows_35 : decode cX10_plainRows 35 = .ok (.ior, 1) := by decide +kernel
theorem dX10_plainRows_36 : decode cX10_plainRows 36 = .ok (.istore_n 1, 1) := by decide +kernel
theorem dX10_plainRows_37 : decode cX10_plainRows 37 = .ok (.iinc 2 1, 3) := by decide +kernel
theorem dX10_plainRows_40 : decode cX10_plainRows 40 = .ok (.goto (-36), 3) := by decide +kernel
theorem dX10_plainRows_43 : decode cX10_plainRows 43 = .ok (.iload_n 1, 1) := by decide +kernel
theorem dX10_plainRows_44 : decode cX10_plainRows 44 = .ok (.ireturn, 1) := by decide +kernel
theorem dX10_greatest_0 : decode cX10_greatest 0 = .ok (.iconst (-1), 1) := by decide +kernel
theorem dX10_greatest_1 : decode cX10_greatest 1 = .ok (.istore_n 1, 1) := by decide +kernel
theorem dX10_greatest_2 : decode cX10_greatest 2 = .ok (.iconst 0, 1) := by decide +kernel
theorem dX10_greatest_3 : decode cX10_greatest 3 = .ok (.istore_n 2, 1) := by decide +kernel
theorem dX10_greatest_4 : decode cX10_greatest 4 = .ok (.iload_n 2, 1) := by decide +kernel
theorem dX10_greatest_5 : decode cX10_greatest 5 = .ok (.aload_n 0, 1) := by decide +kernel
theorem dX10_greatest_6 : decode cX10_greatest 6 = .ok (.getfield 13, 3) := by decide +kernel
theorem dX10_greatest_9 : decode cX10_greatest 9 = .ok (.iconst 1, 1) := by decide +kernel
theorem dX10_greatest_10 : decode cX10_greatest 10 = .ok (.iaload, 1) := by decide +kernel
theorem dX10_greatest_11 : decode cX10_greatest 11 = .ok (.if_icmp .ge 29, 3) := by decide +kernel
theorem dX10_greatest_14 : decode cX10_greatest 14 = .ok (.iload_n 1, 1) := by decide +kernel
theorem dX10_greatest_15 : decode cX10_greatest 15 = .ok (.iconst (-1), 1) := by decide +kernel
theorem dX10_greatest_16 : decode cX10_greatest 16 = .ok (.if_icmp .eq 16, 3) := by decide +kernel
theorem dX10_greatest_19 : decode cX10_greatest 19 = .ok (.aload_n 0, 1) := by decide +kernel
theorem dX10_greatest_20 : decode cX10_greatest 20 = .ok (.iload_n 2, 1) := by decide +kernel
theorem dX10_greatest_21 : decode cX10_greatest 21 = .ok (.invokevirtual 121, 3) := by decide +kernel
theorem dX10_greatest_24 : decode cX10_greatest 24 = .ok (.aload_n 0, 1) := by decide +kernel
theorem dX10_greatest_25 : decode cX10_greatest 25 = .ok (.iload_n 1, 1) := by decide +kernel
theorem dX10_greatest_26 : decode cX10_greatest 26 = .ok (.invokevirtual 121, 3) := by decide +kernel
theorem dX10_greatest_29 : decode cX10_greatest 29 = .ok (.if_icmp .le 5, 3) := by decide +kernel
theorem dX10_greatest_32 : decode cX10_greatest 32 = .ok (.iload_n 2, 1) := by decide +kernel
theorem dX10_greatest_33 : decode cX10_greatest 33 = .ok (.istore_n 1, 1) := by decide +kernel
theorem dX10_greatest_34 : decode cX10_greatest 34 = .ok (.iinc 2 1, 3) := by decide +kernel
theorem dX10_greatest_37 : decode cX10_greatest 37 = .ok (.goto (-33), 3) := by decide +kernel
theorem dX10_greatest_40 : decode cX10_greatest 40 = .ok (.iload_n 1, 1) := by decide +kernel
theorem dX10_greatest_41 : decode cX10_greatest 41 = .ok (.ireturn, 1) := by decide +kernel
theorem dX10_count_0 : decode cX10_count 0 = .ok (.iload_n 1, 1) := by decide +kernel
theorem dX10_count_1 : decode cX10_count 1 = .ok (.tableswitch 98 0 7 #[47, 54, 61, 69, 78, 83, 88, 93], 47) := by decide +kernel
theorem dX10_count_48 : decode cX10_count 48 = .ok (.aload_n 0, 1) := by decide +kernel
theorem dX10_count_49 : decode cX10_count 49 = .ok (.getfield 13, 3) := by decide +kernel
theorem dX10_count_52 : decode cX10_count 52 = .ok (.iconst 0, 1) := by decide +kernel
theorem dX10_count_53 : decode cX10_count 53 = .ok (.iaload, 1) := by decide +kernel
theorem dX10_count_54 : decode cX10_count 54 = .ok (.ireturn, 1) := by decide +kernel
theorem dX10_count_55 : decode cX10_count 55 = .ok (.aload_n 0, 1) := by decide +kernel
theorem dX10_count_56 : decode cX10_count 56 = .ok (.getfield 13, 3) := by decide +kernel
theorem dX10_count_59 : decode cX10_count 59 = .ok (.iconst 1, 1) := by decide +kernel
theorem dX10_count_60 : decode cX10_count 60 = .ok (.iaload, 1) := by decide +kernel
theorem dX10_count_61 : decode cX10_count 61 = .ok (.ireturn, 1) := by decide +kernel
theorem dX10_count_62 : decode cX10_count 62 = .ok (.aload_n 0, 1) := by decide +kernel
theorem dX10_count_63 : decode cX10_count 63 = .ok (.getfield 13, 3) := by decide +kernel
theorem dX10_count_66 : decode cX10_count 66 = .ok (.bipush 56, 2) := by decide +kernel
theorem dX10_count_68 : decode cX10_count 68 = .ok (.iaload, 1) := by decide +kernel
theorem dX10_count_69 : decode cX10_count 69 = .ok (.ireturn, 1) := by decide +kernel
theorem dX10_count_70 : decode cX10_count 70 = .ok (.aload_n 0, 1) := by decide +kernel
theorem dX10_count_71 : decode cX10_count 71 = .ok (.getfield 13, 3) := by decide +kernel
theorem dX10_count_74 : decode cX10_count 74 = .ok (.sipush 177, 3) := by decide +kernel
theorem dX10_count_77 : decode cX10_count 77 = .ok (.iaload, 1) := by decide +kernel
theorem dX10_count_78 : decode cX10_count 78 = .ok (.ireturn, 1) := by decide +kernel
theorem dX10_count_79 : decode cX10_count 79 = .ok (.aload_n 0, 1) := by decide +kernel
theorem dX10_count_80 : decode cX10_count 80 = .ok (.getfield 83, 3) := by decide +kernel
theorem dX10_count_83 : decode cX10_count 83 = .ok (.ireturn, 1) := by decide +kernel
theorem dX10_count_84 : decode cX10_count 84 = .ok (.aload_n 0, 1) := by decide +kernel
theorem dX10_count_85 : decode cX10_count 85 = .ok (.getfield 309, 3) := by decide +kernel
theorem dX10_count_88 : decode cX10_count 88 = .ok (.ireturn, 1) := by decide +kernel
theorem dX10_count_89 : decode cX10_count 89 = .ok (.aload_n 0, 1) := by decide +kernel
theorem dX10_count_90 : decode cX10_count 90 = .ok (.invokevirtual 312, 3) := by decide +kernel
theorem dX10_count_93 : decode cX10_count 93 = .ok (.ireturn, 1) := by decide +kernel
theorem dX10_count_94 : decode cX10_count 94 = .ok (.aload_n 0, 1) := by decide +kernel
theorem dX10_count_95 : decode cX10_count 95 = .ok (.invokevirtual 316, 3) := by decide +kernel
theorem dX10_count_98 : decode cX10_count 98 = .ok (.ireturn, 1) := by decide +kernel
theorem dX10_count_99 : decode cX10_count 99 = .ok (.iconst (-1), 1) := by decide +kernel
theorem dX10_count_100 : decode cX10_count 100 = .ok (.ireturn, 1) := by decide +kernel
theorem dX10_feed_0 : decode cX10_feed 0 = .ok (.aload_n 0, 1) := by decide +kernel
theorem dX10_feed_1 : decode cX10_feed 1 = .ok (.getfield 309, 3) := by decide +kernel
theorem dX10_feed_4 : decode cX10_feed 4 = .ok (.bipush 20, 2) := by decide +kernel
theorem dX10_feed_6 : decode cX10_feed 6 = .ok (.iadd, 1) := by decide +kernel
theorem dX10_feed_7 : decode cX10_feed 7 = .ok (.sipush 400, 3) := by decide +kernel
theorem dX10_feed_10 : decode cX10_feed 10 = .ok (.if_icmp .le 5, 3) := by decide +kernel
theorem dX10_feed_13 : decode cX10_feed 13 = .ok (.iconst (-1), 1) := by decide +kernel
theorem dX10_feed_14 : decode cX10_feed 14 = .ok (.ireturn, 1) := by decide +kernel
theorem dX10_feed_15 : decode cX10_feed 15 = .ok (.iconst 0, 1) := by decide +kernel
theorem dX10_feed_16 : decode cX10_feed 16 = .ok (.istore 6, 2) := by decide +kernel
theorem dX10_feed_18 : decode cX10_feed 18 = .ok (.iload 6, 2) := by decide +kernel
theorem dX10_feed_20 : decode cX10_feed 20 = .ok (.bipush 20, 2) := by decide +kernel
theorem dX10_feed_22 : decode cX10_feed 22 = .ok (.if_icmp .ge 93, 3) := by decide +kernel
theorem dX10_feed_25 : decode cX10_feed 25 = .ok (.iload 6, 2) := by decide +kernel
theorem dX10_feed_27 : decode cX10_feed 27 = .ok (.iconst 4, 1) := by decide +kernel
theorem dX10_feed_28 : decode cX10_feed 28 = .ok (.if_icmp .ge 7, 3) := by decide +kernel
theorem dX10_feed_31 : decode cX10_feed 31 = .ok (.iload_n 1, 1) := by decide +kernel
theorem dX10_feed_32 : decode cX10_feed 32 = .ok (.goto 39, 3) := by decide +kernel
theorem dX10_feed_35 : decode cX10_feed 35 = .ok (.iload 6, 2) := by decide +kernel
theorem dX10_feed_37 : decode cX10_feed 37 = .ok (.bipush 8, 2) := by decide +kernel
theorem dX10_feed_39 : decode cX10_feed 39 = .ok (.if_icmp .ge 7, 3) := by decide +kernel
theorem dX10_feed_42 : decode cX10_feed 42 = .ok (.iload_n 2, 1) := by decide +kernel
theorem dX10_feed_43 : decode cX10_feed 43 = .ok (.goto 28, 3) := by decide +kernel
theorem dX10_feed_46 : decode cX10_feed 46 = .ok (.iload 6, 2) := by decide +kernel
theorem dX10_feed_48 : decode cX10_feed 48 = .ok (.bipush 12, 2) := by decide +kernel
theorem dX10_feed_50 : decode cX10_feed 50 = .ok (.if_icmp .ge 7, 3) := by decide +kernel
theorem dX10_feed_53 : decode cX10_feed 53 = .ok (.iload_n 3, 1) := by decide +kernel
theorem dX10_feed_54 : decode cX10_feed 54 = .ok (.goto 17, 3) := by decide +kernel
theorem dX10_feed_57 : decode cX10_feed 57 = .ok (.iload 6, 2) := by decide +kernel
theorem dX10_feed_59 : decode cX10_feed 59 = .ok (.bipush 16, 2) := by decide +kernel
theorem dX10_feed_61 : decode cX10_feed 61 = .ok (.if_icmp .ge 8, 3) := by decide +kernel
theorem dX10_feed_64 : decode cX10_feed 64 = .ok (.iload 4, 2) := by decide +kernel
theorem dX10_feed_66 : decode cX10_feed 66 = .ok (.goto 5, 3) := by decide +kernel
theorem dX10_feed_69 : decode cX10_feed 69 = .ok (.iload 5, 2) := by decide +kernel
theorem dX10_feed_71 : decode cX10_feed 71 = .ok (.istore 7, 2) := by decide +kernel
theorem dX10_feed_73 : decode cX10_feed 73 = .ok (.aload_n 0, 1) := by decide +kernel
theorem dX10_feed_74 : decode cX10_feed 74 = .ok (.getfield 76, 3) := by decide +kernel
theorem dX10_feed_77 : decode cX10_feed 77 = .ok (.aload_n 0, 1) := by decide +kernel
theorem dX10_feed_78 : decode cX10_feed 78 = .ok (.getfield 309, 3) := by decide +kernel
theorem dX10_feed_81 : decode cX10_feed 81 = .ok (.iload 7, 2) := by decide +kernel
theorem dX10_feed_83 : decode cX10_feed 83 = .ok (.bipush 24, 2) := by decide +kernel
theorem dX10_feed_85 : decode cX10_feed 85 = .ok (.bipush 8, 2) := by decide +kernel
theorem dX10_feed_87 : decode cX10_feed 87 = .ok (.iload 6, 2) := by decide +kernel
theorem dX10_feed_89 : decode cX10_feed 89 = .ok (.iconst 4, 1) := by decide +kernel
theorem dX10_feed_90 : decode cX10_feed 90 = .ok (.irem, 1) := by decide +kernel
theorem dX10_feed_91 : decode cX10_feed 91 = .ok (.imul, 1) := by decide +kernel
theorem dX10_feed_92 : decode cX10_feed 92 = .ok (.isub, 1) := by decide +kernel
theorem dX10_feed_93 : decode cX10_feed 93 = .ok (.ishr, 1) := by decide +kernel
theorem dX10_feed_94 : decode cX10_feed 94 = .ok (.sipush 255, 3) := by decide +kernel
theorem dX10_feed_97 : decode cX10_feed 97 = .ok (.iand, 1) := by decide +kernel
theorem dX10_feed_98 : decode cX10_feed 98 = .ok (.iastore, 1) := by decide +kernel
theorem dX10_feed_99 : decode cX10_feed 99 = .ok (.aload_n 0, 1) := by decide +kernel
theorem dX10_feed_100 : decode cX10_feed 100 = .ok (.dup, 1) := by decide +kernel
theorem dX10_feed_101 : decode cX10_feed 101 = .ok (.getfield 309, 3) := by decide +kernel
theorem dX10_feed_104 : decode cX10_feed 104 = .ok (.iconst 1, 1) := by decide +kernel
theorem dX10_feed_105 : decode cX10_feed 105 = .ok (.iadd, 1) := by decide +kernel
theorem dX10_feed_106 : decode cX10_feed 106 = .ok (.putfield 309, 3) := by decide +kernel
theorem dX10_feed_109 : decode cX10_feed 109 = .ok (.iinc 6 1, 3) := by decide +kernel
theorem dX10_feed_112 : decode cX10_feed 112 = .ok (.goto (-94), 3) := by decide +kernel
theorem dX10_feed_115 : decode cX10_feed 115 = .ok (.aload_n 0, 1) := by decide +kernel
theorem dX10_feed_116 : decode cX10_feed 116 = .ok (.getfield 309, 3) := by decide +kernel
theorem dX10_feed_119 : decode cX10_feed 119 = .ok (.ireturn, 1) := by decide +kernel
theorem dX10_back_0 : decode cX10_back 0 = .ok (.iload_n 1, 1) := by decide +kernel
theorem dX10_back_1 : decode cX10_back 1 = .ok (.i2l, 1) := by decide +kernel
theorem dX10_back_2 : decode cX10_back 2 = .ok (.lconst 0, 1) := by decide +kernel
theorem dX10_back_3 : decode cX10_back 3 = .ok (.aload_n 0, 1) := by decide +kernel
theorem dX10_back_4 : decode cX10_back 4 = .ok (.getfield 309, 3) := by decide +kernel
theorem dX10_back_7 : decode cX10_back 7 = .ok (.i2l, 1) := by decide +kernel
theorem dX10_back_8 : decode cX10_back 8 = .ok (.invokestatic 86, 3) := by decide +kernel
theorem dX10_back_11 : decode cX10_back 11 = .ok (.ifCond .ne 5, 3) := by decide +kernel
theorem dX10_back_14 : decode cX10_back 14 = .ok (.iconst (-1), 1) := by decide +kernel
theorem dX10_back_15 : decode cX10_back 15 = .ok (.ireturn, 1) := by decide +kernel
theorem dX10_back_16 : decode cX10_back 16 = .ok (.aload_n 0, 1) := by decide +kernel
theorem dX10_back_17 : decode cX10_back 17 = .ok (.dup, 1) := by decide +kernel
theorem dX10_back_18 : decode cX10_back 18 = .ok (.getfield 309, 3) := by decide +kernel
theorem dX10_back_21 : decode cX10_back 21 = .ok (.iload_n 1, 1) := by decide +kernel
theorem dX10_back_22 : decode cX10_back 22 = .ok (.isub, 1) := by decide +kernel
theorem dX10_back_23 : decode cX10_back 23 = .ok (.putfield 309, 3) := by decide +kernel
theorem dX10_back_26 : decode cX10_back 26 = .ok (.aload_n 0, 1) := by decide +kernel
theorem dX10_back_27 : decode cX10_back 27 = .ok (.getfield 309, 3) := by decide +kernel
theorem dX10_back_30 : decode cX10_back 30 = .ok (.ireturn, 1) := by decide +kernel
theorem dX10_wordFrom_0 : decode cX10_wordFrom 0 = .ok (.iconst 0, 1) := by decide +kernel
theorem dX10_wordFrom_1 : decode cX10_wordFrom 1 = .ok (.istore_n 2, 1) := by decide +kernel
theorem dX10_wordFrom_2 : decode cX10_wordFrom 2 = .ok (.iload_n 1, 1) := by decide +kernel
theorem dX10_wordFrom_3 : decode cX10_wordFrom 3 = .ok (.istore_n 3, 1) := by decide +kernel
theorem dX10_wordFrom_4 : decode cX10_wordFrom 4 = .ok (.iload_n 3, 1) := by decide +kernel
theorem dX10_wordFrom_5 : decode cX10_wordFrom 5 = .ok (.ifCond .le 21, 3) := by decide +kernel
theorem dX10_wordFrom_8 : decode cX10_wordFrom 8 = .ok (.aload_n 0, 1) := by decide +kernel
theorem dX10_wordFrom_9 : decode cX10_wordFrom 9 = .ok (.getfield 79, 3) := by decide +kernel
theorem dX10_wordFrom_12 : decode cX10_wordFrom 12 = .ok (.iload_n 2, 1) := by decide +kernel
theorem dX10_wordFrom_13 : decode cX10_wordFrom 13 = .ok (.baload, 1) := by decide +kernel
theorem dX10_wordFrom_14 : decode cX10_wordFrom 14 = .ok (.ifCond .ne 6, 3) := by decide +kernel
theorem dX10_wordFrom_17 : decode cX10_wordFrom 17 = .ok (.iinc 3 (-1), 3) := by decide +kernel
theorem dX10_wordFrom_20 : decode cX10_wordFrom 20 = .ok (.iinc 2 1, 3) := by decide +kernel
theorem dX10_wordFrom_23 : decode cX10_wordFrom 23 = .ok (.goto (-19), 3) := by decide +kernel
theorem dX10_wordFrom_26 : decode cX10_wordFrom 26 = .ok (.iload_n 2, 1) := by decide +kernel
theorem dX10_wordFrom_27 : decode cX10_wordFrom 27 = .ok (.ireturn, 1) := by decide +kernel
theorem dX10_here_0 : decode cX10_here 0 = .ok (.aload_n 0, 1) := by decide +kernel
theorem dX10_here_1 : decode cX10_here 1 = .ok (.getfield 319, 3) := by decide +kernel
theorem dX10_here_4 : decode cX10_here 4 = .ok (.aload_n 0, 1) := by decide +kernel
theorem dX10_here_5 : decode cX10_here 5 = .ok (.getfield 309, 3) := by decide +kernel
theorem dX10_here_8 : decode cX10_here 8 = .ok (.if_icmp .ge 15, 3) := by decide +kernel
theorem dX10_here_11 : decode cX10_here 11 = .ok (.aload_n 0, 1) := by decide +kernel
theorem dX10_here_12 : decode cX10_here 12 = .ok (.getfield 76, 3) := by decide +kernel
theorem dX10_here_15 : decode cX10_here 15 = .ok (.aload_n 0, 1) := by decide +kernel
theorem dX10_here_16 : decode cX10_here 16 = .ok (.getfield 319, 3) := by decide +kernel
theorem dX10_here_19 : decode cX10_here 19 = .ok (.iaload, 1) := by decide +kernel
theorem dX10_here_20 : decode cX10_here 20 = .ok (.goto 4, 3) := by decide +kernel
theorem dX10_here_23 : decode cX10_here 23 = .ok (.iconst (-1), 1) := by decide +kernel
theorem dX10_here_24 : decode cX10_here 24 = .ok (.ireturn, 1) := by decide +kernel
theorem dX10_goesOn_0 : decode cX10_goesOn 0 = .ok (.aload_n 0, 1) := by decide +kernel
theorem dX10_goesOn_1 : decode cX10_goesOn 1 = .ok (.getfield 322, 3) := by decide +kernel
theorem dX10_goesOn_4 : decode cX10_goesOn 4 = .ok (.istore_n 1, 1) := by decide +kernel
theorem dX10_goesOn_5 : decode cX10_goesOn 5 = .ok (.aload_n 0, 1) := by decide +kernel
theorem dX10_goesOn_6 : decode cX10_goesOn 6 = .ok (.getfield 319, 3) := by decide +kernel
theorem dX10_goesOn_9 : decode cX10_goesOn 9 = .ok (.istore_n 2, 1) := by decide +kernel
theorem dX10_goesOn_10 : decode cX10_goesOn 10 = .ok (.aload_n 0, 1) := by decide +kernel
theorem dX10_goesOn_11 : decode cX10_goesOn 11 = .ok (.invokevirtual 325, 3) := by decide +kernel
theorem dX10_goesOn_14 : decode cX10_goesOn 14 = .ok (.bipush 32, 2) := by decide +kernel
theorem dX10_goesOn_16 : decode cX10_goesOn 16 = .ok (.if_icmp .eq 12, 3) := by decide +kernel
theorem dX10_goesOn_19 : decode cX10_goesOn 19 = .ok (.aload_n 0, 1) := by decide +kernel
theorem dX10_goesOn_20 : decode cX10_goesOn 20 = .ok (.invokevirtual 325, 3) := by decide +kernel
theorem dX10_goesOn_23 : decode cX10_goesOn 23 = .ok (.bipush 10, 2) := by decide +kernel
theorem dX10_goesOn_25 : decode cX10_goesOn 25 = .ok (.if_icmp .ne 16, 3) := by decide +kernel
theorem dX10_goesOn_28 : decode cX10_goesOn 28 = .ok (.aload_n 0, 1) := by decide +kernel
theorem dX10_goesOn_29 : decode cX10_goesOn 29 = .ok (.dup, 1) := by decide +kernel
theorem dX10_goesOn_30 : decode cX10_goesOn 30 = .ok (.getfield 319, 3) := by decide +kernel
theorem dX10_goesOn_33 : decode cX10_goesOn 33 = .ok (.iconst 1, 1) := by decide +kernel
theorem dX10_goesOn_34 : decode cX10_goesOn 34 = .ok (.iadd, 1) := by decide +kernel
theorem dX10_goesOn_35 : decode cX10_goesOn 35 = .ok (.putfield 319, 3) := by decide +kernel
theorem dX10_goesOn_38 : decode cX10_goesOn 38 = .ok (.goto (-28), 3) := by decide +kernel
theorem dX10_goesOn_41 : decode cX10_goesOn 41 = .ok (.aload_n 0, 1) := by decide +kernel
theorem dX10_goesOn_42 : decode cX10_goesOn 42 = .ok (.aload_n 0, 1) := by decide +kernel
theorem dX10_goesOn_43 : decode cX10_goesOn 43 = .ok (.getfield 319, 3) := by decide +kernel
theorem dX10_goesOn_46 : decode cX10_goesOn 46 = .ok (.putfield 328, 3) := by decide +kernel
theorem dX10_goesOn_49 : decode cX10_goesOn 49 = .ok (.aload_n 0, 1) := by decide +kernel
theorem dX10_goesOn_50 : decode cX10_goesOn 50 = .ok (.getfield 328, 3) := by decide +kernel
theorem dX10_goesOn_53 : decode cX10_goesOn 53 = .ok (.iload_n 2, 1) := by decide +kernel
theorem dX10_goesOn_54 : decode cX10_goesOn 54 = .ok (.if_icmp .ne 17, 3) := by decide +kernel
theorem dX10_goesOn_57 : decode cX10_goesOn 57 = .ok (.iload_n 1, 1) := by decide +kernel
theorem dX10_goesOn_58 : decode cX10_goesOn 58 = .ok (.iconst 1, 1) := by decide +kernel
theorem dX10_goesOn_59 : decode cX10_goesOn 59 = .ok (.if_icmp .eq 8, 3) := by decide +kernel
theorem dX10_goesOn_62 : decode cX10_goesOn 62 = .ok (.iload_n 1, 1) := by decide +kernel
theorem dX10_goesOn_63 : decode cX10_goesOn 63 = .ok (.iconst 2, 1) := by decide +kernel
theorem dX10_goesOn_64 : decode cX10_goesOn 64 = .ok (.if_icmp .ne 7, 3) := by decide +kernel
theorem dX10_goesOn_67 : decode cX10_goesOn 67 = .ok (.iconst 1, 1) := by decide +kernel
theorem dX10_goesOn_68 : decode cX10_goesOn 68 = .ok (.goto 4, 3) := by decide +kernel
theorem dX10_goesOn_71 : decode cX10_goesOn 71 = .ok (.iconst 0, 1) := by decide +kernel
theorem dX10_goesOn_72 : decode cX10_goesOn 72 = .ok (.istore_n 3, 1) := by decide +kernel
theorem dX10_goesOn_73 : decode cX10_goesOn 73 = .ok (.aload_n 0, 1) := by decide +kernel
theorem dX10_goesOn_74 : decode cX10_goesOn 74 = .ok (.invokevirtual 325, 3) := by decide +kernel
theorem dX10_goesOn_77 : decode cX10_goesOn 77 = .ok (.istore 4, 2) := by decide +kernel
theorem dX10_goesOn_79 : decode cX10_goesOn 79 = .ok (.iload 4, 2) := by decide +kernel
theorem dX10_goesOn_81 : decode cX10_goesOn 81 = .ok (.iconst (-1), 1) := by decide +kernel
theorem dX10_goesOn_82 : decode cX10_goesOn 82 = .ok (.if_icmp .ne 11, 3) := by decide +kernel
theorem dX10_goesOn_85 : decode cX10_goesOn 85 = .ok (.aload_n 0, 1) := by decide +kernel
theorem dX10_goesOn_86 : decode cX10_goesOn 86 = .ok (.iconst 0, 1) := by decide +kernel
theorem dX10_goesOn_87 : decode cX10_goesOn 87 = .ok (.putfield 322, 3) := by decide +kernel
theorem dX10_goesOn_90 : decode cX10_goesOn 90 = .ok (.goto 201, 3) := by decide +kernel
theorem dX10_goesOn_93 : decode cX10_goesOn 93 = .ok (.iload 4, 2) := by decide +kernel
theorem dX10_goesOn_95 : decode cX10_goesOn 95 = .ok (.i2l, 1) := by decide +kernel
theorem dX10_goesOn_96 : decode cX10_goesOn 96 = .ok (.ldc2_w 331, 3) := by decide +kernel
theorem dX10_goesOn_99 : decode cX10_goesOn 99 = .ok (.ldc2_w 333, 3) := by decide +kernel
theorem dX10_goesOn_102 : decode cX10_goesOn 102 = .ok (.invokestatic 86, 3) := by decide +kernel
theorem dX10_goesOn_105 : decode cX10_goesOn 105 = .ok (.ifCond .eq 49, 3) := by decide +kernel
theorem dX10_goesOn_108 : decode cX10_goesOn 108 = .ok (.aload_n 0, 1) := by decide +kernel
theorem dX10_goesOn_109 : decode cX10_goesOn 109 = .ok (.invokevirtual 325, 3) := by decide +kernel
theorem dX10_goesOn_112 : decode cX10_goesOn 112 = .ok (.i2l, 1) := by decide +kernel
theorem dX10_goesOn_113 : decode cX10_goesOn 113 = .ok (.ldc2_w 331, 3) := by decide +kernel
theorem dX10_goesOn_116 : decode cX10_goesOn 116 = .ok (.ldc2_w 333, 3) := by decide +kernel
theorem dX10_goesOn_119 : decode cX10_goesOn 119 = .ok (.invokestatic 86, 3) := by decide +kernel
theorem dX10_goesOn_122 : decode cX10_goesOn 122 = .ok (.ifCond .eq 16, 3) := by decide +kernel
theorem dX10_goesOn_125 : decode cX10_goesOn 125 = .ok (.aload_n 0, 1) := by decide +kernel
theorem dX10_goesOn_126 : decode cX10_goesOn 126 = .ok (.dup, 1) := by decide +kernel
theorem dX10_goesOn_127 : decode cX10_goesOn 127 = .ok (.getfield 319, 3) := by decide +kernel
theorem dX10_goesOn_130 : decode cX10_goesOn 130 = .ok (.iconst 1, 1) := by decide +kernel
theorem dX10_goesOn_131 : decode cX10_goesOn 131 = .ok (.iadd, 1) := by decide +kernel
theorem dX10_goesOn_132 : decode cX10_goesOn 132 = .ok (.putfield 319, 3) := by decide +kernel
theorem dX10_goesOn_135 : decode cX10_goesOn 135 = .ok (.goto (-27), 3) := by decide +kernel
theorem dX10_goesOn_138 : decode cX10_goesOn 138 = .ok (.aload_n 0, 1) := by decide +kernel
theorem dX10_goesOn_139 : decode cX10_goesOn 139 = .ok (.iload_n 3, 1) := by decide +kernel
theorem dX10_goesOn_140 : decode cX10_goesOn 140 = .ok (.ifCond .eq 7, 3) := by decide +kernel
theorem dX10_goesOn_143 : decode cX10_goesOn 143 = .ok (.iconst 4, 1) := by decide +kernel
theorem dX10_goesOn_144 : decode cX10_goesOn 144 = .ok (.goto 4, 3) := by decide +kernel
theorem dX10_goesOn_147 : decode cX10_goesOn 147 = .ok (.iconst 1, 1) := by decide +kernel
theorem dX10_goesOn_148 : decode cX10_goesOn 148 = .ok (.putfield 322, 3) := by decide +kernel
theorem dX10_goesOn_151 : decode cX10_goesOn 151 = .ok (.goto 140, 3) := by decide +kernel
theorem dX10_goesOn_154 : decode cX10_goesOn 154 = .ok (.iload 4, 2) := by decide +kernel
theorem dX10_goesOn_156 : decode cX10_goesOn 156 = .ok (.i2l, 1) := by decide +kernel
theorem dX10_goesOn_157 : decode cX10_goesOn 157 = .ok (.ldc2_w 335, 3) := by decide +kernel
theorem dX10_goesOn_160 : decode cX10_goesOn 160 = .ok (.ldc2_w 337, 3) := by decide +kernel
theorem dX10_goesOn_163 : decode cX10_goesOn 163 = .ok (.invokestatic 86, 3) := by decide +kernel
theorem dX10_goesOn_166 : decode cX10_goesOn 166 = .ok (.ifCond .eq 99, 3) := by decide +kernel
theorem dX10_goesOn_169 : decode cX10_goesOn 169 = .ok (.aload_n 0, 1) := by decide +kernel
theorem dX10_goesOn_170 : decode cX10_goesOn 170 = .ok (.iconst 0, 1) := by decide +kernel
theorem dX10_goesOn_171 : decode cX10_goesOn 171 = .ok (.putfield 339, 3) := by decide +kernel
theorem dX10_goesOn_174 : decode cX10_goesOn 174 = .ok (.aload_n 0, 1) := by decide +kernel
theorem dX10_goesOn_175 : decode cX10_goesOn 175 = .ok (.invokevirtual 325, 3) := by decide +kernel
theorem dX10_goesOn_178 : decode cX10_goesOn 178 = .ok (.i2l, 1) := by decide +kernel
theorem dX10_goesOn_179 : decode cX10_goesOn 179 = .ok (.ldc2_w 335, 3) := by decide +kernel
theorem dX10_goesOn_182 : decode cX10_goesOn 182 = .ok (.ldc2_w 337, 3) := by decide +kernel
theorem dX10_goesOn_185 : decode cX10_goesOn 185 = .ok (.invokestatic 86, 3) := by decide +kernel
theorem dX10_goesOn_188 : decode cX10_goesOn 188 = .ok (.ifCond .eq 48, 3) := by decide +kernel
theorem dX10_goesOn_191 : decode cX10_goesOn 191 = .ok (.aload_n 0, 1) := by decide +kernel
theorem dX10_goesOn_192 : decode cX10_goesOn 192 = .ok (.getfield 319, 3) := by decide +kernel
theorem dX10_goesOn_195 : decode cX10_goesOn 195 = .ok (.aload_n 0, 1) := by decide +kernel
theorem dX10_goesOn_196 : decode cX10_goesOn 196 = .ok (.getfield 328, 3) := by decide +kernel
theorem dX10_goesOn_199 : decode cX10_goesOn 199 = .ok (.isub, 1) := by decide +kernel
theorem dX10_goesOn_200 : decode cX10_goesOn 200 = .ok (.iconst 2, 1) := by decide +kernel
theorem dX10_goesOn_201 : decode cX10_goesOn 201 = .ok (.if_icmp .ge 22, 3) := by decide +kernel
theorem dX10_goesOn_204 : decode cX10_goesOn 204 = .ok (.aload_n 0, 1) := by decide +kernel
theorem dX10_goesOn_205 : decode cX10_goesOn 205 = .ok (.bipush 10, 2) := by decide +kernel
theorem dX10_goesOn_207 : decode cX10_goesOn 207 = .ok (.aload_n 0, 1) := by decide +kernel
theorem dX10_goesOn_208 : decode cX10_goesOn 208 = .ok (.getfield 339, 3) := by decide +kernel
theorem dX10_goesOn_211 : decode cX10_goesOn 211 = .ok (.imul, 1) := by decide +kernel
theorem dX10_goesOn_212 : decode cX10_goesOn 212 = .ok (.aload_n 0, 1) := by decide +kernel
theorem dX10_goesOn_213 : decode cX10_goesOn 213 = .ok (.invokevirtual 325, 3) := by decide +kernel
theorem dX10_goesOn_216 : decode cX10_goesOn 216 = .ok (.iadd, 1) := by decide +kernel
theorem dX10_goesOn_217 : decode cX10_goesOn 217 = .ok (.bipush 48, 2) := by decide +kernel
theorem dX10_goesOn_219 : decode cX10_goesOn 219 = .ok (.isub, 1) := by decide +kernel
theorem dX10_goesOn_220 : decode cX10_goesOn 220 = .ok (.putfield 339, 3) := by decide +kernel
theorem dX10_goesOn_223 : decode cX10_goesOn 223 = .ok (.aload_n 0, 1) := by decide +kernel
theorem dX10_goesOn_224 : decode cX10_goesOn 224 = .ok (.dup, 1) := by decide +kernel
theorem dX10_goesOn_225 : decode cX10_goesOn 225 = .ok (.getfield 319, 3) := by decide +kernel
theorem dX10_goesOn_228 : decode cX10_goesOn 228 = .ok (.iconst 1, 1) := by decide +kernel
theorem dX10_goesOn_229 : decode cX10_goesOn 229 = .ok (.iadd, 1) := by decide +kernel
theorem dX10_goesOn_230 : decode cX10_goesOn 230 = .ok (.putfield 319, 3) := by decide +kernel
theorem dX10_goesOn_233 : decode cX10_goesOn 233 = .ok (.goto (-59), 3) := by decide +kernel
theorem dX10_goesOn_236 : decode cX10_goesOn 236 = .ok (.aload_n 0, 1) := by decide +kernel
theorem dX10_goesOn_237 : decode cX10_goesOn 237 = .ok (.iload_n 3, 1) := by decide +kernel
theorem dX10_goesOn_238 : decode cX10_goesOn 238 = .ok (.ifCond .ne 16, 3) := by decide +kernel
theorem dX10_goesOn_241 : decode cX10_goesOn 241 = .ok (.aload_n 0, 1) := by decide +kernel
theorem dX10_goesOn_242 : decode cX10_goesOn 242 = .ok (.getfield 319, 3) := by decide +kernel
theorem dX10_goesOn_245 : decode cX10_goesOn 245 = .ok (.aload_n 0, 1) := by decide +kernel
theorem dX10_goesOn_246 : decode cX10_goesOn 246 = .ok (.getfield 328, 3) := by decide +kernel
theorem dX10_goesOn_249 : decode cX10_goesOn 249 = .ok (.isub, 1) := by decide +kernel
theorem dX10_goesOn_250 : decode cX10_goesOn 250 = .ok (.iconst 2, 1) := by decide +kernel
theorem dX10_goesOn_251 : decode cX10_goesOn 251 = .ok (.if_icmp .le 7, 3) := by decide +kernel
theorem dX10_goesOn_254 : decode cX10_goesOn 254 = .ok (.iconst 4, 1) := by decide +kernel
theorem dX10_goesOn_255 : decode cX10_goesOn 255 = .ok (.goto 4, 3) := by decide +kernel
theorem dX10_goesOn_258 : decode cX10_goesOn 258 = .ok (.iconst 2, 1) := by decide +kernel
theorem dX10_goesOn_259 : decode cX10_goesOn 259 = .ok (.putfield 322, 3) := by decide +kernel
theorem dX10_goesOn_262 : decode cX10_goesOn 262 = .ok (.goto 29, 3) := by decide +kernel
theorem dX10_goesOn_265 : decode cX10_goesOn 265 = .ok (.aload_n 0, 1) := by decide +kernel
theorem dX10_goesOn_266 : decode cX10_goesOn 266 = .ok (.dup, 1) := by decide +kernel
theorem dX10_goesOn_267 : decode cX10_goesOn 267 = .ok (.getfield 319, 3) := by decide +kernel
theorem dX10_goesOn_270 : decode cX10_goesOn 270 = .ok (.iconst 1, 1) := by decide +kernel
theorem dX10_goesOn_271 : decode cX10_goesOn 271 = .ok (.iadd, 1) := by decide +kernel
theorem dX10_goesOn_272 : decode cX10_goesOn 272 = .ok (.putfield 319, 3) := by decide +kernel
theorem dX10_goesOn_275 : decode cX10_goesOn 275 = .ok (.aload_n 0, 1) := by decide +kernel
theorem dX10_goesOn_276 : decode cX10_goesOn 276 = .ok (.iload 4, 2) := by decide +kernel
theorem dX10_goesOn_278 : decode cX10_goesOn 278 = .ok (.bipush 59, 2) := by decide +kernel
theorem dX10_goesOn_280 : decode cX10_goesOn 280 = .ok (.if_icmp .ne 7, 3) := by decide +kernel
theorem dX10_goesOn_283 : decode cX10_goesOn 283 = .ok (.iconst 3, 1) := by decide +kernel
theorem dX10_goesOn_284 : decode cX10_goesOn 284 = .ok (.goto 4, 3) := by decide +kernel
theorem dX10_goesOn_287 : decode cX10_goesOn 287 = .ok (.iconst 4, 1) := by decide +kernel
theorem dX10_goesOn_288 : decode cX10_goesOn 288 = .ok (.putfield 322, 3) := by decide +kernel
theorem dX10_goesOn_291 : decode cX10_goesOn 291 = .ok (.return_, 1) := by decide +kernel
theorem dX10_fails_0 : decode cX10_fails 0 = .ok (.aload_n 0, 1) := by decide +kernel
theorem dX10_fails_1 : decode cX10_fails 1 = .ok (.getfield 342, 3) := by decide +kernel
theorem dX10_fails_4 : decode cX10_fails 4 = .ok (.iconst (-1), 1) := by decide +kernel
theorem dX10_fails_5 : decode cX10_fails 5 = .ok (.if_icmp .ne 8, 3) := by decide +kernel
theorem dX10_fails_8 : decode cX10_fails 8 = .ok (.aload_n 0, 1) := by decide +kernel
theorem dX10_fails_9 : decode cX10_fails 9 = .ok (.iload_n 1, 1) := by decide +kernel
theorem dX10_fails_10 : decode cX10_fails 10 = .ok (.putfield 342, 3) := by decide +kernel
theorem dX10_fails_13 : decode cX10_fails 13 = .ok (.return_, 1) := by decide +kernel
theorem dX10_isWord_0 : decode cX10_isWord 0 = .ok (.aload_n 0, 1) := by decide +kernel
theorem dX10_isWord_1 : decode cX10_isWord 1 = .ok (.getfield 322, 3) := by decide +kernel
theorem dX10_isWord_4 : decode cX10_isWord 4 = .ok (.iconst 1, 1) := by decide +kernel
theorem dX10_isWord_5 : decode cX10_isWord 5 = .ok (.if_icmp .eq 5, 3) := by decide +kernel
theorem dX10_isWord_8 : decode cX10_isWord 8 = .ok (.iconst 0, 1) := by decide +kernel
theorem dX10_isWord_9 : decode cX10_isWord 9 = .ok (.ireturn, 1) := by decide +kernel
theorem dX10_isWord_10 : decode cX10_isWord 10 = .ok (.aload_n 0, 1) := by decide +kernel
theorem dX10_isWord_11 : decode cX10_isWord 11 = .ok (.iload_n 1, 1) := by decide +kernel
theorem dX10_isWord_12 : decode cX10_isWord 12 = .ok (.invokevirtual 288, 3) := by decide +kernel
theorem dX10_isWord_15 : decode cX10_isWord 15 = .ok (.istore_n 2, 1) := by decide +kernel
theorem dX10_isWord_16 : decode cX10_isWord 16 = .ok (.iconst 0, 1) := by decide +kernel
theorem dX10_isWord_17 : decode cX10_isWord 17 = .ok (.istore_n 3, 1) := by decide +kernel
theorem dX10_isWord_18 : decode cX10_isWord 18 = .ok (.aload_n 0, 1) := by decide +kernel
theorem dX10_isWord_19 : decode cX10_isWord 19 = .ok (.getfield 328, 3) := by decide +kernel
theorem dX10_isWord_22 : decode cX10_isWord 22 = .ok (.iload_n 3, 1) := by decide +kernel
theorem dX10_isWord_23 : decode cX10_isWord 23 = .ok (.iadd, 1) := by decide +kernel
theorem dX10_isWord_24 : decode cX10_isWord 24 = .ok (.aload_n 0, 1) := by decide +kernel
theorem dX10_isWord_25 : decode cX10_isWord 25 = .ok (.getfield 319, 3) := by decide +kernel
theorem dX10_isWord_28 : decode cX10_isWord 28 = .ok (.if_icmp .ge 31, 3) := by decide +kernel
theorem dX10_isWord_31 : decode cX10_isWord 31 = .ok (.aload_n 0, 1) := by decide +kernel
theorem dX10_isWord_32 : decode cX10_isWord 32 = .ok (.getfield 79, 3) := by decide +kernel
theorem dX10_isWord_35 : decode cX10_isWord 35 = .ok (.iload_n 2, 1) := by decide +kernel
theorem dX10_isWord_36 : decode cX10_isWord 36 = .ok (.iload_n 3, 1) := by decide +kernel
theorem dX10_isWord_37 : decode cX10_isWord 37 = .ok (.iadd, 1) := by decide +kernel
theorem dX10_isWord_38 : decode cX10_isWord 38 = .ok (.baload, 1) := by decide +kernel
theorem dX10_isWord_39 : decode cX10_isWord 39 = .ok (.aload_n 0, 1) := by decide +kernel
theorem dX10_isWord_40 : decode cX10_isWord 40 = .ok (.getfield 76, 3) := by decide +kernel
theorem dX10_isWord_43 : decode cX10_isWord 43 = .ok (.aload_n 0, 1) := by decide +kernel
theorem dX10_isWord_44 : decode cX10_isWord 44 = .ok (.getfield 328, 3) := by decide +kernel
theorem dX10_isWord_47 : decode cX10_isWord 47 = .ok (.iload_n 3, 1) := by decide +kernel
theorem dX10_isWord_48 : decode cX10_isWord 48 = .ok (.iadd, 1) := by decide +kernel
theorem dX10_isWord_49 : decode cX10_isWord 49 = .ok (.iaload, 1) := by decide +kernel
theorem dX10_isWord_50 : decode cX10_isWord 50 = .ok (.if_icmp .ne 9, 3) := by decide +kernel
theorem dX10_isWord_53 : decode cX10_isWord 53 = .ok (.iinc 3 1, 3) := by decide +kernel
theorem dX10_isWord_56 : decode cX10_isWord 56 = .ok (.goto (-38), 3) := by decide +kernel
theorem dX10_isWord_59 : decode cX10_isWord 59 = .ok (.aload_n 0, 1) := by decide +kernel
theorem dX10_isWord_60 : decode cX10_isWord 60 = .ok (.getfield 328, 3) := by decide +kernel
theorem dX10_isWord_63 : decode cX10_isWord 63 = .ok (.iload_n 3, 1) := by decide +kernel
theorem dX10_isWord_64 : decode cX10_isWord 64 = .ok (.iadd, 1) := by decide +kernel
theorem dX10_isWord_65 : decode cX10_isWord 65 = .ok (.aload_n 0, 1) := by decide +kernel
theorem dX10_isWord_66 : decode cX10_isWord 66 = .ok (.getfield 319, 3) := by decide +kernel
theorem dX10_isWord_69 : decode cX10_isWord 69 = .ok (.if_icmp .ne 18, 3) := by decide +kernel
theorem dX10_isWord_72 : decode cX10_isWord 72 = .ok (.aload_n 0, 1) := by decide +kernel
theorem dX10_isWord_73 : decode cX10_isWord 73 = .ok (.getfield 79, 3) := by decide +kernel
theorem dX10_isWord_76 : decode cX10_isWord 76 = .ok (.iload_n 2, 1) := by decide +kernel
theorem dX10_isWord_77 : decode cX10_isWord 77 = .ok (.iload_n 3, 1) := by decide +kernel
theorem dX10_isWord_78 : decode cX10_isWord 78 = .ok (.iadd, 1) := by decide +kernel
theorem dX10_isWord_79 : decode cX10_isWord 79 = .ok (.baload, 1) := by decide +kernel
theorem dX10_isWord_80 : decode cX10_isWord 80 = .ok (.ifCond .ne 7, 3) := by decide +kernel
theorem dX10_isWord_83 : decode cX10_isWord 83 = .ok (.iconst 1, 1) := by decide +kernel
theorem dX10_isWord_84 : decode cX10_isWord 84 = .ok (.goto 4, 3) := by decide +kernel
theorem dX10_isWord_87 : decode cX10_isWord 87 = .ok (.iconst 0, 1) := by decide +kernel
theorem dX10_isWord_88 : decode cX10_isWord 88 = .ok (.ireturn, 1) := by decide +kernel
theorem dX10_needsNumber_0 : decode cX10_needsNumber 0 = .ok (.aload_n 0, 1) := by decide +kernel
theorem dX10_needsNumber_1 : decode cX10_needsNumber 1 = .ok (.getfield 342, 3) := by decide +kernel
theorem dX10_needsNumber_4 : decode cX10_needsNumber 4 = .ok (.iconst (-1), 1) := by decide +kernel
theorem dX10_needsNumber_5 : decode cX10_needsNumber 5 = .ok (.if_icmp .eq 5, 3) := by decide +kernel
theorem dX10_needsNumber_8 : decode cX10_needsNumber 8 = .ok (.iconst 0, 1) := by decide +kernel
theorem dX10_needsNumber_9 : decode cX10_needsNumber 9 = .ok (.ireturn, 1) := by decide +kernel
theorem dX10_needsNumber_10 : decode cX10_needsNumber 10 = .ok (.aload_n 0, 1) := by decide +kernel
theorem dX10_needsNumber_11 : decode cX10_needsNumber 11 = .ok (.getfield 322, 3) := by decide +kernel
theorem dX10_needsNumber_14 : decode cX10_needsNumber 14 = .ok (.iconst 2, 1) := by decide +kernel
theorem dX10_needsNumber_15 : decode cX10_needsNumber 15 = .ok (.if_icmp .ne 18, 3) := by decide +kernel
theorem dX10_needsNumber_18 : decode cX10_needsNumber 18 = .ok (.aload_n 0, 1) := by decide +kernel
theorem dX10_needsNumber_19 : decode cX10_needsNumber 19 = .ok (.getfield 339, 3) := by decide +kernel
theorem dX10_needsNumber_22 : decode cX10_needsNumber 22 = .ok (.i2l, 1) := by decide +kernel
theorem dX10_needsNumber_23 : decode cX10_needsNumber 23 = .ok (.iload_n 1, 1) := by decide +kernel
theorem dX10_needsNumber_24 : decode cX10_needsNumber 24 = .ok (.i2l, 1) := by decide +kernel
theorem dX10_needsNumber_25 : decode cX10_needsNumber 25 = .ok (.iload_n 2, 1) := by decide +kernel
theorem dX10_needsNumber_26 : decode cX10_needsNumber 26 = .ok (.i2l, 1) := by decide +kernel
theorem dX10_needsNumber_27 : decode cX10_needsNumber 27 = .ok (.invokestatic 86, 3) := by decide +kernel
theorem dX10_needsNumber_30 : decode cX10_needsNumber 30 = .ok (.ifCond .ne 13, 3) := by decide +kernel
theorem dX10_needsNumber_33 : decode cX10_needsNumber 33 = .ok (.aload_n 0, 1) := by decide +kernel
theorem dX10_needsNumber_34 : decode cX10_needsNumber 34 = .ok (.aload_n 0, 1) := by decide +kernel
theorem dX10_needsNumber_35 : decode cX10_needsNumber 35 = .ok (.getfield 328, 3) := by decide +kernel
theorem dX10_needsNumber_38 : decode cX10_needsNumber 38 = .ok (.invokevirtual 345, 3) := by decide +kernel
theorem dX10_needsNumber_41 : decode cX10_needsNumber 41 = .ok (.iconst 0, 1) := by decide +kernel
theorem dX10_needsNumber_42 : decode cX10_needsNumber 42 = .ok (.ireturn, 1) := by decide +kernel
theorem dX10_needsNumber_43 : decode cX10_needsNumber 43 = .ok (.aload_n 0, 1) := by decide +kernel
theorem dX10_needsNumber_44 : decode cX10_needsNumber 44 = .ok (.getfield 339, 3) := by decide +kernel
theorem dX10_needsNumber_47 : decode cX10_needsNumber 47 = .ok (.istore_n 3, 1) := by decide +kernel
theorem dX10_needsNumber_48 : decode cX10_needsNumber 48 = .ok (.aload_n 0, 1) := by decide +kernel
theorem dX10_needsNumber_49 : decode cX10_needsNumber 49 = .ok (.invokevirtual 348, 3) := by decide +kernel
theorem dX10_needsNumber_52 : decode cX10_needsNumber 52 = .ok (.iload_n 3, 1) := by decide +kernel
theorem dX10_needsNumber_53 : decode cX10_needsNumber 53 = .ok (.ireturn, 1) := by decide +kernel
theorem dX10_needsClose_0 : decode cX10_needsClose 0 = .ok (.aload_n 0, 1) := by decide +kernel
theorem dX10_needsClose_1 : decode cX10_needsClose 1 = .ok (.getfield 342, 3) := by decide +kernel
theorem dX10_needsClose_4 : decode cX10_needsClose 4 = .ok (.iconst (-1), 1) := by decide +kernel
theorem dX10_needsClose_5 : decode cX10_needsClose 5 = .ok (.if_icmp .eq 4, 3) := by decide +kernel
theorem dX10_needsClose_8 : decode cX10_needsClose 8 = .ok (.return_, 1) := by decide +kernel
theorem dX10_needsClose_9 : decode cX10_needsClose 9 = .ok (.aload_n 0, 1) := by decide +kernel
theorem dX10_needsClose_10 : decode cX10_needsClose 10 = .ok (.getfield 322, 3) := by decide +kernel
theorem dX10_needsClose_13 : decode cX10_needsClose 13 = .ok (.iconst 3, 1) := by decide +kernel
theorem dX10_needsClose_14 : decode cX10_needsClose 14 = .ok (.if_icmp .ne 10, 3) := by decide +kernel
theorem dX10_needsClose_17 : decode cX10_needsClose 17 = .ok (.aload_n 0, 1) := by decide +kernel
theorem dX10_needsClose_18 : decode cX10_needsClose 18 = .ok (.invokevirtual 348, 3) := by decide +kernel
theorem dX10_needsClose_21 : decode cX10_needsClose 21 = .ok (.goto 11, 3) := by decide +kernel
theorem dX10_needsClose_24 : decode cX10_needsClose 24 = .ok (.aload_n 0, 1) := by decide +kernel
theorem dX10_needsClose_25 : decode cX10_needsClose 25 = .ok (.aload_n 0, 1) := by decide +kernel
theorem dX10_needsClose_26 : decode cX10_needsClose 26 = .ok (.getfield 328, 3) := by decide +kernel
theorem dX10_needsClose_29 : decode cX10_needsClose 29 = .ok (.invokevirtual 345, 3) := by decide +kernel
theorem dX10_needsClose_32 : decode cX10_needsClose 32 = .ok (.return_, 1) := by decide +kernel
theorem dX10_readsColumn_0 : decode cX10_readsColumn 0 = .ok (.aload_n 0, 1) := by decide +kernel
theorem dX10_readsColumn_1 : decode cX10_readsColumn 1 = .ok (.getfield 17, 3) := by decide +kernel
theorem dX10_readsColumn_4 : decode cX10_readsColumn 4 = .ok (.iconst 0, 1) := by decide +kernel
theorem dX10_readsColumn_5 : decode cX10_readsColumn 5 = .ok (.iaload, 1) := by decide +kernel
theorem dX10_readsColumn_6 : decode cX10_readsColumn 6 = .ok (.bipush 6, 2) := by decide +kernel
theorem dX10_readsColumn_8 : decode cX10_readsColumn 8 = .ok (.if_icmp .ne 9, 3) := by decide +kernel
theorem dX10_readsColumn_11 : decode cX10_readsColumn 11 = .ok (.aload_n 0, 1) := by decide +kernel
theorem dX10_readsColumn_12 : decode cX10_readsColumn 12 = .ok (.iload_n 1, 1) := by decide +kernel
theorem dX10_readsColumn_13 : decode cX10_readsColumn 13 = .ok (.invokevirtual 345, 3) := by decide +kernel
theorem dX10_readsColumn_16 : decode cX10_readsColumn 16 = .ok (.return_, 1) := by decide +kernel
theorem dX10_readsColumn_17 : decode cX10_readsColumn 17 = .ok (.aload_n 0, 1) := by decide +kernel
theorem dX10_readsColumn_18 : decode cX10_readsColumn 18 = .ok (.invokevirtual 348, 3) := by decide +kernel
theorem dX10_readsColumn_21 : decode cX10_readsColumn 21 = .ok (.aload_n 0, 1) := by decide +kernel
theorem dX10_readsColumn_22 : decode cX10_readsColumn 22 = .ok (.getfield 17, 3) := by decide +kernel
theorem dX10_readsColumn_25 : decode cX10_readsColumn 25 = .ok (.iconst 2, 1) := by decide +kernel
theorem dX10_readsColumn_26 : decode cX10_readsColumn 26 = .ok (.aload_n 0, 1) := by decide +kernel
theorem dX10_readsColumn_27 : decode cX10_readsColumn 27 = .ok (.getfield 17, 3) := by decide +kernel
theorem dX10_readsColumn_30 : decode cX10_readsColumn 30 = .ok (.iconst 0, 1) := by decide +kernel
theorem dX10_readsColumn_31 : decode cX10_readsColumn 31 = .ok (.iaload, 1) := by decide +kernel
theorem dX10_readsColumn_32 : decode cX10_readsColumn 32 = .ok (.iadd, 1) := by decide +kernel
theorem dX10_readsColumn_33 : decode cX10_readsColumn 33 = .ok (.aload_n 0, 1) := by decide +kernel
theorem dX10_readsColumn_34 : decode cX10_readsColumn 34 = .ok (.getfield 17, 3) := by decide +kernel
theorem dX10_readsColumn_37 : decode cX10_readsColumn 37 = .ok (.iconst 0, 1) := by decide +kernel
theorem dX10_readsColumn_38 : decode cX10_readsColumn 38 = .ok (.iaload, 1) := by decide +kernel
theorem dX10_readsColumn_39 : decode cX10_readsColumn 39 = .ok (.ifCond .ne 12, 3) := by decide +kernel
theorem dX10_readsColumn_42 : decode cX10_readsColumn 42 = .ok (.aload_n 0, 1) := by decide +kernel
theorem dX10_readsColumn_43 : decode cX10_readsColumn 43 = .ok (.iconst 1, 1) := by decide +kernel
theorem dX10_readsColumn_44 : decode cX10_readsColumn 44 = .ok (.iconst 1, 1) := by decide +kernel
theorem dX10_readsColumn_45 : decode cX10_readsColumn 45 = .ok (.invokevirtual 351, 3) := by decide +kernel
theorem dX10_readsColumn_48 : decode cX10_readsColumn 48 = .ok (.goto 10, 3) := by decide +kernel
theorem dX10_readsColumn_51 : decode cX10_readsColumn 51 = .ok (.aload_n 0, 1) := by decide +kernel
theorem dX10_readsColumn_52 : decode cX10_readsColumn 52 = .ok (.iconst 2, 1) := by decide +kernel
theorem dX10_readsColumn_53 : decode cX10_readsColumn 53 = .ok (.bipush 20, 2) := by decide +kernel
theorem dX10_readsColumn_55 : decode cX10_readsColumn 55 = .ok (.invokevirtual 351, 3) := by decide +kernel
theorem dX10_readsColumn_58 : decode cX10_readsColumn 58 = .ok (.iastore, 1) := by decide +kernel
theorem dX10_readsColumn_59 : decode cX10_readsColumn 59 = .ok (.aload_n 0, 1) := by decide +kernel
theorem dX10_readsColumn_60 : decode cX10_readsColumn 60 = .ok (.invokevirtual 354, 3) := by decide +kernel
theorem dX10_readsColumn_63 : decode cX10_readsColumn 63 = .ok (.aload_n 0, 1) := by decide +kernel
theorem dX10_readsColumn_64 : decode cX10_readsColumn 64 = .ok (.getfield 17, 3) := by decide +kernel
theorem dX10_readsColumn_67 : decode cX10_readsColumn 67 = .ok (.iconst 0, 1) := by decide +kernel
theorem dX10_readsColumn_68 : decode cX10_readsColumn 68 = .ok (.dup2, 1) := by decide +kernel
theorem dX10_readsColumn_69 : decode cX10_readsColumn 69 = .ok (.iaload, 1) := by decide +kernel
theorem dX10_readsColumn_70 : decode cX10_readsColumn 70 = .ok (.iconst 1, 1) := by decide +kernel
theorem dX10_readsColumn_71 : decode cX10_readsColumn 71 = .ok (.iadd, 1) := by decide +kernel
theorem dX10_readsColumn_72 : decode cX10_readsColumn 72 = .ok (.iastore, 1) := by decide +kernel
theorem dX10_readsColumn_73 : decode cX10_readsColumn 73 = .ok (.return_, 1) := by decide +kernel
theorem dX10_readsRow_0 : decode cX10_readsRow 0 = .ok (.aload_n 0, 1) := by decide +kernel
theorem dX10_readsRow_1 : decode cX10_readsRow 1 = .ok (.getfield 17, 3) := by decide +kernel
theorem dX10_readsRow_4 : decode cX10_readsRow 4 = .ok (.iconst 1, 1) := by decide +kernel
theorem dX10_readsRow_5 : decode cX10_readsRow 5 = .ok (.iaload, 1) := by decide +kernel
theorem dX10_readsRow_6 : decode cX10_readsRow 6 = .ok (.iconst 4, 1) := by decide +kernel
theorem dX10_readsRow_7 : decode cX10_readsRow 7 = .ok (.if_icmp .eq 12, 3) := by decide +kernel
theorem dX10_readsRow_10 : decode cX10_readsRow 10 = .ok (.aload_n 0, 1) := by decide +kernel
theorem dX10_readsRow_11 : decode cX10_readsRow 11 = .ok (.getfield 17, 3) := by decide +kernel
theorem dX10_readsRow_14 : decode cX10_readsRow 14 = .ok (.iconst 0, 1) := by decide +kernel
theorem dX10_readsRow_15 : decode cX10_readsRow 15 = .ok (.iaload, 1) := by decide +kernel
theorem dX10_readsRow_16 : decode cX10_readsRow 16 = .ok (.ifCond .ne 9, 3) := by decide +kernel
theorem dX10_readsRow_19 : decode cX10_readsRow 19 = .ok (.aload_n 0, 1) := by decide +kernel
theorem dX10_readsRow_20 : decode cX10_readsRow 20 = .ok (.iload_n 1, 1) := by decide +kernel
theorem dX10_readsRow_21 : decode cX10_readsRow 21 = .ok (.invokevirtual 345, 3) := by decide +kernel
theorem dX10_readsRow_24 : decode cX10_readsRow 24 = .ok (.return_, 1) := by decide +kernel
theorem dX10_readsRow_25 : decode cX10_readsRow 25 = .ok (.aload_n 0, 1) := by decide +kernel
theorem dX10_readsRow_26 : decode cX10_readsRow 26 = .ok (.invokevirtual 348, 3) := by decide +kernel
theorem dX10_readsRow_29 : decode cX10_readsRow 29 = .ok (.iconst 0, 1) := by decide +kernel
theorem dX10_readsRow_30 : decode cX10_readsRow 30 = .ok (.istore_n 2, 1) := by decide +kernel
theorem dX10_readsRow_31 : decode cX10_readsRow 31 = .ok (.iconst 1, 1) := by decide +kernel
theorem dX10_readsRow_32 : decode cX10_readsRow 32 = .ok (.istore_n 3, 1) := by decide +kernel
theorem dX10_readsRow_33 : decode cX10_readsRow 33 = .ok (.iload_n 3, 1) := by decide +kernel
theorem dX10_readsRow_34 : decode cX10_readsRow 34 = .ok (.ifCond .eq 66, 3) := by decide +kernel
theorem dX10_readsRow_37 : decode cX10_readsRow 37 = .ok (.aload_n 0, 1) := by decide +kernel
theorem dX10_readsRow_38 : decode cX10_readsRow 38 = .ok (.getfield 17, 3) := by decide +kernel
theorem dX10_readsRow_41 : decode cX10_readsRow 41 = .ok (.bipush 8, 2) := by decide +kernel
theorem dX10_readsRow_43 : decode cX10_readsRow 43 = .ok (.aload_n 0, 1) := by decide +kernel
theorem dX10_readsRow_44 : decode cX10_readsRow 44 = .ok (.getfield 17, 3) := by decide +kernel
theorem dX10_readsRow_47 : decode cX10_readsRow 47 = .ok (.iconst 1, 1) := by decide +kernel
theorem dX10_readsRow_48 : decode cX10_readsRow 48 = .ok (.iaload, 1) := by decide +kernel
theorem dX10_readsRow_49 : decode cX10_readsRow 49 = .ok (.iload_n 2, 1) := by decide +kernel
theorem dX10_readsRow_50 : decode cX10_readsRow 50 = .ok (.invokestatic 101, 3) := by decide +kernel
theorem dX10_readsRow_53 : decode cX10_readsRow 53 = .ok (.iadd, 1) := by decide +kernel
theorem dX10_readsRow_54 : decode cX10_readsRow 54 = .ok (.aload_n 0, 1) := by decide +kernel
theorem dX10_readsRow_55 : decode cX10_readsRow 55 = .ok (.iconst 0, 1) := by decide +kernel
theorem dX10_readsRow_56 : decode cX10_readsRow 56 = .ok (.bipush 99, 2) := by decide +kernel
theorem dX10_readsRow_58 : decode cX10_readsRow 58 = .ok (.invokevirtual 351, 3) := by decide +kernel
theorem dX10_readsRow_61 : decode cX10_readsRow 61 = .ok (.iastore, 1) := by decide +kernel
theorem dX10_readsRow_62 : decode cX10_readsRow 62 = .ok (.iinc 2 1, 3) := by decide +kernel
theorem dX10_readsRow_65 : decode cX10_readsRow 65 = .ok (.aload_n 0, 1) := by decide +kernel
theorem dX10_readsRow_66 : decode cX10_readsRow 66 = .ok (.getfield 342, 3) := by decide +kernel
theorem dX10_readsRow_69 : decode cX10_readsRow 69 = .ok (.iconst (-1), 1) := by decide +kernel
theorem dX10_readsRow_70 : decode cX10_readsRow 70 = .ok (.if_icmp .ne 25, 3) := by decide +kernel
theorem dX10_readsRow_73 : decode cX10_readsRow 73 = .ok (.aload_n 0, 1) := by decide +kernel
theorem dX10_readsRow_74 : decode cX10_readsRow 74 = .ok (.getfield 322, 3) := by decide +kernel
theorem dX10_readsRow_77 : decode cX10_readsRow 77 = .ok (.iconst 2, 1) := by decide +kernel
theorem dX10_readsRow_78 : decode cX10_readsRow 78 = .ok (.if_icmp .ne 17, 3) := by decide +kernel
theorem dX10_readsRow_81 : decode cX10_readsRow 81 = .ok (.iload_n 2, 1) := by decide +kernel
theorem dX10_readsRow_82 : decode cX10_readsRow 82 = .ok (.aload_n 0, 1) := by decide +kernel
theorem dX10_readsRow_83 : decode cX10_readsRow 83 = .ok (.getfield 17, 3) := by decide +kernel
theorem dX10_readsRow_86 : decode cX10_readsRow 86 = .ok (.iconst 0, 1) := by decide +kernel
theorem dX10_readsRow_87 : decode cX10_readsRow 87 = .ok (.iaload, 1) := by decide +kernel
theorem dX10_readsRow_88 : decode cX10_readsRow 88 = .ok (.if_icmp .ge 7, 3) := by decide +kernel
theorem dX10_readsRow_91 : decode cX10_readsRow 91 = .ok (.iconst 1, 1) := by decide +kernel
theorem dX10_readsRow_92 : decode cX10_readsRow 92 = .ok (.goto 4, 3) := by decide +kernel
theorem dX10_readsRow_95 : decode cX10_readsRow 95 = .ok (.iconst 0, 1) := by decide +kernel
theorem dX10_readsRow_96 : decode cX10_readsRow 96 = .ok (.istore_n 3, 1) := by decide +kernel
theorem dX10_readsRow_97 : decode cX10_readsRow 97 = .ok (.goto (-64), 3) := by decide +kernel
theorem dX10_readsRow_100 : decode cX10_readsRow 100 = .ok (.aload_n 0, 1) := by decide +kernel
theorem dX10_readsRow_101 : decode cX10_readsRow 101 = .ok (.invokevirtual 354, 3) := by decide +kernel
theorem dX10_readsRow_104 : decode cX10_readsRow 104 = .ok (.aload_n 0, 1) := by decide +kernel
theorem dX10_readsRow_105 : decode cX10_readsRow 105 = .ok (.getfield 17, 3) := by decide +kernel
theorem dX10_readsRow_108 : decode cX10_readsRow 108 = .ok (.iconst 1, 1) := by decide +kernel
theorem dX10_readsRow_109 : decode cX10_readsRow 109 = .ok (.dup2, 1) := by decide +kernel
theorem dX10_readsRow_110 : decode cX10_readsRow 110 = .ok (.iaload, 1) := by decide +kernel
theorem dX10_readsRow_111 : decode cX10_readsRow 111 = .ok (.iconst 1, 1) := by decide +kernel
theorem dX10_readsRow_112 : decode cX10_readsRow 112 = .ok (.iadd, 1) := by decide +kernel
theorem dX10_readsRow_113 : decode cX10_readsRow 113 = .ok (.iastore, 1) := by decide +kernel
theorem dX10_readsRow_114 : decode cX10_readsRow 114 = .ok (.return_, 1) := by decide +kernel
theorem dX10_trades_0 : decode cX10_trades 0 = .ok (.iconst 0, 1) := by decide +kernel
theorem dX10_trades_1 : decode cX10_trades 1 = .ok (.istore_n 1, 1) := by decide +kernel
theorem dX10_trades_2 : decode cX10_trades 2 = .ok (.iload_n 1, 1) := by decide +kernel
theorem dX10_trades_3 : decode cX10_trades 3 = .ok (.sipush 226, 3) := by decide +kernel
theorem dX10_trades_6 : decode cX10_trades 6 = .ok (.if_icmp .ge 35, 3) := by decide +kernel
theorem dX10_trades_9 : decode cX10_trades 9 = .ok (.aload_n 0, 1) := by decide +kernel
theorem dX10_trades_10 : decode cX10_trades 10 = .ok (.getfield 13, 3) := by decide +kernel
theorem dX10_trades_13 : decode cX10_trades 13 = .ok (.iload_n 1, 1) := by decide +kernel
theorem dX10_trades_14 : decode cX10_trades 14 = .ok (.iaload, 1) := by decide +kernel
theorem dX10_trades_15 : decode cX10_trades 15 = .ok (.istore_n 2, 1) := by decide +kernel
theorem dX10_trades_16 : decode cX10_trades 16 = .ok (.aload_n 0, 1) := by decide +kernel
theorem dX10_trades_17 : decode cX10_trades 17 = .ok (.getfield 13, 3) := by decide +kernel
theorem dX10_trades_20 : decode cX10_trades 20 = .ok (.iload_n 1, 1) := by decide +kernel
theorem dX10_trades_21 : decode cX10_trades 21 = .ok (.aload_n 0, 1) := by decide +kernel
theorem dX10_trades_22 : decode cX10_trades 22 = .ok (.getfield 17, 3) := by decide +kernel
theorem dX10_trades_25 : decode cX10_trades 25 = .ok (.iload_n 1, 1) := by decide +kernel
theorem dX10_trades_26 : decode cX10_trades 26 = .ok (.iaload, 1) := by decide +kernel
theorem dX10_trades_27 : decode cX10_trades 27 = .ok (.iastore, 1) := by decide +kernel
theorem dX10_trades_28 : decode cX10_trades 28 = .ok (.aload_n 0, 1) := by decide +kernel
theorem dX10_trades_29 : decode cX10_trades 29 = .ok (.getfield 17, 3) := by decide +kernel
theorem dX10_trades_32 : decode cX10_trades 32 = .ok (.iload_n 1, 1) := by decide +kernel
theorem dX10_trades_33 : decode cX10_trades 33 = .ok (.iload_n 2, 1) := by decide +kernel
theorem dX10_trades_34 : decode cX10_trades 34 = .ok (.iastore, 1) := by decide +kernel
theorem dX10_trades_35 : decode cX10_trades 35 = .ok (.iinc 1 1, 3) := by decide +kernel
theorem dX10_trades_38 : decode cX10_trades 38 = .ok (.goto (-36), 3) := by decide +kernel
theorem dX10_trades_41 : decode cX10_trades 41 = .ok (.return_, 1) := by decide +kernel
theorem dX10_readsMove_0 : decode cX10_readsMove 0 = .ok (.aload_n 0, 1) := by decide +kernel
theorem dX10_readsMove_1 : decode cX10_readsMove 1 = .ok (.invokevirtual 348, 3) := by decide +kernel
theorem dX10_readsMove_4 : decode cX10_readsMove 4 = .ok (.aload_n 0, 1) := by decide +kernel
theorem dX10_readsMove_5 : decode cX10_readsMove 5 = .ok (.iconst 0, 1) := by decide +kernel
theorem dX10_readsMove_6 : decode cX10_readsMove 6 = .ok (.bipush 99, 2) := by decide +kernel
theorem dX10_readsMove_8 : decode cX10_readsMove 8 = .ok (.invokevirtual 351, 3) := by decide +kernel
theorem dX10_readsMove_11 : decode cX10_readsMove 11 = .ok (.istore_n 3, 1) := by decide +kernel
theorem dX10_readsMove_12 : decode cX10_readsMove 12 = .ok (.iload_n 2, 1) := by decide +kernel
theorem dX10_readsMove_13 : decode cX10_readsMove 13 = .ok (.iconst 4, 1) := by decide +kernel
theorem dX10_readsMove_14 : decode cX10_readsMove 14 = .ok (.if_icmp .ne 13, 3) := by decide +kernel
theorem dX10_readsMove_17 : decode cX10_readsMove 17 = .ok (.aload_n 0, 1) := by decide +kernel
theorem dX10_readsMove_18 : decode cX10_readsMove 18 = .ok (.iconst 0, 1) := by decide +kernel
theorem dX10_readsMove_19 : decode cX10_readsMove 19 = .ok (.bipush 99, 2) := by decide +kernel
theorem dX10_readsMove_21 : decode cX10_readsMove 21 = .ok (.invokevirtual 351, 3) := by decide +kernel
theorem dX10_readsMove_24 : decode cX10_readsMove 24 = .ok (.goto 4, 3) := by decide +kernel
theorem dX10_readsMove_27 : decode cX10_readsMove 27 = .ok (.iconst 0, 1) := by decide +kernel
theorem dX10_readsMove_28 : decode cX10_readsMove 28 = .ok (.istore 4, 2) := by decide +kernel
theorem dX10_readsMove_30 : decode cX10_readsMove 30 = .ok (.aload_n 0, 1) := by decide +kernel
theorem dX10_readsMove_31 : decode cX10_readsMove 31 = .ok (.iconst 0, 1) := by decide +kernel
theorem dX10_readsMove_32 : decode cX10_readsMove 32 = .ok (.bipush 99, 2) := by decide +kernel
theorem dX10_readsMove_34 : decode cX10_readsMove 34 = .ok (.invokevirtual 351, 3) := by decide +kernel
theorem dX10_readsMove_37 : decode cX10_readsMove 37 = .ok (.istore 5, 2) := by decide +kernel
theorem dX10_readsMove_39 : decode cX10_readsMove 39 = .ok (.iload_n 2, 1) := by decide +kernel
theorem dX10_readsMove_40 : decode cX10_readsMove 40 = .ok (.iconst 2, 1) := by decide +kernel
theorem dX10_readsMove_41 : decode cX10_readsMove 41 = .ok (.if_icmp .eq 8, 3) := by decide +kernel
theorem dX10_readsMove_44 : decode cX10_readsMove 44 = .ok (.iload_n 2, 1) := by decide +kernel
theorem dX10_readsMove_45 : decode cX10_readsMove 45 = .ok (.iconst 3, 1) := by decide +kernel
theorem dX10_readsMove_46 : decode cX10_readsMove 46 = .ok (.if_icmp .ne 7, 3) := by decide +kernel
theorem dX10_readsMove_49 : decode cX10_readsMove 49 = .ok (.iconst 0, 1) := by decide +kernel
theorem dX10_readsMove_50 : decode cX10_readsMove 50 = .ok (.goto 10, 3) := by decide +kernel
theorem dX10_readsMove_53 : decode cX10_readsMove 53 = .ok (.aload_n 0, 1) := by decide +kernel
theorem dX10_readsMove_54 : decode cX10_readsMove 54 = .ok (.iconst 0, 1) := by decide +kernel
theorem dX10_readsMove_55 : decode cX10_readsMove 55 = .ok (.bipush 99, 2) := by decide +kernel
theorem dX10_readsMove_57 : decode cX10_readsMove 57 = .ok (.invokevirtual 351, 3) := by decide +kernel
theorem dX10_readsMove_60 : decode cX10_readsMove 60 = .ok (.istore 6, 2) := by decide +kernel
theorem dX10_readsMove_62 : decode cX10_readsMove 62 = .ok (.aload_n 0, 1) := by decide +kernel
theorem dX10_readsMove_63 : decode cX10_readsMove 63 = .ok (.invokevirtual 354, 3) := by decide +kernel
theorem dX10_readsMove_66 : decode cX10_readsMove 66 = .ok (.aload_n 0, 1) := by decide +kernel
theorem dX10_readsMove_67 : decode cX10_readsMove 67 = .ok (.getfield 342, 3) := by decide +kernel
theorem dX10_readsMove_70 : decode cX10_readsMove 70 = .ok (.iconst (-1), 1) := by decide +kernel
theorem dX10_readsMove_71 : decode cX10_readsMove 71 = .ok (.if_icmp .eq 4, 3) := by decide +kernel
theorem dX10_readsMove_74 : decode cX10_readsMove 74 = .ok (.return_, 1) := by decide +kernel
theorem dX10_readsMove_75 : decode cX10_readsMove 75 = .ok (.aload_n 0, 1) := by decide +kernel
theorem dX10_readsMove_76 : decode cX10_readsMove 76 = .ok (.invokevirtual 357, 3) := by decide +kernel
theorem dX10_readsMove_79 : decode cX10_readsMove 79 = .ok (.aload_n 0, 1) := by decide +kernel
theorem dX10_readsMove_80 : decode cX10_readsMove 80 = .ok (.getfield 13, 3) := by decide +kernel
theorem dX10_readsMove_83 : decode cX10_readsMove 83 = .ok (.bipush 56, 2) := by decide +kernel
theorem dX10_readsMove_85 : decode cX10_readsMove 85 = .ok (.iaload, 1) := by decide +kernel
theorem dX10_readsMove_86 : decode cX10_readsMove 86 = .ok (.bipush 24, 2) := by decide +kernel
theorem dX10_readsMove_88 : decode cX10_readsMove 88 = .ok (.if_icmp .ge 22, 3) := by decide +kernel
theorem dX10_readsMove_91 : decode cX10_readsMove 91 = .ok (.aload_n 0, 1) := by decide +kernel
theorem dX10_readsMove_92 : decode cX10_readsMove 92 = .ok (.iload_n 2, 1) := by decide +kernel
theorem dX10_readsMove_93 : decode cX10_readsMove 93 = .ok (.iload_n 3, 1) := by decide +kernel
theorem dX10_readsMove_94 : decode cX10_readsMove 94 = .ok (.iload 5, 2) := by decide +kernel
theorem dX10_readsMove_96 : decode cX10_readsMove 96 = .ok (.iload 6, 2) := by decide +kernel
theorem dX10_readsMove_98 : decode cX10_readsMove 98 = .ok (.iload 4, 2) := by decide +kernel
theorem dX10_readsMove_100 : decode cX10_readsMove 100 = .ok (.invokevirtual 158, 3) := by decide +kernel
theorem dX10_readsMove_103 : decode cX10_readsMove 103 = .ok (.ifCond .eq 7, 3) := by decide +kernel
theorem dX10_readsMove_106 : decode cX10_readsMove 106 = .ok (.iconst 1, 1) := by decide +kernel
theorem dX10_readsMove_107 : decode cX10_readsMove 107 = .ok (.goto 4, 3) := by decide +kernel
theorem dX10_readsMove_110 : decode cX10_readsMove 110 = .ok (.iconst 0, 1) := by decide +kernel
theorem dX10_readsMove_111 : decode cX10_readsMove 111 = .ok (.istore 7, 2) := by decide +kernel
theorem dX10_readsMove_113 : decode cX10_readsMove 113 = .ok (.iload 7, 2) := by decide +kernel
theorem dX10_readsMove_115 : decode cX10_readsMove 115 = .ok (.ifCond .eq 88, 3) := by decide +kernel
theorem dX10_readsMove_118 : decode cX10_readsMove 118 = .ok (.aload_n 0, 1) := by decide +kernel
theorem dX10_readsMove_119 : decode cX10_readsMove 119 = .ok (.iconst 1, 1) := by decide +kernel
theorem dX10_readsMove_120 : decode cX10_readsMove 120 = .ok (.invokevirtual 161, 3) := by decide +kernel
theorem dX10_readsMove_123 : decode cX10_readsMove 123 = .ok (.aload_n 0, 1) := by decide +kernel
theorem dX10_readsMove_124 : decode cX10_readsMove 124 = .ok (.invokevirtual 165, 3) := by decide +kernel
theorem dX10_readsMove_127 : decode cX10_readsMove 127 = .ok (.bipush 57, 2) := by decide +kernel
theorem dX10_readsMove_129 : decode cX10_readsMove 129 = .ok (.iconst 5, 1) := by decide +kernel
theorem dX10_readsMove_130 : decode cX10_readsMove 130 = .ok (.aload_n 0, 1) := by decide +kernel
theorem dX10_readsMove_131 : decode cX10_readsMove 131 = .ok (.getfield 13, 3) := by decide +kernel
theorem dX10_readsMove_134 : decode cX10_readsMove 134 = .ok (.bipush 56, 2) := by decide +kernel
theorem dX10_readsMove_136 : decode cX10_readsMove 136 = .ok (.iaload, 1) := by decide +kernel
theorem dX10_readsMove_137 : decode cX10_readsMove 137 = .ok (.imul, 1) := by decide +kernel
theorem dX10_readsMove_138 : decode cX10_readsMove 138 = .ok (.iadd, 1) := by decide +kernel
theorem dX10_readsMove_139 : decode cX10_readsMove 139 = .ok (.istore 8, 2) := by decide +kernel
theorem dX10_readsMove_141 : decode cX10_readsMove 141 = .ok (.aload_n 0, 1) := by decide +kernel
theorem dX10_readsMove_142 : decode cX10_readsMove 142 = .ok (.getfield 13, 3) := by decide +kernel
theorem dX10_readsMove_145 : decode cX10_readsMove 145 = .ok (.iload 8, 2) := by decide +kernel
theorem dX10_readsMove_147 : decode cX10_readsMove 147 = .ok (.iload_n 2, 1) := by decide +kernel
theorem dX10_readsMove_148 : decode cX10_readsMove 148 = .ok (.iastore, 1) := by decide +kernel
theorem dX10_readsMove_149 : decode cX10_readsMove 149 = .ok (.aload_n 0, 1) := by decide +kernel
theorem dX10_readsMove_150 : decode cX10_readsMove 150 = .ok (.getfield 13, 3) := by decide +kernel
theorem dX10_readsMove_153 : decode cX10_readsMove 153 = .ok (.iload 8, 2) := by decide +kernel
theorem dX10_readsMove_155 : decode cX10_readsMove 155 = .ok (.iconst 1, 1) := by decide +kernel
theorem dX10_readsMove_156 : decode cX10_readsMove 156 = .ok (.iadd, 1) := by decide +kernel
theorem dX10_readsMove_157 : decode cX10_readsMove 157 = .ok (.iload_n 3, 1) := by decide +kernel
theorem dX10_readsMove_158 : decode cX10_readsMove 158 = .ok (.iastore, 1) := by decide +kernel
theorem dX10_readsMove_159 : decode cX10_readsMove 159 = .ok (.aload_n 0, 1) := by decide +kernel
theorem dX10_readsMove_160 : decode cX10_readsMove 160 = .ok (.getfield 13, 3) := by decide +kernel
theorem dX10_readsMove_163 : decode cX10_readsMove 163 = .ok (.iload 8, 2) := by decide +kernel
theorem dX10_readsMove_165 : decode cX10_readsMove 165 = .ok (.iconst 2, 1) := by decide +kernel
theorem dX10_readsMove_166 : decode cX10_readsMove 166 = .ok (.iadd, 1) := by decide +kernel
theorem dX10_readsMove_167 : decode cX10_readsMove 167 = .ok (.iload 5, 2) := by decide +kernel
theorem dX10_readsMove_169 : decode cX10_readsMove 169 = .ok (.iastore, 1) := by decide +kernel
theorem dX10_readsMove_170 : decode cX10_readsMove 170 = .ok (.aload_n 0, 1) := by decide +kernel
theorem dX10_readsMove_171 : decode cX10_readsMove 171 = .ok (.getfield 13, 3) := by decide +kernel
theorem dX10_readsMove_174 : decode cX10_readsMove 174 = .ok (.iload 8, 2) := by decide +kernel
theorem dX10_readsMove_176 : decode cX10_readsMove 176 = .ok (.iconst 3, 1) := by decide +kernel
theorem dX10_readsMove_177 : decode cX10_readsMove 177 = .ok (.iadd, 1) := by decide +kernel
theorem dX10_readsMove_178 : decode cX10_readsMove 178 = .ok (.iload 6, 2) := by decide +kernel
theorem dX10_readsMove_180 : decode cX10_readsMove 180 = .ok (.iastore, 1) := by decide +kernel
theorem dX10_readsMove_181 : decode cX10_readsMove 181 = .ok (.aload_n 0, 1) := by decide +kernel
theorem dX10_readsMove_182 : decode cX10_readsMove 182 = .ok (.getfield 13, 3) := by decide +kernel
theorem dX10_readsMove_185 : decode cX10_readsMove 185 = .ok (.iload 8, 2) := by decide +kernel
theorem dX10_readsMove_187 : decode cX10_readsMove 187 = .ok (.iconst 4, 1) := by decide +kernel
theorem dX10_readsMove_188 : decode cX10_readsMove 188 = .ok (.iadd, 1) := by decide +kernel
theorem dX10_readsMove_189 : decode cX10_readsMove 189 = .ok (.iload 4, 2) := by decide +kernel
theorem dX10_readsMove_191 : decode cX10_readsMove 191 = .ok (.iastore, 1) := by decide +kernel
theorem dX10_readsMove_192 : decode cX10_readsMove 192 = .ok (.aload_n 0, 1) := by decide +kernel
theorem dX10_readsMove_193 : decode cX10_readsMove 193 = .ok (.getfield 13, 3) := by decide +kernel
theorem dX10_readsMove_196 : decode cX10_readsMove 196 = .ok (.bipush 56, 2) := by decide +kernel
theorem dX10_readsMove_198 : decode cX10_readsMove 198 = .ok (.dup2, 1) := by decide +kernel
theorem dX10_readsMove_199 : decode cX10_readsMove 199 = .ok (.iaload, 1) := by decide +kernel
theorem dX10_readsMove_200 : decode cX10_readsMove 200 = .ok (.iconst 1, 1) := by decide +kernel
theorem dX10_readsMove_201 : decode cX10_readsMove 201 = .ok (.iadd, 1) := by decide +kernel
theorem dX10_readsMove_202 : decode cX10_readsMove 202 = .ok (.iastore, 1) := by decide +kernel
theorem dX10_readsMove_203 : decode cX10_readsMove 203 = .ok (.aload_n 0, 1) := by decide +kernel
theorem dX10_readsMove_204 : decode cX10_readsMove 204 = .ok (.invokevirtual 357, 3) := by decide +kernel
theorem dX10_readsMove_207 : decode cX10_readsMove 207 = .ok (.iload 7, 2) := by decide +kernel
theorem dX10_readsMove_209 : decode cX10_readsMove 209 = .ok (.ifCond .ne 8, 3) := by decide +kernel
theorem dX10_readsMove_212 : decode cX10_readsMove 212 = .ok (.aload_n 0, 1) := by decide +kernel
theorem dX10_readsMove_213 : decode cX10_readsMove 213 = .ok (.iload_n 1, 1) := by decide +kernel
theorem dX10_readsMove_214 : decode cX10_readsMove 214 = .ok (.invokevirtual 345, 3) := by decide +kernel
theorem dX10_readsMove_217 : decode cX10_readsMove 217 = .ok (.return_, 1) := by decide +kernel
theorem dX10_readsSeen_0 : decode cX10_readsSeen 0 = .ok (.aload_n 0, 1) := by decide +kernel
theorem dX10_readsSeen_1 : decode cX10_readsSeen 1 = .ok (.getfield 17, 3) := by decide +kernel
theorem dX10_readsSeen_4 : decode cX10_readsSeen 4 = .ok (.sipush 177, 3) := by decide +kernel
theorem dX10_readsSeen_7 : decode cX10_readsSeen 7 = .ok (.iaload, 1) := by decide +kernel
theorem dX10_readsSeen_8 : decode cX10_readsSeen 8 = .ok (.bipush 12, 2) := by decide +kernel
theorem dX10_readsSeen_10 : decode cX10_readsSeen 10 = .ok (.if_icmp .ne 9, 3) := by decide +kernel
theorem dX10_readsSeen_13 : decode cX10_readsSeen 13 = .ok (.aload_n 0, 1) := by decide +kernel
theorem dX10_readsSeen_14 : decode cX10_readsSeen 14 = .ok (.iload_n 1, 1) := by decide +kernel
theorem dX10_readsSeen_15 : decode cX10_readsSeen 15 = .ok (.invokevirtual 345, 3) := by decide +kernel
theorem dX10_readsSeen_18 : decode cX10_readsSeen 18 = .ok (.return_, 1) := by decide +kernel
theorem dX10_readsSeen_19 : decode cX10_readsSeen 19 = .ok (.aload_n 0, 1) := by decide +kernel
theorem dX10_readsSeen_20 : decode cX10_readsSeen 20 = .ok (.invokevirtual 348, 3) := by decide +kernel
theorem dX10_readsSeen_23 : decode cX10_readsSeen 23 = .ok (.sipush 178, 3) := by decide +kernel
theorem dX10_readsSeen_26 : decode cX10_readsSeen 26 = .ok (.iconst 4, 1) := by decide +kernel
theorem dX10_readsSeen_27 : decode cX10_readsSeen 27 = .ok (.aload_n 0, 1) := by decide +kernel
theorem dX10_readsSeen_28 : decode cX10_readsSeen 28 = .ok (.getfield 17, 3) := by decide +kernel
theorem dX10_readsSeen_31 : decode cX10_readsSeen 31 = .ok (.sipush 177, 3) := by decide +kernel
theorem dX10_readsSeen_34 : decode cX10_readsSeen 34 = .ok (.iaload, 1) := by decide +kernel
theorem dX10_readsSeen_35 : decode cX10_readsSeen 35 = .ok (.imul, 1) := by decide +kernel
theorem dX10_readsSeen_36 : decode cX10_readsSeen 36 = .ok (.iadd, 1) := by decide +kernel
theorem dX10_readsSeen_37 : decode cX10_readsSeen 37 = .ok (.istore_n 2, 1) := by decide +kernel
theorem dX10_readsSeen_38 : decode cX10_readsSeen 38 = .ok (.aload_n 0, 1) := by decide +kernel
theorem dX10_readsSeen_39 : decode cX10_readsSeen 39 = .ok (.getfield 17, 3) := by decide +kernel
theorem dX10_readsSeen_42 : decode cX10_readsSeen 42 = .ok (.iload_n 2, 1) := by decide +kernel
theorem dX10_readsSeen_43 : decode cX10_readsSeen 43 = .ok (.aload_n 0, 1) := by decide +kernel
theorem dX10_readsSeen_44 : decode cX10_readsSeen 44 = .ok (.iconst 0, 1) := by decide +kernel
theorem dX10_readsSeen_45 : decode cX10_readsSeen 45 = .ok (.aload_n 0, 1) := by decide +kernel
theorem dX10_readsSeen_46 : decode cX10_readsSeen 46 = .ok (.getfield 17, 3) := by decide +kernel
theorem dX10_readsSeen_49 : decode cX10_readsSeen 49 = .ok (.bipush 56, 2) := by decide +kernel
theorem dX10_readsSeen_51 : decode cX10_readsSeen 51 = .ok (.iaload, 1) := by decide +kernel
theorem dX10_readsSeen_52 : decode cX10_readsSeen 52 = .ok (.invokevirtual 351, 3) := by decide +kernel
theorem dX10_readsSeen_55 : decode cX10_readsSeen 55 = .ok (.iastore, 1) := by decide +kernel
theorem dX10_readsSeen_56 : decode cX10_readsSeen 56 = .ok (.aload_n 0, 1) := by decide +kernel
theorem dX10_readsSeen_57 : decode cX10_readsSeen 57 = .ok (.getfield 17, 3) := by decide +kernel
theorem dX10_readsSeen_60 : decode cX10_readsSeen 60 = .ok (.iload_n 2, 1) := by decide +kernel
theorem dX10_readsSeen_61 : decode cX10_readsSeen 61 = .ok (.iconst 1, 1) := by decide +kernel
theorem dX10_readsSeen_62 : decode cX10_readsSeen 62 = .ok (.iadd, 1) := by decide +kernel
theorem dX10_readsSeen_63 : decode cX10_readsSeen 63 = .ok (.aload_n 0, 1) := by decide +kernel
theorem dX10_readsSeen_64 : decode cX10_readsSeen 64 = .ok (.iconst 0, 1) := by decide +kernel
theorem dX10_readsSeen_65 : decode cX10_readsSeen 65 = .ok (.aload_n 0, 1) := by decide +kernel
theorem dX10_readsSeen_66 : decode cX10_readsSeen 66 = .ok (.getfield 17, 3) := by decide +kernel
theorem dX10_readsSeen_69 : decode cX10_readsSeen 69 = .ok (.iconst 1, 1) := by decide +kernel
theorem dX10_readsSeen_70 : decode cX10_readsSeen 70 = .ok (.iaload, 1) := by decide +kernel
theorem dX10_readsSeen_71 : decode cX10_readsSeen 71 = .ok (.iconst 1, 1) := by decide +kernel
theorem dX10_readsSeen_72 : decode cX10_readsSeen 72 = .ok (.isub, 1) := by decide +kernel
theorem dX10_readsSeen_73 : decode cX10_readsSeen 73 = .ok (.invokevirtual 351, 3) := by decide +kernel
theorem dX10_readsSeen_76 : decode cX10_readsSeen 76 = .ok (.iastore, 1) := by decide +kernel
theorem dX10_readsSeen_77 : decode cX10_readsSeen 77 = .ok (.aload_n 0, 1) := by decide +kernel
theorem dX10_readsSeen_78 : decode cX10_readsSeen 78 = .ok (.getfield 17, 3) := by decide +kernel
theorem dX10_readsSeen_81 : decode cX10_readsSeen 81 = .ok (.iload_n 2, 1) := by decide +kernel
theorem dX10_readsSeen_82 : decode cX10_readsSeen 82 = .ok (.iconst 2, 1) := by decide +kernel
theorem dX10_readsSeen_83 : decode cX10_readsSeen 83 = .ok (.iadd, 1) := by decide +kernel
theorem dX10_readsSeen_84 : decode cX10_readsSeen 84 = .ok (.aload_n 0, 1) := by decide +kernel
theorem dX10_readsSeen_85 : decode cX10_readsSeen 85 = .ok (.iconst 0, 1) := by decide +kernel
theorem dX10_readsSeen_86 : decode cX10_readsSeen 86 = .ok (.aload_n 0, 1) := by decide +kernel
theorem dX10_readsSeen_87 : decode cX10_readsSeen 87 = .ok (.getfield 17, 3) := by decide +kernel
theorem dX10_readsSeen_90 : decode cX10_readsSeen 90 = .ok (.iconst 0, 1) := by decide +kernel
theorem dX10_readsSeen_91 : decode cX10_readsSeen 91 = .ok (.iaload, 1) := by decide +kernel
theorem dX10_readsSeen_92 : decode cX10_readsSeen 92 = .ok (.iconst 1, 1) := by decide +kernel
theorem dX10_readsSeen_93 : decode cX10_readsSeen 93 = .ok (.isub, 1) := by decide +kernel
theorem dX10_readsSeen_94 : decode cX10_readsSeen 94 = .ok (.invokevirtual 351, 3) := by decide +kernel
theorem dX10_readsSeen_97 : decode cX10_readsSeen 97 = .ok (.iastore, 1) := by decide +kernel
theorem dX10_readsSeen_98 : decode cX10_readsSeen 98 = .ok (.aload_n 0, 1) := by decide +kernel
theorem dX10_readsSeen_99 : decode cX10_readsSeen 99 = .ok (.getfield 17, 3) := by decide +kernel
theorem dX10_readsSeen_102 : decode cX10_readsSeen 102 = .ok (.iload_n 2, 1) := by decide +kernel
theorem dX10_readsSeen_103 : decode cX10_readsSeen 103 = .ok (.iconst 3, 1) := by decide +kernel
theorem dX10_readsSeen_104 : decode cX10_readsSeen 104 = .ok (.iadd, 1) := by decide +kernel
theorem dX10_readsSeen_105 : decode cX10_readsSeen 105 = .ok (.aload_n 0, 1) := by decide +kernel
theorem dX10_readsSeen_106 : decode cX10_readsSeen 106 = .ok (.iconst 0, 1) := by decide +kernel
theorem dX10_readsSeen_107 : decode cX10_readsSeen 107 = .ok (.bipush 99, 2) := by decide +kernel
theorem dX10_readsSeen_109 : decode cX10_readsSeen 109 = .ok (.invokevirtual 351, 3) := by decide +kernel
theorem dX10_readsSeen_112 : decode cX10_readsSeen 112 = .ok (.iastore, 1) := by decide +kernel
theorem dX10_readsSeen_113 : decode cX10_readsSeen 113 = .ok (.aload_n 0, 1) := by decide +kernel
theorem dX10_readsSeen_114 : decode cX10_readsSeen 114 = .ok (.invokevirtual 354, 3) := by decide +kernel
theorem dX10_readsSeen_117 : decode cX10_readsSeen 117 = .ok (.aload_n 0, 1) := by decide +kernel
theorem dX10_readsSeen_118 : decode cX10_readsSeen 118 = .ok (.getfield 17, 3) := by decide +kernel
theorem dX10_readsSeen_121 : decode cX10_readsSeen 121 = .ok (.sipush 177, 3) := by decide +kernel
theorem dX10_readsSeen_124 : decode cX10_readsSeen 124 = .ok (.dup2, 1) := by decide +kernel
theorem dX10_readsSeen_125 : decode cX10_readsSeen 125 = .ok (.iaload, 1) := by decide +kernel
theorem dX10_readsSeen_126 : decode cX10_readsSeen 126 = .ok (.iconst 1, 1) := by decide +kernel
theorem dX10_readsSeen_127 : decode cX10_readsSeen 127 = .ok (.iadd, 1) := by decide +kernel
theorem dX10_readsSeen_128 : decode cX10_readsSeen 128 = .ok (.iastore, 1) := by decide +kernel
theorem dX10_readsSeen_129 : decode cX10_readsSeen 129 = .ok (.return_, 1) := by decide +kernel
theorem dX10_stage_0 : decode cX10_stage 0 = .ok (.iload_n 0, 1) := by decide +kernel
theorem dX10_stage_1 : decode cX10_stage 1 = .ok (.iconst 2, 1) := by decide +kernel
theorem dX10_stage_2 : decode cX10_stage 2 = .ok (.if_icmp .ge 7, 3) := by decide +kernel
theorem dX10_stage_5 : decode cX10_stage 5 = .ok (.iload_n 0, 1) := by decide +kernel
theorem dX10_stage_6 : decode cX10_stage 6 = .ok (.goto 14, 3) := by decide +kernel
theorem dX10_stage_9 : decode cX10_stage 9 = .ok (.iload_n 0, 1) := by decide +kernel
theorem dX10_stage_10 : decode cX10_stage 10 = .ok (.bipush 7, 2) := by decide +kernel
theorem dX10_stage_12 : decode cX10_stage 12 = .ok (.if_icmp .ge 7, 3) := by decide +kernel
theorem dX10_stage_15 : decode cX10_stage 15 = .ok (.iconst 2, 1) := by decide +kernel
theorem dX10_stage_16 : decode cX10_stage 16 = .ok (.goto 4, 3) := by decide +kernel
theorem dX10_stage_19 : decode cX10_stage 19 = .ok (.iconst 3, 1) := by decide +kernel
theorem dX10_stage_20 : decode cX10_stage 20 = .ok (.ireturn, 1) := by decide +kernel
theorem dX10_lineHere_0 : decode cX10_lineHere 0 = .ok (.iconst 0, 1) := by decide +kernel
theorem dX10_lineHere_1 : decode cX10_lineHere 1 = .ok (.istore_n 1, 1) := by decide +kernel
theorem dX10_lineHere_2 : decode cX10_lineHere 2 = .ok (.iload_n 1, 1) := by decide +kernel
theorem dX10_lineHere_3 : decode cX10_lineHere 3 = .ok (.bipush 8, 2) := by decide +kernel
theorem dX10_lineHere_5 : decode cX10_lineHere 5 = .ok (.if_icmp .ge 19, 3) := by decide +kernel
theorem dX10_lineHere_8 : decode cX10_lineHere 8 = .ok (.aload_n 0, 1) := by decide +kernel
theorem dX10_lineHere_9 : decode cX10_lineHere 9 = .ok (.iload_n 1, 1) := by decide +kernel
theorem dX10_lineHere_10 : decode cX10_lineHere 10 = .ok (.invokevirtual 360, 3) := by decide +kernel
theorem dX10_lineHere_13 : decode cX10_lineHere 13 = .ok (.ifCond .eq 5, 3) := by decide +kernel
theorem dX10_lineHere_16 : decode cX10_lineHere 16 = .ok (.iload_n 1, 1) := by decide +kernel
theorem dX10_lineHere_17 : decode cX10_lineHere 17 = .ok (.ireturn, 1) := by decide +kernel
theorem dX10_lineHere_18 : decode cX10_lineHere 18 = .ok (.iinc 1 1, 3) := by decide +kernel
theorem dX10_lineHere_21 : decode cX10_lineHere 21 = .ok (.goto (-19), 3) := by decide +kernel
theorem dX10_lineHere_24 : decode cX10_lineHere 24 = .ok (.iconst (-1), 1) := by decide +kernel
theorem dX10_lineHere_25 : decode cX10_lineHere 25 = .ok (.ireturn, 1) := by decide +kernel
theorem dX10_readsAll_0 : decode cX10_readsAll 0 = .ok (.iconst 0, 1) := by decide +kernel
theorem dX10_readsAll_1 : decode cX10_readsAll 1 = .ok (.istore_n 1, 1) := by decide +kernel
theorem dX10_readsAll_2 : decode cX10_readsAll 2 = .ok (.aload_n 0, 1) := by decide +kernel
theorem dX10_readsAll_3 : decode cX10_readsAll 3 = .ok (.getfield 342, 3) := by decide +kernel
theorem dX10_readsAll_6 : decode cX10_readsAll 6 = .ok (.iconst (-1), 1) := by decide +kernel
theorem dX10_readsAll_7 : decode cX10_readsAll 7 = .ok (.if_icmp .ne 143, 3) := by decide +kernel
theorem dX10_readsAll_10 : decode cX10_readsAll 10 = .ok (.aload_n 0, 1) := by decide +kernel
theorem dX10_readsAll_11 : decode cX10_readsAll 11 = .ok (.getfield 322, 3) := by decide +kernel
theorem dX10_readsAll_14 : decode cX10_readsAll 14 = .ok (.ifCond .eq 136, 3) := by decide +kernel
theorem dX10_readsAll_17 : decode cX10_readsAll 17 = .ok (.aload_n 0, 1) := by decide +kernel
theorem dX10_readsAll_18 : decode cX10_readsAll 18 = .ok (.getfield 328, 3) := by decide +kernel
theorem dX10_readsAll_21 : decode cX10_readsAll 21 = .ok (.istore_n 2, 1) := by decide +kernel
theorem dX10_readsAll_22 : decode cX10_readsAll 22 = .ok (.aload_n 0, 1) := by decide +kernel
theorem dX10_readsAll_23 : decode cX10_readsAll 23 = .ok (.invokevirtual 363, 3) := by decide +kernel
theorem dX10_readsAll_26 : decode cX10_readsAll 26 = .ok (.istore_n 3, 1) := by decide +kernel
theorem dX10_readsAll_27 : decode cX10_readsAll 27 = .ok (.iload_n 3, 1) := by decide +kernel
theorem dX10_readsAll_28 : decode cX10_readsAll 28 = .ok (.iconst (-1), 1) := by decide +kernel
theorem dX10_readsAll_29 : decode cX10_readsAll 29 = .ok (.if_icmp .eq 11, 3) := by decide +kernel
theorem dX10_readsAll_32 : decode cX10_readsAll 32 = .ok (.iload_n 3, 1) := by decide +kernel
theorem dX10_readsAll_33 : decode cX10_readsAll 33 = .ok (.invokestatic 366, 3) := by decide +kernel
theorem dX10_readsAll_36 : decode cX10_readsAll 36 = .ok (.iload_n 1, 1) := by decide +kernel
theorem dX10_readsAll_37 : decode cX10_readsAll 37 = .ok (.if_icmp .ge 9, 3) := by decide +kernel
theorem dX10_readsAll_40 : decode cX10_readsAll 40 = .ok (.aload_n 0, 1) := by decide +kernel
theorem dX10_readsAll_41 : decode cX10_readsAll 41 = .ok (.iload_n 2, 1) := by decide +kernel
theorem dX10_readsAll_42 : decode cX10_readsAll 42 = .ok (.invokevirtual 345, 3) := by decide +kernel
theorem dX10_readsAll_45 : decode cX10_readsAll 45 = .ok (.return_, 1) := by decide +kernel
theorem dX10_readsAll_46 : decode cX10_readsAll 46 = .ok (.iload_n 1, 1) := by decide +kernel
theorem dX10_readsAll_47 : decode cX10_readsAll 47 = .ok (.iconst 2, 1) := by decide +kernel
theorem dX10_readsAll_48 : decode cX10_readsAll 48 = .ok (.if_icmp .ge 47, 3) := by decide +kernel
theorem dX10_readsAll_51 : decode cX10_readsAll 51 = .ok (.iload_n 3, 1) := by decide +kernel
theorem dX10_readsAll_52 : decode cX10_readsAll 52 = .ok (.invokestatic 366, 3) := by decide +kernel
theorem dX10_readsAll_55 : decode cX10_readsAll 55 = .ok (.iconst 2, 1) := by decide +kernel
theorem dX10_readsAll_56 : decode cX10_readsAll 56 = .ok (.if_icmp .lt 39, 3) := by decide +kernel
theorem dX10_readsAll_59 : decode cX10_readsAll 59 = .ok (.iconst 0, 1) := by decide +kernel
theorem dX10_readsAll_60 : decode cX10_readsAll 60 = .ok (.istore 4, 2) := by decide +kernel
theorem dX10_readsAll_62 : decode cX10_readsAll 62 = .ok (.iload 4, 2) := by decide +kernel
theorem dX10_readsAll_64 : decode cX10_readsAll 64 = .ok (.bipush 24, 2) := by decide +kernel
theorem dX10_readsAll_66 : decode cX10_readsAll 66 = .ok (.if_icmp .ge 29, 3) := by decide +kernel
theorem dX10_readsAll_69 : decode cX10_readsAll 69 = .ok (.aload_n 0, 1) := by decide +kernel
theorem dX10_readsAll_70 : decode cX10_readsAll 70 = .ok (.getfield 17, 3) := by decide +kernel
theorem dX10_readsAll_73 : decode cX10_readsAll 73 = .ok (.bipush 32, 2) := by decide +kernel
theorem dX10_readsAll_75 : decode cX10_readsAll 75 = .ok (.iload 4, 2) := by decide +kernel
theorem dX10_readsAll_77 : decode cX10_readsAll 77 = .ok (.iadd, 1) := by decide +kernel
theorem dX10_readsAll_78 : decode cX10_readsAll 78 = .ok (.aload_n 0, 1) := by decide +kernel
theorem dX10_readsAll_79 : decode cX10_readsAll 79 = .ok (.getfield 17, 3) := by decide +kernel
theorem dX10_readsAll_82 : decode cX10_readsAll 82 = .ok (.bipush 8, 2) := by decide +kernel
theorem dX10_readsAll_84 : decode cX10_readsAll 84 = .ok (.iload 4, 2) := by decide +kernel
theorem dX10_readsAll_86 : decode cX10_readsAll 86 = .ok (.iadd, 1) := by decide +kernel
theorem dX10_readsAll_87 : decode cX10_readsAll 87 = .ok (.iaload, 1) := by decide +kernel
theorem dX10_readsAll_88 : decode cX10_readsAll 88 = .ok (.iastore, 1) := by decide +kernel
theorem dX10_readsAll_89 : decode cX10_readsAll 89 = .ok (.iinc 4 1, 3) := by decide +kernel
theorem dX10_readsAll_92 : decode cX10_readsAll 92 = .ok (.goto (-30), 3) := by decide +kernel
theorem dX10_readsAll_95 : decode cX10_readsAll 95 = .ok (.iload_n 3, 1) := by decide +kernel
theorem dX10_readsAll_96 : decode cX10_readsAll 96 = .ok (.invokestatic 366, 3) := by decide +kernel
theorem dX10_readsAll_99 : decode cX10_readsAll 99 = .ok (.istore_n 1, 1) := by decide +kernel
theorem dX10_readsAll_100 : decode cX10_readsAll 100 = .ok (.iload_n 3, 1) := by decide +kernel
theorem dX10_readsAll_101 : decode cX10_readsAll 101 = .ok (.ifCond .ne 11, 3) := by decide +kernel
theorem dX10_readsAll_104 : decode cX10_readsAll 104 = .ok (.aload_n 0, 1) := by decide +kernel
theorem dX10_readsAll_105 : decode cX10_readsAll 105 = .ok (.iload_n 2, 1) := by decide +kernel
theorem dX10_readsAll_106 : decode cX10_readsAll 106 = .ok (.invokevirtual 369, 3) := by decide +kernel
theorem dX10_readsAll_109 : decode cX10_readsAll 109 = .ok (.goto 38, 3) := by decide +kernel
theorem dX10_readsAll_112 : decode cX10_readsAll 112 = .ok (.iload_n 3, 1) := by decide +kernel
theorem dX10_readsAll_113 : decode cX10_readsAll 113 = .ok (.iconst 1, 1) := by decide +kernel
theorem dX10_readsAll_114 : decode cX10_readsAll 114 = .ok (.if_icmp .ne 11, 3) := by decide +kernel
theorem dX10_readsAll_117 : decode cX10_readsAll 117 = .ok (.aload_n 0, 1) := by decide +kernel
theorem dX10_readsAll_118 : decode cX10_readsAll 118 = .ok (.iload_n 2, 1) := by decide +kernel
theorem dX10_readsAll_119 : decode cX10_readsAll 119 = .ok (.invokevirtual 372, 3) := by decide +kernel
theorem dX10_readsAll_122 : decode cX10_readsAll 122 = .ok (.goto 25, 3) := by decide +kernel
theorem dX10_readsAll_125 : decode cX10_readsAll 125 = .ok (.iload_n 3, 1) := by decide +kernel
theorem dX10_readsAll_126 : decode cX10_readsAll 126 = .ok (.bipush 7, 2) := by decide +kernel
theorem dX10_readsAll_128 : decode cX10_readsAll 128 = .ok (.if_icmp .ne 11, 3) := by decide +kernel
theorem dX10_readsAll_131 : decode cX10_readsAll 131 = .ok (.aload_n 0, 1) := by decide +kernel
theorem dX10_readsAll_132 : decode cX10_readsAll 132 = .ok (.iload_n 2, 1) := by decide +kernel
theorem dX10_readsAll_133 : decode cX10_readsAll 133 = .ok (.invokevirtual 375, 3) := by decide +kernel
theorem dX10_readsAll_136 : decode cX10_readsAll 136 = .ok (.goto 11, 3) := by decide +kernel
theorem dX10_readsAll_139 : decode cX10_readsAll 139 = .ok (.aload_n 0, 1) := by decide +kernel
theorem dX10_readsAll_140 : decode cX10_readsAll 140 = .ok (.iload_n 2, 1) := by decide +kernel
theorem dX10_readsAll_141 : decode cX10_readsAll 141 = .ok (.iload_n 3, 1) := by decide +kernel
theorem dX10_readsAll_142 : decode cX10_readsAll 142 = .ok (.iconst 2, 1) := by decide +kernel
theorem dX10_readsAll_143 : decode cX10_readsAll 143 = .ok (.isub, 1) := by decide +kernel
theorem dX10_readsAll_144 : decode cX10_readsAll 144 = .ok (.invokevirtual 378, 3) := by decide +kernel
theorem dX10_readsAll_147 : decode cX10_readsAll 147 = .ok (.goto (-145), 3) := by decide +kernel
theorem dX10_readsAll_150 : decode cX10_readsAll 150 = .ok (.iload_n 1, 1) := by decide +kernel
theorem dX10_readsAll_151 : decode cX10_readsAll 151 = .ok (.iconst 2, 1) := by decide +kernel
theorem dX10_readsAll_152 : decode cX10_readsAll 152 = .ok (.if_icmp .ge 35, 3) := by decide +kernel
theorem dX10_readsAll_155 : decode cX10_readsAll 155 = .ok (.iconst 0, 1) := by decide +kernel
theorem dX10_readsAll_156 : decode cX10_readsAll 156 = .ok (.istore_n 2, 1) := by decide +kernel
theorem dX10_readsAll_157 : decode cX10_readsAll 157 = .ok (.iload_n 2, 1) := by decide +kernel
theorem dX10_readsAll_158 : decode cX10_readsAll 158 = .ok (.bipush 24, 2) := by decide +kernel
theorem dX10_readsAll_160 : decode cX10_readsAll 160 = .ok (.if_icmp .ge 27, 3) := by decide +kernel
theorem dX10_readsAll_163 : decode cX10_readsAll 163 = .ok (.aload_n 0, 1) := by decide +kernel
theorem dX10_readsAll_164 : decode cX10_readsAll 164 = .ok (.getfield 17, 3) := by decide +kernel
theorem dX10_readsAll_167 : decode cX10_readsAll 167 = .ok (.bipush 32, 2) := by decide +kernel
theorem dX10_readsAll_169 : decode cX10_readsAll 169 = .ok (.iload_n 2, 1) := by decide +kernel
theorem dX10_readsAll_170 : decode cX10_readsAll 170 = .ok (.iadd, 1) := by decide +kernel
theorem dX10_readsAll_171 : decode cX10_readsAll 171 = .ok (.aload_n 0, 1) := by decide +kernel
theorem dX10_readsAll_172 : decode cX10_readsAll 172 = .ok (.getfield 17, 3) := by decide +kernel
theorem dX10_readsAll_175 : decode cX10_readsAll 175 = .ok (.bipush 8, 2) := by decide +kernel
theorem dX10_readsAll_177 : decode cX10_readsAll 177 = .ok (.iload_n 2, 1) := by decide +kernel
theorem dX10_readsAll_178 : decode cX10_readsAll 178 = .ok (.iadd, 1) := by decide +kernel
theorem dX10_readsAll_179 : decode cX10_readsAll 179 = .ok (.iaload, 1) := by decide +kernel
theorem dX10_readsAll_180 : decode cX10_readsAll 180 = .ok (.iastore, 1) := by decide +kernel
theorem dX10_readsAll_181 : decode cX10_readsAll 181 = .ok (.iinc 2 1, 3) := by decide +kernel
theorem dX10_readsAll_184 : decode cX10_readsAll 184 = .ok (.goto (-27), 3) := by decide +kernel
theorem dX10_readsAll_187 : decode cX10_readsAll 187 = .ok (.return_, 1) := by decide +kernel
theorem dX10_text_0 : decode cX10_text 0 = .ok (.iconst 0, 1) := by decide +kernel
theorem dX10_text_1 : decode cX10_text 1 = .ok (.istore_n 1, 1) := by decide +kernel
theorem dX10_text_2 : decode cX10_text 2 = .ok (.iload_n 1, 1) := by decide +kernel
theorem dX10_text_3 : decode cX10_text 3 = .ok (.sipush 226, 3) := by decide +kernel
theorem dX10_text_6 : decode cX10_text 6 = .ok (.if_icmp .ge 16, 3) := by decide +kernel
theorem dX10_text_9 : decode cX10_text 9 = .ok (.aload_n 0, 1) := by decide +kernel
theorem dX10_text_10 : decode cX10_text 10 = .ok (.getfield 17, 3) := by decide +kernel
theorem dX10_text_13 : decode cX10_text 13 = .ok (.iload_n 1, 1) := by decide +kernel
theorem dX10_text_14 : decode cX10_text 14 = .ok (.iconst 0, 1) := by decide +kernel
theorem dX10_text_15 : decode cX10_text 15 = .ok (.iastore, 1) := by decide +kernel
theorem dX10_text_16 : decode cX10_text 16 = .ok (.iinc 1 1, 3) := by decide +kernel
theorem dX10_text_19 : decode cX10_text 19 = .ok (.goto (-17), 3) := by decide +kernel
theorem dX10_text_22 : decode cX10_text 22 = .ok (.aload_n 0, 1) := by decide +kernel
theorem dX10_text_23 : decode cX10_text 23 = .ok (.iconst 0, 1) := by decide +kernel
theorem dX10_text_24 : decode cX10_text 24 = .ok (.putfield 319, 3) := by decide +kernel
theorem dX10_text_27 : decode cX10_text 27 = .ok (.aload_n 0, 1) := by decide +kernel
theorem dX10_text_28 : decode cX10_text 28 = .ok (.iconst 3, 1) := by decide +kernel
theorem dX10_text_29 : decode cX10_text 29 = .ok (.putfield 322, 3) := by decide +kernel
theorem dX10_text_32 : decode cX10_text 32 = .ok (.aload_n 0, 1) := by decide +kernel
theorem dX10_text_33 : decode cX10_text 33 = .ok (.iconst (-1), 1) := by decide +kernel
theorem dX10_text_34 : decode cX10_text 34 = .ok (.putfield 342, 3) := by decide +kernel
theorem dX10_text_37 : decode cX10_text 37 = .ok (.aload_n 0, 1) := by decide +kernel
theorem dX10_text_38 : decode cX10_text 38 = .ok (.invokevirtual 348, 3) := by decide +kernel
theorem dX10_text_41 : decode cX10_text 41 = .ok (.aload_n 0, 1) := by decide +kernel
theorem dX10_text_42 : decode cX10_text 42 = .ok (.invokevirtual 382, 3) := by decide +kernel
theorem dX10_text_45 : decode cX10_text 45 = .ok (.aload_n 0, 1) := by decide +kernel
theorem dX10_text_46 : decode cX10_text 46 = .ok (.iconst 0, 1) := by decide +kernel
theorem dX10_text_47 : decode cX10_text 47 = .ok (.putfield 309, 3) := by decide +kernel
theorem dX10_text_50 : decode cX10_text 50 = .ok (.aload_n 0, 1) := by decide +kernel
theorem dX10_text_51 : decode cX10_text 51 = .ok (.getfield 342, 3) := by decide +kernel
theorem dX10_text_54 : decode cX10_text 54 = .ok (.iconst (-1), 1) := by decide +kernel
theorem dX10_text_55 : decode cX10_text 55 = .ok (.if_icmp .eq 11, 3) := by decide +kernel
theorem dX10_text_58 : decode cX10_text 58 = .ok (.bipush (-4), 2) := by decide +kernel
theorem dX10_text_60 : decode cX10_text 60 = .ok (.aload_n 0, 1) := by decide +kernel
theorem dX10_text_61 : decode cX10_text 61 = .ok (.getfield 342, 3) := by decide +kernel
theorem dX10_text_64 : decode cX10_text 64 = .ok (.isub, 1) := by decide +kernel
theorem dX10_text_65 : decode cX10_text 65 = .ok (.ireturn, 1) := by decide +kernel
theorem dX10_text_66 : decode cX10_text 66 = .ok (.iconst 0, 1) := by decide +kernel
theorem dX10_text_67 : decode cX10_text 67 = .ok (.istore_n 1, 1) := by decide +kernel
theorem dX10_text_68 : decode cX10_text 68 = .ok (.iload_n 1, 1) := by decide +kernel
theorem dX10_text_69 : decode cX10_text 69 = .ok (.sipush 226, 3) := by decide +kernel
theorem dX10_text_72 : decode cX10_text 72 = .ok (.if_icmp .ge 21, 3) := by decide +kernel
theorem dX10_text_75 : decode cX10_text 75 = .ok (.aload_n 0, 1) := by decide +kernel
theorem dX10_text_76 : decode cX10_text 76 = .ok (.getfield 13, 3) := by decide +kernel
theorem dX10_text_79 : decode cX10_text 79 = .ok (.iload_n 1, 1) := by decide +kernel
theorem dX10_text_80 : decode cX10_text 80 = .ok (.aload_n 0, 1) := by decide +kernel
theorem dX10_text_81 : decode cX10_text 81 = .ok (.getfield 17, 3) := by decide +kernel
theorem dX10_text_84 : decode cX10_text 84 = .ok (.iload_n 1, 1) := by decide +kernel
theorem dX10_text_85 : decode cX10_text 85 = .ok (.iaload, 1) := by decide +kernel
theorem dX10_text_86 : decode cX10_text 86 = .ok (.iastore, 1) := by decide +kernel
theorem dX10_text_87 : decode cX10_text 87 = .ok (.iinc 1 1, 3) := by decide +kernel
theorem dX10_text_90 : decode cX10_text 90 = .ok (.goto (-22), 3) := by decide +kernel
theorem dX10_text_93 : decode cX10_text 93 = .ok (.aload_n 0, 1) := by decide +kernel
theorem dX10_text_94 : decode cX10_text 94 = .ok (.iconst 0, 1) := by decide +kernel
theorem dX10_text_95 : decode cX10_text 95 = .ok (.putfield 83, 3) := by decide +kernel
theorem dX10_text_98 : decode cX10_text 98 = .ok (.aload_n 0, 1) := by decide +kernel
theorem dX10_text_99 : decode cX10_text 99 = .ok (.getfield 13, 3) := by decide +kernel
theorem dX10_text_102 : decode cX10_text 102 = .ok (.iconst 1, 1) := by decide +kernel
theorem dX10_text_103 : decode cX10_text 103 = .ok (.iaload, 1) := by decide +kernel
theorem dX10_text_104 : decode cX10_text 104 = .ok (.ireturn, 1) := by decide +kernel
