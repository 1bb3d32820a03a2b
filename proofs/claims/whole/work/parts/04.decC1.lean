theorem dX2_findSlides_25 : decode cX2_findSlides 25 = .ok (.iload_n 2, 1) := by decide +kernel
theorem dX2_findSlides_26 : decode cX2_findSlides 26 = .ok (.aload_n 0, 1) := by decide +kernel
theorem dX2_findSlides_27 : decode cX2_findSlides 27 = .ok (.getfield 114, 3) := by decide +kernel
theorem dX2_findSlides_30 : decode cX2_findSlides 30 = .ok (.if_icmp .gt 97, 3) := by decide +kernel
theorem dX2_findSlides_33 : decode cX2_findSlides 33 = .ok (.iconst 0, 1) := by decide +kernel
theorem dX2_findSlides_34 : decode cX2_findSlides 34 = .ok (.istore_n 3, 1) := by decide +kernel
theorem dX2_findSlides_35 : decode cX2_findSlides 35 = .ok (.iload_n 3, 1) := by decide +kernel
theorem dX2_findSlides_36 : decode cX2_findSlides 36 = .ok (.aload_n 1, 1) := by decide +kernel
theorem dX2_findSlides_37 : decode cX2_findSlides 37 = .ok (.getfield 98, 3) := by decide +kernel
theorem dX2_findSlides_40 : decode cX2_findSlides 40 = .ok (.if_icmp .ge 81, 3) := by decide +kernel
theorem dX2_findSlides_43 : decode cX2_findSlides 43 = .ok (.iconst 0, 1) := by decide +kernel
theorem dX2_findSlides_44 : decode cX2_findSlides 44 = .ok (.istore 4, 2) := by decide +kernel
theorem dX2_findSlides_46 : decode cX2_findSlides 46 = .ok (.iload 4, 2) := by decide +kernel
theorem dX2_findSlides_48 : decode cX2_findSlides 48 = .ok (.aload_n 1, 1) := by decide +kernel
theorem dX2_findSlides_49 : decode cX2_findSlides 49 = .ok (.getfield 126, 3) := by decide +kernel
theorem dX2_findSlides_52 : decode cX2_findSlides 52 = .ok (.if_icmp .ge 63, 3) := by decide +kernel
theorem dX2_findSlides_55 : decode cX2_findSlides 55 = .ok (.aload_n 0, 1) := by decide +kernel
theorem dX2_findSlides_56 : decode cX2_findSlides 56 = .ok (.aload_n 1, 1) := by decide +kernel
theorem dX2_findSlides_57 : decode cX2_findSlides 57 = .ok (.iload_n 2, 1) := by decide +kernel
theorem dX2_findSlides_58 : decode cX2_findSlides 58 = .ok (.iload_n 3, 1) := by decide +kernel
theorem dX2_findSlides_59 : decode cX2_findSlides 59 = .ok (.bipush 6, 2) := by decide +kernel
theorem dX2_findSlides_61 : decode cX2_findSlides 61 = .ok (.imul, 1) := by decide +kernel
theorem dX2_findSlides_62 : decode cX2_findSlides 62 = .ok (.iload 4, 2) := by decide +kernel
theorem dX2_findSlides_64 : decode cX2_findSlides 64 = .ok (.iadd, 1) := by decide +kernel
theorem dX2_findSlides_65 : decode cX2_findSlides 65 = .ok (.iconst 0, 1) := by decide +kernel
theorem dX2_findSlides_66 : decode cX2_findSlides 66 = .ok (.iload 4, 2) := by decide +kernel
theorem dX2_findSlides_68 : decode cX2_findSlides 68 = .ok (.ifCond .le 7, 3) := by decide +kernel
theorem dX2_findSlides_71 : decode cX2_findSlides 71 = .ok (.iconst 1, 1) := by decide +kernel
theorem dX2_findSlides_72 : decode cX2_findSlides 72 = .ok (.goto 4, 3) := by decide +kernel
theorem dX2_findSlides_75 : decode cX2_findSlides 75 = .ok (.iconst 0, 1) := by decide +kernel
theorem dX2_findSlides_76 : decode cX2_findSlides 76 = .ok (.invokevirtual 149, 3) := by decide +kernel
theorem dX2_findSlides_79 : decode cX2_findSlides 79 = .ok (.aload_n 0, 1) := by decide +kernel
theorem dX2_findSlides_80 : decode cX2_findSlides 80 = .ok (.aload_n 1, 1) := by decide +kernel
theorem dX2_findSlides_81 : decode cX2_findSlides 81 = .ok (.iload_n 2, 1) := by decide +kernel
theorem dX2_findSlides_82 : decode cX2_findSlides 82 = .ok (.iload_n 3, 1) := by decide +kernel
theorem dX2_findSlides_83 : decode cX2_findSlides 83 = .ok (.bipush 6, 2) := by decide +kernel
theorem dX2_findSlides_85 : decode cX2_findSlides 85 = .ok (.imul, 1) := by decide +kernel
theorem dX2_findSlides_86 : decode cX2_findSlides 86 = .ok (.iload 4, 2) := by decide +kernel
theorem dX2_findSlides_88 : decode cX2_findSlides 88 = .ok (.iadd, 1) := by decide +kernel
theorem dX2_findSlides_89 : decode cX2_findSlides 89 = .ok (.iconst 1, 1) := by decide +kernel
theorem dX2_findSlides_90 : decode cX2_findSlides 90 = .ok (.iload 4, 2) := by decide +kernel
theorem dX2_findSlides_92 : decode cX2_findSlides 92 = .ok (.iconst 1, 1) := by decide +kernel
theorem dX2_findSlides_93 : decode cX2_findSlides 93 = .ok (.iadd, 1) := by decide +kernel
theorem dX2_findSlides_94 : decode cX2_findSlides 94 = .ok (.aload_n 1, 1) := by decide +kernel
theorem dX2_findSlides_95 : decode cX2_findSlides 95 = .ok (.getfield 126, 3) := by decide +kernel
theorem dX2_findSlides_98 : decode cX2_findSlides 98 = .ok (.if_icmp .ge 7, 3) := by decide +kernel
theorem dX2_findSlides_101 : decode cX2_findSlides 101 = .ok (.iconst 1, 1) := by decide +kernel
theorem dX2_findSlides_102 : decode cX2_findSlides 102 = .ok (.goto 4, 3) := by decide +kernel
theorem dX2_findSlides_105 : decode cX2_findSlides 105 = .ok (.iconst 0, 1) := by decide +kernel
theorem dX2_findSlides_106 : decode cX2_findSlides 106 = .ok (.invokevirtual 149, 3) := by decide +kernel
theorem dX2_findSlides_109 : decode cX2_findSlides 109 = .ok (.iinc 4 1, 3) := by decide +kernel
theorem dX2_findSlides_112 : decode cX2_findSlides 112 = .ok (.goto (-66), 3) := by decide +kernel
theorem dX2_findSlides_115 : decode cX2_findSlides 115 = .ok (.iinc 3 1, 3) := by decide +kernel
theorem dX2_findSlides_118 : decode cX2_findSlides 118 = .ok (.goto (-83), 3) := by decide +kernel
theorem dX2_findSlides_121 : decode cX2_findSlides 121 = .ok (.iinc 2 1, 3) := by decide +kernel
theorem dX2_findSlides_124 : decode cX2_findSlides 124 = .ok (.goto (-99), 3) := by decide +kernel
theorem dX2_findSlides_127 : decode cX2_findSlides 127 = .ok (.return_, 1) := by decide +kernel
theorem dX2_trySlide_0 : decode cX2_trySlide 0 = .ok (.iload 5, 2) := by decide +kernel
theorem dX2_trySlide_2 : decode cX2_trySlide 2 = .ok (.ifCond .eq 13, 3) := by decide +kernel
theorem dX2_trySlide_5 : decode cX2_trySlide 5 = .ok (.aload_n 0, 1) := by decide +kernel
theorem dX2_trySlide_6 : decode cX2_trySlide 6 = .ok (.getfield 146, 3) := by decide +kernel
theorem dX2_trySlide_9 : decode cX2_trySlide 9 = .ok (.sipush 1000, 3) := by decide +kernel
theorem dX2_trySlide_12 : decode cX2_trySlide 12 = .ok (.if_icmp .lt 4, 3) := by decide +kernel
theorem dX2_trySlide_15 : decode cX2_trySlide 15 = .ok (.return_, 1) := by decide +kernel
theorem dX2_trySlide_16 : decode cX2_trySlide 16 = .ok (.aload_n 0, 1) := by decide +kernel
theorem dX2_trySlide_17 : decode cX2_trySlide 17 = .ok (.getfield 42, 3) := by decide +kernel
theorem dX2_trySlide_20 : decode cX2_trySlide 20 = .ok (.iload_n 3, 1) := by decide +kernel
theorem dX2_trySlide_21 : decode cX2_trySlide 21 = .ok (.iload 4, 2) := by decide +kernel
theorem dX2_trySlide_23 : decode cX2_trySlide 23 = .ok (.invokevirtual 153, 3) := by decide +kernel
theorem dX2_trySlide_26 : decode cX2_trySlide 26 = .ok (.aload_n 0, 1) := by decide +kernel
theorem dX2_trySlide_27 : decode cX2_trySlide 27 = .ok (.aload_n 1, 1) := by decide +kernel
theorem dX2_trySlide_28 : decode cX2_trySlide 28 = .ok (.iload_n 2, 1) := by decide +kernel
theorem dX2_trySlide_29 : decode cX2_trySlide 29 = .ok (.invokevirtual 157, 3) := by decide +kernel
theorem dX2_trySlide_32 : decode cX2_trySlide 32 = .ok (.ifCond .eq 41, 3) := by decide +kernel
theorem dX2_trySlide_35 : decode cX2_trySlide 35 = .ok (.aload_n 0, 1) := by decide +kernel
theorem dX2_trySlide_36 : decode cX2_trySlide 36 = .ok (.getfield 27, 3) := by decide +kernel
theorem dX2_trySlide_39 : decode cX2_trySlide 39 = .ok (.aload_n 0, 1) := by decide +kernel
theorem dX2_trySlide_40 : decode cX2_trySlide 40 = .ok (.getfield 146, 3) := by decide +kernel
theorem dX2_trySlide_43 : decode cX2_trySlide 43 = .ok (.iload_n 2, 1) := by decide +kernel
theorem dX2_trySlide_44 : decode cX2_trySlide 44 = .ok (.bipush 24, 2) := by decide +kernel
theorem dX2_trySlide_46 : decode cX2_trySlide 46 = .ok (.imul, 1) := by decide +kernel
theorem dX2_trySlide_47 : decode cX2_trySlide 47 = .ok (.iload_n 3, 1) := by decide +kernel
theorem dX2_trySlide_48 : decode cX2_trySlide 48 = .ok (.iadd, 1) := by decide +kernel
theorem dX2_trySlide_49 : decode cX2_trySlide 49 = .ok (.iconst 2, 1) := by decide +kernel
theorem dX2_trySlide_50 : decode cX2_trySlide 50 = .ok (.imul, 1) := by decide +kernel
theorem dX2_trySlide_51 : decode cX2_trySlide 51 = .ok (.iload 4, 2) := by decide +kernel
theorem dX2_trySlide_53 : decode cX2_trySlide 53 = .ok (.ifCond .eq 7, 3) := by decide +kernel
theorem dX2_trySlide_56 : decode cX2_trySlide 56 = .ok (.iconst 1, 1) := by decide +kernel
theorem dX2_trySlide_57 : decode cX2_trySlide 57 = .ok (.goto 4, 3) := by decide +kernel
theorem dX2_trySlide_60 : decode cX2_trySlide 60 = .ok (.iconst 0, 1) := by decide +kernel
theorem dX2_trySlide_61 : decode cX2_trySlide 61 = .ok (.iadd, 1) := by decide +kernel
theorem dX2_trySlide_62 : decode cX2_trySlide 62 = .ok (.iastore, 1) := by decide +kernel
theorem dX2_trySlide_63 : decode cX2_trySlide 63 = .ok (.aload_n 0, 1) := by decide +kernel
theorem dX2_trySlide_64 : decode cX2_trySlide 64 = .ok (.dup, 1) := by decide +kernel
theorem dX2_trySlide_65 : decode cX2_trySlide 65 = .ok (.getfield 146, 3) := by decide +kernel
theorem dX2_trySlide_68 : decode cX2_trySlide 68 = .ok (.iconst 1, 1) := by decide +kernel
theorem dX2_trySlide_69 : decode cX2_trySlide 69 = .ok (.iadd, 1) := by decide +kernel
theorem dX2_trySlide_70 : decode cX2_trySlide 70 = .ok (.putfield 146, 3) := by decide +kernel
theorem dX2_trySlide_73 : decode cX2_trySlide 73 = .ok (.return_, 1) := by decide +kernel
theorem dX2_slideTime_0 : decode cX2_slideTime 0 = .ok (.aload_n 0, 1) := by decide +kernel
theorem dX2_slideTime_1 : decode cX2_slideTime 1 = .ok (.getfield 27, 3) := by decide +kernel
theorem dX2_slideTime_4 : decode cX2_slideTime 4 = .ok (.iload_n 1, 1) := by decide +kernel
theorem dX2_slideTime_5 : decode cX2_slideTime 5 = .ok (.iaload, 1) := by decide +kernel
theorem dX2_slideTime_6 : decode cX2_slideTime 6 = .ok (.bipush 48, 2) := by decide +kernel
theorem dX2_slideTime_8 : decode cX2_slideTime 8 = .ok (.idiv, 1) := by decide +kernel
theorem dX2_slideTime_9 : decode cX2_slideTime 9 = .ok (.ireturn, 1) := by decide +kernel
theorem dX2_slideCell_0 : decode cX2_slideCell 0 = .ok (.aload_n 0, 1) := by decide +kernel
theorem dX2_slideCell_1 : decode cX2_slideCell 1 = .ok (.getfield 27, 3) := by decide +kernel
theorem dX2_slideCell_4 : decode cX2_slideCell 4 = .ok (.iload_n 1, 1) := by decide +kernel
theorem dX2_slideCell_5 : decode cX2_slideCell 5 = .ok (.iaload, 1) := by decide +kernel
theorem dX2_slideCell_6 : decode cX2_slideCell 6 = .ok (.iconst 2, 1) := by decide +kernel
theorem dX2_slideCell_7 : decode cX2_slideCell 7 = .ok (.idiv, 1) := by decide +kernel
theorem dX2_slideCell_8 : decode cX2_slideCell 8 = .ok (.bipush 24, 2) := by decide +kernel
theorem dX2_slideCell_10 : decode cX2_slideCell 10 = .ok (.irem, 1) := by decide +kernel
theorem dX2_slideCell_11 : decode cX2_slideCell 11 = .ok (.ireturn, 1) := by decide +kernel
theorem dX2_slidesUp_0 : decode cX2_slidesUp 0 = .ok (.aload_n 0, 1) := by decide +kernel
theorem dX2_slidesUp_1 : decode cX2_slidesUp 1 = .ok (.getfield 27, 3) := by decide +kernel
theorem dX2_slidesUp_4 : decode cX2_slidesUp 4 = .ok (.iload_n 1, 1) := by decide +kernel
theorem dX2_slidesUp_5 : decode cX2_slidesUp 5 = .ok (.iaload, 1) := by decide +kernel
theorem dX2_slidesUp_6 : decode cX2_slidesUp 6 = .ok (.iconst 2, 1) := by decide +kernel
theorem dX2_slidesUp_7 : decode cX2_slidesUp 7 = .ok (.irem, 1) := by decide +kernel
theorem dX2_slidesUp_8 : decode cX2_slidesUp 8 = .ok (.iconst 1, 1) := by decide +kernel
theorem dX2_slidesUp_9 : decode cX2_slidesUp 9 = .ok (.if_icmp .ne 7, 3) := by decide +kernel
theorem dX2_slidesUp_12 : decode cX2_slidesUp 12 = .ok (.iconst 1, 1) := by decide +kernel
theorem dX2_slidesUp_13 : decode cX2_slidesUp 13 = .ok (.goto 4, 3) := by decide +kernel
theorem dX2_slidesUp_16 : decode cX2_slidesUp 16 = .ok (.iconst 0, 1) := by decide +kernel
theorem dX2_slidesUp_17 : decode cX2_slidesUp 17 = .ok (.ireturn, 1) := by decide +kernel
theorem dX2_tellSlide_0 : decode cX2_tellSlide 0 = .ok (.aload_n 0, 1) := by decide +kernel
theorem dX2_tellSlide_1 : decode cX2_tellSlide 1 = .ok (.iload_n 2, 1) := by decide +kernel
theorem dX2_tellSlide_2 : decode cX2_tellSlide 2 = .ok (.invokevirtual 160, 3) := by decide +kernel
theorem dX2_tellSlide_5 : decode cX2_tellSlide 5 = .ok (.bipush 6, 2) := by decide +kernel
theorem dX2_tellSlide_7 : decode cX2_tellSlide 7 = .ok (.irem, 1) := by decide +kernel
theorem dX2_tellSlide_8 : decode cX2_tellSlide 8 = .ok (.istore 4, 2) := by decide +kernel
theorem dX2_tellSlide_10 : decode cX2_tellSlide 10 = .ok (.aload_n 0, 1) := by decide +kernel
theorem dX2_tellSlide_11 : decode cX2_tellSlide 11 = .ok (.iload_n 2, 1) := by decide +kernel
theorem dX2_tellSlide_12 : decode cX2_tellSlide 12 = .ok (.invokevirtual 163, 3) := by decide +kernel
theorem dX2_tellSlide_15 : decode cX2_tellSlide 15 = .ok (.istore 5, 2) := by decide +kernel
theorem dX2_tellSlide_17 : decode cX2_tellSlide 17 = .ok (.iload_n 3, 1) := by decide +kernel
theorem dX2_tellSlide_18 : decode cX2_tellSlide 18 = .ok (.tableswitch 59 0 3 #[30, 36, 45, 48], 30) := by decide +kernel
theorem dX2_tellSlide_48 : decode cX2_tellSlide 48 = .ok (.aload_n 0, 1) := by decide +kernel
theorem dX2_tellSlide_49 : decode cX2_tellSlide 49 = .ok (.iload_n 2, 1) := by decide +kernel
theorem dX2_tellSlide_50 : decode cX2_tellSlide 50 = .ok (.invokevirtual 166, 3) := by decide +kernel
theorem dX2_tellSlide_53 : decode cX2_tellSlide 53 = .ok (.ireturn, 1) := by decide +kernel
theorem dX2_tellSlide_54 : decode cX2_tellSlide 54 = .ok (.aload_n 0, 1) := by decide +kernel
theorem dX2_tellSlide_55 : decode cX2_tellSlide 55 = .ok (.iload_n 2, 1) := by decide +kernel
theorem dX2_tellSlide_56 : decode cX2_tellSlide 56 = .ok (.invokevirtual 160, 3) := by decide +kernel
theorem dX2_tellSlide_59 : decode cX2_tellSlide 59 = .ok (.bipush 6, 2) := by decide +kernel
theorem dX2_tellSlide_61 : decode cX2_tellSlide 61 = .ok (.idiv, 1) := by decide +kernel
theorem dX2_tellSlide_62 : decode cX2_tellSlide 62 = .ok (.ireturn, 1) := by decide +kernel
theorem dX2_tellSlide_63 : decode cX2_tellSlide 63 = .ok (.iload 4, 2) := by decide +kernel
theorem dX2_tellSlide_65 : decode cX2_tellSlide 65 = .ok (.ireturn, 1) := by decide +kernel
theorem dX2_tellSlide_66 : decode cX2_tellSlide 66 = .ok (.iload 5, 2) := by decide +kernel
theorem dX2_tellSlide_68 : decode cX2_tellSlide 68 = .ok (.ifCond .eq 7, 3) := by decide +kernel
theorem dX2_tellSlide_71 : decode cX2_tellSlide 71 = .ok (.iconst 1, 1) := by decide +kernel
theorem dX2_tellSlide_72 : decode cX2_tellSlide 72 = .ok (.goto 4, 3) := by decide +kernel
theorem dX2_tellSlide_75 : decode cX2_tellSlide 75 = .ok (.iconst 0, 1) := by decide +kernel
theorem dX2_tellSlide_76 : decode cX2_tellSlide 76 = .ok (.ireturn, 1) := by decide +kernel
theorem dX2_tellSlide_77 : decode cX2_tellSlide 77 = .ok (.iload 5, 2) := by decide +kernel
theorem dX2_tellSlide_79 : decode cX2_tellSlide 79 = .ok (.ifCond .eq 10, 3) := by decide +kernel
theorem dX2_tellSlide_82 : decode cX2_tellSlide 82 = .ok (.iload 4, 2) := by decide +kernel
theorem dX2_tellSlide_84 : decode cX2_tellSlide 84 = .ok (.iconst 1, 1) := by decide +kernel
theorem dX2_tellSlide_85 : decode cX2_tellSlide 85 = .ok (.iadd, 1) := by decide +kernel
theorem dX2_tellSlide_86 : decode cX2_tellSlide 86 = .ok (.goto 7, 3) := by decide +kernel
theorem dX2_tellSlide_89 : decode cX2_tellSlide 89 = .ok (.iload 4, 2) := by decide +kernel
theorem dX2_tellSlide_91 : decode cX2_tellSlide 91 = .ok (.iconst 1, 1) := by decide +kernel
theorem dX2_tellSlide_92 : decode cX2_tellSlide 92 = .ok (.isub, 1) := by decide +kernel
theorem dX2_tellSlide_93 : decode cX2_tellSlide 93 = .ok (.istore 6, 2) := by decide +kernel
theorem dX2_tellSlide_95 : decode cX2_tellSlide 95 = .ok (.aload_n 1, 1) := by decide +kernel
theorem dX2_tellSlide_96 : decode cX2_tellSlide 96 = .ok (.iload 6, 2) := by decide +kernel
theorem dX2_tellSlide_98 : decode cX2_tellSlide 98 = .ok (.invokevirtual 169, 3) := by decide +kernel
theorem dX2_tellSlide_101 : decode cX2_tellSlide 101 = .ok (.ifCond .eq 21, 3) := by decide +kernel
theorem dX2_tellSlide_104 : decode cX2_tellSlide 104 = .ok (.aload_n 1, 1) := by decide +kernel
theorem dX2_tellSlide_105 : decode cX2_tellSlide 105 = .ok (.getfield 129, 3) := by decide +kernel
theorem dX2_tellSlide_108 : decode cX2_tellSlide 108 = .ok (.iload 6, 2) := by decide +kernel
theorem dX2_tellSlide_110 : decode cX2_tellSlide 110 = .ok (.iaload, 1) := by decide +kernel
theorem dX2_tellSlide_111 : decode cX2_tellSlide 111 = .ok (.aload_n 1, 1) := by decide +kernel
theorem dX2_tellSlide_112 : decode cX2_tellSlide 112 = .ok (.getfield 129, 3) := by decide +kernel
theorem dX2_tellSlide_115 : decode cX2_tellSlide 115 = .ok (.iload 4, 2) := by decide +kernel
theorem dX2_tellSlide_117 : decode cX2_tellSlide 117 = .ok (.iaload, 1) := by decide +kernel
theorem dX2_tellSlide_118 : decode cX2_tellSlide 118 = .ok (.isub, 1) := by decide +kernel
theorem dX2_tellSlide_119 : decode cX2_tellSlide 119 = .ok (.goto 4, 3) := by decide +kernel
theorem dX2_tellSlide_122 : decode cX2_tellSlide 122 = .ok (.iconst 0, 1) := by decide +kernel
theorem dX2_tellSlide_123 : decode cX2_tellSlide 123 = .ok (.ireturn, 1) := by decide +kernel
theorem dX2_slideTimes_0 : decode cX2_slideTimes 0 = .ok (.iconst 0, 1) := by decide +kernel
theorem dX2_slideTimes_1 : decode cX2_slideTimes 1 = .ok (.istore_n 1, 1) := by decide +kernel
theorem dX2_slideTimes_2 : decode cX2_slideTimes 2 = .ok (.iconst 0, 1) := by decide +kernel
theorem dX2_slideTimes_3 : decode cX2_slideTimes 3 = .ok (.istore_n 2, 1) := by decide +kernel
theorem dX2_slideTimes_4 : decode cX2_slideTimes 4 = .ok (.iload_n 2, 1) := by decide +kernel
theorem dX2_slideTimes_5 : decode cX2_slideTimes 5 = .ok (.aload_n 0, 1) := by decide +kernel
theorem dX2_slideTimes_6 : decode cX2_slideTimes 6 = .ok (.getfield 146, 3) := by decide +kernel
theorem dX2_slideTimes_9 : decode cX2_slideTimes 9 = .ok (.if_icmp .ge 19, 3) := by decide +kernel
theorem dX2_slideTimes_12 : decode cX2_slideTimes 12 = .ok (.iload_n 1, 1) := by decide +kernel
theorem dX2_slideTimes_13 : decode cX2_slideTimes 13 = .ok (.iconst 1, 1) := by decide +kernel
theorem dX2_slideTimes_14 : decode cX2_slideTimes 14 = .ok (.aload_n 0, 1) := by decide +kernel
theorem dX2_slideTimes_15 : decode cX2_slideTimes 15 = .ok (.iload_n 2, 1) := by decide +kernel
theorem dX2_slideTimes_16 : decode cX2_slideTimes 16 = .ok (.invokevirtual 166, 3) := by decide +kernel
theorem dX2_slideTimes_19 : decode cX2_slideTimes 19 = .ok (.ishl, 1) := by decide +kernel
theorem dX2_slideTimes_20 : decode cX2_slideTimes 20 = .ok (.ior, 1) := by decide +kernel
theorem dX2_slideTimes_21 : decode cX2_slideTimes 21 = .ok (.istore_n 1, 1) := by decide +kernel
theorem dX2_slideTimes_22 : decode cX2_slideTimes 22 = .ok (.iinc 2 1, 3) := by decide +kernel
theorem dX2_slideTimes_25 : decode cX2_slideTimes 25 = .ok (.goto (-21), 3) := by decide +kernel
theorem dX2_slideTimes_28 : decode cX2_slideTimes 28 = .ok (.iload_n 1, 1) := by decide +kernel
theorem dX2_slideTimes_29 : decode cX2_slideTimes 29 = .ok (.ireturn, 1) := by decide +kernel
theorem dX2_findBestSight_0 : decode cX2_findBestSight 0 = .ok (.iconst 0, 1) := by decide +kernel
theorem dX2_findBestSight_1 : decode cX2_findBestSight 1 = .ok (.istore_n 2, 1) := by decide +kernel
theorem dX2_findBestSight_2 : decode cX2_findBestSight 2 = .ok (.iload_n 2, 1) := by decide +kernel
theorem dX2_findBestSight_3 : decode cX2_findBestSight 3 = .ok (.bipush 24, 2) := by decide +kernel
theorem dX2_findBestSight_5 : decode cX2_findBestSight 5 = .ok (.if_icmp .ge 23, 3) := by decide +kernel
theorem dX2_findBestSight_8 : decode cX2_findBestSight 8 = .ok (.aload_n 0, 1) := by decide +kernel
theorem dX2_findBestSight_9 : decode cX2_findBestSight 9 = .ok (.getfield 30, 3) := by decide +kernel
theorem dX2_findBestSight_12 : decode cX2_findBestSight 12 = .ok (.iload_n 2, 1) := by decide +kernel
theorem dX2_findBestSight_13 : decode cX2_findBestSight 13 = .ok (.iconst 0, 1) := by decide +kernel
theorem dX2_findBestSight_14 : decode cX2_findBestSight 14 = .ok (.iastore, 1) := by decide +kernel
theorem dX2_findBestSight_15 : decode cX2_findBestSight 15 = .ok (.aload_n 0, 1) := by decide +kernel
theorem dX2_findBestSight_16 : decode cX2_findBestSight 16 = .ok (.getfield 33, 3) := by decide +kernel
theorem dX2_findBestSight_19 : decode cX2_findBestSight 19 = .ok (.iload_n 2, 1) := by decide +kernel
theorem dX2_findBestSight_20 : decode cX2_findBestSight 20 = .ok (.iconst 0, 1) := by decide +kernel
theorem dX2_findBestSight_21 : decode cX2_findBestSight 21 = .ok (.iastore, 1) := by decide +kernel
theorem dX2_findBestSight_22 : decode cX2_findBestSight 22 = .ok (.iinc 2 1, 3) := by decide +kernel
theorem dX2_findBestSight_25 : decode cX2_findBestSight 25 = .ok (.goto (-23), 3) := by decide +kernel
theorem dX2_findBestSight_28 : decode cX2_findBestSight 28 = .ok (.aload_n 0, 1) := by decide +kernel
theorem dX2_findBestSight_29 : decode cX2_findBestSight 29 = .ok (.getfield 36, 3) := by decide +kernel
theorem dX2_findBestSight_32 : decode cX2_findBestSight 32 = .ok (.iconst 3, 1) := by decide +kernel
theorem dX2_findBestSight_33 : decode cX2_findBestSight 33 = .ok (.aload_n 0, 1) := by decide +kernel
theorem dX2_findBestSight_34 : decode cX2_findBestSight 34 = .ok (.getfield 146, 3) := by decide +kernel
theorem dX2_findBestSight_37 : decode cX2_findBestSight 37 = .ok (.iconst 1, 1) := by decide +kernel
theorem dX2_findBestSight_38 : decode cX2_findBestSight 38 = .ok (.iadd, 1) := by decide +kernel
theorem dX2_findBestSight_39 : decode cX2_findBestSight 39 = .ok (.iastore, 1) := by decide +kernel
theorem dX2_findBestSight_40 : decode cX2_findBestSight 40 = .ok (.iconst 0, 1) := by decide +kernel
theorem dX2_findBestSight_41 : decode cX2_findBestSight 41 = .ok (.istore_n 2, 1) := by decide +kernel
theorem dX2_findBestSight_42 : decode cX2_findBestSight 42 = .ok (.iconst 0, 1) := by decide +kernel
theorem dX2_findBestSight_43 : decode cX2_findBestSight 43 = .ok (.istore_n 3, 1) := by decide +kernel
theorem dX2_findBestSight_44 : decode cX2_findBestSight 44 = .ok (.iload_n 3, 1) := by decide +kernel
theorem dX2_findBestSight_45 : decode cX2_findBestSight 45 = .ok (.aload_n 1, 1) := by decide +kernel
theorem dX2_findBestSight_46 : decode cX2_findBestSight 46 = .ok (.getfield 61, 3) := by decide +kernel
theorem dX2_findBestSight_49 : decode cX2_findBestSight 49 = .ok (.if_icmp .gt 85, 3) := by decide +kernel
theorem dX2_findBestSight_52 : decode cX2_findBestSight 52 = .ok (.iload_n 2, 1) := by decide +kernel
theorem dX2_findBestSight_53 : decode cX2_findBestSight 53 = .ok (.aload_n 0, 1) := by decide +kernel
theorem dX2_findBestSight_54 : decode cX2_findBestSight 54 = .ok (.getfield 146, 3) := by decide +kernel
theorem dX2_findBestSight_57 : decode cX2_findBestSight 57 = .ok (.if_icmp .ge 65, 3) := by decide +kernel
theorem dX2_findBestSight_60 : decode cX2_findBestSight 60 = .ok (.aload_n 0, 1) := by decide +kernel
theorem dX2_findBestSight_61 : decode cX2_findBestSight 61 = .ok (.iload_n 2, 1) := by decide +kernel
theorem dX2_findBestSight_62 : decode cX2_findBestSight 62 = .ok (.invokevirtual 166, 3) := by decide +kernel
theorem dX2_findBestSight_65 : decode cX2_findBestSight 65 = .ok (.iload_n 3, 1) := by decide +kernel
theorem dX2_findBestSight_66 : decode cX2_findBestSight 66 = .ok (.if_icmp .ne 56, 3) := by decide +kernel
theorem dX2_findBestSight_69 : decode cX2_findBestSight 69 = .ok (.aload_n 0, 1) := by decide +kernel
theorem dX2_findBestSight_70 : decode cX2_findBestSight 70 = .ok (.getfield 30, 3) := by decide +kernel
theorem dX2_findBestSight_73 : decode cX2_findBestSight 73 = .ok (.aload_n 0, 1) := by decide +kernel
theorem dX2_findBestSight_74 : decode cX2_findBestSight 74 = .ok (.iload_n 2, 1) := by decide +kernel
theorem dX2_findBestSight_75 : decode cX2_findBestSight 75 = .ok (.invokevirtual 160, 3) := by decide +kernel
theorem dX2_findBestSight_78 : decode cX2_findBestSight 78 = .ok (.dup2, 1) := by decide +kernel
theorem dX2_findBestSight_79 : decode cX2_findBestSight 79 = .ok (.iaload, 1) := by decide +kernel
theorem dX2_findBestSight_80 : decode cX2_findBestSight 80 = .ok (.iconst 1, 1) := by decide +kernel
theorem dX2_findBestSight_81 : decode cX2_findBestSight 81 = .ok (.iadd, 1) := by decide +kernel
theorem dX2_findBestSight_82 : decode cX2_findBestSight 82 = .ok (.iastore, 1) := by decide +kernel
theorem dX2_findBestSight_83 : decode cX2_findBestSight 83 = .ok (.aload_n 0, 1) := by decide +kernel
theorem dX2_findBestSight_84 : decode cX2_findBestSight 84 = .ok (.getfield 42, 3) := by decide +kernel
theorem dX2_findBestSight_87 : decode cX2_findBestSight 87 = .ok (.aload_n 0, 1) := by decide +kernel
theorem dX2_findBestSight_88 : decode cX2_findBestSight 88 = .ok (.iload_n 2, 1) := by decide +kernel
theorem dX2_findBestSight_89 : decode cX2_findBestSight 89 = .ok (.invokevirtual 160, 3) := by decide +kernel
theorem dX2_findBestSight_92 : decode cX2_findBestSight 92 = .ok (.aload_n 0, 1) := by decide +kernel
theorem dX2_findBestSight_93 : decode cX2_findBestSight 93 = .ok (.iload_n 2, 1) := by decide +kernel
theorem dX2_findBestSight_94 : decode cX2_findBestSight 94 = .ok (.invokevirtual 163, 3) := by decide +kernel
theorem dX2_findBestSight_97 : decode cX2_findBestSight 97 = .ok (.invokevirtual 153, 3) := by decide +kernel
theorem dX2_findBestSight_100 : decode cX2_findBestSight 100 = .ok (.aload_n 0, 1) := by decide +kernel
theorem dX2_findBestSight_101 : decode cX2_findBestSight 101 = .ok (.getfield 33, 3) := by decide +kernel
theorem dX2_findBestSight_104 : decode cX2_findBestSight 104 = .ok (.aload_n 0, 1) := by decide +kernel
theorem dX2_findBestSight_105 : decode cX2_findBestSight 105 = .ok (.getfield 42, 3) := by decide +kernel
theorem dX2_findBestSight_108 : decode cX2_findBestSight 108 = .ok (.getfield 75, 3) := by decide +kernel
theorem dX2_findBestSight_111 : decode cX2_findBestSight 111 = .ok (.dup2, 1) := by decide +kernel
theorem dX2_findBestSight_112 : decode cX2_findBestSight 112 = .ok (.iaload, 1) := by decide +kernel
theorem dX2_findBestSight_113 : decode cX2_findBestSight 113 = .ok (.iconst 1, 1) := by decide +kernel
theorem dX2_findBestSight_114 : decode cX2_findBestSight 114 = .ok (.iadd, 1) := by decide +kernel
theorem dX2_findBestSight_115 : decode cX2_findBestSight 115 = .ok (.iastore, 1) := by decide +kernel
theorem dX2_findBestSight_116 : decode cX2_findBestSight 116 = .ok (.iinc 2 1, 3) := by decide +kernel
theorem dX2_findBestSight_119 : decode cX2_findBestSight 119 = .ok (.goto (-67), 3) := by decide +kernel
theorem dX2_findBestSight_122 : decode cX2_findBestSight 122 = .ok (.aload_n 0, 1) := by decide +kernel
theorem dX2_findBestSight_123 : decode cX2_findBestSight 123 = .ok (.aload_n 1, 1) := by decide +kernel
theorem dX2_findBestSight_124 : decode cX2_findBestSight 124 = .ok (.iload_n 3, 1) := by decide +kernel
theorem dX2_findBestSight_125 : decode cX2_findBestSight 125 = .ok (.invokevirtual 172, 3) := by decide +kernel
theorem dX2_findBestSight_128 : decode cX2_findBestSight 128 = .ok (.iinc 3 1, 3) := by decide +kernel
theorem dX2_findBestSight_131 : decode cX2_findBestSight 131 = .ok (.goto (-87), 3) := by decide +kernel
theorem dX2_findBestSight_134 : decode cX2_findBestSight 134 = .ok (.return_, 1) := by decide +kernel
theorem dX2_compareSights_0 : decode cX2_compareSights 0 = .ok (.iconst 0, 1) := by decide +kernel
theorem dX2_compareSights_1 : decode cX2_compareSights 1 = .ok (.istore_n 3, 1) := by decide +kernel
theorem dX2_compareSights_2 : decode cX2_compareSights 2 = .ok (.iload_n 3, 1) := by decide +kernel
theorem dX2_compareSights_3 : decode cX2_compareSights 3 = .ok (.aload_n 1, 1) := by decide +kernel
theorem dX2_compareSights_4 : decode cX2_compareSights 4 = .ok (.getfield 98, 3) := by decide +kernel
theorem dX2_compareSights_7 : decode cX2_compareSights 7 = .ok (.if_icmp .ge 118, 3) := by decide +kernel
theorem dX2_compareSights_10 : decode cX2_compareSights 10 = .ok (.iconst 0, 1) := by decide +kernel
theorem dX2_compareSights_11 : decode cX2_compareSights 11 = .ok (.istore 4, 2) := by decide +kernel
theorem dX2_compareSights_13 : decode cX2_compareSights 13 = .ok (.iload 4, 2) := by decide +kernel
theorem dX2_compareSights_15 : decode cX2_compareSights 15 = .ok (.aload_n 1, 1) := by decide +kernel
theorem dX2_compareSights_16 : decode cX2_compareSights 16 = .ok (.getfield 126, 3) := by decide +kernel
theorem dX2_compareSights_19 : decode cX2_compareSights 19 = .ok (.if_icmp .ge 100, 3) := by decide +kernel
theorem dX2_compareSights_22 : decode cX2_compareSights 22 = .ok (.aload_n 0, 1) := by decide +kernel
theorem dX2_compareSights_23 : decode cX2_compareSights 23 = .ok (.getfield 30, 3) := by decide +kernel
theorem dX2_compareSights_26 : decode cX2_compareSights 26 = .ok (.iload_n 3, 1) := by decide +kernel
theorem dX2_compareSights_27 : decode cX2_compareSights 27 = .ok (.bipush 6, 2) := by decide +kernel
theorem dX2_compareSights_29 : decode cX2_compareSights 29 = .ok (.imul, 1) := by decide +kernel
theorem dX2_compareSights_30 : decode cX2_compareSights 30 = .ok (.iload 4, 2) := by decide +kernel
theorem dX2_compareSights_32 : decode cX2_compareSights 32 = .ok (.iadd, 1) := by decide +kernel
theorem dX2_compareSights_33 : decode cX2_compareSights 33 = .ok (.iaload, 1) := by decide +kernel
theorem dX2_compareSights_34 : decode cX2_compareSights 34 = .ok (.istore 5, 2) := by decide +kernel
theorem dX2_compareSights_36 : decode cX2_compareSights 36 = .ok (.aload_n 0, 1) := by decide +kernel
theorem dX2_compareSights_37 : decode cX2_compareSights 37 = .ok (.getfield 33, 3) := by decide +kernel
theorem dX2_compareSights_40 : decode cX2_compareSights 40 = .ok (.iload_n 3, 1) := by decide +kernel
theorem dX2_compareSights_41 : decode cX2_compareSights 41 = .ok (.bipush 6, 2) := by decide +kernel
theorem dX2_compareSights_43 : decode cX2_compareSights 43 = .ok (.imul, 1) := by decide +kernel
theorem dX2_compareSights_44 : decode cX2_compareSights 44 = .ok (.iload 4, 2) := by decide +kernel
theorem dX2_compareSights_46 : decode cX2_compareSights 46 = .ok (.iadd, 1) := by decide +kernel
theorem dX2_compareSights_47 : decode cX2_compareSights 47 = .ok (.iaload, 1) := by decide +kernel
theorem dX2_compareSights_48 : decode cX2_compareSights 48 = .ok (.istore 6, 2) := by decide +kernel
theorem dX2_compareSights_50 : decode cX2_compareSights 50 = .ok (.aload_n 0, 1) := by decide +kernel
theorem dX2_compareSights_51 : decode cX2_compareSights 51 = .ok (.getfield 146, 3) := by decide +kernel
theorem dX2_compareSights_54 : decode cX2_compareSights 54 = .ok (.iload 5, 2) := by decide +kernel
theorem dX2_compareSights_56 : decode cX2_compareSights 56 = .ok (.isub, 1) := by decide +kernel
theorem dX2_compareSights_57 : decode cX2_compareSights 57 = .ok (.iload 6, 2) := by decide +kernel
theorem dX2_compareSights_59 : decode cX2_compareSights 59 = .ok (.isub, 1) := by decide +kernel
theorem dX2_compareSights_60 : decode cX2_compareSights 60 = .ok (.iload 5, 2) := by decide +kernel
theorem dX2_compareSights_62 : decode cX2_compareSights 62 = .ok (.iload 6, 2) := by decide +kernel
theorem dX2_compareSights_64 : decode cX2_compareSights 64 = .ok (.invokestatic 107, 3) := by decide +kernel
theorem dX2_compareSights_67 : decode cX2_compareSights 67 = .ok (.invokestatic 107, 3) := by decide +kernel
theorem dX2_compareSights_70 : decode cX2_compareSights 70 = .ok (.istore 7, 2) := by decide +kernel
theorem dX2_compareSights_72 : decode cX2_compareSights 72 = .ok (.iload 7, 2) := by decide +kernel
theorem dX2_compareSights_74 : decode cX2_compareSights 74 = .ok (.aload_n 0, 1) := by decide +kernel
theorem dX2_compareSights_75 : decode cX2_compareSights 75 = .ok (.getfield 36, 3) := by decide +kernel
theorem dX2_compareSights_78 : decode cX2_compareSights 78 = .ok (.iconst 3, 1) := by decide +kernel
theorem dX2_compareSights_79 : decode cX2_compareSights 79 = .ok (.iaload, 1) := by decide +kernel
theorem dX2_compareSights_80 : decode cX2_compareSights 80 = .ok (.if_icmp .ge 33, 3) := by decide +kernel
theorem dX2_compareSights_83 : decode cX2_compareSights 83 = .ok (.aload_n 0, 1) := by decide +kernel
theorem dX2_compareSights_84 : decode cX2_compareSights 84 = .ok (.getfield 36, 3) := by decide +kernel
theorem dX2_compareSights_87 : decode cX2_compareSights 87 = .ok (.iconst 0, 1) := by decide +kernel
theorem dX2_compareSights_88 : decode cX2_compareSights 88 = .ok (.iload_n 2, 1) := by decide +kernel
theorem dX2_compareSights_89 : decode cX2_compareSights 89 = .ok (.iastore, 1) := by decide +kernel
theorem dX2_compareSights_90 : decode cX2_compareSights 90 = .ok (.aload_n 0, 1) := by decide +kernel
theorem dX2_compareSights_91 : decode cX2_compareSights 91 = .ok (.getfield 36, 3) := by decide +kernel
theorem dX2_compareSights_94 : decode cX2_compareSights 94 = .ok (.iconst 1, 1) := by decide +kernel
theorem dX2_compareSights_95 : decode cX2_compareSights 95 = .ok (.iload_n 3, 1) := by decide +kernel
theorem dX2_compareSights_96 : decode cX2_compareSights 96 = .ok (.iastore, 1) := by decide +kernel
theorem dX2_compareSights_97 : decode cX2_compareSights 97 = .ok (.aload_n 0, 1) := by decide +kernel
theorem dX2_compareSights_98 : decode cX2_compareSights 98 = .ok (.getfield 36, 3) := by decide +kernel
theorem dX2_compareSights_101 : decode cX2_compareSights 101 = .ok (.iconst 2, 1) := by decide +kernel
theorem dX2_compareSights_102 : decode cX2_compareSights 102 = .ok (.iload 4, 2) := by decide +kernel
theorem dX2_compareSights_104 : decode cX2_compareSights 104 = .ok (.iastore, 1) := by decide +kernel
theorem dX2_compareSights_105 : decode cX2_compareSights 105 = .ok (.aload_n 0, 1) := by decide +kernel
theorem dX2_compareSights_106 : decode cX2_compareSights 106 = .ok (.getfield 36, 3) := by decide +kernel
theorem dX2_compareSights_109 : decode cX2_compareSights 109 = .ok (.iconst 3, 1) := by decide +kernel
theorem dX2_compareSights_110 : decode cX2_compareSights 110 = .ok (.iload 7, 2) := by decide +kernel
theorem dX2_compareSights_112 : decode cX2_compareSights 112 = .ok (.iastore, 1) := by decide +kernel
theorem dX2_compareSights_113 : decode cX2_compareSights 113 = .ok (.iinc 4 1, 3) := by decide +kernel
theorem dX2_compareSights_116 : decode cX2_compareSights 116 = .ok (.goto (-103), 3) := by decide +kernel
theorem dX2_compareSights_119 : decode cX2_compareSights 119 = .ok (.iinc 3 1, 3) := by decide +kernel
theorem dX2_compareSights_122 : decode cX2_compareSights 122 = .ok (.goto (-120), 3) := by decide +kernel
theorem dX2_compareSights_125 : decode cX2_compareSights 125 = .ok (.return_, 1) := by decide +kernel
theorem dX2_explainsLeftOut_0 : decode cX2_explainsLeftOut 0 = .ok (.iload_n 2, 1) := by decide +kernel
theorem dX2_explainsLeftOut_1 : decode cX2_explainsLeftOut 1 = .ok (.aload_n 0, 1) := by decide +kernel
theorem dX2_explainsLeftOut_2 : decode cX2_explainsLeftOut 2 = .ok (.getfield 114, 3) := by decide +kernel
theorem dX2_explainsLeftOut_5 : decode cX2_explainsLeftOut 5 = .ok (.if_icmp .gt 15, 3) := by decide +kernel
theorem dX2_explainsLeftOut_8 : decode cX2_explainsLeftOut 8 = .ok (.aload_n 1, 1) := by decide +kernel
theorem dX2_explainsLeftOut_9 : decode cX2_explainsLeftOut 9 = .ok (.aload_n 0, 1) := by decide +kernel
theorem dX2_explainsLeftOut_10 : decode cX2_explainsLeftOut 10 = .ok (.getfield 42, 3) := by decide +kernel
theorem dX2_explainsLeftOut_13 : decode cX2_explainsLeftOut 13 = .ok (.iload_n 2, 1) := by decide +kernel
theorem dX2_explainsLeftOut_14 : decode cX2_explainsLeftOut 14 = .ok (.invokevirtual 65, 3) := by decide +kernel
theorem dX2_explainsLeftOut_17 : decode cX2_explainsLeftOut 17 = .ok (.ifCond .ne 5, 3) := by decide +kernel
theorem dX2_explainsLeftOut_20 : decode cX2_explainsLeftOut 20 = .ok (.iconst 0, 1) := by decide +kernel
theorem dX2_explainsLeftOut_21 : decode cX2_explainsLeftOut 21 = .ok (.ireturn, 1) := by decide +kernel
theorem dX2_explainsLeftOut_22 : decode cX2_explainsLeftOut 22 = .ok (.aload_n 0, 1) := by decide +kernel
theorem dX2_explainsLeftOut_23 : decode cX2_explainsLeftOut 23 = .ok (.getfield 42, 3) := by decide +kernel
theorem dX2_explainsLeftOut_26 : decode cX2_explainsLeftOut 26 = .ok (.invokevirtual 176, 3) := by decide +kernel
theorem dX2_explainsLeftOut_29 : decode cX2_explainsLeftOut 29 = .ok (.aload_n 0, 1) := by decide +kernel
theorem dX2_explainsLeftOut_30 : decode cX2_explainsLeftOut 30 = .ok (.aload_n 1, 1) := by decide +kernel
theorem dX2_explainsLeftOut_31 : decode cX2_explainsLeftOut 31 = .ok (.iload_n 2, 1) := by decide +kernel
theorem dX2_explainsLeftOut_32 : decode cX2_explainsLeftOut 32 = .ok (.iconst 1, 1) := by decide +kernel
theorem dX2_explainsLeftOut_33 : decode cX2_explainsLeftOut 33 = .ok (.iadd, 1) := by decide +kernel
theorem dX2_explainsLeftOut_34 : decode cX2_explainsLeftOut 34 = .ok (.invokevirtual 157, 3) := by decide +kernel
theorem dX2_explainsLeftOut_37 : decode cX2_explainsLeftOut 37 = .ok (.ireturn, 1) := by decide +kernel
theorem dX2_countLeftOut_0 : decode cX2_countLeftOut 0 = .ok (.aload_n 0, 1) := by decide +kernel
theorem dX2_countLeftOut_1 : decode cX2_countLeftOut 1 = .ok (.aload_n 1, 1) := by decide +kernel
theorem dX2_countLeftOut_2 : decode cX2_countLeftOut 2 = .ok (.invokevirtual 121, 3) := by decide +kernel
theorem dX2_countLeftOut_5 : decode cX2_countLeftOut 5 = .ok (.iconst 0, 1) := by decide +kernel
theorem dX2_countLeftOut_6 : decode cX2_countLeftOut 6 = .ok (.istore_n 2, 1) := by decide +kernel
theorem dX2_countLeftOut_7 : decode cX2_countLeftOut 7 = .ok (.iconst 0, 1) := by decide +kernel
theorem dX2_countLeftOut_8 : decode cX2_countLeftOut 8 = .ok (.istore_n 3, 1) := by decide +kernel
theorem dX2_countLeftOut_9 : decode cX2_countLeftOut 9 = .ok (.iload_n 3, 1) := by decide +kernel
theorem dX2_countLeftOut_10 : decode cX2_countLeftOut 10 = .ok (.aload_n 1, 1) := by decide +kernel
theorem dX2_countLeftOut_11 : decode cX2_countLeftOut 11 = .ok (.getfield 61, 3) := by decide +kernel
theorem dX2_countLeftOut_14 : decode cX2_countLeftOut 14 = .ok (.if_icmp .ge 26, 3) := by decide +kernel
theorem dX2_countLeftOut_17 : decode cX2_countLeftOut 17 = .ok (.iload_n 2, 1) := by decide +kernel
theorem dX2_countLeftOut_18 : decode cX2_countLeftOut 18 = .ok (.aload_n 0, 1) := by decide +kernel
theorem dX2_countLeftOut_19 : decode cX2_countLeftOut 19 = .ok (.aload_n 1, 1) := by decide +kernel
theorem dX2_countLeftOut_20 : decode cX2_countLeftOut 20 = .ok (.iload_n 3, 1) := by decide +kernel
theorem dX2_countLeftOut_21 : decode cX2_countLeftOut 21 = .ok (.invokevirtual 179, 3) := by decide +kernel
theorem dX2_countLeftOut_24 : decode cX2_countLeftOut 24 = .ok (.ifCond .eq 7, 3) := by decide +kernel
theorem dX2_countLeftOut_27 : decode cX2_countLeftOut 27 = .ok (.iconst 1, 1) := by decide +kernel
theorem dX2_countLeftOut_28 : decode cX2_countLeftOut 28 = .ok (.goto 4, 3) := by decide +kernel
theorem dX2_countLeftOut_31 : decode cX2_countLeftOut 31 = .ok (.iconst 0, 1) := by decide +kernel
theorem dX2_countLeftOut_32 : decode cX2_countLeftOut 32 = .ok (.iadd, 1) := by decide +kernel
theorem dX2_countLeftOut_33 : decode cX2_countLeftOut 33 = .ok (.istore_n 2, 1) := by decide +kernel
theorem dX2_countLeftOut_34 : decode cX2_countLeftOut 34 = .ok (.iinc 3 1, 3) := by decide +kernel
theorem dX2_countLeftOut_37 : decode cX2_countLeftOut 37 = .ok (.goto (-28), 3) := by decide +kernel
theorem dX2_countLeftOut_40 : decode cX2_countLeftOut 40 = .ok (.iload_n 2, 1) := by decide +kernel
theorem dX2_countLeftOut_41 : decode cX2_countLeftOut 41 = .ok (.ireturn, 1) := by decide +kernel
theorem dX2_findLeftOut_0 : decode cX2_findLeftOut 0 = .ok (.aload_n 0, 1) := by decide +kernel
theorem dX2_findLeftOut_1 : decode cX2_findLeftOut 1 = .ok (.aload_n 1, 1) := by decide +kernel
theorem dX2_findLeftOut_2 : decode cX2_findLeftOut 2 = .ok (.invokevirtual 121, 3) := by decide +kernel
theorem dX2_findLeftOut_5 : decode cX2_findLeftOut 5 = .ok (.iconst 0, 1) := by decide +kernel
theorem dX2_findLeftOut_6 : decode cX2_findLeftOut 6 = .ok (.istore_n 3, 1) := by decide +kernel
theorem dX2_findLeftOut_7 : decode cX2_findLeftOut 7 = .ok (.iconst 0, 1) := by decide +kernel
theorem dX2_findLeftOut_8 : decode cX2_findLeftOut 8 = .ok (.istore 4, 2) := by decide +kernel
theorem dX2_findLeftOut_10 : decode cX2_findLeftOut 10 = .ok (.iload 4, 2) := by decide +kernel
theorem dX2_findLeftOut_12 : decode cX2_findLeftOut 12 = .ok (.aload_n 1, 1) := by decide +kernel
theorem dX2_findLeftOut_13 : decode cX2_findLeftOut 13 = .ok (.getfield 61, 3) := by decide +kernel
theorem dX2_findLeftOut_16 : decode cX2_findLeftOut 16 = .ok (.if_icmp .ge 30, 3) := by decide +kernel
theorem dX2_findLeftOut_19 : decode cX2_findLeftOut 19 = .ok (.aload_n 0, 1) := by decide +kernel
theorem dX2_findLeftOut_20 : decode cX2_findLeftOut 20 = .ok (.aload_n 1, 1) := by decide +kernel
theorem dX2_findLeftOut_21 : decode cX2_findLeftOut 21 = .ok (.iload 4, 2) := by decide +kernel
theorem dX2_findLeftOut_23 : decode cX2_findLeftOut 23 = .ok (.invokevirtual 179, 3) := by decide +kernel
theorem dX2_findLeftOut_26 : decode cX2_findLeftOut 26 = .ok (.ifCond .eq 14, 3) := by decide +kernel
theorem dX2_findLeftOut_29 : decode cX2_findLeftOut 29 = .ok (.iload_n 3, 1) := by decide +kernel
theorem dX2_findLeftOut_30 : decode cX2_findLeftOut 30 = .ok (.iload_n 2, 1) := by decide +kernel
theorem dX2_findLeftOut_31 : decode cX2_findLeftOut 31 = .ok (.if_icmp .ne 6, 3) := by decide +kernel
theorem dX2_findLeftOut_34 : decode cX2_findLeftOut 34 = .ok (.iload 4, 2) := by decide +kernel
theorem dX2_findLeftOut_36 : decode cX2_findLeftOut 36 = .ok (.ireturn, 1) := by decide +kernel
theorem dX2_findLeftOut_37 : decode cX2_findLeftOut 37 = .ok (.iinc 3 1, 3) := by decide +kernel
theorem dX2_findLeftOut_40 : decode cX2_findLeftOut 40 = .ok (.iinc 4 1, 3) := by decide +kernel
theorem dX2_findLeftOut_43 : decode cX2_findLeftOut 43 = .ok (.goto (-33), 3) := by decide +kernel
theorem dX2_findLeftOut_46 : decode cX2_findLeftOut 46 = .ok (.bipush (-2), 2) := by decide +kernel
theorem dX2_findLeftOut_48 : decode cX2_findLeftOut 48 = .ok (.ireturn, 1) := by decide +kernel
theorem dX3_init_0 : decode cX3_init 0 = .ok (.aload_n 0, 1) := by decide +kernel
theorem dX3_init_1 : decode cX3_init 1 = .ok (.invokespecial 3, 3) := by decide +kernel
theorem dX3_init_4 : decode cX3_init 4 = .ok (.aload_n 0, 1) := by decide +kernel
theorem dX3_init_5 : decode cX3_init 5 = .ok (.bipush 12, 2) := by decide +kernel
theorem dX3_init_7 : decode cX3_init 7 = .ok (.anewarray 9, 3) := by decide +kernel
theorem dX3_init_10 : decode cX3_init 10 = .ok (.putfield 11, 3) := by decide +kernel
theorem dX3_init_13 : decode cX3_init 13 = .ok (.iconst 0, 1) := by decide +kernel
theorem dX3_init_14 : decode cX3_init 14 = .ok (.istore_n 1, 1) := by decide +kernel
theorem dX3_init_15 : decode cX3_init 15 = .ok (.iload_n 1, 1) := by decide +kernel
theorem dX3_init_16 : decode cX3_init 16 = .ok (.bipush 12, 2) := by decide +kernel
theorem dX3_init_18 : decode cX3_init 18 = .ok (.if_icmp .ge 22, 3) := by decide +kernel
theorem dX3_init_21 : decode cX3_init 21 = .ok (.aload_n 0, 1) := by decide +kernel
theorem dX3_init_22 : decode cX3_init 22 = .ok (.getfield 11, 3) := by decide +kernel
theorem dX3_init_25 : decode cX3_init 25 = .ok (.iload_n 1, 1) := by decide +kernel
theorem dX3_init_26 : decode cX3_init 26 = .ok (.new 9, 3) := by decide +kernel
theorem dX3_init_29 : decode cX3_init 29 = .ok (.dup, 1) := by decide +kernel
theorem dX3_init_30 : decode cX3_init 30 = .ok (.invokespecial 17, 3) := by decide +kernel
theorem dX3_init_33 : decode cX3_init 33 = .ok (.aastore, 1) := by decide +kernel
theorem dX3_init_34 : decode cX3_init 34 = .ok (.iinc 1 1, 3) := by decide +kernel
theorem dX3_init_37 : decode cX3_init 37 = .ok (.goto (-22), 3) := by decide +kernel
theorem dX3_init_40 : decode cX3_init 40 = .ok (.return_, 1) := by decide +kernel
theorem dX3_keep_0 : decode cX3_keep 0 = .ok (.aload_n 0, 1) := by decide +kernel
theorem dX3_keep_1 : decode cX3_keep 1 = .ok (.getfield 11, 3) := by decide +kernel
theorem dX3_keep_4 : decode cX3_keep 4 = .ok (.aload_n 0, 1) := by decide +kernel
theorem dX3_keep_5 : decode cX3_keep 5 = .ok (.getfield 18, 3) := by decide +kernel
theorem dX3_keep_8 : decode cX3_keep 8 = .ok (.aaload, 1) := by decide +kernel
theorem dX3_keep_9 : decode cX3_keep 9 = .ok (.aload_n 1, 1) := by decide +kernel
theorem dX3_keep_10 : decode cX3_keep 10 = .ok (.invokevirtual 22, 3) := by decide +kernel
theorem dX3_keep_13 : decode cX3_keep 13 = .ok (.aload_n 0, 1) := by decide +kernel
theorem dX3_keep_14 : decode cX3_keep 14 = .ok (.aload_n 0, 1) := by decide +kernel
theorem dX3_keep_15 : decode cX3_keep 15 = .ok (.getfield 18, 3) := by decide +kernel
theorem dX3_keep_18 : decode cX3_keep 18 = .ok (.iconst 1, 1) := by decide +kernel
theorem dX3_keep_19 : decode cX3_keep 19 = .ok (.iadd, 1) := by decide +kernel
theorem dX3_keep_20 : decode cX3_keep 20 = .ok (.bipush 12, 2) := by decide +kernel
theorem dX3_keep_22 : decode cX3_keep 22 = .ok (.irem, 1) := by decide +kernel
theorem dX3_keep_23 : decode cX3_keep 23 = .ok (.putfield 18, 3) := by decide +kernel
theorem dX3_keep_26 : decode cX3_keep 26 = .ok (.aload_n 0, 1) := by decide +kernel
theorem dX3_keep_27 : decode cX3_keep 27 = .ok (.getfield 26, 3) := by decide +kernel
theorem dX3_keep_30 : decode cX3_keep 30 = .ok (.bipush 12, 2) := by decide +kernel
theorem dX3_keep_32 : decode cX3_keep 32 = .ok (.if_icmp .ge 13, 3) := by decide +kernel
theorem dX3_keep_35 : decode cX3_keep 35 = .ok (.aload_n 0, 1) := by decide +kernel
theorem dX3_keep_36 : decode cX3_keep 36 = .ok (.dup, 1) := by decide +kernel
theorem dX3_keep_37 : decode cX3_keep 37 = .ok (.getfield 26, 3) := by decide +kernel
theorem dX3_keep_40 : decode cX3_keep 40 = .ok (.iconst 1, 1) := by decide +kernel
theorem dX3_keep_41 : decode cX3_keep 41 = .ok (.iadd, 1) := by decide +kernel
theorem dX3_keep_42 : decode cX3_keep 42 = .ok (.putfield 26, 3) := by decide +kernel
theorem dX3_keep_45 : decode cX3_keep 45 = .ok (.return_, 1) := by decide +kernel
theorem dX3_giveBack_0 : decode cX3_giveBack 0 = .ok (.aload_n 0, 1) := by decide +kernel
theorem dX3_giveBack_1 : decode cX3_giveBack 1 = .ok (.aload_n 0, 1) := by decide +kernel
theorem dX3_giveBack_2 : decode cX3_giveBack 2 = .ok (.getfield 18, 3) := by decide +kernel
theorem dX3_giveBack_5 : decode cX3_giveBack 5 = .ok (.bipush 12, 2) := by decide +kernel
theorem dX3_giveBack_7 : decode cX3_giveBack 7 = .ok (.iadd, 1) := by decide +kernel
theorem dX3_giveBack_8 : decode cX3_giveBack 8 = .ok (.iconst 1, 1) := by decide +kernel
theorem dX3_giveBack_9 : decode cX3_giveBack 9 = .ok (.isub, 1) := by decide +kernel
theorem dX3_giveBack_10 : decode cX3_giveBack 10 = .ok (.bipush 12, 2) := by decide +kernel
theorem dX3_giveBack_12 : decode cX3_giveBack 12 = .ok (.irem, 1) := by decide +kernel
theorem dX3_giveBack_13 : decode cX3_giveBack 13 = .ok (.putfield 18, 3) := by decide +kernel
theorem dX3_giveBack_16 : decode cX3_giveBack 16 = .ok (.aload_n 1, 1) := by decide +kernel
theorem dX3_giveBack_17 : decode cX3_giveBack 17 = .ok (.aload_n 0, 1) := by decide +kernel
theorem dX3_giveBack_18 : decode cX3_giveBack 18 = .ok (.getfield 11, 3) := by decide +kernel
theorem dX3_giveBack_21 : decode cX3_giveBack 21 = .ok (.aload_n 0, 1) := by decide +kernel
theorem dX3_giveBack_22 : decode cX3_giveBack 22 = .ok (.getfield 18, 3) := by decide +kernel
theorem dX3_giveBack_25 : decode cX3_giveBack 25 = .ok (.aaload, 1) := by decide +kernel
theorem dX3_giveBack_26 : decode cX3_giveBack 26 = .ok (.invokevirtual 22, 3) := by decide +kernel
theorem dX3_giveBack_29 : decode cX3_giveBack 29 = .ok (.aload_n 0, 1) := by decide +kernel
theorem dX3_giveBack_30 : decode cX3_giveBack 30 = .ok (.dup, 1) := by decide +kernel
theorem dX3_giveBack_31 : decode cX3_giveBack 31 = .ok (.getfield 26, 3) := by decide +kernel
theorem dX3_giveBack_34 : decode cX3_giveBack 34 = .ok (.iconst 1, 1) := by decide +kernel
theorem dX3_giveBack_35 : decode cX3_giveBack 35 = .ok (.isub, 1) := by decide +kernel
theorem dX3_giveBack_36 : decode cX3_giveBack 36 = .ok (.putfield 26, 3) := by decide +kernel
theorem dX3_giveBack_39 : decode cX3_giveBack 39 = .ok (.return_, 1) := by decide +kernel
theorem dX4_init_0 : decode cX4_init 0 = .ok (.aload_n 0, 1) := by decide +kernel
theorem dX4_init_1 : decode cX4_init 1 = .ok (.invokespecial 5, 3) := by decide +kernel
theorem dX4_init_4 : decode cX4_init 4 = .ok (.aload_n 0, 1) := by decide +kernel
theorem dX4_init_5 : decode cX4_init 5 = .ok (.bipush 6, 2) := by decide +kernel
theorem dX4_init_7 : decode cX4_init 7 = .ok (.newarray .int, 2) := by decide +kernel
theorem dX4_init_9 : decode cX4_init 9 = .ok (.putfield 11, 3) := by decide +kernel
theorem dX4_init_12 : decode cX4_init 12 = .ok (.aload_n 0, 1) := by decide +kernel
theorem dX4_init_13 : decode cX4_init 13 = .ok (.bipush 6, 2) := by decide +kernel
theorem dX4_init_15 : decode cX4_init 15 = .ok (.newarray .int, 2) := by decide +kernel
theorem dX4_init_17 : decode cX4_init 17 = .ok (.putfield 15, 3) := by decide +kernel
theorem dX4_init_20 : decode cX4_init 20 = .ok (.aload_n 0, 1) := by decide +kernel
theorem dX4_init_21 : decode cX4_init 21 = .ok (.bipush 6, 2) := by decide +kernel
theorem dX4_init_23 : decode cX4_init 23 = .ok (.newarray .int, 2) := by decide +kernel
theorem dX4_init_25 : decode cX4_init 25 = .ok (.putfield 18, 3) := by decide +kernel
theorem dX4_init_28 : decode cX4_init 28 = .ok (.aload_n 0, 1) := by decide +kernel
theorem dX4_init_29 : decode cX4_init 29 = .ok (.bipush 6, 2) := by decide +kernel
theorem dX4_init_31 : decode cX4_init 31 = .ok (.newarray .int, 2) := by decide +kernel
theorem dX4_init_33 : decode cX4_init 33 = .ok (.putfield 21, 3) := by decide +kernel
theorem dX4_init_36 : decode cX4_init 36 = .ok (.aload_n 0, 1) := by decide +kernel
theorem dX4_init_37 : decode cX4_init 37 = .ok (.bipush 6, 2) := by decide +kernel
theorem dX4_init_39 : decode cX4_init 39 = .ok (.newarray .int, 2) := by decide +kernel
theorem dX4_init_41 : decode cX4_init 41 = .ok (.putfield 24, 3) := by decide +kernel
theorem dX4_init_44 : decode cX4_init 44 = .ok (.aload_n 0, 1) := by decide +kernel
theorem dX4_init_45 : decode cX4_init 45 = .ok (.bipush 6, 2) := by decide +kernel
theorem dX4_init_47 : decode cX4_init 47 = .ok (.newarray .int, 2) := by decide +kernel
theorem dX4_init_49 : decode cX4_init 49 = .ok (.putfield 27, 3) := by decide +kernel
theorem dX4_init_52 : decode cX4_init 52 = .ok (.aload_n 0, 1) := by decide +kernel
theorem dX4_init_53 : decode cX4_init 53 = .ok (.sipush 1206, 3) := by decide +kernel
theorem dX4_init_56 : decode cX4_init 56 = .ok (.newarray .int, 2) := by decide +kernel
theorem dX4_init_58 : decode cX4_init 58 = .ok (.putfield 30, 3) := by decide +kernel
theorem dX4_init_61 : decode cX4_init 61 = .ok (.return_, 1) := by decide +kernel
theorem dX4_settle_0 : decode cX4_settle 0 = .ok (.aload_n 0, 1) := by decide +kernel
theorem dX4_settle_1 : decode cX4_settle 1 = .ok (.getfield 33, 3) := by decide +kernel
theorem dX4_settle_4 : decode cX4_settle 4 = .ok (.ifCond .eq 28, 3) := by decide +kernel
theorem dX4_settle_7 : decode cX4_settle 7 = .ok (.iload_n 2, 1) := by decide +kernel
theorem dX4_settle_8 : decode cX4_settle 8 = .ok (.aload_n 0, 1) := by decide +kernel
theorem dX4_settle_9 : decode cX4_settle 9 = .ok (.getfield 37, 3) := by decide +kernel
theorem dX4_settle_12 : decode cX4_settle 12 = .ok (.if_icmp .ne 20, 3) := by decide +kernel
theorem dX4_settle_15 : decode cX4_settle 15 = .ok (.iload_n 3, 1) := by decide +kernel
theorem dX4_settle_16 : decode cX4_settle 16 = .ok (.aload_n 0, 1) := by decide +kernel
theorem dX4_settle_17 : decode cX4_settle 17 = .ok (.getfield 41, 3) := by decide +kernel
theorem dX4_settle_20 : decode cX4_settle 20 = .ok (.if_icmp .ne 12, 3) := by decide +kernel
theorem dX4_settle_23 : decode cX4_settle 23 = .ok (.iload 4, 2) := by decide +kernel
theorem dX4_settle_25 : decode cX4_settle 25 = .ok (.aload_n 0, 1) := by decide +kernel
theorem dX4_settle_26 : decode cX4_settle 26 = .ok (.getfield 44, 3) := by decide +kernel
theorem dX4_settle_29 : decode cX4_settle 29 = .ok (.if_icmp .eq 37, 3) := by decide +kernel
theorem dX4_settle_32 : decode cX4_settle 32 = .ok (.aload_n 0, 1) := by decide +kernel
theorem dX4_settle_33 : decode cX4_settle 33 = .ok (.iload_n 2, 1) := by decide +kernel
theorem dX4_settle_34 : decode cX4_settle 34 = .ok (.putfield 37, 3) := by decide +kernel
theorem dX4_settle_37 : decode cX4_settle 37 = .ok (.aload_n 0, 1) := by decide +kernel
theorem dX4_settle_38 : decode cX4_settle 38 = .ok (.iload_n 3, 1) := by decide +kernel
theorem dX4_settle_39 : decode cX4_settle 39 = .ok (.putfield 41, 3) := by decide +kernel
theorem dX4_settle_42 : decode cX4_settle 42 = .ok (.aload_n 0, 1) := by decide +kernel
theorem dX4_settle_43 : decode cX4_settle 43 = .ok (.iload 4, 2) := by decide +kernel
theorem dX4_settle_45 : decode cX4_settle 45 = .ok (.putfield 44, 3) := by decide +kernel
theorem dX4_settle_48 : decode cX4_settle 48 = .ok (.aload_n 0, 1) := by decide +kernel
theorem dX4_settle_49 : decode cX4_settle 49 = .ok (.aload_n 0, 1) := by decide +kernel
theorem dX4_settle_50 : decode cX4_settle 50 = .ok (.aload_n 1, 1) := by decide +kernel
theorem dX4_settle_51 : decode cX4_settle 51 = .ok (.iload_n 2, 1) := by decide +kernel
theorem dX4_settle_52 : decode cX4_settle 52 = .ok (.iload_n 3, 1) := by decide +kernel
theorem dX4_settle_53 : decode cX4_settle 53 = .ok (.iload 4, 2) := by decide +kernel
theorem dX4_settle_55 : decode cX4_settle 55 = .ok (.invokevirtual 47, 3) := by decide +kernel
theorem dX4_settle_58 : decode cX4_settle 58 = .ok (.putfield 51, 3) := by decide +kernel
theorem dX4_settle_61 : decode cX4_settle 61 = .ok (.aload_n 0, 1) := by decide +kernel
theorem dX4_settle_62 : decode cX4_settle 62 = .ok (.iconst 1, 1) := by decide +kernel
theorem dX4_settle_63 : decode cX4_settle 63 = .ok (.putfield 33, 3) := by decide +kernel
theorem dX4_settle_66 : decode cX4_settle 66 = .ok (.aload_n 0, 1) := by decide +kernel
theorem dX4_settle_67 : decode cX4_settle 67 = .ok (.getfield 51, 3) := by decide +kernel
theorem dX4_settle_70 : decode cX4_settle 70 = .ok (.ireturn, 1) := by decide +kernel
theorem dX4_workOut_0 : decode cX4_workOut 0 = .ok (.aload_n 0, 1) := by decide +kernel
theorem dX4_workOut_1 : decode cX4_workOut 1 = .ok (.aload_n 1, 1) := by decide +kernel
theorem dX4_workOut_2 : decode cX4_workOut 2 = .ok (.getfield 54, 3) := by decide +kernel
theorem dX4_workOut_5 : decode cX4_workOut 5 = .ok (.putfield 59, 3) := by decide +kernel
theorem dX4_workOut_8 : decode cX4_workOut 8 = .ok (.aload_n 0, 1) := by decide +kernel
theorem dX4_workOut_9 : decode cX4_workOut 9 = .ok (.getfield 59, 3) := by decide +kernel
theorem dX4_workOut_12 : decode cX4_workOut 12 = .ok (.ifCond .eq 13, 3) := by decide +kernel
theorem dX4_workOut_15 : decode cX4_workOut 15 = .ok (.iload 4, 2) := by decide +kernel
theorem dX4_workOut_17 : decode cX4_workOut 17 = .ok (.aload_n 1, 1) := by decide +kernel
theorem dX4_workOut_18 : decode cX4_workOut 18 = .ok (.iload_n 2, 1) := by decide +kernel
theorem dX4_workOut_19 : decode cX4_workOut 19 = .ok (.invokevirtual 60, 3) := by decide +kernel
theorem dX4_workOut_22 : decode cX4_workOut 22 = .ok (.if_icmp .le 6, 3) := by decide +kernel
theorem dX4_workOut_25 : decode cX4_workOut 25 = .ok (.bipush (-2), 2) := by decide +kernel
theorem dX4_workOut_27 : decode cX4_workOut 27 = .ok (.ireturn, 1) := by decide +kernel
theorem dX4_workOut_28 : decode cX4_workOut 28 = .ok (.aload_n 0, 1) := by decide +kernel
theorem dX4_workOut_29 : decode cX4_workOut 29 = .ok (.aload_n 1, 1) := by decide +kernel
theorem dX4_workOut_30 : decode cX4_workOut 30 = .ok (.iload_n 2, 1) := by decide +kernel
theorem dX4_workOut_31 : decode cX4_workOut 31 = .ok (.iload_n 3, 1) := by decide +kernel
theorem dX4_workOut_32 : decode cX4_workOut 32 = .ok (.invokevirtual 64, 3) := by decide +kernel
theorem dX4_workOut_35 : decode cX4_workOut 35 = .ok (.aload_n 0, 1) := by decide +kernel
theorem dX4_workOut_36 : decode cX4_workOut 36 = .ok (.aload_n 1, 1) := by decide +kernel
theorem dX4_workOut_37 : decode cX4_workOut 37 = .ok (.iload 4, 2) := by decide +kernel
theorem dX4_workOut_39 : decode cX4_workOut 39 = .ok (.invokevirtual 68, 3) := by decide +kernel
theorem dX4_workOut_42 : decode cX4_workOut 42 = .ok (.aload_n 0, 1) := by decide +kernel
theorem dX4_workOut_43 : decode cX4_workOut 43 = .ok (.getfield 59, 3) := by decide +kernel
theorem dX4_workOut_46 : decode cX4_workOut 46 = .ok (.iconst 1, 1) := by decide +kernel
theorem dX4_workOut_47 : decode cX4_workOut 47 = .ok (.isub, 1) := by decide +kernel
theorem dX4_workOut_48 : decode cX4_workOut 48 = .ok (.istore 5, 2) := by decide +kernel
theorem dX4_workOut_50 : decode cX4_workOut 50 = .ok (.iload 5, 2) := by decide +kernel
theorem dX4_workOut_52 : decode cX4_workOut 52 = .ok (.ifCond .lt 70, 3) := by decide +kernel
theorem dX4_workOut_55 : decode cX4_workOut 55 = .ok (.aload_n 0, 1) := by decide +kernel
theorem dX4_workOut_56 : decode cX4_workOut 56 = .ok (.getfield 24, 3) := by decide +kernel
theorem dX4_workOut_59 : decode cX4_workOut 59 = .ok (.iload 5, 2) := by decide +kernel
theorem dX4_workOut_61 : decode cX4_workOut 61 = .ok (.iaload, 1) := by decide +kernel
theorem dX4_workOut_62 : decode cX4_workOut 62 = .ok (.istore 6, 2) := by decide +kernel
theorem dX4_workOut_64 : decode cX4_workOut 64 = .ok (.iload 6, 2) := by decide +kernel
theorem dX4_workOut_66 : decode cX4_workOut 66 = .ok (.aload_n 0, 1) := by decide +kernel
theorem dX4_workOut_67 : decode cX4_workOut 67 = .ok (.getfield 27, 3) := by decide +kernel
theorem dX4_workOut_70 : decode cX4_workOut 70 = .ok (.iload 5, 2) := by decide +kernel
theorem dX4_workOut_72 : decode cX4_workOut 72 = .ok (.iaload, 1) := by decide +kernel
theorem dX4_workOut_73 : decode cX4_workOut 73 = .ok (.if_icmp .gt 43, 3) := by decide +kernel
theorem dX4_workOut_76 : decode cX4_workOut 76 = .ok (.aload_n 0, 1) := by decide +kernel
theorem dX4_workOut_77 : decode cX4_workOut 77 = .ok (.getfield 30, 3) := by decide +kernel
theorem dX4_workOut_80 : decode cX4_workOut 80 = .ok (.iload 5, 2) := by decide +kernel
theorem dX4_workOut_82 : decode cX4_workOut 82 = .ok (.sipush 201, 3) := by decide +kernel
theorem dX4_workOut_85 : decode cX4_workOut 85 = .ok (.imul, 1) := by decide +kernel
theorem dX4_workOut_86 : decode cX4_workOut 86 = .ok (.bipush 100, 2) := by decide +kernel
theorem dX4_workOut_88 : decode cX4_workOut 88 = .ok (.iadd, 1) := by decide +kernel
theorem dX4_workOut_89 : decode cX4_workOut 89 = .ok (.iload 6, 2) := by decide +kernel
theorem dX4_workOut_91 : decode cX4_workOut 91 = .ok (.iadd, 1) := by decide +kernel
theorem dX4_workOut_92 : decode cX4_workOut 92 = .ok (.aload_n 0, 1) := by decide +kernel
theorem dX4_workOut_93 : decode cX4_workOut 93 = .ok (.aload_n 1, 1) := by decide +kernel
theorem dX4_workOut_94 : decode cX4_workOut 94 = .ok (.iload 5, 2) := by decide +kernel
theorem dX4_workOut_96 : decode cX4_workOut 96 = .ok (.aload_n 0, 1) := by decide +kernel
theorem dX4_workOut_97 : decode cX4_workOut 97 = .ok (.getfield 21, 3) := by decide +kernel
theorem dX4_workOut_100 : decode cX4_workOut 100 = .ok (.iload 5, 2) := by decide +kernel
theorem dX4_workOut_102 : decode cX4_workOut 102 = .ok (.iaload, 1) := by decide +kernel
theorem dX4_workOut_103 : decode cX4_workOut 103 = .ok (.iload 6, 2) := by decide +kernel
theorem dX4_workOut_105 : decode cX4_workOut 105 = .ok (.iadd, 1) := by decide +kernel
theorem dX4_workOut_106 : decode cX4_workOut 106 = .ok (.invokevirtual 72, 3) := by decide +kernel
theorem dX4_workOut_109 : decode cX4_workOut 109 = .ok (.iastore, 1) := by decide +kernel
theorem dX4_workOut_110 : decode cX4_workOut 110 = .ok (.iinc 6 1, 3) := by decide +kernel
theorem dX4_workOut_113 : decode cX4_workOut 113 = .ok (.goto (-49), 3) := by decide +kernel
theorem dX4_workOut_116 : decode cX4_workOut 116 = .ok (.iinc 5 (-1), 3) := by decide +kernel
theorem dX4_workOut_119 : decode cX4_workOut 119 = .ok (.goto (-69), 3) := by decide +kernel
theorem dX4_workOut_122 : decode cX4_workOut 122 = .ok (.aload_n 0, 1) := by decide +kernel
theorem dX4_workOut_123 : decode cX4_workOut 123 = .ok (.iconst 0, 1) := by decide +kernel
theorem dX4_workOut_124 : decode cX4_workOut 124 = .ok (.iload 4, 2) := by decide +kernel
theorem dX4_workOut_126 : decode cX4_workOut 126 = .ok (.invokevirtual 76, 3) := by decide +kernel
theorem dX4_workOut_129 : decode cX4_workOut 129 = .ok (.istore 5, 2) := by decide +kernel
theorem dX4_workOut_131 : decode cX4_workOut 131 = .ok (.iload 5, 2) := by decide +kernel
theorem dX4_workOut_133 : decode cX4_workOut 133 = .ok (.bipush (-2), 2) := by decide +kernel
theorem dX4_workOut_135 : decode cX4_workOut 135 = .ok (.if_icmp .eq 10, 3) := by decide +kernel
theorem dX4_workOut_138 : decode cX4_workOut 138 = .ok (.aload_n 0, 1) := by decide +kernel
theorem dX4_workOut_139 : decode cX4_workOut 139 = .ok (.aload_n 1, 1) := by decide +kernel
theorem dX4_workOut_140 : decode cX4_workOut 140 = .ok (.iload 4, 2) := by decide +kernel
theorem dX4_workOut_142 : decode cX4_workOut 142 = .ok (.invokevirtual 80, 3) := by decide +kernel
theorem dX4_workOut_145 : decode cX4_workOut 145 = .ok (.iload 5, 2) := by decide +kernel
theorem dX4_workOut_147 : decode cX4_workOut 147 = .ok (.ireturn, 1) := by decide +kernel
theorem dX4_setBounds_0 : decode cX4_setBounds 0 = .ok (.iconst 0, 1) := by decide +kernel
theorem dX4_setBounds_1 : decode cX4_setBounds 1 = .ok (.istore 4, 2) := by decide +kernel
theorem dX4_setBounds_3 : decode cX4_setBounds 3 = .ok (.iload 4, 2) := by decide +kernel
theorem dX4_setBounds_5 : decode cX4_setBounds 5 = .ok (.aload_n 0, 1) := by decide +kernel
theorem dX4_setBounds_6 : decode cX4_setBounds 6 = .ok (.getfield 59, 3) := by decide +kernel
theorem dX4_setBounds_9 : decode cX4_setBounds 9 = .ok (.if_icmp .ge 72, 3) := by decide +kernel
theorem dX4_setBounds_12 : decode cX4_setBounds 12 = .ok (.aload_n 1, 1) := by decide +kernel
theorem dX4_setBounds_13 : decode cX4_setBounds 13 = .ok (.getfield 83, 3) := by decide +kernel
theorem dX4_setBounds_16 : decode cX4_setBounds 16 = .ok (.iload_n 2, 1) := by decide +kernel
theorem dX4_setBounds_17 : decode cX4_setBounds 17 = .ok (.bipush 6, 2) := by decide +kernel
theorem dX4_setBounds_19 : decode cX4_setBounds 19 = .ok (.imul, 1) := by decide +kernel
theorem dX4_setBounds_20 : decode cX4_setBounds 20 = .ok (.iload 4, 2) := by decide +kernel
theorem dX4_setBounds_22 : decode cX4_setBounds 22 = .ok (.iadd, 1) := by decide +kernel
theorem dX4_setBounds_23 : decode cX4_setBounds 23 = .ok (.iaload, 1) := by decide +kernel
theorem dX4_setBounds_24 : decode cX4_setBounds 24 = .ok (.istore 5, 2) := by decide +kernel
theorem dX4_setBounds_26 : decode cX4_setBounds 26 = .ok (.aload_n 1, 1) := by decide +kernel
theorem dX4_setBounds_27 : decode cX4_setBounds 27 = .ok (.getfield 83, 3) := by decide +kernel
theorem dX4_setBounds_30 : decode cX4_setBounds 30 = .ok (.iload_n 3, 1) := by decide +kernel
theorem dX4_setBounds_31 : decode cX4_setBounds 31 = .ok (.bipush 6, 2) := by decide +kernel
theorem dX4_setBounds_33 : decode cX4_setBounds 33 = .ok (.imul, 1) := by decide +kernel
theorem dX4_setBounds_34 : decode cX4_setBounds 34 = .ok (.iload 4, 2) := by decide +kernel
theorem dX4_setBounds_36 : decode cX4_setBounds 36 = .ok (.iadd, 1) := by decide +kernel
theorem dX4_setBounds_37 : decode cX4_setBounds 37 = .ok (.iaload, 1) := by decide +kernel
theorem dX4_setBounds_38 : decode cX4_setBounds 38 = .ok (.istore 6, 2) := by decide +kernel
theorem dX4_setBounds_40 : decode cX4_setBounds 40 = .ok (.aload_n 0, 1) := by decide +kernel
theorem dX4_setBounds_41 : decode cX4_setBounds 41 = .ok (.getfield 15, 3) := by decide +kernel
theorem dX4_setBounds_44 : decode cX4_setBounds 44 = .ok (.iload 4, 2) := by decide +kernel
theorem dX4_setBounds_46 : decode cX4_setBounds 46 = .ok (.iload 6, 2) := by decide +kernel
theorem dX4_setBounds_48 : decode cX4_setBounds 48 = .ok (.ineg, 1) := by decide +kernel
theorem dX4_setBounds_49 : decode cX4_setBounds 49 = .ok (.iload 5, 2) := by decide +kernel
theorem dX4_setBounds_51 : decode cX4_setBounds 51 = .ok (.bipush 99, 2) := by decide +kernel
theorem dX4_setBounds_53 : decode cX4_setBounds 53 = .ok (.isub, 1) := by decide +kernel
theorem dX4_setBounds_54 : decode cX4_setBounds 54 = .ok (.invokestatic 86, 3) := by decide +kernel
theorem dX4_setBounds_57 : decode cX4_setBounds 57 = .ok (.iastore, 1) := by decide +kernel
theorem dX4_setBounds_58 : decode cX4_setBounds 58 = .ok (.aload_n 0, 1) := by decide +kernel
theorem dX4_setBounds_59 : decode cX4_setBounds 59 = .ok (.getfield 18, 3) := by decide +kernel
theorem dX4_setBounds_62 : decode cX4_setBounds 62 = .ok (.iload 4, 2) := by decide +kernel
theorem dX4_setBounds_64 : decode cX4_setBounds 64 = .ok (.iload 5, 2) := by decide +kernel
theorem dX4_setBounds_66 : decode cX4_setBounds 66 = .ok (.bipush 99, 2) := by decide +kernel
theorem dX4_setBounds_68 : decode cX4_setBounds 68 = .ok (.iload 6, 2) := by decide +kernel
theorem dX4_setBounds_70 : decode cX4_setBounds 70 = .ok (.isub, 1) := by decide +kernel
theorem dX4_setBounds_71 : decode cX4_setBounds 71 = .ok (.invokestatic 91, 3) := by decide +kernel
theorem dX4_setBounds_74 : decode cX4_setBounds 74 = .ok (.iastore, 1) := by decide +kernel
theorem dX4_setBounds_75 : decode cX4_setBounds 75 = .ok (.iinc 4 1, 3) := by decide +kernel
theorem dX4_setBounds_78 : decode cX4_setBounds 78 = .ok (.goto (-75), 3) := by decide +kernel
theorem dX4_setBounds_81 : decode cX4_setBounds 81 = .ok (.return_, 1) := by decide +kernel
theorem dX4_setShifts_0 : decode cX4_setShifts 0 = .ok (.aload_n 0, 1) := by decide +kernel
theorem dX4_setShifts_1 : decode cX4_setShifts 1 = .ok (.getfield 21, 3) := by decide +kernel
theorem dX4_setShifts_4 : decode cX4_setShifts 4 = .ok (.iconst 0, 1) := by decide +kernel
theorem dX4_setShifts_5 : decode cX4_setShifts 5 = .ok (.iload_n 2, 1) := by decide +kernel
theorem dX4_setShifts_6 : decode cX4_setShifts 6 = .ok (.iastore, 1) := by decide +kernel
theorem dX4_setShifts_7 : decode cX4_setShifts 7 = .ok (.aload_n 0, 1) := by decide +kernel
theorem dX4_setShifts_8 : decode cX4_setShifts 8 = .ok (.getfield 24, 3) := by decide +kernel
theorem dX4_setShifts_11 : decode cX4_setShifts 11 = .ok (.iconst 0, 1) := by decide +kernel
theorem dX4_setShifts_12 : decode cX4_setShifts 12 = .ok (.iconst 0, 1) := by decide +kernel
theorem dX4_setShifts_13 : decode cX4_setShifts 13 = .ok (.iastore, 1) := by decide +kernel
theorem dX4_setShifts_14 : decode cX4_setShifts 14 = .ok (.aload_n 0, 1) := by decide +kernel
theorem dX4_setShifts_15 : decode cX4_setShifts 15 = .ok (.getfield 27, 3) := by decide +kernel
theorem dX4_setShifts_18 : decode cX4_setShifts 18 = .ok (.iconst 0, 1) := by decide +kernel
theorem dX4_setShifts_19 : decode cX4_setShifts 19 = .ok (.iconst 0, 1) := by decide +kernel
theorem dX4_setShifts_20 : decode cX4_setShifts 20 = .ok (.iastore, 1) := by decide +kernel
theorem dX4_setShifts_21 : decode cX4_setShifts 21 = .ok (.iconst 1, 1) := by decide +kernel
theorem dX4_setShifts_22 : decode cX4_setShifts 22 = .ok (.istore_n 3, 1) := by decide +kernel
theorem dX4_setShifts_23 : decode cX4_setShifts 23 = .ok (.iload_n 3, 1) := by decide +kernel
theorem dX4_setShifts_24 : decode cX4_setShifts 24 = .ok (.aload_n 0, 1) := by decide +kernel
theorem dX4_setShifts_25 : decode cX4_setShifts 25 = .ok (.getfield 59, 3) := by decide +kernel
theorem dX4_setShifts_28 : decode cX4_setShifts 28 = .ok (.if_icmp .ge 132, 3) := by decide +kernel
theorem dX4_setShifts_31 : decode cX4_setShifts 31 = .ok (.iconst 2, 1) := by decide +kernel
theorem dX4_setShifts_32 : decode cX4_setShifts 32 = .ok (.aload_n 1, 1) := by decide +kernel
theorem dX4_setShifts_33 : decode cX4_setShifts 33 = .ok (.getfield 94, 3) := by decide +kernel
theorem dX4_setShifts_36 : decode cX4_setShifts 36 = .ok (.iload_n 3, 1) := by decide +kernel
theorem dX4_setShifts_37 : decode cX4_setShifts 37 = .ok (.iaload, 1) := by decide +kernel
theorem dX4_setShifts_38 : decode cX4_setShifts 38 = .ok (.invokestatic 86, 3) := by decide +kernel
theorem dX4_setShifts_41 : decode cX4_setShifts 41 = .ok (.istore 4, 2) := by decide +kernel
theorem dX4_setShifts_43 : decode cX4_setShifts 43 = .ok (.aload_n 0, 1) := by decide +kernel
theorem dX4_setShifts_44 : decode cX4_setShifts 44 = .ok (.getfield 21, 3) := by decide +kernel
theorem dX4_setShifts_47 : decode cX4_setShifts 47 = .ok (.iload_n 3, 1) := by decide +kernel
theorem dX4_setShifts_48 : decode cX4_setShifts 48 = .ok (.aload_n 0, 1) := by decide +kernel
theorem dX4_setShifts_49 : decode cX4_setShifts 49 = .ok (.getfield 21, 3) := by decide +kernel
theorem dX4_setShifts_52 : decode cX4_setShifts 52 = .ok (.iload_n 3, 1) := by decide +kernel
theorem dX4_setShifts_53 : decode cX4_setShifts 53 = .ok (.iconst 1, 1) := by decide +kernel
theorem dX4_setShifts_54 : decode cX4_setShifts 54 = .ok (.isub, 1) := by decide +kernel
theorem dX4_setShifts_55 : decode cX4_setShifts 55 = .ok (.iaload, 1) := by decide +kernel
theorem dX4_setShifts_56 : decode cX4_setShifts 56 = .ok (.iload 4, 2) := by decide +kernel
theorem dX4_setShifts_58 : decode cX4_setShifts 58 = .ok (.idiv, 1) := by decide +kernel
theorem dX4_setShifts_59 : decode cX4_setShifts 59 = .ok (.iastore, 1) := by decide +kernel
theorem dX4_setShifts_60 : decode cX4_setShifts 60 = .ok (.aload_n 0, 1) := by decide +kernel
theorem dX4_setShifts_61 : decode cX4_setShifts 61 = .ok (.getfield 21, 3) := by decide +kernel
theorem dX4_setShifts_64 : decode cX4_setShifts 64 = .ok (.iload_n 3, 1) := by decide +kernel
theorem dX4_setShifts_65 : decode cX4_setShifts 65 = .ok (.iconst 1, 1) := by decide +kernel
theorem dX4_setShifts_66 : decode cX4_setShifts 66 = .ok (.isub, 1) := by decide +kernel
theorem dX4_setShifts_67 : decode cX4_setShifts 67 = .ok (.iaload, 1) := by decide +kernel
theorem dX4_setShifts_68 : decode cX4_setShifts 68 = .ok (.iload 4, 2) := by decide +kernel
theorem dX4_setShifts_70 : decode cX4_setShifts 70 = .ok (.irem, 1) := by decide +kernel
theorem dX4_setShifts_71 : decode cX4_setShifts 71 = .ok (.istore 5, 2) := by decide +kernel
theorem dX4_setShifts_73 : decode cX4_setShifts 73 = .ok (.aload_n 0, 1) := by decide +kernel
theorem dX4_setShifts_74 : decode cX4_setShifts 74 = .ok (.getfield 18, 3) := by decide +kernel
theorem dX4_setShifts_77 : decode cX4_setShifts 77 = .ok (.iload_n 3, 1) := by decide +kernel
theorem dX4_setShifts_78 : decode cX4_setShifts 78 = .ok (.iconst 1, 1) := by decide +kernel
theorem dX4_setShifts_79 : decode cX4_setShifts 79 = .ok (.isub, 1) := by decide +kernel
theorem dX4_setShifts_80 : decode cX4_setShifts 80 = .ok (.iaload, 1) := by decide +kernel
theorem dX4_setShifts_81 : decode cX4_setShifts 81 = .ok (.aload_n 0, 1) := by decide +kernel
theorem dX4_setShifts_82 : decode cX4_setShifts 82 = .ok (.getfield 24, 3) := by decide +kernel
theorem dX4_setShifts_85 : decode cX4_setShifts 85 = .ok (.iload_n 3, 1) := by decide +kernel
theorem dX4_setShifts_86 : decode cX4_setShifts 86 = .ok (.iconst 1, 1) := by decide +kernel
theorem dX4_setShifts_87 : decode cX4_setShifts 87 = .ok (.isub, 1) := by decide +kernel
theorem dX4_setShifts_88 : decode cX4_setShifts 88 = .ok (.iaload, 1) := by decide +kernel
theorem dX4_setShifts_89 : decode cX4_setShifts 89 = .ok (.isub, 1) := by decide +kernel
theorem dX4_setShifts_90 : decode cX4_setShifts 90 = .ok (.iload 5, 2) := by decide +kernel
theorem dX4_setShifts_92 : decode cX4_setShifts 92 = .ok (.isub, 1) := by decide +kernel
theorem dX4_setShifts_93 : decode cX4_setShifts 93 = .ok (.iload 4, 2) := by decide +kernel
theorem dX4_setShifts_95 : decode cX4_setShifts 95 = .ok (.invokestatic 97, 3) := by decide +kernel
theorem dX4_setShifts_98 : decode cX4_setShifts 98 = .ok (.ineg, 1) := by decide +kernel
theorem dX4_setShifts_99 : decode cX4_setShifts 99 = .ok (.istore 6, 2) := by decide +kernel
theorem dX4_setShifts_101 : decode cX4_setShifts 101 = .ok (.iload 5, 2) := by decide +kernel
theorem dX4_setShifts_103 : decode cX4_setShifts 103 = .ok (.aload_n 0, 1) := by decide +kernel
theorem dX4_setShifts_104 : decode cX4_setShifts 104 = .ok (.getfield 27, 3) := by decide +kernel
theorem dX4_setShifts_107 : decode cX4_setShifts 107 = .ok (.iload_n 3, 1) := by decide +kernel
theorem dX4_setShifts_108 : decode cX4_setShifts 108 = .ok (.iconst 1, 1) := by decide +kernel
theorem dX4_setShifts_109 : decode cX4_setShifts 109 = .ok (.isub, 1) := by decide +kernel
theorem dX4_setShifts_110 : decode cX4_setShifts 110 = .ok (.iaload, 1) := by decide +kernel
theorem dX4_setShifts_111 : decode cX4_setShifts 111 = .ok (.iadd, 1) := by decide +kernel
theorem dX4_setShifts_112 : decode cX4_setShifts 112 = .ok (.aload_n 0, 1) := by decide +kernel
theorem dX4_setShifts_113 : decode cX4_setShifts 113 = .ok (.getfield 15, 3) := by decide +kernel
theorem dX4_setShifts_116 : decode cX4_setShifts 116 = .ok (.iload_n 3, 1) := by decide +kernel
theorem dX4_setShifts_117 : decode cX4_setShifts 117 = .ok (.iconst 1, 1) := by decide +kernel
theorem dX4_setShifts_118 : decode cX4_setShifts 118 = .ok (.isub, 1) := by decide +kernel
theorem dX4_setShifts_119 : decode cX4_setShifts 119 = .ok (.iaload, 1) := by decide +kernel
theorem dX4_setShifts_120 : decode cX4_setShifts 120 = .ok (.isub, 1) := by decide +kernel
theorem dX4_setShifts_121 : decode cX4_setShifts 121 = .ok (.iload 4, 2) := by decide +kernel
theorem dX4_setShifts_123 : decode cX4_setShifts 123 = .ok (.invokestatic 97, 3) := by decide +kernel
theorem dX4_setShifts_126 : decode cX4_setShifts 126 = .ok (.istore 7, 2) := by decide +kernel
theorem dX4_setShifts_128 : decode cX4_setShifts 128 = .ok (.aload_n 0, 1) := by decide +kernel
theorem dX4_setShifts_129 : decode cX4_setShifts 129 = .ok (.getfield 24, 3) := by decide +kernel
theorem dX4_setShifts_132 : decode cX4_setShifts 132 = .ok (.iload_n 3, 1) := by decide +kernel
theorem dX4_setShifts_133 : decode cX4_setShifts 133 = .ok (.bipush (-100), 2) := by decide +kernel
theorem dX4_setShifts_135 : decode cX4_setShifts 135 = .ok (.iload 6, 2) := by decide +kernel
theorem dX4_setShifts_137 : decode cX4_setShifts 137 = .ok (.invokestatic 86, 3) := by decide +kernel
theorem dX4_setShifts_140 : decode cX4_setShifts 140 = .ok (.iastore, 1) := by decide +kernel
theorem dX4_setShifts_141 : decode cX4_setShifts 141 = .ok (.aload_n 0, 1) := by decide +kernel
theorem dX4_setShifts_142 : decode cX4_setShifts 142 = .ok (.getfield 27, 3) := by decide +kernel
theorem dX4_setShifts_145 : decode cX4_setShifts 145 = .ok (.iload_n 3, 1) := by decide +kernel
theorem dX4_setShifts_146 : decode cX4_setShifts 146 = .ok (.bipush 100, 2) := by decide +kernel
theorem dX4_setShifts_148 : decode cX4_setShifts 148 = .ok (.iload 7, 2) := by decide +kernel
theorem dX4_setShifts_150 : decode cX4_setShifts 150 = .ok (.invokestatic 91, 3) := by decide +kernel
theorem dX4_setShifts_153 : decode cX4_setShifts 153 = .ok (.iastore, 1) := by decide +kernel
theorem dX4_setShifts_154 : decode cX4_setShifts 154 = .ok (.iinc 3 1, 3) := by decide +kernel
theorem dX4_setShifts_157 : decode cX4_setShifts 157 = .ok (.goto (-134), 3) := by decide +kernel
theorem dX4_setShifts_160 : decode cX4_setShifts 160 = .ok (.return_, 1) := by decide +kernel
theorem dX4_bestCost_0 : decode cX4_bestCost 0 = .ok (.iload_n 2, 1) := by decide +kernel
theorem dX4_bestCost_1 : decode cX4_bestCost 1 = .ok (.aload_n 0, 1) := by decide +kernel
theorem dX4_bestCost_2 : decode cX4_bestCost 2 = .ok (.getfield 59, 3) := by decide +kernel
theorem dX4_bestCost_5 : decode cX4_bestCost 5 = .ok (.iconst 1, 1) := by decide +kernel
theorem dX4_bestCost_6 : decode cX4_bestCost 6 = .ok (.isub, 1) := by decide +kernel
theorem dX4_bestCost_7 : decode cX4_bestCost 7 = .ok (.if_icmp .ne 33, 3) := by decide +kernel
theorem dX4_bestCost_10 : decode cX4_bestCost 10 = .ok (.iload_n 3, 1) := by decide +kernel
theorem dX4_bestCost_11 : decode cX4_bestCost 11 = .ok (.aload_n 0, 1) := by decide +kernel
theorem dX4_bestCost_12 : decode cX4_bestCost 12 = .ok (.getfield 15, 3) := by decide +kernel
theorem dX4_bestCost_15 : decode cX4_bestCost 15 = .ok (.iload_n 2, 1) := by decide +kernel
theorem dX4_bestCost_16 : decode cX4_bestCost 16 = .ok (.iaload, 1) := by decide +kernel
theorem dX4_bestCost_17 : decode cX4_bestCost 17 = .ok (.if_icmp .lt 20, 3) := by decide +kernel
theorem dX4_bestCost_20 : decode cX4_bestCost 20 = .ok (.iload_n 3, 1) := by decide +kernel
theorem dX4_bestCost_21 : decode cX4_bestCost 21 = .ok (.aload_n 0, 1) := by decide +kernel
theorem dX4_bestCost_22 : decode cX4_bestCost 22 = .ok (.getfield 18, 3) := by decide +kernel
theorem dX4_bestCost_25 : decode cX4_bestCost 25 = .ok (.iload_n 2, 1) := by decide +kernel
theorem dX4_bestCost_26 : decode cX4_bestCost 26 = .ok (.iaload, 1) := by decide +kernel
theorem dX4_bestCost_27 : decode cX4_bestCost 27 = .ok (.if_icmp .gt 10, 3) := by decide +kernel
theorem dX4_bestCost_30 : decode cX4_bestCost 30 = .ok (.iload_n 3, 1) := by decide +kernel
theorem dX4_bestCost_31 : decode cX4_bestCost 31 = .ok (.invokestatic 100, 3) := by decide +kernel
theorem dX4_bestCost_34 : decode cX4_bestCost 34 = .ok (.goto 5, 3) := by decide +kernel
theorem dX4_bestCost_37 : decode cX4_bestCost 37 = .ok (.bipush (-2), 2) := by decide +kernel
theorem dX4_bestCost_39 : decode cX4_bestCost 39 = .ok (.ireturn, 1) := by decide +kernel
theorem dX4_bestCost_40 : decode cX4_bestCost 40 = .ok (.iconst 2, 1) := by decide +kernel
theorem dX4_bestCost_41 : decode cX4_bestCost 41 = .ok (.aload_n 1, 1) := by decide +kernel
theorem dX4_bestCost_42 : decode cX4_bestCost 42 = .ok (.getfield 94, 3) := by decide +kernel
theorem dX4_bestCost_45 : decode cX4_bestCost 45 = .ok (.iload_n 2, 1) := by decide +kernel
theorem dX4_bestCost_46 : decode cX4_bestCost 46 = .ok (.iconst 1, 1) := by decide +kernel
theorem dX4_bestCost_47 : decode cX4_bestCost 47 = .ok (.iadd, 1) := by decide +kernel
theorem dX4_bestCost_48 : decode cX4_bestCost 48 = .ok (.iaload, 1) := by decide +kernel
theorem dX4_bestCost_49 : decode cX4_bestCost 49 = .ok (.invokestatic 86, 3) := by decide +kernel
theorem dX4_bestCost_52 : decode cX4_bestCost 52 = .ok (.istore 4, 2) := by decide +kernel
theorem dX4_bestCost_54 : decode cX4_bestCost 54 = .ok (.bipush (-2), 2) := by decide +kernel
theorem dX4_bestCost_56 : decode cX4_bestCost 56 = .ok (.istore 5, 2) := by decide +kernel
theorem dX4_bestCost_58 : decode cX4_bestCost 58 = .ok (.aload_n 0, 1) := by decide +kernel
theorem dX4_bestCost_59 : decode cX4_bestCost 59 = .ok (.iload_n 2, 1) := by decide +kernel
theorem dX4_bestCost_60 : decode cX4_bestCost 60 = .ok (.iload_n 3, 1) := by decide +kernel
theorem dX4_bestCost_61 : decode cX4_bestCost 61 = .ok (.iload 4, 2) := by decide +kernel
theorem dX4_bestCost_63 : decode cX4_bestCost 63 = .ok (.invokevirtual 103, 3) := by decide +kernel
theorem dX4_bestCost_66 : decode cX4_bestCost 66 = .ok (.istore 6, 2) := by decide +kernel
theorem dX4_bestCost_68 : decode cX4_bestCost 68 = .ok (.iload 6, 2) := by decide +kernel
theorem dX4_bestCost_70 : decode cX4_bestCost 70 = .ok (.aload_n 0, 1) := by decide +kernel
theorem dX4_bestCost_71 : decode cX4_bestCost 71 = .ok (.getfield 18, 3) := by decide +kernel
theorem dX4_bestCost_74 : decode cX4_bestCost 74 = .ok (.iload_n 2, 1) := by decide +kernel
theorem dX4_bestCost_75 : decode cX4_bestCost 75 = .ok (.iaload, 1) := by decide +kernel
theorem dX4_bestCost_76 : decode cX4_bestCost 76 = .ok (.if_icmp .gt 72, 3) := by decide +kernel
theorem dX4_bestCost_79 : decode cX4_bestCost 79 = .ok (.iload 5, 2) := by decide +kernel
theorem dX4_bestCost_81 : decode cX4_bestCost 81 = .ok (.bipush (-2), 2) := by decide +kernel
theorem dX4_bestCost_83 : decode cX4_bestCost 83 = .ok (.if_icmp .eq 13, 3) := by decide +kernel
theorem dX4_bestCost_86 : decode cX4_bestCost 86 = .ok (.iload 6, 2) := by decide +kernel
theorem dX4_bestCost_88 : decode cX4_bestCost 88 = .ok (.invokestatic 100, 3) := by decide +kernel
theorem dX4_bestCost_91 : decode cX4_bestCost 91 = .ok (.iload 5, 2) := by decide +kernel
theorem dX4_bestCost_93 : decode cX4_bestCost 93 = .ok (.if_icmp .ge 45, 3) := by decide +kernel
theorem dX4_bestCost_96 : decode cX4_bestCost 96 = .ok (.aload_n 0, 1) := by decide +kernel
theorem dX4_bestCost_97 : decode cX4_bestCost 97 = .ok (.iload_n 2, 1) := by decide +kernel
theorem dX4_bestCost_98 : decode cX4_bestCost 98 = .ok (.iload_n 3, 1) := by decide +kernel
theorem dX4_bestCost_99 : decode cX4_bestCost 99 = .ok (.iload 6, 2) := by decide +kernel
theorem dX4_bestCost_101 : decode cX4_bestCost 101 = .ok (.iload 4, 2) := by decide +kernel
theorem dX4_bestCost_103 : decode cX4_bestCost 103 = .ok (.invokevirtual 107, 3) := by decide +kernel
theorem dX4_bestCost_106 : decode cX4_bestCost 106 = .ok (.istore 7, 2) := by decide +kernel
theorem dX4_bestCost_108 : decode cX4_bestCost 108 = .ok (.iload 7, 2) := by decide +kernel
theorem dX4_bestCost_110 : decode cX4_bestCost 110 = .ok (.bipush (-2), 2) := by decide +kernel
theorem dX4_bestCost_112 : decode cX4_bestCost 112 = .ok (.if_icmp .eq 22, 3) := by decide +kernel
theorem dX4_bestCost_115 : decode cX4_bestCost 115 = .ok (.iload 5, 2) := by decide +kernel
theorem dX4_bestCost_117 : decode cX4_bestCost 117 = .ok (.bipush (-2), 2) := by decide +kernel
theorem dX4_bestCost_119 : decode cX4_bestCost 119 = .ok (.if_icmp .eq 10, 3) := by decide +kernel
theorem dX4_bestCost_122 : decode cX4_bestCost 122 = .ok (.iload 7, 2) := by decide +kernel
theorem dX4_bestCost_124 : decode cX4_bestCost 124 = .ok (.iload 5, 2) := by decide +kernel
theorem dX4_bestCost_126 : decode cX4_bestCost 126 = .ok (.if_icmp .ge 8, 3) := by decide +kernel
theorem dX4_bestCost_129 : decode cX4_bestCost 129 = .ok (.iload 7, 2) := by decide +kernel
theorem dX4_bestCost_131 : decode cX4_bestCost 131 = .ok (.goto 5, 3) := by decide +kernel
theorem dX4_bestCost_134 : decode cX4_bestCost 134 = .ok (.iload 5, 2) := by decide +kernel
theorem dX4_bestCost_136 : decode cX4_bestCost 136 = .ok (.istore 5, 2) := by decide +kernel
theorem dX4_bestCost_138 : decode cX4_bestCost 138 = .ok (.iload 6, 2) := by decide +kernel
theorem dX4_bestCost_140 : decode cX4_bestCost 140 = .ok (.iload 4, 2) := by decide +kernel
theorem dX4_bestCost_142 : decode cX4_bestCost 142 = .ok (.iadd, 1) := by decide +kernel
theorem dX4_bestCost_143 : decode cX4_bestCost 143 = .ok (.istore 6, 2) := by decide +kernel
theorem dX4_bestCost_145 : decode cX4_bestCost 145 = .ok (.goto (-77), 3) := by decide +kernel
theorem dX4_bestCost_148 : decode cX4_bestCost 148 = .ok (.iload 5, 2) := by decide +kernel
theorem dX4_bestCost_150 : decode cX4_bestCost 150 = .ok (.ireturn, 1) := by decide +kernel
theorem dX4_firstOver_0 : decode cX4_firstOver 0 = .ok (.aload_n 0, 1) := by decide +kernel
theorem dX4_firstOver_1 : decode cX4_firstOver 1 = .ok (.getfield 15, 3) := by decide +kernel
theorem dX4_firstOver_4 : decode cX4_firstOver 4 = .ok (.iload_n 1, 1) := by decide +kernel
theorem dX4_firstOver_5 : decode cX4_firstOver 5 = .ok (.iaload, 1) := by decide +kernel
theorem dX4_firstOver_6 : decode cX4_firstOver 6 = .ok (.iload_n 2, 1) := by decide +kernel
theorem dX4_firstOver_7 : decode cX4_firstOver 7 = .ok (.aload_n 0, 1) := by decide +kernel
theorem dX4_firstOver_8 : decode cX4_firstOver 8 = .ok (.getfield 15, 3) := by decide +kernel
theorem dX4_firstOver_11 : decode cX4_firstOver 11 = .ok (.iload_n 1, 1) := by decide +kernel
theorem dX4_firstOver_12 : decode cX4_firstOver 12 = .ok (.iaload, 1) := by decide +kernel
theorem dX4_firstOver_13 : decode cX4_firstOver 13 = .ok (.isub, 1) := by decide +kernel
theorem dX4_firstOver_14 : decode cX4_firstOver 14 = .ok (.iload_n 3, 1) := by decide +kernel
theorem dX4_firstOver_15 : decode cX4_firstOver 15 = .ok (.invokestatic 111, 3) := by decide +kernel
theorem dX4_firstOver_18 : decode cX4_firstOver 18 = .ok (.iadd, 1) := by decide +kernel
theorem dX4_firstOver_19 : decode cX4_firstOver 19 = .ok (.ireturn, 1) := by decide +kernel
theorem dX4_costWith_0 : decode cX4_costWith 0 = .ok (.aload_n 0, 1) := by decide +kernel
theorem dX4_costWith_1 : decode cX4_costWith 1 = .ok (.iload_n 1, 1) := by decide +kernel
theorem dX4_costWith_2 : decode cX4_costWith 2 = .ok (.iconst 1, 1) := by decide +kernel
theorem dX4_costWith_3 : decode cX4_costWith 3 = .ok (.iadd, 1) := by decide +kernel
theorem dX4_costWith_4 : decode cX4_costWith 4 = .ok (.iload_n 2, 1) := by decide +kernel
theorem dX4_costWith_5 : decode cX4_costWith 5 = .ok (.iload_n 3, 1) := by decide +kernel
theorem dX4_costWith_6 : decode cX4_costWith 6 = .ok (.isub, 1) := by decide +kernel
theorem dX4_costWith_7 : decode cX4_costWith 7 = .ok (.iload 4, 2) := by decide +kernel
theorem dX4_costWith_9 : decode cX4_costWith 9 = .ok (.idiv, 1) := by decide +kernel
theorem dX4_costWith_10 : decode cX4_costWith 10 = .ok (.invokevirtual 76, 3) := by decide +kernel
theorem dX4_costWith_13 : decode cX4_costWith 13 = .ok (.istore 5, 2) := by decide +kernel
theorem dX4_costWith_15 : decode cX4_costWith 15 = .ok (.iload 5, 2) := by decide +kernel
theorem dX4_costWith_17 : decode cX4_costWith 17 = .ok (.bipush (-2), 2) := by decide +kernel
theorem dX4_costWith_19 : decode cX4_costWith 19 = .ok (.if_icmp .ne 8, 3) := by decide +kernel
theorem dX4_costWith_22 : decode cX4_costWith 22 = .ok (.bipush (-2), 2) := by decide +kernel
theorem dX4_costWith_24 : decode cX4_costWith 24 = .ok (.goto 10, 3) := by decide +kernel
theorem dX4_costWith_27 : decode cX4_costWith 27 = .ok (.iload 5, 2) := by decide +kernel
theorem dX4_costWith_29 : decode cX4_costWith 29 = .ok (.iload_n 3, 1) := by decide +kernel
theorem dX4_costWith_30 : decode cX4_costWith 30 = .ok (.invokestatic 100, 3) := by decide +kernel
theorem dX4_costWith_33 : decode cX4_costWith 33 = .ok (.iadd, 1) := by decide +kernel
theorem dX4_costWith_34 : decode cX4_costWith 34 = .ok (.ireturn, 1) := by decide +kernel
theorem dX4_costOf_0 : decode cX4_costOf 0 = .ok (.iload_n 2, 1) := by decide +kernel
theorem dX4_costOf_1 : decode cX4_costOf 1 = .ok (.aload_n 0, 1) := by decide +kernel
theorem dX4_costOf_2 : decode cX4_costOf 2 = .ok (.getfield 21, 3) := by decide +kernel
theorem dX4_costOf_5 : decode cX4_costOf 5 = .ok (.iload_n 1, 1) := by decide +kernel
theorem dX4_costOf_6 : decode cX4_costOf 6 = .ok (.iaload, 1) := by decide +kernel
theorem dX4_costOf_7 : decode cX4_costOf 7 = .ok (.isub, 1) := by decide +kernel
theorem dX4_costOf_8 : decode cX4_costOf 8 = .ok (.istore_n 3, 1) := by decide +kernel
theorem dX4_costOf_9 : decode cX4_costOf 9 = .ok (.iload_n 3, 1) := by decide +kernel
theorem dX4_costOf_10 : decode cX4_costOf 10 = .ok (.aload_n 0, 1) := by decide +kernel
theorem dX4_costOf_11 : decode cX4_costOf 11 = .ok (.getfield 24, 3) := by decide +kernel
theorem dX4_costOf_14 : decode cX4_costOf 14 = .ok (.iload_n 1, 1) := by decide +kernel
theorem dX4_costOf_15 : decode cX4_costOf 15 = .ok (.iaload, 1) := by decide +kernel
theorem dX4_costOf_16 : decode cX4_costOf 16 = .ok (.if_icmp .lt 13, 3) := by decide +kernel
theorem dX4_costOf_19 : decode cX4_costOf 19 = .ok (.iload_n 3, 1) := by decide +kernel
theorem dX4_costOf_20 : decode cX4_costOf 20 = .ok (.aload_n 0, 1) := by decide +kernel
theorem dX4_costOf_21 : decode cX4_costOf 21 = .ok (.getfield 27, 3) := by decide +kernel
theorem dX4_costOf_24 : decode cX4_costOf 24 = .ok (.iload_n 1, 1) := by decide +kernel
theorem dX4_costOf_25 : decode cX4_costOf 25 = .ok (.iaload, 1) := by decide +kernel
theorem dX4_costOf_26 : decode cX4_costOf 26 = .ok (.if_icmp .le 8, 3) := by decide +kernel
theorem dX4_costOf_29 : decode cX4_costOf 29 = .ok (.bipush (-2), 2) := by decide +kernel
theorem dX4_costOf_31 : decode cX4_costOf 31 = .ok (.goto 18, 3) := by decide +kernel
theorem dX4_costOf_34 : decode cX4_costOf 34 = .ok (.aload_n 0, 1) := by decide +kernel
theorem dX4_costOf_35 : decode cX4_costOf 35 = .ok (.getfield 30, 3) := by decide +kernel
theorem dX4_costOf_38 : decode cX4_costOf 38 = .ok (.iload_n 1, 1) := by decide +kernel
theorem dX4_costOf_39 : decode cX4_costOf 39 = .ok (.sipush 201, 3) := by decide +kernel
theorem dX4_costOf_42 : decode cX4_costOf 42 = .ok (.imul, 1) := by decide +kernel
theorem dX4_costOf_43 : decode cX4_costOf 43 = .ok (.bipush 100, 2) := by decide +kernel
theorem dX4_costOf_45 : decode cX4_costOf 45 = .ok (.iadd, 1) := by decide +kernel
theorem dX4_costOf_46 : decode cX4_costOf 46 = .ok (.iload_n 3, 1) := by decide +kernel
theorem dX4_costOf_47 : decode cX4_costOf 47 = .ok (.iadd, 1) := by decide +kernel
theorem dX4_costOf_48 : decode cX4_costOf 48 = .ok (.iaload, 1) := by decide +kernel
theorem dX4_costOf_49 : decode cX4_costOf 49 = .ok (.ireturn, 1) := by decide +kernel
theorem dX4_follow_0 : decode cX4_follow 0 = .ok (.iload_n 2, 1) := by decide +kernel
theorem dX4_follow_1 : decode cX4_follow 1 = .ok (.istore_n 3, 1) := by decide +kernel
theorem dX4_follow_2 : decode cX4_follow 2 = .ok (.iconst 0, 1) := by decide +kernel
theorem dX4_follow_3 : decode cX4_follow 3 = .ok (.istore 4, 2) := by decide +kernel
theorem dX4_follow_5 : decode cX4_follow 5 = .ok (.iload 4, 2) := by decide +kernel
theorem dX4_follow_7 : decode cX4_follow 7 = .ok (.aload_n 0, 1) := by decide +kernel
theorem dX4_follow_8 : decode cX4_follow 8 = .ok (.getfield 59, 3) := by decide +kernel
theorem dX4_follow_11 : decode cX4_follow 11 = .ok (.iconst 1, 1) := by decide +kernel
theorem dX4_follow_12 : decode cX4_follow 12 = .ok (.isub, 1) := by decide +kernel
theorem dX4_follow_13 : decode cX4_follow 13 = .ok (.if_icmp .ge 115, 3) := by decide +kernel
theorem dX4_follow_16 : decode cX4_follow 16 = .ok (.iconst 2, 1) := by decide +kernel
theorem dX4_follow_17 : decode cX4_follow 17 = .ok (.aload_n 1, 1) := by decide +kernel
theorem dX4_follow_18 : decode cX4_follow 18 = .ok (.getfield 94, 3) := by decide +kernel
theorem dX4_follow_21 : decode cX4_follow 21 = .ok (.iload 4, 2) := by decide +kernel
theorem dX4_follow_23 : decode cX4_follow 23 = .ok (.iconst 1, 1) := by decide +kernel
theorem dX4_follow_24 : decode cX4_follow 24 = .ok (.iadd, 1) := by decide +kernel
theorem dX4_follow_25 : decode cX4_follow 25 = .ok (.iaload, 1) := by decide +kernel
theorem dX4_follow_26 : decode cX4_follow 26 = .ok (.invokestatic 86, 3) := by decide +kernel
theorem dX4_follow_29 : decode cX4_follow 29 = .ok (.istore 5, 2) := by decide +kernel
theorem dX4_follow_31 : decode cX4_follow 31 = .ok (.aload_n 0, 1) := by decide +kernel
theorem dX4_follow_32 : decode cX4_follow 32 = .ok (.iload 4, 2) := by decide +kernel
theorem dX4_follow_34 : decode cX4_follow 34 = .ok (.iload_n 3, 1) := by decide +kernel
theorem dX4_follow_35 : decode cX4_follow 35 = .ok (.invokevirtual 76, 3) := by decide +kernel
theorem dX4_follow_38 : decode cX4_follow 38 = .ok (.istore 6, 2) := by decide +kernel
theorem dX4_follow_40 : decode cX4_follow 40 = .ok (.aload_n 0, 1) := by decide +kernel
theorem dX4_follow_41 : decode cX4_follow 41 = .ok (.getfield 11, 3) := by decide +kernel
theorem dX4_follow_44 : decode cX4_follow 44 = .ok (.iload 4, 2) := by decide +kernel
theorem dX4_follow_46 : decode cX4_follow 46 = .ok (.iconst 0, 1) := by decide +kernel
theorem dX4_follow_47 : decode cX4_follow 47 = .ok (.iastore, 1) := by decide +kernel
theorem dX4_follow_48 : decode cX4_follow 48 = .ok (.aload_n 0, 1) := by decide +kernel
theorem dX4_follow_49 : decode cX4_follow 49 = .ok (.iload 4, 2) := by decide +kernel
theorem dX4_follow_51 : decode cX4_follow 51 = .ok (.iload_n 3, 1) := by decide +kernel
theorem dX4_follow_52 : decode cX4_follow 52 = .ok (.iload 5, 2) := by decide +kernel
theorem dX4_follow_54 : decode cX4_follow 54 = .ok (.invokevirtual 103, 3) := by decide +kernel
theorem dX4_follow_57 : decode cX4_follow 57 = .ok (.istore 7, 2) := by decide +kernel
theorem dX4_follow_59 : decode cX4_follow 59 = .ok (.iload 7, 2) := by decide +kernel
theorem dX4_follow_61 : decode cX4_follow 61 = .ok (.aload_n 0, 1) := by decide +kernel
theorem dX4_follow_62 : decode cX4_follow 62 = .ok (.getfield 18, 3) := by decide +kernel
theorem dX4_follow_65 : decode cX4_follow 65 = .ok (.iload 4, 2) := by decide +kernel
theorem dX4_follow_67 : decode cX4_follow 67 = .ok (.iaload, 1) := by decide +kernel
theorem dX4_follow_68 : decode cX4_follow 68 = .ok (.if_icmp .gt 41, 3) := by decide +kernel
theorem dX4_follow_71 : decode cX4_follow 71 = .ok (.aload_n 0, 1) := by decide +kernel
theorem dX4_follow_72 : decode cX4_follow 72 = .ok (.iload 4, 2) := by decide +kernel
theorem dX4_follow_74 : decode cX4_follow 74 = .ok (.iload_n 3, 1) := by decide +kernel
theorem dX4_follow_75 : decode cX4_follow 75 = .ok (.iload 7, 2) := by decide +kernel
theorem dX4_follow_77 : decode cX4_follow 77 = .ok (.iload 5, 2) := by decide +kernel
theorem dX4_follow_79 : decode cX4_follow 79 = .ok (.invokevirtual 107, 3) := by decide +kernel
theorem dX4_follow_82 : decode cX4_follow 82 = .ok (.iload 6, 2) := by decide +kernel
theorem dX4_follow_84 : decode cX4_follow 84 = .ok (.if_icmp .ne 15, 3) := by decide +kernel
theorem dX4_follow_87 : decode cX4_follow 87 = .ok (.aload_n 0, 1) := by decide +kernel
theorem dX4_follow_88 : decode cX4_follow 88 = .ok (.getfield 11, 3) := by decide +kernel
theorem dX4_follow_91 : decode cX4_follow 91 = .ok (.iload 4, 2) := by decide +kernel
theorem dX4_follow_93 : decode cX4_follow 93 = .ok (.iload 7, 2) := by decide +kernel
theorem dX4_follow_95 : decode cX4_follow 95 = .ok (.iastore, 1) := by decide +kernel
theorem dX4_follow_96 : decode cX4_follow 96 = .ok (.goto 13, 3) := by decide +kernel
theorem dX4_follow_99 : decode cX4_follow 99 = .ok (.iload 7, 2) := by decide +kernel
theorem dX4_follow_101 : decode cX4_follow 101 = .ok (.iload 5, 2) := by decide +kernel
theorem dX4_follow_103 : decode cX4_follow 103 = .ok (.iadd, 1) := by decide +kernel
theorem dX4_follow_104 : decode cX4_follow 104 = .ok (.istore 7, 2) := by decide +kernel
theorem dX4_follow_106 : decode cX4_follow 106 = .ok (.goto (-47), 3) := by decide +kernel
theorem dX4_follow_109 : decode cX4_follow 109 = .ok (.iload_n 3, 1) := by decide +kernel
theorem dX4_follow_110 : decode cX4_follow 110 = .ok (.aload_n 0, 1) := by decide +kernel
theorem dX4_follow_111 : decode cX4_follow 111 = .ok (.getfield 11, 3) := by decide +kernel
theorem dX4_follow_114 : decode cX4_follow 114 = .ok (.iload 4, 2) := by decide +kernel
theorem dX4_follow_116 : decode cX4_follow 116 = .ok (.iaload, 1) := by decide +kernel
theorem dX4_follow_117 : decode cX4_follow 117 = .ok (.isub, 1) := by decide +kernel
theorem dX4_follow_118 : decode cX4_follow 118 = .ok (.iload 5, 2) := by decide +kernel
theorem dX4_follow_120 : decode cX4_follow 120 = .ok (.idiv, 1) := by decide +kernel
theorem dX4_follow_121 : decode cX4_follow 121 = .ok (.istore_n 3, 1) := by decide +kernel
theorem dX4_follow_122 : decode cX4_follow 122 = .ok (.iinc 4 1, 3) := by decide +kernel
theorem dX4_follow_125 : decode cX4_follow 125 = .ok (.goto (-120), 3) := by decide +kernel
theorem dX4_follow_128 : decode cX4_follow 128 = .ok (.aload_n 0, 1) := by decide +kernel
theorem dX4_follow_129 : decode cX4_follow 129 = .ok (.getfield 11, 3) := by decide +kernel
theorem dX4_follow_132 : decode cX4_follow 132 = .ok (.aload_n 0, 1) := by decide +kernel
theorem dX4_follow_133 : decode cX4_follow 133 = .ok (.getfield 59, 3) := by decide +kernel
theorem dX4_follow_136 : decode cX4_follow 136 = .ok (.iconst 1, 1) := by decide +kernel
theorem dX4_follow_137 : decode cX4_follow 137 = .ok (.isub, 1) := by decide +kernel
theorem dX4_follow_138 : decode cX4_follow 138 = .ok (.iload_n 3, 1) := by decide +kernel
theorem dX4_follow_139 : decode cX4_follow 139 = .ok (.iastore, 1) := by decide +kernel
theorem dX4_follow_140 : decode cX4_follow 140 = .ok (.return_, 1) := by decide +kernel
theorem dX5_init_0 : decode cX5_init 0 = .ok (.aload_n 0, 1) := by decide +kernel
theorem dX5_init_1 : decode cX5_init 1 = .ok (.invokespecial 3, 3) := by decide +kernel
theorem dX5_init_4 : decode cX5_init 4 = .ok (.aload_n 0, 1) := by decide +kernel
theorem dX5_init_5 : decode cX5_init 5 = .ok (.bipush 6, 2) := by decide +kernel
theorem dX5_init_7 : decode cX5_init 7 = .ok (.newarray .int, 2) := by decide +kernel
theorem dX5_init_9 : decode cX5_init 9 = .ok (.putfield 9, 3) := by decide +kernel
theorem dX5_init_12 : decode cX5_init 12 = .ok (.aload_n 0, 1) := by decide +kernel
theorem dX5_init_13 : decode cX5_init 13 = .ok (.bipush 6, 2) := by decide +kernel
theorem dX5_init_15 : decode cX5_init 15 = .ok (.newarray .int, 2) := by decide +kernel
theorem dX5_init_17 : decode cX5_init 17 = .ok (.putfield 15, 3) := by decide +kernel
theorem dX5_init_20 : decode cX5_init 20 = .ok (.aload_n 0, 1) := by decide +kernel
theorem dX5_init_21 : decode cX5_init 21 = .ok (.bipush 100, 2) := by decide +kernel
theorem dX5_init_23 : decode cX5_init 23 = .ok (.newarray .long, 2) := by decide +kernel
theorem dX5_init_25 : decode cX5_init 25 = .ok (.putfield 18, 3) := by decide +kernel
theorem dX5_init_28 : decode cX5_init 28 = .ok (.aload_n 0, 1) := by decide +kernel
theorem dX5_init_29 : decode cX5_init 29 = .ok (.bipush 100, 2) := by decide +kernel
theorem dX5_init_31 : decode cX5_init 31 = .ok (.newarray .long, 2) := by decide +kernel
theorem dX5_init_33 : decode cX5_init 33 = .ok (.putfield 22, 3) := by decide +kernel
theorem dX5_init_36 : decode cX5_init 36 = .ok (.return_, 1) := by decide +kernel
theorem dX5_splitPlain_0 : decode cX5_splitPlain 0 = .ok (.iload_n 2, 1) := by decide +kernel
theorem dX5_splitPlain_1 : decode cX5_splitPlain 1 = .ok (.istore_n 3, 1) := by decide +kernel
theorem dX5_splitPlain_2 : decode cX5_splitPlain 2 = .ok (.iconst 0, 1) := by decide +kernel
theorem dX5_splitPlain_3 : decode cX5_splitPlain 3 = .ok (.istore 4, 2) := by decide +kernel
theorem dX5_splitPlain_5 : decode cX5_splitPlain 5 = .ok (.aload_n 1, 1) := by decide +kernel
theorem dX5_splitPlain_6 : decode cX5_splitPlain 6 = .ok (.getfield 25, 3) := by decide +kernel
theorem dX5_splitPlain_9 : decode cX5_splitPlain 9 = .ok (.iconst 1, 1) := by decide +kernel
theorem dX5_splitPlain_10 : decode cX5_splitPlain 10 = .ok (.isub, 1) := by decide +kernel
theorem dX5_splitPlain_11 : decode cX5_splitPlain 11 = .ok (.istore 5, 2) := by decide +kernel
theorem dX5_splitPlain_13 : decode cX5_splitPlain 13 = .ok (.iload 5, 2) := by decide +kernel
theorem dX5_splitPlain_15 : decode cX5_splitPlain 15 = .ok (.ifCond .lt 69, 3) := by decide +kernel
theorem dX5_splitPlain_18 : decode cX5_splitPlain 18 = .ok (.aload_n 0, 1) := by decide +kernel
theorem dX5_splitPlain_19 : decode cX5_splitPlain 19 = .ok (.getfield 9, 3) := by decide +kernel
theorem dX5_splitPlain_22 : decode cX5_splitPlain 22 = .ok (.iload 5, 2) := by decide +kernel
theorem dX5_splitPlain_24 : decode cX5_splitPlain 24 = .ok (.aload_n 1, 1) := by decide +kernel
theorem dX5_splitPlain_25 : decode cX5_splitPlain 25 = .ok (.getfield 31, 3) := by decide +kernel
theorem dX5_splitPlain_28 : decode cX5_splitPlain 28 = .ok (.iload 5, 2) := by decide +kernel
theorem dX5_splitPlain_30 : decode cX5_splitPlain 30 = .ok (.iaload, 1) := by decide +kernel
theorem dX5_splitPlain_31 : decode cX5_splitPlain 31 = .ok (.ifCond .le 15, 3) := by decide +kernel
theorem dX5_splitPlain_34 : decode cX5_splitPlain 34 = .ok (.iload_n 3, 1) := by decide +kernel
theorem dX5_splitPlain_35 : decode cX5_splitPlain 35 = .ok (.aload_n 1, 1) := by decide +kernel
theorem dX5_splitPlain_36 : decode cX5_splitPlain 36 = .ok (.getfield 31, 3) := by decide +kernel
theorem dX5_splitPlain_39 : decode cX5_splitPlain 39 = .ok (.iload 5, 2) := by decide +kernel
theorem dX5_splitPlain_41 : decode cX5_splitPlain 41 = .ok (.iaload, 1) := by decide +kernel
theorem dX5_splitPlain_42 : decode cX5_splitPlain 42 = .ok (.idiv, 1) := by decide +kernel
theorem dX5_splitPlain_43 : decode cX5_splitPlain 43 = .ok (.goto 4, 3) := by decide +kernel
theorem dX5_splitPlain_46 : decode cX5_splitPlain 46 = .ok (.iconst 0, 1) := by decide +kernel
theorem dX5_splitPlain_47 : decode cX5_splitPlain 47 = .ok (.iastore, 1) := by decide +kernel
theorem dX5_splitPlain_48 : decode cX5_splitPlain 48 = .ok (.iload_n 3, 1) := by decide +kernel
theorem dX5_splitPlain_49 : decode cX5_splitPlain 49 = .ok (.aload_n 0, 1) := by decide +kernel
theorem dX5_splitPlain_50 : decode cX5_splitPlain 50 = .ok (.getfield 9, 3) := by decide +kernel
theorem dX5_splitPlain_53 : decode cX5_splitPlain 53 = .ok (.iload 5, 2) := by decide +kernel
theorem dX5_splitPlain_55 : decode cX5_splitPlain 55 = .ok (.iaload, 1) := by decide +kernel
theorem dX5_splitPlain_56 : decode cX5_splitPlain 56 = .ok (.aload_n 1, 1) := by decide +kernel
theorem dX5_splitPlain_57 : decode cX5_splitPlain 57 = .ok (.getfield 31, 3) := by decide +kernel
theorem dX5_splitPlain_60 : decode cX5_splitPlain 60 = .ok (.iload 5, 2) := by decide +kernel
theorem dX5_splitPlain_62 : decode cX5_splitPlain 62 = .ok (.iaload, 1) := by decide +kernel
theorem dX5_splitPlain_63 : decode cX5_splitPlain 63 = .ok (.imul, 1) := by decide +kernel
theorem dX5_splitPlain_64 : decode cX5_splitPlain 64 = .ok (.isub, 1) := by decide +kernel
theorem dX5_splitPlain_65 : decode cX5_splitPlain 65 = .ok (.istore_n 3, 1) := by decide +kernel
theorem dX5_splitPlain_66 : decode cX5_splitPlain 66 = .ok (.iload 4, 2) := by decide +kernel
theorem dX5_splitPlain_68 : decode cX5_splitPlain 68 = .ok (.aload_n 0, 1) := by decide +kernel
theorem dX5_splitPlain_69 : decode cX5_splitPlain 69 = .ok (.getfield 9, 3) := by decide +kernel
theorem dX5_splitPlain_72 : decode cX5_splitPlain 72 = .ok (.iload 5, 2) := by decide +kernel
theorem dX5_splitPlain_74 : decode cX5_splitPlain 74 = .ok (.iaload, 1) := by decide +kernel
theorem dX5_splitPlain_75 : decode cX5_splitPlain 75 = .ok (.iadd, 1) := by decide +kernel
theorem dX5_splitPlain_76 : decode cX5_splitPlain 76 = .ok (.istore 4, 2) := by decide +kernel
theorem dX5_splitPlain_78 : decode cX5_splitPlain 78 = .ok (.iinc 5 (-1), 3) := by decide +kernel
theorem dX5_splitPlain_81 : decode cX5_splitPlain 81 = .ok (.goto (-68), 3) := by decide +kernel
theorem dX5_splitPlain_84 : decode cX5_splitPlain 84 = .ok (.iload 4, 2) := by decide +kernel
theorem dX5_splitPlain_86 : decode cX5_splitPlain 86 = .ok (.ireturn, 1) := by decide +kernel
theorem dX5_partsFit_0 : decode cX5_partsFit 0 = .ok (.iconst 0, 1) := by decide +kernel
theorem dX5_partsFit_1 : decode cX5_partsFit 1 = .ok (.istore_n 2, 1) := by decide +kernel
theorem dX5_partsFit_2 : decode cX5_partsFit 2 = .ok (.iload_n 2, 1) := by decide +kernel
theorem dX5_partsFit_3 : decode cX5_partsFit 3 = .ok (.aload_n 1, 1) := by decide +kernel
theorem dX5_partsFit_4 : decode cX5_partsFit 4 = .ok (.getfield 25, 3) := by decide +kernel
theorem dX5_partsFit_7 : decode cX5_partsFit 7 = .ok (.if_icmp .ge 22, 3) := by decide +kernel
theorem dX5_partsFit_10 : decode cX5_partsFit 10 = .ok (.aload_n 0, 1) := by decide +kernel
theorem dX5_partsFit_11 : decode cX5_partsFit 11 = .ok (.getfield 9, 3) := by decide +kernel
theorem dX5_partsFit_14 : decode cX5_partsFit 14 = .ok (.iload_n 2, 1) := by decide +kernel
theorem dX5_partsFit_15 : decode cX5_partsFit 15 = .ok (.iaload, 1) := by decide +kernel
theorem dX5_partsFit_16 : decode cX5_partsFit 16 = .ok (.bipush 99, 2) := by decide +kernel
theorem dX5_partsFit_18 : decode cX5_partsFit 18 = .ok (.if_icmp .le 5, 3) := by decide +kernel
theorem dX5_partsFit_21 : decode cX5_partsFit 21 = .ok (.iconst 0, 1) := by decide +kernel
theorem dX5_partsFit_22 : decode cX5_partsFit 22 = .ok (.ireturn, 1) := by decide +kernel
theorem dX5_partsFit_23 : decode cX5_partsFit 23 = .ok (.iinc 2 1, 3) := by decide +kernel
theorem dX5_partsFit_26 : decode cX5_partsFit 26 = .ok (.goto (-24), 3) := by decide +kernel
theorem dX5_partsFit_29 : decode cX5_partsFit 29 = .ok (.iconst 1, 1) := by decide +kernel
theorem dX5_partsFit_30 : decode cX5_partsFit 30 = .ok (.ireturn, 1) := by decide +kernel
theorem dX5_countParts_0 : decode cX5_countParts 0 = .ok (.iconst 0, 1) := by decide +kernel
theorem dX5_countParts_1 : decode cX5_countParts 1 = .ok (.istore_n 2, 1) := by decide +kernel
theorem dX5_countParts_2 : decode cX5_countParts 2 = .ok (.iconst 0, 1) := by decide +kernel
theorem dX5_countParts_3 : decode cX5_countParts 3 = .ok (.istore_n 3, 1) := by decide +kernel
theorem dX5_countParts_4 : decode cX5_countParts 4 = .ok (.iload_n 3, 1) := by decide +kernel
theorem dX5_countParts_5 : decode cX5_countParts 5 = .ok (.aload_n 1, 1) := by decide +kernel
theorem dX5_countParts_6 : decode cX5_countParts 6 = .ok (.getfield 25, 3) := by decide +kernel
theorem dX5_countParts_9 : decode cX5_countParts 9 = .ok (.if_icmp .ge 18, 3) := by decide +kernel
theorem dX5_countParts_12 : decode cX5_countParts 12 = .ok (.iload_n 2, 1) := by decide +kernel
theorem dX5_countParts_13 : decode cX5_countParts 13 = .ok (.aload_n 0, 1) := by decide +kernel
theorem dX5_countParts_14 : decode cX5_countParts 14 = .ok (.getfield 9, 3) := by decide +kernel
theorem dX5_countParts_17 : decode cX5_countParts 17 = .ok (.iload_n 3, 1) := by decide +kernel
theorem dX5_countParts_18 : decode cX5_countParts 18 = .ok (.iaload, 1) := by decide +kernel
theorem dX5_countParts_19 : decode cX5_countParts 19 = .ok (.iadd, 1) := by decide +kernel
theorem dX5_countParts_20 : decode cX5_countParts 20 = .ok (.istore_n 2, 1) := by decide +kernel
theorem dX5_countParts_21 : decode cX5_countParts 21 = .ok (.iinc 3 1, 3) := by decide +kernel
theorem dX5_countParts_24 : decode cX5_countParts 24 = .ok (.goto (-20), 3) := by decide +kernel
theorem dX5_countParts_27 : decode cX5_countParts 27 = .ok (.iload_n 2, 1) := by decide +kernel
theorem dX5_countParts_28 : decode cX5_countParts 28 = .ok (.ireturn, 1) := by decide +kernel
theorem dX5_isPlain_0 : decode cX5_isPlain 0 = .ok (.iconst 0, 1) := by decide +kernel
theorem dX5_isPlain_1 : decode cX5_isPlain 1 = .ok (.istore_n 3, 1) := by decide +kernel
theorem dX5_isPlain_2 : decode cX5_isPlain 2 = .ok (.iload_n 3, 1) := by decide +kernel
theorem dX5_isPlain_3 : decode cX5_isPlain 3 = .ok (.aload_n 1, 1) := by decide +kernel
theorem dX5_isPlain_4 : decode cX5_isPlain 4 = .ok (.getfield 25, 3) := by decide +kernel
theorem dX5_isPlain_7 : decode cX5_isPlain 7 = .ok (.iconst 1, 1) := by decide +kernel
theorem dX5_isPlain_8 : decode cX5_isPlain 8 = .ok (.isub, 1) := by decide +kernel
theorem dX5_isPlain_9 : decode cX5_isPlain 9 = .ok (.if_icmp .ge 33, 3) := by decide +kernel
theorem dX5_isPlain_12 : decode cX5_isPlain 12 = .ok (.aload_n 1, 1) := by decide +kernel
theorem dX5_isPlain_13 : decode cX5_isPlain 13 = .ok (.getfield 34, 3) := by decide +kernel
theorem dX5_isPlain_16 : decode cX5_isPlain 16 = .ok (.iload_n 2, 1) := by decide +kernel
theorem dX5_isPlain_17 : decode cX5_isPlain 17 = .ok (.bipush 6, 2) := by decide +kernel
theorem dX5_isPlain_19 : decode cX5_isPlain 19 = .ok (.imul, 1) := by decide +kernel
theorem dX5_isPlain_20 : decode cX5_isPlain 20 = .ok (.iload_n 3, 1) := by decide +kernel
theorem dX5_isPlain_21 : decode cX5_isPlain 21 = .ok (.iadd, 1) := by decide +kernel
theorem dX5_isPlain_22 : decode cX5_isPlain 22 = .ok (.iaload, 1) := by decide +kernel
theorem dX5_isPlain_23 : decode cX5_isPlain 23 = .ok (.aload_n 1, 1) := by decide +kernel
theorem dX5_isPlain_24 : decode cX5_isPlain 24 = .ok (.getfield 37, 3) := by decide +kernel
theorem dX5_isPlain_27 : decode cX5_isPlain 27 = .ok (.iload_n 3, 1) := by decide +kernel
theorem dX5_isPlain_28 : decode cX5_isPlain 28 = .ok (.iconst 1, 1) := by decide +kernel
theorem dX5_isPlain_29 : decode cX5_isPlain 29 = .ok (.iadd, 1) := by decide +kernel
theorem dX5_isPlain_30 : decode cX5_isPlain 30 = .ok (.iaload, 1) := by decide +kernel
theorem dX5_isPlain_31 : decode cX5_isPlain 31 = .ok (.if_icmp .lt 5, 3) := by decide +kernel
theorem dX5_isPlain_34 : decode cX5_isPlain 34 = .ok (.iconst 0, 1) := by decide +kernel
theorem dX5_isPlain_35 : decode cX5_isPlain 35 = .ok (.ireturn, 1) := by decide +kernel
theorem dX5_isPlain_36 : decode cX5_isPlain 36 = .ok (.iinc 3 1, 3) := by decide +kernel
theorem dX5_isPlain_39 : decode cX5_isPlain 39 = .ok (.goto (-37), 3) := by decide +kernel
theorem dX5_isPlain_42 : decode cX5_isPlain 42 = .ok (.iconst 1, 1) := by decide +kernel
theorem dX5_isPlain_43 : decode cX5_isPlain 43 = .ok (.ireturn, 1) := by decide +kernel
theorem dX5_plainRows_0 : decode cX5_plainRows 0 = .ok (.iconst 0, 1) := by decide +kernel
theorem dX5_plainRows_1 : decode cX5_plainRows 1 = .ok (.istore_n 2, 1) := by decide +kernel
theorem dX5_plainRows_2 : decode cX5_plainRows 2 = .ok (.iconst 0, 1) := by decide +kernel
theorem dX5_plainRows_3 : decode cX5_plainRows 3 = .ok (.istore_n 3, 1) := by decide +kernel
theorem dX5_plainRows_4 : decode cX5_plainRows 4 = .ok (.iload_n 3, 1) := by decide +kernel
theorem dX5_plainRows_5 : decode cX5_plainRows 5 = .ok (.aload_n 1, 1) := by decide +kernel
theorem dX5_plainRows_6 : decode cX5_plainRows 6 = .ok (.getfield 40, 3) := by decide +kernel
theorem dX5_plainRows_9 : decode cX5_plainRows 9 = .ok (.if_icmp .ge 28, 3) := by decide +kernel
theorem dX5_plainRows_12 : decode cX5_plainRows 12 = .ok (.iload_n 2, 1) := by decide +kernel
theorem dX5_plainRows_13 : decode cX5_plainRows 13 = .ok (.aload_n 0, 1) := by decide +kernel
theorem dX5_plainRows_14 : decode cX5_plainRows 14 = .ok (.aload_n 1, 1) := by decide +kernel
theorem dX5_plainRows_15 : decode cX5_plainRows 15 = .ok (.iload_n 3, 1) := by decide +kernel
theorem dX5_plainRows_16 : decode cX5_plainRows 16 = .ok (.invokevirtual 43, 3) := by decide +kernel
theorem dX5_plainRows_19 : decode cX5_plainRows 19 = .ok (.ifCond .eq 9, 3) := by decide +kernel
theorem dX5_plainRows_22 : decode cX5_plainRows 22 = .ok (.iconst 1, 1) := by decide +kernel
theorem dX5_plainRows_23 : decode cX5_plainRows 23 = .ok (.iload_n 3, 1) := by decide +kernel
theorem dX5_plainRows_24 : decode cX5_plainRows 24 = .ok (.ishl, 1) := by decide +kernel
theorem dX5_plainRows_25 : decode cX5_plainRows 25 = .ok (.goto 4, 3) := by decide +kernel
theorem dX5_plainRows_28 : decode cX5_plainRows 28 = .ok (.iconst 0, 1) := by decide +kernel
theorem dX5_plainRows_29 : decode cX5_plainRows 29 = .ok (.ior, 1) := by decide +kernel
theorem dX5_plainRows_30 : decode cX5_plainRows 30 = .ok (.istore_n 2, 1) := by decide +kernel
theorem dX5_plainRows_31 : decode cX5_plainRows 31 = .ok (.iinc 3 1, 3) := by decide +kernel
theorem dX5_plainRows_34 : decode cX5_plainRows 34 = .ok (.goto (-30), 3) := by decide +kernel
theorem dX5_plainRows_37 : decode cX5_plainRows 37 = .ok (.iload_n 2, 1) := by decide +kernel
theorem dX5_plainRows_38 : decode cX5_plainRows 38 = .ok (.ireturn, 1) := by decide +kernel
theorem dX5_carriesOf_0 : decode cX5_carriesOf 0 = .ok (.iconst 0, 1) := by decide +kernel
theorem dX5_carriesOf_1 : decode cX5_carriesOf 1 = .ok (.istore_n 3, 1) := by decide +kernel
theorem dX5_carriesOf_2 : decode cX5_carriesOf 2 = .ok (.iconst 0, 1) := by decide +kernel
theorem dX5_carriesOf_3 : decode cX5_carriesOf 3 = .ok (.istore 4, 2) := by decide +kernel
theorem dX5_carriesOf_5 : decode cX5_carriesOf 5 = .ok (.iconst 0, 1) := by decide +kernel
theorem dX5_carriesOf_6 : decode cX5_carriesOf 6 = .ok (.istore 5, 2) := by decide +kernel
theorem dX5_carriesOf_8 : decode cX5_carriesOf 8 = .ok (.iload 5, 2) := by decide +kernel
theorem dX5_carriesOf_10 : decode cX5_carriesOf 10 = .ok (.aload_n 1, 1) := by decide +kernel
theorem dX5_carriesOf_11 : decode cX5_carriesOf 11 = .ok (.getfield 25, 3) := by decide +kernel
theorem dX5_carriesOf_14 : decode cX5_carriesOf 14 = .ok (.iconst 1, 1) := by decide +kernel
theorem dX5_carriesOf_15 : decode cX5_carriesOf 15 = .ok (.isub, 1) := by decide +kernel
theorem dX5_carriesOf_16 : decode cX5_carriesOf 16 = .ok (.if_icmp .ge 54, 3) := by decide +kernel
theorem dX5_carriesOf_19 : decode cX5_carriesOf 19 = .ok (.aload_n 1, 1) := by decide +kernel
theorem dX5_carriesOf_20 : decode cX5_carriesOf 20 = .ok (.getfield 37, 3) := by decide +kernel
theorem dX5_carriesOf_23 : decode cX5_carriesOf 23 = .ok (.iload 5, 2) := by decide +kernel
theorem dX5_carriesOf_25 : decode cX5_carriesOf 25 = .ok (.iconst 1, 1) := by decide +kernel
theorem dX5_carriesOf_26 : decode cX5_carriesOf 26 = .ok (.iadd, 1) := by decide +kernel
theorem dX5_carriesOf_27 : decode cX5_carriesOf 27 = .ok (.iaload, 1) := by decide +kernel
theorem dX5_carriesOf_28 : decode cX5_carriesOf 28 = .ok (.istore 6, 2) := by decide +kernel
theorem dX5_carriesOf_30 : decode cX5_carriesOf 30 = .ok (.iload 6, 2) := by decide +kernel
theorem dX5_carriesOf_32 : decode cX5_carriesOf 32 = .ok (.ifCond .le 24, 3) := by decide +kernel
theorem dX5_carriesOf_35 : decode cX5_carriesOf 35 = .ok (.aload_n 1, 1) := by decide +kernel
theorem dX5_carriesOf_36 : decode cX5_carriesOf 36 = .ok (.getfield 34, 3) := by decide +kernel
theorem dX5_carriesOf_39 : decode cX5_carriesOf 39 = .ok (.iload_n 2, 1) := by decide +kernel
theorem dX5_carriesOf_40 : decode cX5_carriesOf 40 = .ok (.bipush 6, 2) := by decide +kernel
theorem dX5_carriesOf_42 : decode cX5_carriesOf 42 = .ok (.imul, 1) := by decide +kernel
theorem dX5_carriesOf_43 : decode cX5_carriesOf 43 = .ok (.iload 5, 2) := by decide +kernel
theorem dX5_carriesOf_45 : decode cX5_carriesOf 45 = .ok (.iadd, 1) := by decide +kernel
theorem dX5_carriesOf_46 : decode cX5_carriesOf 46 = .ok (.iaload, 1) := by decide +kernel
theorem dX5_carriesOf_47 : decode cX5_carriesOf 47 = .ok (.iload 4, 2) := by decide +kernel
theorem dX5_carriesOf_49 : decode cX5_carriesOf 49 = .ok (.iadd, 1) := by decide +kernel
theorem dX5_carriesOf_50 : decode cX5_carriesOf 50 = .ok (.iload 6, 2) := by decide +kernel
theorem dX5_carriesOf_52 : decode cX5_carriesOf 52 = .ok (.idiv, 1) := by decide +kernel
theorem dX5_carriesOf_53 : decode cX5_carriesOf 53 = .ok (.goto 4, 3) := by decide +kernel
theorem dX5_carriesOf_56 : decode cX5_carriesOf 56 = .ok (.iconst 0, 1) := by decide +kernel
theorem dX5_carriesOf_57 : decode cX5_carriesOf 57 = .ok (.istore 4, 2) := by decide +kernel
theorem dX5_carriesOf_59 : decode cX5_carriesOf 59 = .ok (.iload_n 3, 1) := by decide +kernel
theorem dX5_carriesOf_60 : decode cX5_carriesOf 60 = .ok (.iload 4, 2) := by decide +kernel
theorem dX5_carriesOf_62 : decode cX5_carriesOf 62 = .ok (.iadd, 1) := by decide +kernel
theorem dX5_carriesOf_63 : decode cX5_carriesOf 63 = .ok (.istore_n 3, 1) := by decide +kernel
theorem dX5_carriesOf_64 : decode cX5_carriesOf 64 = .ok (.iinc 5 1, 3) := by decide +kernel
theorem dX5_carriesOf_67 : decode cX5_carriesOf 67 = .ok (.goto (-59), 3) := by decide +kernel
theorem dX5_carriesOf_70 : decode cX5_carriesOf 70 = .ok (.iload_n 3, 1) := by decide +kernel
theorem dX5_carriesOf_71 : decode cX5_carriesOf 71 = .ok (.ireturn, 1) := by decide +kernel
theorem dX5_movesApart_0 : decode cX5_movesApart 0 = .ok (.iconst 0, 1) := by decide +kernel
theorem dX5_movesApart_1 : decode cX5_movesApart 1 = .ok (.istore 4, 2) := by decide +kernel
theorem dX5_movesApart_3 : decode cX5_movesApart 3 = .ok (.iconst 0, 1) := by decide +kernel
theorem dX5_movesApart_4 : decode cX5_movesApart 4 = .ok (.istore 5, 2) := by decide +kernel
theorem dX5_movesApart_6 : decode cX5_movesApart 6 = .ok (.iconst 0, 1) := by decide +kernel
theorem dX5_movesApart_7 : decode cX5_movesApart 7 = .ok (.istore 6, 2) := by decide +kernel
theorem dX5_movesApart_9 : decode cX5_movesApart 9 = .ok (.iload 6, 2) := by decide +kernel
theorem dX5_movesApart_11 : decode cX5_movesApart 11 = .ok (.aload_n 1, 1) := by decide +kernel
theorem dX5_movesApart_12 : decode cX5_movesApart 12 = .ok (.getfield 25, 3) := by decide +kernel
theorem dX5_movesApart_15 : decode cX5_movesApart 15 = .ok (.iconst 1, 1) := by decide +kernel
theorem dX5_movesApart_16 : decode cX5_movesApart 16 = .ok (.isub, 1) := by decide +kernel
theorem dX5_movesApart_17 : decode cX5_movesApart 17 = .ok (.if_icmp .ge 76, 3) := by decide +kernel
theorem dX5_movesApart_20 : decode cX5_movesApart 20 = .ok (.aload_n 1, 1) := by decide +kernel
theorem dX5_movesApart_21 : decode cX5_movesApart 21 = .ok (.getfield 37, 3) := by decide +kernel
theorem dX5_movesApart_24 : decode cX5_movesApart 24 = .ok (.iload 6, 2) := by decide +kernel
theorem dX5_movesApart_26 : decode cX5_movesApart 26 = .ok (.iconst 1, 1) := by decide +kernel
theorem dX5_movesApart_27 : decode cX5_movesApart 27 = .ok (.iadd, 1) := by decide +kernel
theorem dX5_movesApart_28 : decode cX5_movesApart 28 = .ok (.iaload, 1) := by decide +kernel
theorem dX5_movesApart_29 : decode cX5_movesApart 29 = .ok (.istore 7, 2) := by decide +kernel
theorem dX5_movesApart_31 : decode cX5_movesApart 31 = .ok (.aload_n 1, 1) := by decide +kernel
theorem dX5_movesApart_32 : decode cX5_movesApart 32 = .ok (.getfield 34, 3) := by decide +kernel
theorem dX5_movesApart_35 : decode cX5_movesApart 35 = .ok (.iload_n 2, 1) := by decide +kernel
theorem dX5_movesApart_36 : decode cX5_movesApart 36 = .ok (.bipush 6, 2) := by decide +kernel
theorem dX5_movesApart_38 : decode cX5_movesApart 38 = .ok (.imul, 1) := by decide +kernel
theorem dX5_movesApart_39 : decode cX5_movesApart 39 = .ok (.iload 6, 2) := by decide +kernel
theorem dX5_movesApart_41 : decode cX5_movesApart 41 = .ok (.iadd, 1) := by decide +kernel
theorem dX5_movesApart_42 : decode cX5_movesApart 42 = .ok (.iaload, 1) := by decide +kernel
theorem dX5_movesApart_43 : decode cX5_movesApart 43 = .ok (.aload_n 1, 1) := by decide +kernel
theorem dX5_movesApart_44 : decode cX5_movesApart 44 = .ok (.getfield 34, 3) := by decide +kernel
theorem dX5_movesApart_47 : decode cX5_movesApart 47 = .ok (.iload_n 3, 1) := by decide +kernel
theorem dX5_movesApart_48 : decode cX5_movesApart 48 = .ok (.bipush 6, 2) := by decide +kernel
theorem dX5_movesApart_50 : decode cX5_movesApart 50 = .ok (.imul, 1) := by decide +kernel
theorem dX5_movesApart_51 : decode cX5_movesApart 51 = .ok (.iload 6, 2) := by decide +kernel
theorem dX5_movesApart_53 : decode cX5_movesApart 53 = .ok (.iadd, 1) := by decide +kernel
theorem dX5_movesApart_54 : decode cX5_movesApart 54 = .ok (.iaload, 1) := by decide +kernel
theorem dX5_movesApart_55 : decode cX5_movesApart 55 = .ok (.isub, 1) := by decide +kernel
theorem dX5_movesApart_56 : decode cX5_movesApart 56 = .ok (.iload 5, 2) := by decide +kernel
theorem dX5_movesApart_58 : decode cX5_movesApart 58 = .ok (.iadd, 1) := by decide +kernel
theorem dX5_movesApart_59 : decode cX5_movesApart 59 = .ok (.istore 8, 2) := by decide +kernel
theorem dX5_movesApart_61 : decode cX5_movesApart 61 = .ok (.iload 7, 2) := by decide +kernel
theorem dX5_movesApart_63 : decode cX5_movesApart 63 = .ok (.ifCond .le 11, 3) := by decide +kernel
theorem dX5_movesApart_66 : decode cX5_movesApart 66 = .ok (.iload 8, 2) := by decide +kernel
theorem dX5_movesApart_68 : decode cX5_movesApart 68 = .ok (.iload 7, 2) := by decide +kernel
theorem dX5_movesApart_70 : decode cX5_movesApart 70 = .ok (.idiv, 1) := by decide +kernel
theorem dX5_movesApart_71 : decode cX5_movesApart 71 = .ok (.goto 4, 3) := by decide +kernel
theorem dX5_movesApart_74 : decode cX5_movesApart 74 = .ok (.iconst 0, 1) := by decide +kernel
theorem dX5_movesApart_75 : decode cX5_movesApart 75 = .ok (.istore 5, 2) := by decide +kernel
theorem dX5_movesApart_77 : decode cX5_movesApart 77 = .ok (.iload 4, 2) := by decide +kernel
theorem dX5_movesApart_79 : decode cX5_movesApart 79 = .ok (.iload 5, 2) := by decide +kernel
theorem dX5_movesApart_81 : decode cX5_movesApart 81 = .ok (.invokestatic 47, 3) := by decide +kernel
theorem dX5_movesApart_84 : decode cX5_movesApart 84 = .ok (.iadd, 1) := by decide +kernel
theorem dX5_movesApart_85 : decode cX5_movesApart 85 = .ok (.istore 4, 2) := by decide +kernel
theorem dX5_movesApart_87 : decode cX5_movesApart 87 = .ok (.iinc 6 1, 3) := by decide +kernel
theorem dX5_movesApart_90 : decode cX5_movesApart 90 = .ok (.goto (-81), 3) := by decide +kernel
theorem dX5_movesApart_93 : decode cX5_movesApart 93 = .ok (.iload 4, 2) := by decide +kernel
theorem dX5_movesApart_95 : decode cX5_movesApart 95 = .ok (.ireturn, 1) := by decide +kernel
theorem dX5_liftRow_0 : decode cX5_liftRow 0 = .ok (.iconst 0, 1) := by decide +kernel
theorem dX5_liftRow_1 : decode cX5_liftRow 1 = .ok (.istore_n 3, 1) := by decide +kernel
theorem dX5_liftRow_2 : decode cX5_liftRow 2 = .ok (.iload_n 3, 1) := by decide +kernel
theorem dX5_liftRow_3 : decode cX5_liftRow 3 = .ok (.aload_n 1, 1) := by decide +kernel
theorem dX5_liftRow_4 : decode cX5_liftRow 4 = .ok (.getfield 25, 3) := by decide +kernel
theorem dX5_liftRow_7 : decode cX5_liftRow 7 = .ok (.if_icmp .ge 26, 3) := by decide +kernel
theorem dX5_liftRow_10 : decode cX5_liftRow 10 = .ok (.aload_n 0, 1) := by decide +kernel
theorem dX5_liftRow_11 : decode cX5_liftRow 11 = .ok (.getfield 15, 3) := by decide +kernel
theorem dX5_liftRow_14 : decode cX5_liftRow 14 = .ok (.iload_n 3, 1) := by decide +kernel
theorem dX5_liftRow_15 : decode cX5_liftRow 15 = .ok (.aload_n 1, 1) := by decide +kernel
theorem dX5_liftRow_16 : decode cX5_liftRow 16 = .ok (.getfield 34, 3) := by decide +kernel
theorem dX5_liftRow_19 : decode cX5_liftRow 19 = .ok (.iload_n 2, 1) := by decide +kernel
theorem dX5_liftRow_20 : decode cX5_liftRow 20 = .ok (.bipush 6, 2) := by decide +kernel
theorem dX5_liftRow_22 : decode cX5_liftRow 22 = .ok (.imul, 1) := by decide +kernel
theorem dX5_liftRow_23 : decode cX5_liftRow 23 = .ok (.iload_n 3, 1) := by decide +kernel
theorem dX5_liftRow_24 : decode cX5_liftRow 24 = .ok (.iadd, 1) := by decide +kernel
theorem dX5_liftRow_25 : decode cX5_liftRow 25 = .ok (.iaload, 1) := by decide +kernel
theorem dX5_liftRow_26 : decode cX5_liftRow 26 = .ok (.iastore, 1) := by decide +kernel
theorem dX5_liftRow_27 : decode cX5_liftRow 27 = .ok (.iinc 3 1, 3) := by decide +kernel
theorem dX5_liftRow_30 : decode cX5_liftRow 30 = .ok (.goto (-28), 3) := by decide +kernel
theorem dX5_liftRow_33 : decode cX5_liftRow 33 = .ok (.return_, 1) := by decide +kernel
theorem dX5_takeFewest_0 : decode cX5_takeFewest 0 = .ok (.iload_n 2, 1) := by decide +kernel
theorem dX5_takeFewest_1 : decode cX5_takeFewest 1 = .ok (.istore_n 3, 1) := by decide +kernel
theorem dX5_takeFewest_2 : decode cX5_takeFewest 2 = .ok (.aload_n 1, 1) := by decide +kernel
theorem dX5_takeFewest_3 : decode cX5_takeFewest 3 = .ok (.getfield 25, 3) := by decide +kernel
theorem dX5_takeFewest_6 : decode cX5_takeFewest 6 = .ok (.iconst 1, 1) := by decide +kernel
theorem dX5_takeFewest_7 : decode cX5_takeFewest 7 = .ok (.isub, 1) := by decide +kernel
theorem dX5_takeFewest_8 : decode cX5_takeFewest 8 = .ok (.istore 4, 2) := by decide +kernel
theorem dX5_takeFewest_10 : decode cX5_takeFewest 10 = .ok (.iload 4, 2) := by decide +kernel
theorem dX5_takeFewest_12 : decode cX5_takeFewest 12 = .ok (.ifCond .lt 71, 3) := by decide +kernel
theorem dX5_takeFewest_15 : decode cX5_takeFewest 15 = .ok (.aload_n 1, 1) := by decide +kernel
theorem dX5_takeFewest_16 : decode cX5_takeFewest 16 = .ok (.getfield 31, 3) := by decide +kernel
theorem dX5_takeFewest_19 : decode cX5_takeFewest 19 = .ok (.iload 4, 2) := by decide +kernel
theorem dX5_takeFewest_21 : decode cX5_takeFewest 21 = .ok (.iaload, 1) := by decide +kernel
theorem dX5_takeFewest_22 : decode cX5_takeFewest 22 = .ok (.ifCond .le 15, 3) := by decide +kernel
theorem dX5_takeFewest_25 : decode cX5_takeFewest 25 = .ok (.iload_n 3, 1) := by decide +kernel
theorem dX5_takeFewest_26 : decode cX5_takeFewest 26 = .ok (.aload_n 1, 1) := by decide +kernel
theorem dX5_takeFewest_27 : decode cX5_takeFewest 27 = .ok (.getfield 31, 3) := by decide +kernel
theorem dX5_takeFewest_30 : decode cX5_takeFewest 30 = .ok (.iload 4, 2) := by decide +kernel
theorem dX5_takeFewest_32 : decode cX5_takeFewest 32 = .ok (.iaload, 1) := by decide +kernel
theorem dX5_takeFewest_33 : decode cX5_takeFewest 33 = .ok (.idiv, 1) := by decide +kernel
theorem dX5_takeFewest_34 : decode cX5_takeFewest 34 = .ok (.goto 4, 3) := by decide +kernel
theorem dX5_takeFewest_37 : decode cX5_takeFewest 37 = .ok (.iconst 0, 1) := by decide +kernel
theorem dX5_takeFewest_38 : decode cX5_takeFewest 38 = .ok (.istore 5, 2) := by decide +kernel
theorem dX5_takeFewest_40 : decode cX5_takeFewest 40 = .ok (.aload_n 0, 1) := by decide +kernel
theorem dX5_takeFewest_41 : decode cX5_takeFewest 41 = .ok (.getfield 9, 3) := by decide +kernel
theorem dX5_takeFewest_44 : decode cX5_takeFewest 44 = .ok (.iload 4, 2) := by decide +kernel
theorem dX5_takeFewest_46 : decode cX5_takeFewest 46 = .ok (.aload_n 0, 1) := by decide +kernel
theorem dX5_takeFewest_47 : decode cX5_takeFewest 47 = .ok (.getfield 15, 3) := by decide +kernel
theorem dX5_takeFewest_50 : decode cX5_takeFewest 50 = .ok (.iload 4, 2) := by decide +kernel
theorem dX5_takeFewest_52 : decode cX5_takeFewest 52 = .ok (.iaload, 1) := by decide +kernel
theorem dX5_takeFewest_53 : decode cX5_takeFewest 53 = .ok (.iload 5, 2) := by decide +kernel
theorem dX5_takeFewest_55 : decode cX5_takeFewest 55 = .ok (.invokestatic 53, 3) := by decide +kernel
theorem dX5_takeFewest_58 : decode cX5_takeFewest 58 = .ok (.iastore, 1) := by decide +kernel
theorem dX5_takeFewest_59 : decode cX5_takeFewest 59 = .ok (.iload_n 3, 1) := by decide +kernel
theorem dX5_takeFewest_60 : decode cX5_takeFewest 60 = .ok (.aload_n 0, 1) := by decide +kernel
theorem dX5_takeFewest_61 : decode cX5_takeFewest 61 = .ok (.getfield 9, 3) := by decide +kernel
theorem dX5_takeFewest_64 : decode cX5_takeFewest 64 = .ok (.iload 4, 2) := by decide +kernel
theorem dX5_takeFewest_66 : decode cX5_takeFewest 66 = .ok (.iaload, 1) := by decide +kernel
theorem dX5_takeFewest_67 : decode cX5_takeFewest 67 = .ok (.aload_n 1, 1) := by decide +kernel
theorem dX5_takeFewest_68 : decode cX5_takeFewest 68 = .ok (.getfield 31, 3) := by decide +kernel
theorem dX5_takeFewest_71 : decode cX5_takeFewest 71 = .ok (.iload 4, 2) := by decide +kernel
theorem dX5_takeFewest_73 : decode cX5_takeFewest 73 = .ok (.iaload, 1) := by decide +kernel
theorem dX5_takeFewest_74 : decode cX5_takeFewest 74 = .ok (.imul, 1) := by decide +kernel
theorem dX5_takeFewest_75 : decode cX5_takeFewest 75 = .ok (.isub, 1) := by decide +kernel
theorem dX5_takeFewest_76 : decode cX5_takeFewest 76 = .ok (.istore_n 3, 1) := by decide +kernel
theorem dX5_takeFewest_77 : decode cX5_takeFewest 77 = .ok (.iinc 4 (-1), 3) := by decide +kernel
theorem dX5_takeFewest_80 : decode cX5_takeFewest 80 = .ok (.goto (-70), 3) := by decide +kernel
theorem dX5_takeFewest_83 : decode cX5_takeFewest 83 = .ok (.iload_n 3, 1) := by decide +kernel
theorem dX5_takeFewest_84 : decode cX5_takeFewest 84 = .ok (.ifCond .ne 7, 3) := by decide +kernel
theorem dX5_takeFewest_87 : decode cX5_takeFewest 87 = .ok (.iconst 1, 1) := by decide +kernel
theorem dX5_takeFewest_88 : decode cX5_takeFewest 88 = .ok (.goto 4, 3) := by decide +kernel
theorem dX5_takeFewest_91 : decode cX5_takeFewest 91 = .ok (.iconst 0, 1) := by decide +kernel
theorem dX5_takeFewest_92 : decode cX5_takeFewest 92 = .ok (.ireturn, 1) := by decide +kernel
theorem dX5_fewestBreaks_0 : decode cX5_fewestBreaks 0 = .ok (.bipush (-2), 2) := by decide +kernel
theorem dX5_fewestBreaks_2 : decode cX5_fewestBreaks 2 = .ok (.istore 4, 2) := by decide +kernel
theorem dX5_fewestBreaks_4 : decode cX5_fewestBreaks 4 = .ok (.aload_n 1, 1) := by decide +kernel
theorem dX5_fewestBreaks_5 : decode cX5_fewestBreaks 5 = .ok (.getfield 25, 3) := by decide +kernel
theorem dX5_fewestBreaks_8 : decode cX5_fewestBreaks 8 = .ok (.ifCond .le 14, 3) := by decide +kernel
theorem dX5_fewestBreaks_11 : decode cX5_fewestBreaks 11 = .ok (.iconst 1, 1) := by decide +kernel
theorem dX5_fewestBreaks_12 : decode cX5_fewestBreaks 12 = .ok (.aload_n 1, 1) := by decide +kernel
theorem dX5_fewestBreaks_13 : decode cX5_fewestBreaks 13 = .ok (.getfield 25, 3) := by decide +kernel
theorem dX5_fewestBreaks_16 : decode cX5_fewestBreaks 16 = .ok (.iconst 1, 1) := by decide +kernel
theorem dX5_fewestBreaks_17 : decode cX5_fewestBreaks 17 = .ok (.isub, 1) := by decide +kernel
theorem dX5_fewestBreaks_18 : decode cX5_fewestBreaks 18 = .ok (.ishl, 1) := by decide +kernel
theorem dX5_fewestBreaks_19 : decode cX5_fewestBreaks 19 = .ok (.goto 4, 3) := by decide +kernel
theorem dX5_fewestBreaks_22 : decode cX5_fewestBreaks 22 = .ok (.iconst 0, 1) := by decide +kernel
theorem dX5_fewestBreaks_23 : decode cX5_fewestBreaks 23 = .ok (.istore 5, 2) := by decide +kernel
theorem dX5_fewestBreaks_25 : decode cX5_fewestBreaks 25 = .ok (.iconst 0, 1) := by decide +kernel
theorem dX5_fewestBreaks_26 : decode cX5_fewestBreaks 26 = .ok (.istore 6, 2) := by decide +kernel
theorem dX5_fewestBreaks_28 : decode cX5_fewestBreaks 28 = .ok (.iload 6, 2) := by decide +kernel
theorem dX5_fewestBreaks_30 : decode cX5_fewestBreaks 30 = .ok (.iload 5, 2) := by decide +kernel
theorem dX5_fewestBreaks_32 : decode cX5_fewestBreaks 32 = .ok (.if_icmp .ge 54, 3) := by decide +kernel
theorem dX5_fewestBreaks_35 : decode cX5_fewestBreaks 35 = .ok (.iload 6, 2) := by decide +kernel
theorem dX5_fewestBreaks_37 : decode cX5_fewestBreaks 37 = .ok (.invokestatic 57, 3) := by decide +kernel
theorem dX5_fewestBreaks_40 : decode cX5_fewestBreaks 40 = .ok (.istore 7, 2) := by decide +kernel
theorem dX5_fewestBreaks_42 : decode cX5_fewestBreaks 42 = .ok (.iload 4, 2) := by decide +kernel
theorem dX5_fewestBreaks_44 : decode cX5_fewestBreaks 44 = .ok (.bipush (-2), 2) := by decide +kernel
theorem dX5_fewestBreaks_46 : decode cX5_fewestBreaks 46 = .ok (.if_icmp .eq 10, 3) := by decide +kernel
theorem dX5_fewestBreaks_49 : decode cX5_fewestBreaks 49 = .ok (.iload 7, 2) := by decide +kernel
theorem dX5_fewestBreaks_51 : decode cX5_fewestBreaks 51 = .ok (.iload 4, 2) := by decide +kernel
theorem dX5_fewestBreaks_53 : decode cX5_fewestBreaks 53 = .ok (.if_icmp .ge 27, 3) := by decide +kernel
theorem dX5_fewestBreaks_56 : decode cX5_fewestBreaks 56 = .ok (.aload_n 0, 1) := by decide +kernel
theorem dX5_fewestBreaks_57 : decode cX5_fewestBreaks 57 = .ok (.aload_n 1, 1) := by decide +kernel
theorem dX5_fewestBreaks_58 : decode cX5_fewestBreaks 58 = .ok (.iload_n 2, 1) := by decide +kernel
theorem dX5_fewestBreaks_59 : decode cX5_fewestBreaks 59 = .ok (.iload 6, 2) := by decide +kernel
theorem dX5_fewestBreaks_61 : decode cX5_fewestBreaks 61 = .ok (.invokevirtual 62, 3) := by decide +kernel
theorem dX5_fewestBreaks_64 : decode cX5_fewestBreaks 64 = .ok (.ifCond .eq 16, 3) := by decide +kernel
theorem dX5_fewestBreaks_67 : decode cX5_fewestBreaks 67 = .ok (.aload_n 0, 1) := by decide +kernel
theorem dX5_fewestBreaks_68 : decode cX5_fewestBreaks 68 = .ok (.aload_n 1, 1) := by decide +kernel
theorem dX5_fewestBreaks_69 : decode cX5_fewestBreaks 69 = .ok (.iload_n 3, 1) := by decide +kernel
theorem dX5_fewestBreaks_70 : decode cX5_fewestBreaks 70 = .ok (.invokevirtual 66, 3) := by decide +kernel
theorem dX5_fewestBreaks_73 : decode cX5_fewestBreaks 73 = .ok (.ifCond .eq 7, 3) := by decide +kernel
theorem dX5_fewestBreaks_76 : decode cX5_fewestBreaks 76 = .ok (.iload 7, 2) := by decide +kernel
theorem dX5_fewestBreaks_78 : decode cX5_fewestBreaks 78 = .ok (.istore 4, 2) := by decide +kernel
theorem dX5_fewestBreaks_80 : decode cX5_fewestBreaks 80 = .ok (.iinc 6 1, 3) := by decide +kernel
theorem dX5_fewestBreaks_83 : decode cX5_fewestBreaks 83 = .ok (.goto (-55), 3) := by decide +kernel
theorem dX5_fewestBreaks_86 : decode cX5_fewestBreaks 86 = .ok (.iload 4, 2) := by decide +kernel
theorem dX5_fewestBreaks_88 : decode cX5_fewestBreaks 88 = .ok (.ireturn, 1) := by decide +kernel
theorem dX5_breakAll_0 : decode cX5_breakAll 0 = .ok (.aload_n 0, 1) := by decide +kernel
theorem dX5_breakAll_1 : decode cX5_breakAll 1 = .ok (.aload_n 1, 1) := by decide +kernel
theorem dX5_breakAll_2 : decode cX5_breakAll 2 = .ok (.iload_n 2, 1) := by decide +kernel
theorem dX5_breakAll_3 : decode cX5_breakAll 3 = .ok (.invokevirtual 69, 3) := by decide +kernel
theorem dX5_breakAll_6 : decode cX5_breakAll 6 = .ok (.aload_n 1, 1) := by decide +kernel
theorem dX5_breakAll_7 : decode cX5_breakAll 7 = .ok (.getfield 25, 3) := by decide +kernel
theorem dX5_breakAll_10 : decode cX5_breakAll 10 = .ok (.iconst 1, 1) := by decide +kernel
theorem dX5_breakAll_11 : decode cX5_breakAll 11 = .ok (.isub, 1) := by decide +kernel
theorem dX5_breakAll_12 : decode cX5_breakAll 12 = .ok (.istore 4, 2) := by decide +kernel
theorem dX5_breakAll_14 : decode cX5_breakAll 14 = .ok (.iload 4, 2) := by decide +kernel
theorem dX5_breakAll_16 : decode cX5_breakAll 16 = .ok (.iconst 1, 1) := by decide +kernel
theorem dX5_breakAll_17 : decode cX5_breakAll 17 = .ok (.if_icmp .lt 63, 3) := by decide +kernel
theorem dX5_breakAll_20 : decode cX5_breakAll 20 = .ok (.iload_n 3, 1) := by decide +kernel
theorem dX5_breakAll_21 : decode cX5_breakAll 21 = .ok (.iload 4, 2) := by decide +kernel
theorem dX5_breakAll_23 : decode cX5_breakAll 23 = .ok (.iconst 1, 1) := by decide +kernel
theorem dX5_breakAll_24 : decode cX5_breakAll 24 = .ok (.isub, 1) := by decide +kernel
theorem dX5_breakAll_25 : decode cX5_breakAll 25 = .ok (.ishr, 1) := by decide +kernel
theorem dX5_breakAll_26 : decode cX5_breakAll 26 = .ok (.iconst 1, 1) := by decide +kernel
theorem dX5_breakAll_27 : decode cX5_breakAll 27 = .ok (.iand, 1) := by decide +kernel
theorem dX5_breakAll_28 : decode cX5_breakAll 28 = .ok (.iconst 1, 1) := by decide +kernel
theorem dX5_breakAll_29 : decode cX5_breakAll 29 = .ok (.if_icmp .ne 33, 3) := by decide +kernel
theorem dX5_breakAll_32 : decode cX5_breakAll 32 = .ok (.aload_n 0, 1) := by decide +kernel
theorem dX5_breakAll_33 : decode cX5_breakAll 33 = .ok (.getfield 15, 3) := by decide +kernel
theorem dX5_breakAll_36 : decode cX5_breakAll 36 = .ok (.iload 4, 2) := by decide +kernel
theorem dX5_breakAll_38 : decode cX5_breakAll 38 = .ok (.dup2, 1) := by decide +kernel
theorem dX5_breakAll_39 : decode cX5_breakAll 39 = .ok (.iaload, 1) := by decide +kernel
theorem dX5_breakAll_40 : decode cX5_breakAll 40 = .ok (.iconst 1, 1) := by decide +kernel
theorem dX5_breakAll_41 : decode cX5_breakAll 41 = .ok (.isub, 1) := by decide +kernel
theorem dX5_breakAll_42 : decode cX5_breakAll 42 = .ok (.iastore, 1) := by decide +kernel
theorem dX5_breakAll_43 : decode cX5_breakAll 43 = .ok (.aload_n 0, 1) := by decide +kernel
theorem dX5_breakAll_44 : decode cX5_breakAll 44 = .ok (.getfield 15, 3) := by decide +kernel
theorem dX5_breakAll_47 : decode cX5_breakAll 47 = .ok (.iload 4, 2) := by decide +kernel
theorem dX5_breakAll_49 : decode cX5_breakAll 49 = .ok (.iconst 1, 1) := by decide +kernel
theorem dX5_breakAll_50 : decode cX5_breakAll 50 = .ok (.isub, 1) := by decide +kernel
theorem dX5_breakAll_51 : decode cX5_breakAll 51 = .ok (.dup2, 1) := by decide +kernel
theorem dX5_breakAll_52 : decode cX5_breakAll 52 = .ok (.iaload, 1) := by decide +kernel
theorem dX5_breakAll_53 : decode cX5_breakAll 53 = .ok (.aload_n 1, 1) := by decide +kernel
theorem dX5_breakAll_54 : decode cX5_breakAll 54 = .ok (.getfield 37, 3) := by decide +kernel
theorem dX5_breakAll_57 : decode cX5_breakAll 57 = .ok (.iload 4, 2) := by decide +kernel
theorem dX5_breakAll_59 : decode cX5_breakAll 59 = .ok (.iaload, 1) := by decide +kernel
theorem dX5_breakAll_60 : decode cX5_breakAll 60 = .ok (.iadd, 1) := by decide +kernel
theorem dX5_breakAll_61 : decode cX5_breakAll 61 = .ok (.iastore, 1) := by decide +kernel
theorem dX5_breakAll_62 : decode cX5_breakAll 62 = .ok (.aload_n 0, 1) := by decide +kernel
theorem dX5_breakAll_63 : decode cX5_breakAll 63 = .ok (.getfield 15, 3) := by decide +kernel
theorem dX5_breakAll_66 : decode cX5_breakAll 66 = .ok (.iload 4, 2) := by decide +kernel
theorem dX5_breakAll_68 : decode cX5_breakAll 68 = .ok (.iaload, 1) := by decide +kernel
theorem dX5_breakAll_69 : decode cX5_breakAll 69 = .ok (.ifCond .ge 5, 3) := by decide +kernel
theorem dX5_breakAll_72 : decode cX5_breakAll 72 = .ok (.iconst 0, 1) := by decide +kernel
theorem dX5_breakAll_73 : decode cX5_breakAll 73 = .ok (.ireturn, 1) := by decide +kernel
theorem dX5_breakAll_74 : decode cX5_breakAll 74 = .ok (.iinc 4 (-1), 3) := by decide +kernel
theorem dX5_breakAll_77 : decode cX5_breakAll 77 = .ok (.goto (-63), 3) := by decide +kernel
theorem dX5_breakAll_80 : decode cX5_breakAll 80 = .ok (.iconst 1, 1) := by decide +kernel
theorem dX5_breakAll_81 : decode cX5_breakAll 81 = .ok (.ireturn, 1) := by decide +kernel
theorem dX5_leastMissing_0 : decode cX5_leastMissing 0 = .ok (.iconst 0, 1) := by decide +kernel
theorem dX5_leastMissing_1 : decode cX5_leastMissing 1 = .ok (.istore_n 3, 1) := by decide +kernel
theorem dX5_leastMissing_2 : decode cX5_leastMissing 2 = .ok (.iconst 0, 1) := by decide +kernel
theorem dX5_leastMissing_3 : decode cX5_leastMissing 3 = .ok (.istore 4, 2) := by decide +kernel
theorem dX5_leastMissing_5 : decode cX5_leastMissing 5 = .ok (.iload 4, 2) := by decide +kernel
theorem dX5_leastMissing_7 : decode cX5_leastMissing 7 = .ok (.aload_n 1, 1) := by decide +kernel
theorem dX5_leastMissing_8 : decode cX5_leastMissing 8 = .ok (.getfield 25, 3) := by decide +kernel
theorem dX5_leastMissing_11 : decode cX5_leastMissing 11 = .ok (.if_icmp .ge 45, 3) := by decide +kernel
theorem dX5_leastMissing_14 : decode cX5_leastMissing 14 = .ok (.aload_n 1, 1) := by decide +kernel
theorem dX5_leastMissing_15 : decode cX5_leastMissing 15 = .ok (.getfield 31, 3) := by decide +kernel
theorem dX5_leastMissing_18 : decode cX5_leastMissing 18 = .ok (.iload 4, 2) := by decide +kernel
theorem dX5_leastMissing_20 : decode cX5_leastMissing 20 = .ok (.iaload, 1) := by decide +kernel
theorem dX5_leastMissing_21 : decode cX5_leastMissing 21 = .ok (.iload_n 3, 1) := by decide +kernel
theorem dX5_leastMissing_22 : decode cX5_leastMissing 22 = .ok (.iconst 1, 1) := by decide +kernel
theorem dX5_leastMissing_23 : decode cX5_leastMissing 23 = .ok (.iadd, 1) := by decide +kernel
theorem dX5_leastMissing_24 : decode cX5_leastMissing 24 = .ok (.if_icmp .gt 32, 3) := by decide +kernel
theorem dX5_leastMissing_27 : decode cX5_leastMissing 27 = .ok (.iload_n 3, 1) := by decide +kernel
theorem dX5_leastMissing_28 : decode cX5_leastMissing 28 = .ok (.aload_n 1, 1) := by decide +kernel
theorem dX5_leastMissing_29 : decode cX5_leastMissing 29 = .ok (.getfield 34, 3) := by decide +kernel
theorem dX5_leastMissing_32 : decode cX5_leastMissing 32 = .ok (.iload_n 2, 1) := by decide +kernel
theorem dX5_leastMissing_33 : decode cX5_leastMissing 33 = .ok (.bipush 6, 2) := by decide +kernel
theorem dX5_leastMissing_35 : decode cX5_leastMissing 35 = .ok (.imul, 1) := by decide +kernel
theorem dX5_leastMissing_36 : decode cX5_leastMissing 36 = .ok (.iload 4, 2) := by decide +kernel
theorem dX5_leastMissing_38 : decode cX5_leastMissing 38 = .ok (.iadd, 1) := by decide +kernel
theorem dX5_leastMissing_39 : decode cX5_leastMissing 39 = .ok (.iaload, 1) := by decide +kernel
theorem dX5_leastMissing_40 : decode cX5_leastMissing 40 = .ok (.aload_n 1, 1) := by decide +kernel
theorem dX5_leastMissing_41 : decode cX5_leastMissing 41 = .ok (.getfield 31, 3) := by decide +kernel
theorem dX5_leastMissing_44 : decode cX5_leastMissing 44 = .ok (.iload 4, 2) := by decide +kernel
theorem dX5_leastMissing_46 : decode cX5_leastMissing 46 = .ok (.iaload, 1) := by decide +kernel
theorem dX5_leastMissing_47 : decode cX5_leastMissing 47 = .ok (.imul, 1) := by decide +kernel
theorem dX5_leastMissing_48 : decode cX5_leastMissing 48 = .ok (.iadd, 1) := by decide +kernel
theorem dX5_leastMissing_49 : decode cX5_leastMissing 49 = .ok (.istore_n 3, 1) := by decide +kernel
theorem dX5_leastMissing_50 : decode cX5_leastMissing 50 = .ok (.iinc 4 1, 3) := by decide +kernel
theorem dX5_leastMissing_53 : decode cX5_leastMissing 53 = .ok (.goto (-48), 3) := by decide +kernel
theorem dX5_leastMissing_56 : decode cX5_leastMissing 56 = .ok (.iload_n 3, 1) := by decide +kernel
theorem dX5_leastMissing_57 : decode cX5_leastMissing 57 = .ok (.iconst 1, 1) := by decide +kernel
theorem dX5_leastMissing_58 : decode cX5_leastMissing 58 = .ok (.iadd, 1) := by decide +kernel
theorem dX5_leastMissing_59 : decode cX5_leastMissing 59 = .ok (.ireturn, 1) := by decide +kernel
theorem dX5_countWays_0 : decode cX5_countWays 0 = .ok (.aload_n 0, 1) := by decide +kernel
theorem dX5_countWays_1 : decode cX5_countWays 1 = .ok (.aload_n 0, 1) := by decide +kernel
theorem dX5_countWays_2 : decode cX5_countWays 2 = .ok (.getfield 18, 3) := by decide +kernel
theorem dX5_countWays_5 : decode cX5_countWays 5 = .ok (.invokevirtual 73, 3) := by decide +kernel
theorem dX5_countWays_8 : decode cX5_countWays 8 = .ok (.aload_n 0, 1) := by decide +kernel
