theorem dX10_paysOf_2 : decode cX10_paysOf 2 = .ok (.iload_n 2, 1) := by decide +kernel
theorem dX10_paysOf_3 : decode cX10_paysOf 3 = .ok (.iload_n 3, 1) := by decide +kernel
theorem dX10_paysOf_4 : decode cX10_paysOf 4 = .ok (.invokevirtual 205, 3) := by decide +kernel
theorem dX10_paysOf_7 : decode cX10_paysOf 7 = .ok (.ifCond .eq 24, 3) := by decide +kernel
theorem dX10_paysOf_10 : decode cX10_paysOf 10 = .ok (.aload_n 0, 1) := by decide +kernel
theorem dX10_paysOf_11 : decode cX10_paysOf 11 = .ok (.iload 4, 2) := by decide +kernel
theorem dX10_paysOf_13 : decode cX10_paysOf 13 = .ok (.invokevirtual 94, 3) := by decide +kernel
theorem dX10_paysOf_16 : decode cX10_paysOf 16 = .ok (.ifCond .eq 15, 3) := by decide +kernel
theorem dX10_paysOf_19 : decode cX10_paysOf 19 = .ok (.aload_n 0, 1) := by decide +kernel
theorem dX10_paysOf_20 : decode cX10_paysOf 20 = .ok (.iload_n 1, 1) := by decide +kernel
theorem dX10_paysOf_21 : decode cX10_paysOf 21 = .ok (.iload_n 2, 1) := by decide +kernel
theorem dX10_paysOf_22 : decode cX10_paysOf 22 = .ok (.iload_n 3, 1) := by decide +kernel
theorem dX10_paysOf_23 : decode cX10_paysOf 23 = .ok (.invokevirtual 209, 3) := by decide +kernel
theorem dX10_paysOf_26 : decode cX10_paysOf 26 = .ok (.bipush (-2), 2) := by decide +kernel
theorem dX10_paysOf_28 : decode cX10_paysOf 28 = .ok (.if_icmp .ne 7, 3) := by decide +kernel
theorem dX10_paysOf_31 : decode cX10_paysOf 31 = .ok (.sipush (-1000), 3) := by decide +kernel
theorem dX10_paysOf_34 : decode cX10_paysOf 34 = .ok (.ireturn, 1) := by decide +kernel
theorem dX10_paysOf_35 : decode cX10_paysOf 35 = .ok (.aload_n 0, 1) := by decide +kernel
theorem dX10_paysOf_36 : decode cX10_paysOf 36 = .ok (.getfield 45, 3) := by decide +kernel
theorem dX10_paysOf_39 : decode cX10_paysOf 39 = .ok (.iload 4, 2) := by decide +kernel
theorem dX10_paysOf_41 : decode cX10_paysOf 41 = .ok (.iaload, 1) := by decide +kernel
theorem dX10_paysOf_42 : decode cX10_paysOf 42 = .ok (.ireturn, 1) := by decide +kernel
theorem dX10_brings_0 : decode cX10_brings 0 = .ok (.iconst 2, 1) := by decide +kernel
theorem dX10_brings_1 : decode cX10_brings 1 = .ok (.iload_n 1, 1) := by decide +kernel
theorem dX10_brings_2 : decode cX10_brings 2 = .ok (.imul, 1) := by decide +kernel
theorem dX10_brings_3 : decode cX10_brings 3 = .ok (.iload_n 2, 1) := by decide +kernel
theorem dX10_brings_4 : decode cX10_brings 4 = .ok (.iadd, 1) := by decide +kernel
theorem dX10_brings_5 : decode cX10_brings 5 = .ok (.istore 4, 2) := by decide +kernel
theorem dX10_brings_7 : decode cX10_brings 7 = .ok (.iload_n 3, 1) := by decide +kernel
theorem dX10_brings_8 : decode cX10_brings 8 = .ok (.aload_n 0, 1) := by decide +kernel
theorem dX10_brings_9 : decode cX10_brings 9 = .ok (.getfield 54, 3) := by decide +kernel
theorem dX10_brings_12 : decode cX10_brings 12 = .ok (.iload 4, 2) := by decide +kernel
theorem dX10_brings_14 : decode cX10_brings 14 = .ok (.iaload, 1) := by decide +kernel
theorem dX10_brings_15 : decode cX10_brings 15 = .ok (.if_icmp .ge 11, 3) := by decide +kernel
theorem dX10_brings_18 : decode cX10_brings 18 = .ok (.aload_n 0, 1) := by decide +kernel
theorem dX10_brings_19 : decode cX10_brings 19 = .ok (.getfield 54, 3) := by decide +kernel
theorem dX10_brings_22 : decode cX10_brings 22 = .ok (.iload 4, 2) := by decide +kernel
theorem dX10_brings_24 : decode cX10_brings 24 = .ok (.iload_n 3, 1) := by decide +kernel
theorem dX10_brings_25 : decode cX10_brings 25 = .ok (.iastore, 1) := by decide +kernel
theorem dX10_brings_26 : decode cX10_brings 26 = .ok (.return_, 1) := by decide +kernel
theorem dX10_breaksOn_0 : decode cX10_breaksOn 0 = .ok (.aload_n 0, 1) := by decide +kernel
theorem dX10_breaksOn_1 : decode cX10_breaksOn 1 = .ok (.getfield 51, 3) := by decide +kernel
theorem dX10_breaksOn_4 : decode cX10_breaksOn 4 = .ok (.iconst 2, 1) := by decide +kernel
theorem dX10_breaksOn_5 : decode cX10_breaksOn 5 = .ok (.iload 7, 2) := by decide +kernel
theorem dX10_breaksOn_7 : decode cX10_breaksOn 7 = .ok (.imul, 1) := by decide +kernel
theorem dX10_breaksOn_8 : decode cX10_breaksOn 8 = .ok (.iload 8, 2) := by decide +kernel
theorem dX10_breaksOn_10 : decode cX10_breaksOn 10 = .ok (.iadd, 1) := by decide +kernel
theorem dX10_breaksOn_11 : decode cX10_breaksOn 11 = .ok (.iaload, 1) := by decide +kernel
theorem dX10_breaksOn_12 : decode cX10_breaksOn 12 = .ok (.istore 9, 2) := by decide +kernel
theorem dX10_breaksOn_14 : decode cX10_breaksOn 14 = .ok (.lload_n 3, 1) := by decide +kernel
theorem dX10_breaksOn_15 : decode cX10_breaksOn 15 = .ok (.iload 7, 2) := by decide +kernel
theorem dX10_breaksOn_17 : decode cX10_breaksOn 17 = .ok (.i2l, 1) := by decide +kernel
theorem dX10_breaksOn_18 : decode cX10_breaksOn 18 = .ok (.lsub, 1) := by decide +kernel
theorem dX10_breaksOn_19 : decode cX10_breaksOn 19 = .ok (.lstore 10, 2) := by decide +kernel
theorem dX10_breaksOn_21 : decode cX10_breaksOn 21 = .ok (.iload 9, 2) := by decide +kernel
theorem dX10_breaksOn_23 : decode cX10_breaksOn 23 = .ok (.ldc 221, 2) := by decide +kernel
theorem dX10_breaksOn_25 : decode cX10_breaksOn 25 = .ok (.if_icmp .ge 10, 3) := by decide +kernel
theorem dX10_breaksOn_28 : decode cX10_breaksOn 28 = .ok (.lload 10, 2) := by decide +kernel
theorem dX10_breaksOn_30 : decode cX10_breaksOn 30 = .ok (.lconst 0, 1) := by decide +kernel
theorem dX10_breaksOn_31 : decode cX10_breaksOn 31 = .ok (.lcmp, 1) := by decide +kernel
theorem dX10_breaksOn_32 : decode cX10_breaksOn 32 = .ok (.ifCond .ge 4, 3) := by decide +kernel
theorem dX10_breaksOn_35 : decode cX10_breaksOn 35 = .ok (.return_, 1) := by decide +kernel
theorem dX10_breaksOn_36 : decode cX10_breaksOn 36 = .ok (.aload_n 0, 1) := by decide +kernel
theorem dX10_breaksOn_37 : decode cX10_breaksOn 37 = .ok (.iload_n 2, 1) := by decide +kernel
theorem dX10_breaksOn_38 : decode cX10_breaksOn 38 = .ok (.iconst 1, 1) := by decide +kernel
theorem dX10_breaksOn_39 : decode cX10_breaksOn 39 = .ok (.iadd, 1) := by decide +kernel
theorem dX10_breaksOn_40 : decode cX10_breaksOn 40 = .ok (.invokevirtual 97, 3) := by decide +kernel
theorem dX10_breaksOn_43 : decode cX10_breaksOn 43 = .ok (.istore 12, 2) := by decide +kernel
theorem dX10_breaksOn_45 : decode cX10_breaksOn 45 = .ok (.aload_n 0, 1) := by decide +kernel
theorem dX10_breaksOn_46 : decode cX10_breaksOn 46 = .ok (.iload_n 1, 1) := by decide +kernel
theorem dX10_breaksOn_47 : decode cX10_breaksOn 47 = .ok (.iload_n 2, 1) := by decide +kernel
theorem dX10_breaksOn_48 : decode cX10_breaksOn 48 = .ok (.invokevirtual 105, 3) := by decide +kernel
theorem dX10_breaksOn_51 : decode cX10_breaksOn 51 = .ok (.iload 8, 2) := by decide +kernel
theorem dX10_breaksOn_53 : decode cX10_breaksOn 53 = .ok (.isub, 1) := by decide +kernel
theorem dX10_breaksOn_54 : decode cX10_breaksOn 54 = .ok (.istore 13, 2) := by decide +kernel
theorem dX10_breaksOn_56 : decode cX10_breaksOn 56 = .ok (.lload 10, 2) := by decide +kernel
theorem dX10_breaksOn_58 : decode cX10_breaksOn 58 = .ok (.iload 12, 2) := by decide +kernel
theorem dX10_breaksOn_60 : decode cX10_breaksOn 60 = .ok (.i2l, 1) := by decide +kernel
theorem dX10_breaksOn_61 : decode cX10_breaksOn 61 = .ok (.lrem, 1) := by decide +kernel
theorem dX10_breaksOn_62 : decode cX10_breaksOn 62 = .ok (.lstore 14, 2) := by decide +kernel
theorem dX10_breaksOn_64 : decode cX10_breaksOn 64 = .ok (.lload 14, 2) := by decide +kernel
theorem dX10_breaksOn_66 : decode cX10_breaksOn 66 = .ok (.iload 13, 2) := by decide +kernel
theorem dX10_breaksOn_68 : decode cX10_breaksOn 68 = .ok (.i2l, 1) := by decide +kernel
theorem dX10_breaksOn_69 : decode cX10_breaksOn 69 = .ok (.lcmp, 1) := by decide +kernel
theorem dX10_breaksOn_70 : decode cX10_breaksOn 70 = .ok (.ifCond .le 26, 3) := by decide +kernel
theorem dX10_breaksOn_73 : decode cX10_breaksOn 73 = .ok (.aload_n 0, 1) := by decide +kernel
theorem dX10_breaksOn_74 : decode cX10_breaksOn 74 = .ok (.lload 5, 2) := by decide +kernel
theorem dX10_breaksOn_76 : decode cX10_breaksOn 76 = .ok (.lload 10, 2) := by decide +kernel
theorem dX10_breaksOn_78 : decode cX10_breaksOn 78 = .ok (.lload 14, 2) := by decide +kernel
theorem dX10_breaksOn_80 : decode cX10_breaksOn 80 = .ok (.lsub, 1) := by decide +kernel
theorem dX10_breaksOn_81 : decode cX10_breaksOn 81 = .ok (.iload 12, 2) := by decide +kernel
theorem dX10_breaksOn_83 : decode cX10_breaksOn 83 = .ok (.i2l, 1) := by decide +kernel
theorem dX10_breaksOn_84 : decode cX10_breaksOn 84 = .ok (.ldiv, 1) := by decide +kernel
theorem dX10_breaksOn_85 : decode cX10_breaksOn 85 = .ok (.lsub, 1) := by decide +kernel
theorem dX10_breaksOn_86 : decode cX10_breaksOn 86 = .ok (.l2i, 1) := by decide +kernel
theorem dX10_breaksOn_87 : decode cX10_breaksOn 87 = .ok (.iconst 1, 1) := by decide +kernel
theorem dX10_breaksOn_88 : decode cX10_breaksOn 88 = .ok (.iload 9, 2) := by decide +kernel
theorem dX10_breaksOn_90 : decode cX10_breaksOn 90 = .ok (.iconst 1, 1) := by decide +kernel
theorem dX10_breaksOn_91 : decode cX10_breaksOn 91 = .ok (.iadd, 1) := by decide +kernel
theorem dX10_breaksOn_92 : decode cX10_breaksOn 92 = .ok (.invokevirtual 243, 3) := by decide +kernel
theorem dX10_breaksOn_95 : decode cX10_breaksOn 95 = .ok (.return_, 1) := by decide +kernel
theorem dX10_breaksOn_96 : decode cX10_breaksOn 96 = .ok (.lload 14, 2) := by decide +kernel
theorem dX10_breaksOn_98 : decode cX10_breaksOn 98 = .ok (.iload 13, 2) := by decide +kernel
theorem dX10_breaksOn_100 : decode cX10_breaksOn 100 = .ok (.i2l, 1) := by decide +kernel
theorem dX10_breaksOn_101 : decode cX10_breaksOn 101 = .ok (.lcmp, 1) := by decide +kernel
theorem dX10_breaksOn_102 : decode cX10_breaksOn 102 = .ok (.ifCond .gt 42, 3) := by decide +kernel
theorem dX10_breaksOn_105 : decode cX10_breaksOn 105 = .ok (.lload 14, 2) := by decide +kernel
theorem dX10_breaksOn_107 : decode cX10_breaksOn 107 = .ok (.lload 10, 2) := by decide +kernel
theorem dX10_breaksOn_109 : decode cX10_breaksOn 109 = .ok (.lcmp, 1) := by decide +kernel
theorem dX10_breaksOn_110 : decode cX10_breaksOn 110 = .ok (.ifCond .gt 34, 3) := by decide +kernel
theorem dX10_breaksOn_113 : decode cX10_breaksOn 113 = .ok (.aload_n 0, 1) := by decide +kernel
theorem dX10_breaksOn_114 : decode cX10_breaksOn 114 = .ok (.lload 5, 2) := by decide +kernel
theorem dX10_breaksOn_116 : decode cX10_breaksOn 116 = .ok (.lload 10, 2) := by decide +kernel
theorem dX10_breaksOn_118 : decode cX10_breaksOn 118 = .ok (.lload 14, 2) := by decide +kernel
theorem dX10_breaksOn_120 : decode cX10_breaksOn 120 = .ok (.lsub, 1) := by decide +kernel
theorem dX10_breaksOn_121 : decode cX10_breaksOn 121 = .ok (.iload 12, 2) := by decide +kernel
theorem dX10_breaksOn_123 : decode cX10_breaksOn 123 = .ok (.i2l, 1) := by decide +kernel
theorem dX10_breaksOn_124 : decode cX10_breaksOn 124 = .ok (.ldiv, 1) := by decide +kernel
theorem dX10_breaksOn_125 : decode cX10_breaksOn 125 = .ok (.lsub, 1) := by decide +kernel
theorem dX10_breaksOn_126 : decode cX10_breaksOn 126 = .ok (.l2i, 1) := by decide +kernel
theorem dX10_breaksOn_127 : decode cX10_breaksOn 127 = .ok (.iconst 0, 1) := by decide +kernel
theorem dX10_breaksOn_128 : decode cX10_breaksOn 128 = .ok (.iload 9, 2) := by decide +kernel
theorem dX10_breaksOn_130 : decode cX10_breaksOn 130 = .ok (.invokevirtual 243, 3) := by decide +kernel
theorem dX10_breaksOn_133 : decode cX10_breaksOn 133 = .ok (.lload 14, 2) := by decide +kernel
theorem dX10_breaksOn_135 : decode cX10_breaksOn 135 = .ok (.iload 12, 2) := by decide +kernel
theorem dX10_breaksOn_137 : decode cX10_breaksOn 137 = .ok (.i2l, 1) := by decide +kernel
theorem dX10_breaksOn_138 : decode cX10_breaksOn 138 = .ok (.ladd, 1) := by decide +kernel
theorem dX10_breaksOn_139 : decode cX10_breaksOn 139 = .ok (.lstore 14, 2) := by decide +kernel
theorem dX10_breaksOn_141 : decode cX10_breaksOn 141 = .ok (.goto (-45), 3) := by decide +kernel
theorem dX10_breaksOn_144 : decode cX10_breaksOn 144 = .ok (.return_, 1) := by decide +kernel
theorem dX10_breaks_0 : decode cX10_breaks 0 = .ok (.aload_n 0, 1) := by decide +kernel
theorem dX10_breaks_1 : decode cX10_breaks 1 = .ok (.iload_n 1, 1) := by decide +kernel
theorem dX10_breaks_2 : decode cX10_breaks 2 = .ok (.invokevirtual 90, 3) := by decide +kernel
theorem dX10_breaks_5 : decode cX10_breaks 5 = .ok (.ifCond .eq 7, 3) := by decide +kernel
theorem dX10_breaks_8 : decode cX10_breaks 8 = .ok (.iload_n 2, 1) := by decide +kernel
theorem dX10_breaks_9 : decode cX10_breaks 9 = .ok (.ifCond .ge 5, 3) := by decide +kernel
theorem dX10_breaks_12 : decode cX10_breaks 12 = .ok (.iconst (-1), 1) := by decide +kernel
theorem dX10_breaks_13 : decode cX10_breaks 13 = .ok (.ireturn, 1) := by decide +kernel
theorem dX10_breaks_14 : decode cX10_breaks 14 = .ok (.iconst 0, 1) := by decide +kernel
theorem dX10_breaks_15 : decode cX10_breaks 15 = .ok (.istore_n 3, 1) := by decide +kernel
theorem dX10_breaks_16 : decode cX10_breaks 16 = .ok (.iload_n 3, 1) := by decide +kernel
theorem dX10_breaks_17 : decode cX10_breaks 17 = .ok (.sipush 840, 3) := by decide +kernel
theorem dX10_breaks_20 : decode cX10_breaks 20 = .ok (.if_icmp .ge 17, 3) := by decide +kernel
theorem dX10_breaks_23 : decode cX10_breaks 23 = .ok (.aload_n 0, 1) := by decide +kernel
theorem dX10_breaks_24 : decode cX10_breaks 24 = .ok (.getfield 51, 3) := by decide +kernel
theorem dX10_breaks_27 : decode cX10_breaks 27 = .ok (.iload_n 3, 1) := by decide +kernel
theorem dX10_breaks_28 : decode cX10_breaks 28 = .ok (.ldc 221, 2) := by decide +kernel
theorem dX10_breaks_30 : decode cX10_breaks 30 = .ok (.iastore, 1) := by decide +kernel
theorem dX10_breaks_31 : decode cX10_breaks 31 = .ok (.iinc 3 1, 3) := by decide +kernel
theorem dX10_breaks_34 : decode cX10_breaks 34 = .ok (.goto (-18), 3) := by decide +kernel
theorem dX10_breaks_37 : decode cX10_breaks 37 = .ok (.aload_n 0, 1) := by decide +kernel
theorem dX10_breaks_38 : decode cX10_breaks 38 = .ok (.getfield 51, 3) := by decide +kernel
theorem dX10_breaks_41 : decode cX10_breaks 41 = .ok (.iconst 0, 1) := by decide +kernel
theorem dX10_breaks_42 : decode cX10_breaks 42 = .ok (.iconst 0, 1) := by decide +kernel
theorem dX10_breaks_43 : decode cX10_breaks 43 = .ok (.iastore, 1) := by decide +kernel
theorem dX10_breaks_44 : decode cX10_breaks 44 = .ok (.iload_n 2, 1) := by decide +kernel
theorem dX10_breaks_45 : decode cX10_breaks 45 = .ok (.i2l, 1) := by decide +kernel
theorem dX10_breaks_46 : decode cX10_breaks 46 = .ok (.lstore_n 3, 1) := by decide +kernel
theorem dX10_breaks_47 : decode cX10_breaks 47 = .ok (.iconst 0, 1) := by decide +kernel
theorem dX10_breaks_48 : decode cX10_breaks 48 = .ok (.istore 5, 2) := by decide +kernel
theorem dX10_breaks_50 : decode cX10_breaks 50 = .ok (.iload 5, 2) := by decide +kernel
theorem dX10_breaks_52 : decode cX10_breaks 52 = .ok (.iconst 1, 1) := by decide +kernel
theorem dX10_breaks_53 : decode cX10_breaks 53 = .ok (.iadd, 1) := by decide +kernel
theorem dX10_breaks_54 : decode cX10_breaks 54 = .ok (.aload_n 0, 1) := by decide +kernel
theorem dX10_breaks_55 : decode cX10_breaks 55 = .ok (.getfield 13, 3) := by decide +kernel
theorem dX10_breaks_58 : decode cX10_breaks 58 = .ok (.iconst 0, 1) := by decide +kernel
theorem dX10_breaks_59 : decode cX10_breaks 59 = .ok (.iaload, 1) := by decide +kernel
theorem dX10_breaks_60 : decode cX10_breaks 60 = .ok (.if_icmp .ge 125, 3) := by decide +kernel
theorem dX10_breaks_63 : decode cX10_breaks 63 = .ok (.lload_n 3, 1) := by decide +kernel
theorem dX10_breaks_64 : decode cX10_breaks 64 = .ok (.aload_n 0, 1) := by decide +kernel
theorem dX10_breaks_65 : decode cX10_breaks 65 = .ok (.iload 5, 2) := by decide +kernel
theorem dX10_breaks_67 : decode cX10_breaks 67 = .ok (.iconst 1, 1) := by decide +kernel
theorem dX10_breaks_68 : decode cX10_breaks 68 = .ok (.iadd, 1) := by decide +kernel
theorem dX10_breaks_69 : decode cX10_breaks 69 = .ok (.invokevirtual 97, 3) := by decide +kernel
theorem dX10_breaks_72 : decode cX10_breaks 72 = .ok (.i2l, 1) := by decide +kernel
theorem dX10_breaks_73 : decode cX10_breaks 73 = .ok (.ldiv, 1) := by decide +kernel
theorem dX10_breaks_74 : decode cX10_breaks 74 = .ok (.lstore 6, 2) := by decide +kernel
theorem dX10_breaks_76 : decode cX10_breaks 76 = .ok (.iconst 0, 1) := by decide +kernel
theorem dX10_breaks_77 : decode cX10_breaks 77 = .ok (.istore 8, 2) := by decide +kernel
theorem dX10_breaks_79 : decode cX10_breaks 79 = .ok (.iload 8, 2) := by decide +kernel
theorem dX10_breaks_81 : decode cX10_breaks 81 = .ok (.sipush 840, 3) := by decide +kernel
theorem dX10_breaks_84 : decode cX10_breaks 84 = .ok (.if_icmp .ge 18, 3) := by decide +kernel
theorem dX10_breaks_87 : decode cX10_breaks 87 = .ok (.aload_n 0, 1) := by decide +kernel
theorem dX10_breaks_88 : decode cX10_breaks 88 = .ok (.getfield 54, 3) := by decide +kernel
theorem dX10_breaks_91 : decode cX10_breaks 91 = .ok (.iload 8, 2) := by decide +kernel
theorem dX10_breaks_93 : decode cX10_breaks 93 = .ok (.ldc 221, 2) := by decide +kernel
theorem dX10_breaks_95 : decode cX10_breaks 95 = .ok (.iastore, 1) := by decide +kernel
theorem dX10_breaks_96 : decode cX10_breaks 96 = .ok (.iinc 8 1, 3) := by decide +kernel
theorem dX10_breaks_99 : decode cX10_breaks 99 = .ok (.goto (-20), 3) := by decide +kernel
theorem dX10_breaks_102 : decode cX10_breaks 102 = .ok (.iconst 0, 1) := by decide +kernel
theorem dX10_breaks_103 : decode cX10_breaks 103 = .ok (.istore 8, 2) := by decide +kernel
theorem dX10_breaks_105 : decode cX10_breaks 105 = .ok (.iload 8, 2) := by decide +kernel
theorem dX10_breaks_107 : decode cX10_breaks 107 = .ok (.sipush 420, 3) := by decide +kernel
theorem dX10_breaks_110 : decode cX10_breaks 110 = .ok (.if_icmp .ge 35, 3) := by decide +kernel
theorem dX10_breaks_113 : decode cX10_breaks 113 = .ok (.aload_n 0, 1) := by decide +kernel
theorem dX10_breaks_114 : decode cX10_breaks 114 = .ok (.iload_n 1, 1) := by decide +kernel
theorem dX10_breaks_115 : decode cX10_breaks 115 = .ok (.iload 5, 2) := by decide +kernel
theorem dX10_breaks_117 : decode cX10_breaks 117 = .ok (.lload_n 3, 1) := by decide +kernel
theorem dX10_breaks_118 : decode cX10_breaks 118 = .ok (.lload 6, 2) := by decide +kernel
theorem dX10_breaks_120 : decode cX10_breaks 120 = .ok (.iload 8, 2) := by decide +kernel
theorem dX10_breaks_122 : decode cX10_breaks 122 = .ok (.iconst 0, 1) := by decide +kernel
theorem dX10_breaks_123 : decode cX10_breaks 123 = .ok (.invokevirtual 246, 3) := by decide +kernel
theorem dX10_breaks_126 : decode cX10_breaks 126 = .ok (.aload_n 0, 1) := by decide +kernel
theorem dX10_breaks_127 : decode cX10_breaks 127 = .ok (.iload_n 1, 1) := by decide +kernel
theorem dX10_breaks_128 : decode cX10_breaks 128 = .ok (.iload 5, 2) := by decide +kernel
theorem dX10_breaks_130 : decode cX10_breaks 130 = .ok (.lload_n 3, 1) := by decide +kernel
theorem dX10_breaks_131 : decode cX10_breaks 131 = .ok (.lload 6, 2) := by decide +kernel
theorem dX10_breaks_133 : decode cX10_breaks 133 = .ok (.iload 8, 2) := by decide +kernel
theorem dX10_breaks_135 : decode cX10_breaks 135 = .ok (.iconst 1, 1) := by decide +kernel
theorem dX10_breaks_136 : decode cX10_breaks 136 = .ok (.invokevirtual 246, 3) := by decide +kernel
theorem dX10_breaks_139 : decode cX10_breaks 139 = .ok (.iinc 8 1, 3) := by decide +kernel
theorem dX10_breaks_142 : decode cX10_breaks 142 = .ok (.goto (-37), 3) := by decide +kernel
theorem dX10_breaks_145 : decode cX10_breaks 145 = .ok (.iconst 0, 1) := by decide +kernel
theorem dX10_breaks_146 : decode cX10_breaks 146 = .ok (.istore 8, 2) := by decide +kernel
theorem dX10_breaks_148 : decode cX10_breaks 148 = .ok (.iload 8, 2) := by decide +kernel
theorem dX10_breaks_150 : decode cX10_breaks 150 = .ok (.sipush 840, 3) := by decide +kernel
theorem dX10_breaks_153 : decode cX10_breaks 153 = .ok (.if_icmp .ge 23, 3) := by decide +kernel
theorem dX10_breaks_156 : decode cX10_breaks 156 = .ok (.aload_n 0, 1) := by decide +kernel
theorem dX10_breaks_157 : decode cX10_breaks 157 = .ok (.getfield 51, 3) := by decide +kernel
theorem dX10_breaks_160 : decode cX10_breaks 160 = .ok (.iload 8, 2) := by decide +kernel
theorem dX10_breaks_162 : decode cX10_breaks 162 = .ok (.aload_n 0, 1) := by decide +kernel
theorem dX10_breaks_163 : decode cX10_breaks 163 = .ok (.getfield 54, 3) := by decide +kernel
theorem dX10_breaks_166 : decode cX10_breaks 166 = .ok (.iload 8, 2) := by decide +kernel
theorem dX10_breaks_168 : decode cX10_breaks 168 = .ok (.iaload, 1) := by decide +kernel
theorem dX10_breaks_169 : decode cX10_breaks 169 = .ok (.iastore, 1) := by decide +kernel
theorem dX10_breaks_170 : decode cX10_breaks 170 = .ok (.iinc 8 1, 3) := by decide +kernel
theorem dX10_breaks_173 : decode cX10_breaks 173 = .ok (.goto (-25), 3) := by decide +kernel
theorem dX10_breaks_176 : decode cX10_breaks 176 = .ok (.lload 6, 2) := by decide +kernel
theorem dX10_breaks_178 : decode cX10_breaks 178 = .ok (.lstore_n 3, 1) := by decide +kernel
theorem dX10_breaks_179 : decode cX10_breaks 179 = .ok (.iinc 5 1, 3) := by decide +kernel
theorem dX10_breaks_182 : decode cX10_breaks 182 = .ok (.goto (-132), 3) := by decide +kernel
theorem dX10_breaks_185 : decode cX10_breaks 185 = .ok (.ldc 221, 2) := by decide +kernel
theorem dX10_breaks_187 : decode cX10_breaks 187 = .ok (.istore 5, 2) := by decide +kernel
theorem dX10_breaks_189 : decode cX10_breaks 189 = .ok (.iconst 0, 1) := by decide +kernel
theorem dX10_breaks_190 : decode cX10_breaks 190 = .ok (.istore 6, 2) := by decide +kernel
theorem dX10_breaks_192 : decode cX10_breaks 192 = .ok (.iload 6, 2) := by decide +kernel
theorem dX10_breaks_194 : decode cX10_breaks 194 = .ok (.sipush 420, 3) := by decide +kernel
theorem dX10_breaks_197 : decode cX10_breaks 197 = .ok (.if_icmp .ge 72, 3) := by decide +kernel
theorem dX10_breaks_200 : decode cX10_breaks 200 = .ok (.iconst 0, 1) := by decide +kernel
theorem dX10_breaks_201 : decode cX10_breaks 201 = .ok (.istore 7, 2) := by decide +kernel
theorem dX10_breaks_203 : decode cX10_breaks 203 = .ok (.iload 7, 2) := by decide +kernel
theorem dX10_breaks_205 : decode cX10_breaks 205 = .ok (.iconst 2, 1) := by decide +kernel
theorem dX10_breaks_206 : decode cX10_breaks 206 = .ok (.if_icmp .ge 57, 3) := by decide +kernel
theorem dX10_breaks_209 : decode cX10_breaks 209 = .ok (.lload_n 3, 1) := by decide +kernel
theorem dX10_breaks_210 : decode cX10_breaks 210 = .ok (.iload 6, 2) := by decide +kernel
theorem dX10_breaks_212 : decode cX10_breaks 212 = .ok (.i2l, 1) := by decide +kernel
theorem dX10_breaks_213 : decode cX10_breaks 213 = .ok (.lsub, 1) := by decide +kernel
theorem dX10_breaks_214 : decode cX10_breaks 214 = .ok (.lconst 0, 1) := by decide +kernel
theorem dX10_breaks_215 : decode cX10_breaks 215 = .ok (.aload_n 0, 1) := by decide +kernel
theorem dX10_breaks_216 : decode cX10_breaks 216 = .ok (.iload_n 1, 1) := by decide +kernel
theorem dX10_breaks_217 : decode cX10_breaks 217 = .ok (.aload_n 0, 1) := by decide +kernel
theorem dX10_breaks_218 : decode cX10_breaks 218 = .ok (.getfield 13, 3) := by decide +kernel
theorem dX10_breaks_221 : decode cX10_breaks 221 = .ok (.iconst 0, 1) := by decide +kernel
theorem dX10_breaks_222 : decode cX10_breaks 222 = .ok (.iaload, 1) := by decide +kernel
theorem dX10_breaks_223 : decode cX10_breaks 223 = .ok (.iconst 1, 1) := by decide +kernel
theorem dX10_breaks_224 : decode cX10_breaks 224 = .ok (.isub, 1) := by decide +kernel
theorem dX10_breaks_225 : decode cX10_breaks 225 = .ok (.invokevirtual 105, 3) := by decide +kernel
theorem dX10_breaks_228 : decode cX10_breaks 228 = .ok (.iload 7, 2) := by decide +kernel
theorem dX10_breaks_230 : decode cX10_breaks 230 = .ok (.isub, 1) := by decide +kernel
theorem dX10_breaks_231 : decode cX10_breaks 231 = .ok (.i2l, 1) := by decide +kernel
theorem dX10_breaks_232 : decode cX10_breaks 232 = .ok (.invokestatic 86, 3) := by decide +kernel
theorem dX10_breaks_235 : decode cX10_breaks 235 = .ok (.ifCond .eq 22, 3) := by decide +kernel
theorem dX10_breaks_238 : decode cX10_breaks 238 = .ok (.iload 5, 2) := by decide +kernel
theorem dX10_breaks_240 : decode cX10_breaks 240 = .ok (.aload_n 0, 1) := by decide +kernel
theorem dX10_breaks_241 : decode cX10_breaks 241 = .ok (.getfield 51, 3) := by decide +kernel
theorem dX10_breaks_244 : decode cX10_breaks 244 = .ok (.iconst 2, 1) := by decide +kernel
theorem dX10_breaks_245 : decode cX10_breaks 245 = .ok (.iload 6, 2) := by decide +kernel
theorem dX10_breaks_247 : decode cX10_breaks 247 = .ok (.imul, 1) := by decide +kernel
theorem dX10_breaks_248 : decode cX10_breaks 248 = .ok (.iload 7, 2) := by decide +kernel
theorem dX10_breaks_250 : decode cX10_breaks 250 = .ok (.iadd, 1) := by decide +kernel
theorem dX10_breaks_251 : decode cX10_breaks 251 = .ok (.iaload, 1) := by decide +kernel
theorem dX10_breaks_252 : decode cX10_breaks 252 = .ok (.invokestatic 240, 3) := by decide +kernel
theorem dX10_breaks_255 : decode cX10_breaks 255 = .ok (.istore 5, 2) := by decide +kernel
theorem dX10_breaks_257 : decode cX10_breaks 257 = .ok (.iinc 7 1, 3) := by decide +kernel
theorem dX10_breaks_260 : decode cX10_breaks 260 = .ok (.goto (-57), 3) := by decide +kernel
theorem dX10_breaks_263 : decode cX10_breaks 263 = .ok (.iinc 6 1, 3) := by decide +kernel
theorem dX10_breaks_266 : decode cX10_breaks 266 = .ok (.goto (-74), 3) := by decide +kernel
theorem dX10_breaks_269 : decode cX10_breaks 269 = .ok (.iload 5, 2) := by decide +kernel
theorem dX10_breaks_271 : decode cX10_breaks 271 = .ok (.ldc 221, 2) := by decide +kernel
theorem dX10_breaks_273 : decode cX10_breaks 273 = .ok (.if_icmp .lt 8, 3) := by decide +kernel
theorem dX10_breaks_276 : decode cX10_breaks 276 = .ok (.bipush (-2), 2) := by decide +kernel
theorem dX10_breaks_278 : decode cX10_breaks 278 = .ok (.goto 5, 3) := by decide +kernel
theorem dX10_breaks_281 : decode cX10_breaks 281 = .ok (.iload 5, 2) := by decide +kernel
theorem dX10_breaks_283 : decode cX10_breaks 283 = .ok (.ireturn, 1) := by decide +kernel
theorem dX10_missing_0 : decode cX10_missing 0 = .ok (.aload_n 0, 1) := by decide +kernel
theorem dX10_missing_1 : decode cX10_missing 1 = .ok (.iload_n 1, 1) := by decide +kernel
theorem dX10_missing_2 : decode cX10_missing 2 = .ok (.invokevirtual 90, 3) := by decide +kernel
theorem dX10_missing_5 : decode cX10_missing 5 = .ok (.ifCond .ne 5, 3) := by decide +kernel
theorem dX10_missing_8 : decode cX10_missing 8 = .ok (.iconst (-1), 1) := by decide +kernel
theorem dX10_missing_9 : decode cX10_missing 9 = .ok (.ireturn, 1) := by decide +kernel
theorem dX10_missing_10 : decode cX10_missing 10 = .ok (.iconst 0, 1) := by decide +kernel
theorem dX10_missing_11 : decode cX10_missing 11 = .ok (.istore_n 2, 1) := by decide +kernel
theorem dX10_missing_12 : decode cX10_missing 12 = .ok (.iconst 0, 1) := by decide +kernel
theorem dX10_missing_13 : decode cX10_missing 13 = .ok (.istore_n 3, 1) := by decide +kernel
theorem dX10_missing_14 : decode cX10_missing 14 = .ok (.iload_n 3, 1) := by decide +kernel
theorem dX10_missing_15 : decode cX10_missing 15 = .ok (.aload_n 0, 1) := by decide +kernel
theorem dX10_missing_16 : decode cX10_missing 16 = .ok (.getfield 13, 3) := by decide +kernel
theorem dX10_missing_19 : decode cX10_missing 19 = .ok (.iconst 0, 1) := by decide +kernel
theorem dX10_missing_20 : decode cX10_missing 20 = .ok (.iaload, 1) := by decide +kernel
theorem dX10_missing_21 : decode cX10_missing 21 = .ok (.if_icmp .ge 44, 3) := by decide +kernel
theorem dX10_missing_24 : decode cX10_missing 24 = .ok (.aload_n 0, 1) := by decide +kernel
theorem dX10_missing_25 : decode cX10_missing 25 = .ok (.iload_n 1, 1) := by decide +kernel
theorem dX10_missing_26 : decode cX10_missing 26 = .ok (.iload_n 3, 1) := by decide +kernel
theorem dX10_missing_27 : decode cX10_missing 27 = .ok (.invokevirtual 105, 3) := by decide +kernel
theorem dX10_missing_30 : decode cX10_missing 30 = .ok (.ifCond .le 29, 3) := by decide +kernel
theorem dX10_missing_33 : decode cX10_missing 33 = .ok (.aload_n 0, 1) := by decide +kernel
theorem dX10_missing_34 : decode cX10_missing 34 = .ok (.iload_n 3, 1) := by decide +kernel
theorem dX10_missing_35 : decode cX10_missing 35 = .ok (.invokevirtual 108, 3) := by decide +kernel
theorem dX10_missing_38 : decode cX10_missing 38 = .ok (.iload_n 2, 1) := by decide +kernel
theorem dX10_missing_39 : decode cX10_missing 39 = .ok (.iconst 1, 1) := by decide +kernel
theorem dX10_missing_40 : decode cX10_missing 40 = .ok (.iadd, 1) := by decide +kernel
theorem dX10_missing_41 : decode cX10_missing 41 = .ok (.if_icmp .gt 18, 3) := by decide +kernel
theorem dX10_missing_44 : decode cX10_missing 44 = .ok (.iload_n 2, 1) := by decide +kernel
theorem dX10_missing_45 : decode cX10_missing 45 = .ok (.aload_n 0, 1) := by decide +kernel
theorem dX10_missing_46 : decode cX10_missing 46 = .ok (.iload_n 1, 1) := by decide +kernel
theorem dX10_missing_47 : decode cX10_missing 47 = .ok (.iload_n 3, 1) := by decide +kernel
theorem dX10_missing_48 : decode cX10_missing 48 = .ok (.invokevirtual 105, 3) := by decide +kernel
theorem dX10_missing_51 : decode cX10_missing 51 = .ok (.aload_n 0, 1) := by decide +kernel
theorem dX10_missing_52 : decode cX10_missing 52 = .ok (.iload_n 3, 1) := by decide +kernel
theorem dX10_missing_53 : decode cX10_missing 53 = .ok (.invokevirtual 108, 3) := by decide +kernel
theorem dX10_missing_56 : decode cX10_missing 56 = .ok (.imul, 1) := by decide +kernel
theorem dX10_missing_57 : decode cX10_missing 57 = .ok (.iadd, 1) := by decide +kernel
theorem dX10_missing_58 : decode cX10_missing 58 = .ok (.istore_n 2, 1) := by decide +kernel
theorem dX10_missing_59 : decode cX10_missing 59 = .ok (.iinc 3 1, 3) := by decide +kernel
theorem dX10_missing_62 : decode cX10_missing 62 = .ok (.goto (-48), 3) := by decide +kernel
theorem dX10_missing_65 : decode cX10_missing 65 = .ok (.iload_n 2, 1) := by decide +kernel
theorem dX10_missing_66 : decode cX10_missing 66 = .ok (.iconst 1, 1) := by decide +kernel
theorem dX10_missing_67 : decode cX10_missing 67 = .ok (.iadd, 1) := by decide +kernel
theorem dX10_missing_68 : decode cX10_missing 68 = .ok (.ireturn, 1) := by decide +kernel
theorem dX10_move_0 : decode cX10_move 0 = .ok (.iload_n 1, 1) := by decide +kernel
theorem dX10_move_1 : decode cX10_move 1 = .ok (.i2l, 1) := by decide +kernel
theorem dX10_move_2 : decode cX10_move 2 = .ok (.lconst 0, 1) := by decide +kernel
theorem dX10_move_3 : decode cX10_move 3 = .ok (.aload_n 0, 1) := by decide +kernel
theorem dX10_move_4 : decode cX10_move 4 = .ok (.getfield 13, 3) := by decide +kernel
theorem dX10_move_7 : decode cX10_move 7 = .ok (.bipush 56, 2) := by decide +kernel
theorem dX10_move_9 : decode cX10_move 9 = .ok (.iaload, 1) := by decide +kernel
theorem dX10_move_10 : decode cX10_move 10 = .ok (.iconst 1, 1) := by decide +kernel
theorem dX10_move_11 : decode cX10_move 11 = .ok (.isub, 1) := by decide +kernel
theorem dX10_move_12 : decode cX10_move 12 = .ok (.i2l, 1) := by decide +kernel
theorem dX10_move_13 : decode cX10_move 13 = .ok (.invokestatic 86, 3) := by decide +kernel
theorem dX10_move_16 : decode cX10_move 16 = .ok (.ifCond .eq 31, 3) := by decide +kernel
theorem dX10_move_19 : decode cX10_move 19 = .ok (.iload_n 2, 1) := by decide +kernel
theorem dX10_move_20 : decode cX10_move 20 = .ok (.i2l, 1) := by decide +kernel
theorem dX10_move_21 : decode cX10_move 21 = .ok (.lconst 0, 1) := by decide +kernel
theorem dX10_move_22 : decode cX10_move 22 = .ok (.ldc2_w 130, 3) := by decide +kernel
theorem dX10_move_25 : decode cX10_move 25 = .ok (.invokestatic 86, 3) := by decide +kernel
theorem dX10_move_28 : decode cX10_move 28 = .ok (.ifCond .eq 19, 3) := by decide +kernel
theorem dX10_move_31 : decode cX10_move 31 = .ok (.aload_n 0, 1) := by decide +kernel
theorem dX10_move_32 : decode cX10_move 32 = .ok (.getfield 13, 3) := by decide +kernel
theorem dX10_move_35 : decode cX10_move 35 = .ok (.bipush 57, 2) := by decide +kernel
theorem dX10_move_37 : decode cX10_move 37 = .ok (.iconst 5, 1) := by decide +kernel
theorem dX10_move_38 : decode cX10_move 38 = .ok (.iload_n 1, 1) := by decide +kernel
theorem dX10_move_39 : decode cX10_move 39 = .ok (.imul, 1) := by decide +kernel
theorem dX10_move_40 : decode cX10_move 40 = .ok (.iadd, 1) := by decide +kernel
theorem dX10_move_41 : decode cX10_move 41 = .ok (.iload_n 2, 1) := by decide +kernel
theorem dX10_move_42 : decode cX10_move 42 = .ok (.iadd, 1) := by decide +kernel
theorem dX10_move_43 : decode cX10_move 43 = .ok (.iaload, 1) := by decide +kernel
theorem dX10_move_44 : decode cX10_move 44 = .ok (.goto 4, 3) := by decide +kernel
theorem dX10_move_47 : decode cX10_move 47 = .ok (.iconst (-1), 1) := by decide +kernel
theorem dX10_move_48 : decode cX10_move 48 = .ok (.ireturn, 1) := by decide +kernel
theorem dX10_laysAt_0 : decode cX10_laysAt 0 = .ok (.iconst 0, 1) := by decide +kernel
theorem dX10_laysAt_1 : decode cX10_laysAt 1 = .ok (.istore_n 2, 1) := by decide +kernel
theorem dX10_laysAt_2 : decode cX10_laysAt 2 = .ok (.iload_n 2, 1) := by decide +kernel
theorem dX10_laysAt_3 : decode cX10_laysAt 3 = .ok (.bipush 24, 2) := by decide +kernel
theorem dX10_laysAt_5 : decode cX10_laysAt 5 = .ok (.if_icmp .ge 24, 3) := by decide +kernel
theorem dX10_laysAt_8 : decode cX10_laysAt 8 = .ok (.aload_n 0, 1) := by decide +kernel
theorem dX10_laysAt_9 : decode cX10_laysAt 9 = .ok (.getfield 23, 3) := by decide +kernel
theorem dX10_laysAt_12 : decode cX10_laysAt 12 = .ok (.iload_n 2, 1) := by decide +kernel
theorem dX10_laysAt_13 : decode cX10_laysAt 13 = .ok (.aload_n 0, 1) := by decide +kernel
theorem dX10_laysAt_14 : decode cX10_laysAt 14 = .ok (.getfield 13, 3) := by decide +kernel
theorem dX10_laysAt_17 : decode cX10_laysAt 17 = .ok (.bipush 32, 2) := by decide +kernel
theorem dX10_laysAt_19 : decode cX10_laysAt 19 = .ok (.iload_n 2, 1) := by decide +kernel
theorem dX10_laysAt_20 : decode cX10_laysAt 20 = .ok (.iadd, 1) := by decide +kernel
theorem dX10_laysAt_21 : decode cX10_laysAt 21 = .ok (.iaload, 1) := by decide +kernel
theorem dX10_laysAt_22 : decode cX10_laysAt 22 = .ok (.iastore, 1) := by decide +kernel
theorem dX10_laysAt_23 : decode cX10_laysAt 23 = .ok (.iinc 2 1, 3) := by decide +kernel
theorem dX10_laysAt_26 : decode cX10_laysAt 26 = .ok (.goto (-24), 3) := by decide +kernel
theorem dX10_laysAt_29 : decode cX10_laysAt 29 = .ok (.iconst 0, 1) := by decide +kernel
theorem dX10_laysAt_30 : decode cX10_laysAt 30 = .ok (.istore_n 2, 1) := by decide +kernel
theorem dX10_laysAt_31 : decode cX10_laysAt 31 = .ok (.iload_n 2, 1) := by decide +kernel
theorem dX10_laysAt_32 : decode cX10_laysAt 32 = .ok (.iload_n 1, 1) := by decide +kernel
theorem dX10_laysAt_33 : decode cX10_laysAt 33 = .ok (.if_icmp .ge 19, 3) := by decide +kernel
theorem dX10_laysAt_36 : decode cX10_laysAt 36 = .ok (.aload_n 0, 1) := by decide +kernel
theorem dX10_laysAt_37 : decode cX10_laysAt 37 = .ok (.iload_n 2, 1) := by decide +kernel
theorem dX10_laysAt_38 : decode cX10_laysAt 38 = .ok (.invokevirtual 172, 3) := by decide +kernel
theorem dX10_laysAt_41 : decode cX10_laysAt 41 = .ok (.aload_n 0, 1) := by decide +kernel
theorem dX10_laysAt_42 : decode cX10_laysAt 42 = .ok (.iconst 1, 1) := by decide +kernel
theorem dX10_laysAt_43 : decode cX10_laysAt 43 = .ok (.invokevirtual 161, 3) := by decide +kernel
theorem dX10_laysAt_46 : decode cX10_laysAt 46 = .ok (.iinc 2 1, 3) := by decide +kernel
theorem dX10_laysAt_49 : decode cX10_laysAt 49 = .ok (.goto (-18), 3) := by decide +kernel
theorem dX10_laysAt_52 : decode cX10_laysAt 52 = .ok (.return_, 1) := by decide +kernel
theorem dX10_isTime_0 : decode cX10_isTime 0 = .ok (.iload_n 1, 1) := by decide +kernel
theorem dX10_isTime_1 : decode cX10_isTime 1 = .ok (.i2l, 1) := by decide +kernel
theorem dX10_isTime_2 : decode cX10_isTime 2 = .ok (.lconst 0, 1) := by decide +kernel
theorem dX10_isTime_3 : decode cX10_isTime 3 = .ok (.aload_n 0, 1) := by decide +kernel
theorem dX10_isTime_4 : decode cX10_isTime 4 = .ok (.getfield 13, 3) := by decide +kernel
theorem dX10_isTime_7 : decode cX10_isTime 7 = .ok (.bipush 56, 2) := by decide +kernel
theorem dX10_isTime_9 : decode cX10_isTime 9 = .ok (.iaload, 1) := by decide +kernel
theorem dX10_isTime_10 : decode cX10_isTime 10 = .ok (.i2l, 1) := by decide +kernel
theorem dX10_isTime_11 : decode cX10_isTime 11 = .ok (.invokestatic 86, 3) := by decide +kernel
theorem dX10_isTime_14 : decode cX10_isTime 14 = .ok (.ireturn, 1) := by decide +kernel
theorem dX10_at_0 : decode cX10_at 0 = .ok (.aload_n 0, 1) := by decide +kernel
theorem dX10_at_1 : decode cX10_at 1 = .ok (.iload_n 1, 1) := by decide +kernel
theorem dX10_at_2 : decode cX10_at 2 = .ok (.invokevirtual 250, 3) := by decide +kernel
theorem dX10_at_5 : decode cX10_at 5 = .ok (.ifCond .eq 12, 3) := by decide +kernel
theorem dX10_at_8 : decode cX10_at 8 = .ok (.aload_n 0, 1) := by decide +kernel
theorem dX10_at_9 : decode cX10_at 9 = .ok (.iload_n 2, 1) := by decide +kernel
theorem dX10_at_10 : decode cX10_at 10 = .ok (.iload_n 3, 1) := by decide +kernel
theorem dX10_at_11 : decode cX10_at 11 = .ok (.invokevirtual 132, 3) := by decide +kernel
theorem dX10_at_14 : decode cX10_at 14 = .ok (.ifCond .ne 7, 3) := by decide +kernel
theorem dX10_at_17 : decode cX10_at 17 = .ok (.sipush (-1000), 3) := by decide +kernel
theorem dX10_at_20 : decode cX10_at 20 = .ok (.ireturn, 1) := by decide +kernel
theorem dX10_at_21 : decode cX10_at 21 = .ok (.aload_n 0, 1) := by decide +kernel
theorem dX10_at_22 : decode cX10_at 22 = .ok (.iload_n 1, 1) := by decide +kernel
theorem dX10_at_23 : decode cX10_at 23 = .ok (.invokevirtual 253, 3) := by decide +kernel
theorem dX10_at_26 : decode cX10_at 26 = .ok (.aload_n 0, 1) := by decide +kernel
theorem dX10_at_27 : decode cX10_at 27 = .ok (.getfield 23, 3) := by decide +kernel
theorem dX10_at_30 : decode cX10_at 30 = .ok (.iload_n 2, 1) := by decide +kernel
theorem dX10_at_31 : decode cX10_at 31 = .ok (.iload_n 3, 1) := by decide +kernel
theorem dX10_at_32 : decode cX10_at 32 = .ok (.invokestatic 101, 3) := by decide +kernel
theorem dX10_at_35 : decode cX10_at 35 = .ok (.iaload, 1) := by decide +kernel
theorem dX10_at_36 : decode cX10_at 36 = .ok (.ireturn, 1) := by decide +kernel
theorem dX10_sumAt_0 : decode cX10_sumAt 0 = .ok (.aload_n 0, 1) := by decide +kernel
theorem dX10_sumAt_1 : decode cX10_sumAt 1 = .ok (.iload_n 1, 1) := by decide +kernel
theorem dX10_sumAt_2 : decode cX10_sumAt 2 = .ok (.invokevirtual 250, 3) := by decide +kernel
theorem dX10_sumAt_5 : decode cX10_sumAt 5 = .ok (.ifCond .ne 7, 3) := by decide +kernel
theorem dX10_sumAt_8 : decode cX10_sumAt 8 = .ok (.ldc_w 256, 3) := by decide +kernel
theorem dX10_sumAt_11 : decode cX10_sumAt 11 = .ok (.ireturn, 1) := by decide +kernel
theorem dX10_sumAt_12 : decode cX10_sumAt 12 = .ok (.aload_n 0, 1) := by decide +kernel
theorem dX10_sumAt_13 : decode cX10_sumAt 13 = .ok (.iload_n 1, 1) := by decide +kernel
theorem dX10_sumAt_14 : decode cX10_sumAt 14 = .ok (.invokevirtual 253, 3) := by decide +kernel
theorem dX10_sumAt_17 : decode cX10_sumAt 17 = .ok (.iconst 0, 1) := by decide +kernel
theorem dX10_sumAt_18 : decode cX10_sumAt 18 = .ok (.istore_n 2, 1) := by decide +kernel
theorem dX10_sumAt_19 : decode cX10_sumAt 19 = .ok (.iconst 0, 1) := by decide +kernel
theorem dX10_sumAt_20 : decode cX10_sumAt 20 = .ok (.istore_n 3, 1) := by decide +kernel
theorem dX10_sumAt_21 : decode cX10_sumAt 21 = .ok (.iload_n 3, 1) := by decide +kernel
theorem dX10_sumAt_22 : decode cX10_sumAt 22 = .ok (.aload_n 0, 1) := by decide +kernel
theorem dX10_sumAt_23 : decode cX10_sumAt 23 = .ok (.getfield 13, 3) := by decide +kernel
theorem dX10_sumAt_26 : decode cX10_sumAt 26 = .ok (.iconst 1, 1) := by decide +kernel
theorem dX10_sumAt_27 : decode cX10_sumAt 27 = .ok (.iaload, 1) := by decide +kernel
theorem dX10_sumAt_28 : decode cX10_sumAt 28 = .ok (.if_icmp .ge 50, 3) := by decide +kernel
theorem dX10_sumAt_31 : decode cX10_sumAt 31 = .ok (.iconst 0, 1) := by decide +kernel
theorem dX10_sumAt_32 : decode cX10_sumAt 32 = .ok (.istore 4, 2) := by decide +kernel
theorem dX10_sumAt_34 : decode cX10_sumAt 34 = .ok (.iload 4, 2) := by decide +kernel
theorem dX10_sumAt_36 : decode cX10_sumAt 36 = .ok (.aload_n 0, 1) := by decide +kernel
theorem dX10_sumAt_37 : decode cX10_sumAt 37 = .ok (.getfield 13, 3) := by decide +kernel
theorem dX10_sumAt_40 : decode cX10_sumAt 40 = .ok (.iconst 0, 1) := by decide +kernel
theorem dX10_sumAt_41 : decode cX10_sumAt 41 = .ok (.iaload, 1) := by decide +kernel
theorem dX10_sumAt_42 : decode cX10_sumAt 42 = .ok (.if_icmp .ge 30, 3) := by decide +kernel
theorem dX10_sumAt_45 : decode cX10_sumAt 45 = .ok (.iload_n 2, 1) := by decide +kernel
theorem dX10_sumAt_46 : decode cX10_sumAt 46 = .ok (.aload_n 0, 1) := by decide +kernel
theorem dX10_sumAt_47 : decode cX10_sumAt 47 = .ok (.getfield 23, 3) := by decide +kernel
theorem dX10_sumAt_50 : decode cX10_sumAt 50 = .ok (.iload_n 3, 1) := by decide +kernel
theorem dX10_sumAt_51 : decode cX10_sumAt 51 = .ok (.iload 4, 2) := by decide +kernel
theorem dX10_sumAt_53 : decode cX10_sumAt 53 = .ok (.invokestatic 101, 3) := by decide +kernel
theorem dX10_sumAt_56 : decode cX10_sumAt 56 = .ok (.iaload, 1) := by decide +kernel
theorem dX10_sumAt_57 : decode cX10_sumAt 57 = .ok (.aload_n 0, 1) := by decide +kernel
theorem dX10_sumAt_58 : decode cX10_sumAt 58 = .ok (.iload 4, 2) := by decide +kernel
theorem dX10_sumAt_60 : decode cX10_sumAt 60 = .ok (.invokevirtual 108, 3) := by decide +kernel
theorem dX10_sumAt_63 : decode cX10_sumAt 63 = .ok (.imul, 1) := by decide +kernel
theorem dX10_sumAt_64 : decode cX10_sumAt 64 = .ok (.iadd, 1) := by decide +kernel
theorem dX10_sumAt_65 : decode cX10_sumAt 65 = .ok (.istore_n 2, 1) := by decide +kernel
theorem dX10_sumAt_66 : decode cX10_sumAt 66 = .ok (.iinc 4 1, 3) := by decide +kernel
theorem dX10_sumAt_69 : decode cX10_sumAt 69 = .ok (.goto (-35), 3) := by decide +kernel
theorem dX10_sumAt_72 : decode cX10_sumAt 72 = .ok (.iinc 3 1, 3) := by decide +kernel
theorem dX10_sumAt_75 : decode cX10_sumAt 75 = .ok (.goto (-54), 3) := by decide +kernel
theorem dX10_sumAt_78 : decode cX10_sumAt 78 = .ok (.iload_n 2, 1) := by decide +kernel
theorem dX10_sumAt_79 : decode cX10_sumAt 79 = .ok (.ireturn, 1) := by decide +kernel
theorem dX10_differs_0 : decode cX10_differs 0 = .ok (.aload_n 0, 1) := by decide +kernel
theorem dX10_differs_1 : decode cX10_differs 1 = .ok (.aload_n 0, 1) := by decide +kernel
theorem dX10_differs_2 : decode cX10_differs 2 = .ok (.getfield 13, 3) := by decide +kernel
theorem dX10_differs_5 : decode cX10_differs 5 = .ok (.bipush 56, 2) := by decide +kernel
theorem dX10_differs_7 : decode cX10_differs 7 = .ok (.iaload, 1) := by decide +kernel
theorem dX10_differs_8 : decode cX10_differs 8 = .ok (.invokevirtual 253, 3) := by decide +kernel
theorem dX10_differs_11 : decode cX10_differs 11 = .ok (.iconst 0, 1) := by decide +kernel
theorem dX10_differs_12 : decode cX10_differs 12 = .ok (.istore_n 1, 1) := by decide +kernel
theorem dX10_differs_13 : decode cX10_differs 13 = .ok (.iconst 0, 1) := by decide +kernel
theorem dX10_differs_14 : decode cX10_differs 14 = .ok (.istore_n 2, 1) := by decide +kernel
theorem dX10_differs_15 : decode cX10_differs 15 = .ok (.iload_n 2, 1) := by decide +kernel
theorem dX10_differs_16 : decode cX10_differs 16 = .ok (.bipush 24, 2) := by decide +kernel
theorem dX10_differs_18 : decode cX10_differs 18 = .ok (.if_icmp .ge 30, 3) := by decide +kernel
theorem dX10_differs_21 : decode cX10_differs 21 = .ok (.aload_n 0, 1) := by decide +kernel
theorem dX10_differs_22 : decode cX10_differs 22 = .ok (.getfield 23, 3) := by decide +kernel
theorem dX10_differs_25 : decode cX10_differs 25 = .ok (.iload_n 2, 1) := by decide +kernel
theorem dX10_differs_26 : decode cX10_differs 26 = .ok (.iaload, 1) := by decide +kernel
theorem dX10_differs_27 : decode cX10_differs 27 = .ok (.aload_n 0, 1) := by decide +kernel
theorem dX10_differs_28 : decode cX10_differs 28 = .ok (.getfield 13, 3) := by decide +kernel
theorem dX10_differs_31 : decode cX10_differs 31 = .ok (.bipush 8, 2) := by decide +kernel
theorem dX10_differs_33 : decode cX10_differs 33 = .ok (.iload_n 2, 1) := by decide +kernel
theorem dX10_differs_34 : decode cX10_differs 34 = .ok (.iadd, 1) := by decide +kernel
theorem dX10_differs_35 : decode cX10_differs 35 = .ok (.iaload, 1) := by decide +kernel
theorem dX10_differs_36 : decode cX10_differs 36 = .ok (.if_icmp .eq 6, 3) := by decide +kernel
theorem dX10_differs_39 : decode cX10_differs 39 = .ok (.iinc 1 1, 3) := by decide +kernel
theorem dX10_differs_42 : decode cX10_differs 42 = .ok (.iinc 2 1, 3) := by decide +kernel
theorem dX10_differs_45 : decode cX10_differs 45 = .ok (.goto (-30), 3) := by decide +kernel
theorem dX10_differs_48 : decode cX10_differs 48 = .ok (.iload_n 1, 1) := by decide +kernel
theorem dX10_differs_49 : decode cX10_differs 49 = .ok (.ireturn, 1) := by decide +kernel
theorem dX10_isSo_0 : decode cX10_isSo 0 = .ok (.sipush 178, 3) := by decide +kernel
theorem dX10_isSo_3 : decode cX10_isSo 3 = .ok (.iconst 4, 1) := by decide +kernel
theorem dX10_isSo_4 : decode cX10_isSo 4 = .ok (.iload_n 1, 1) := by decide +kernel
theorem dX10_isSo_5 : decode cX10_isSo 5 = .ok (.imul, 1) := by decide +kernel
theorem dX10_isSo_6 : decode cX10_isSo 6 = .ok (.iadd, 1) := by decide +kernel
theorem dX10_isSo_7 : decode cX10_isSo 7 = .ok (.istore_n 2, 1) := by decide +kernel
theorem dX10_isSo_8 : decode cX10_isSo 8 = .ok (.aload_n 0, 1) := by decide +kernel
theorem dX10_isSo_9 : decode cX10_isSo 9 = .ok (.getfield 23, 3) := by decide +kernel
theorem dX10_isSo_12 : decode cX10_isSo 12 = .ok (.aload_n 0, 1) := by decide +kernel
theorem dX10_isSo_13 : decode cX10_isSo 13 = .ok (.getfield 13, 3) := by decide +kernel
theorem dX10_isSo_16 : decode cX10_isSo 16 = .ok (.iload_n 2, 1) := by decide +kernel
theorem dX10_isSo_17 : decode cX10_isSo 17 = .ok (.iconst 1, 1) := by decide +kernel
theorem dX10_isSo_18 : decode cX10_isSo 18 = .ok (.iadd, 1) := by decide +kernel
theorem dX10_isSo_19 : decode cX10_isSo 19 = .ok (.iaload, 1) := by decide +kernel
theorem dX10_isSo_20 : decode cX10_isSo 20 = .ok (.aload_n 0, 1) := by decide +kernel
theorem dX10_isSo_21 : decode cX10_isSo 21 = .ok (.getfield 13, 3) := by decide +kernel
theorem dX10_isSo_24 : decode cX10_isSo 24 = .ok (.iload_n 2, 1) := by decide +kernel
theorem dX10_isSo_25 : decode cX10_isSo 25 = .ok (.iconst 2, 1) := by decide +kernel
theorem dX10_isSo_26 : decode cX10_isSo 26 = .ok (.iadd, 1) := by decide +kernel
theorem dX10_isSo_27 : decode cX10_isSo 27 = .ok (.iaload, 1) := by decide +kernel
theorem dX10_isSo_28 : decode cX10_isSo 28 = .ok (.invokestatic 101, 3) := by decide +kernel
theorem dX10_isSo_31 : decode cX10_isSo 31 = .ok (.iaload, 1) := by decide +kernel
theorem dX10_isSo_32 : decode cX10_isSo 32 = .ok (.aload_n 0, 1) := by decide +kernel
theorem dX10_isSo_33 : decode cX10_isSo 33 = .ok (.getfield 13, 3) := by decide +kernel
theorem dX10_isSo_36 : decode cX10_isSo 36 = .ok (.iload_n 2, 1) := by decide +kernel
theorem dX10_isSo_37 : decode cX10_isSo 37 = .ok (.iconst 3, 1) := by decide +kernel
theorem dX10_isSo_38 : decode cX10_isSo 38 = .ok (.iadd, 1) := by decide +kernel
theorem dX10_isSo_39 : decode cX10_isSo 39 = .ok (.iaload, 1) := by decide +kernel
theorem dX10_isSo_40 : decode cX10_isSo 40 = .ok (.if_icmp .ne 7, 3) := by decide +kernel
theorem dX10_isSo_43 : decode cX10_isSo 43 = .ok (.iconst 1, 1) := by decide +kernel
theorem dX10_isSo_44 : decode cX10_isSo 44 = .ok (.goto 4, 3) := by decide +kernel
theorem dX10_isSo_47 : decode cX10_isSo 47 = .ok (.iconst 0, 1) := by decide +kernel
theorem dX10_isSo_48 : decode cX10_isSo 48 = .ok (.ireturn, 1) := by decide +kernel
theorem dX10_isRight_0 : decode cX10_isRight 0 = .ok (.aload_n 0, 1) := by decide +kernel
theorem dX10_isRight_1 : decode cX10_isRight 1 = .ok (.aload_n 0, 1) := by decide +kernel
theorem dX10_isRight_2 : decode cX10_isRight 2 = .ok (.getfield 13, 3) := by decide +kernel
theorem dX10_isRight_5 : decode cX10_isRight 5 = .ok (.sipush 178, 3) := by decide +kernel
theorem dX10_isRight_8 : decode cX10_isRight 8 = .ok (.iconst 4, 1) := by decide +kernel
theorem dX10_isRight_9 : decode cX10_isRight 9 = .ok (.iload_n 1, 1) := by decide +kernel
theorem dX10_isRight_10 : decode cX10_isRight 10 = .ok (.imul, 1) := by decide +kernel
theorem dX10_isRight_11 : decode cX10_isRight 11 = .ok (.iadd, 1) := by decide +kernel
theorem dX10_isRight_12 : decode cX10_isRight 12 = .ok (.iaload, 1) := by decide +kernel
theorem dX10_isRight_13 : decode cX10_isRight 13 = .ok (.invokevirtual 253, 3) := by decide +kernel
theorem dX10_isRight_16 : decode cX10_isRight 16 = .ok (.aload_n 0, 1) := by decide +kernel
theorem dX10_isRight_17 : decode cX10_isRight 17 = .ok (.iload_n 1, 1) := by decide +kernel
theorem dX10_isRight_18 : decode cX10_isRight 18 = .ok (.invokevirtual 257, 3) := by decide +kernel
theorem dX10_isRight_21 : decode cX10_isRight 21 = .ok (.ireturn, 1) := by decide +kernel
theorem dX10_seen_0 : decode cX10_seen 0 = .ok (.iload_n 1, 1) := by decide +kernel
theorem dX10_seen_1 : decode cX10_seen 1 = .ok (.i2l, 1) := by decide +kernel
theorem dX10_seen_2 : decode cX10_seen 2 = .ok (.lconst 0, 1) := by decide +kernel
theorem dX10_seen_3 : decode cX10_seen 3 = .ok (.aload_n 0, 1) := by decide +kernel
theorem dX10_seen_4 : decode cX10_seen 4 = .ok (.getfield 13, 3) := by decide +kernel
theorem dX10_seen_7 : decode cX10_seen 7 = .ok (.sipush 177, 3) := by decide +kernel
theorem dX10_seen_10 : decode cX10_seen 10 = .ok (.iaload, 1) := by decide +kernel
theorem dX10_seen_11 : decode cX10_seen 11 = .ok (.iconst 1, 1) := by decide +kernel
theorem dX10_seen_12 : decode cX10_seen 12 = .ok (.isub, 1) := by decide +kernel
theorem dX10_seen_13 : decode cX10_seen 13 = .ok (.i2l, 1) := by decide +kernel
theorem dX10_seen_14 : decode cX10_seen 14 = .ok (.invokestatic 86, 3) := by decide +kernel
theorem dX10_seen_17 : decode cX10_seen 17 = .ok (.ifCond .eq 15, 3) := by decide +kernel
theorem dX10_seen_20 : decode cX10_seen 20 = .ok (.iload_n 2, 1) := by decide +kernel
theorem dX10_seen_21 : decode cX10_seen 21 = .ok (.i2l, 1) := by decide +kernel
theorem dX10_seen_22 : decode cX10_seen 22 = .ok (.lconst 0, 1) := by decide +kernel
theorem dX10_seen_23 : decode cX10_seen 23 = .ok (.ldc2_w 130, 3) := by decide +kernel
theorem dX10_seen_26 : decode cX10_seen 26 = .ok (.invokestatic 86, 3) := by decide +kernel
theorem dX10_seen_29 : decode cX10_seen 29 = .ok (.ifCond .ne 5, 3) := by decide +kernel
theorem dX10_seen_32 : decode cX10_seen 32 = .ok (.iconst (-1), 1) := by decide +kernel
theorem dX10_seen_33 : decode cX10_seen 33 = .ok (.ireturn, 1) := by decide +kernel
theorem dX10_seen_34 : decode cX10_seen 34 = .ok (.iload_n 2, 1) := by decide +kernel
theorem dX10_seen_35 : decode cX10_seen 35 = .ok (.iconst 4, 1) := by decide +kernel
theorem dX10_seen_36 : decode cX10_seen 36 = .ok (.if_icmp .ge 20, 3) := by decide +kernel
theorem dX10_seen_39 : decode cX10_seen 39 = .ok (.aload_n 0, 1) := by decide +kernel
theorem dX10_seen_40 : decode cX10_seen 40 = .ok (.getfield 13, 3) := by decide +kernel
theorem dX10_seen_43 : decode cX10_seen 43 = .ok (.sipush 178, 3) := by decide +kernel
theorem dX10_seen_46 : decode cX10_seen 46 = .ok (.iconst 4, 1) := by decide +kernel
theorem dX10_seen_47 : decode cX10_seen 47 = .ok (.iload_n 1, 1) := by decide +kernel
theorem dX10_seen_48 : decode cX10_seen 48 = .ok (.imul, 1) := by decide +kernel
theorem dX10_seen_49 : decode cX10_seen 49 = .ok (.iadd, 1) := by decide +kernel
theorem dX10_seen_50 : decode cX10_seen 50 = .ok (.iload_n 2, 1) := by decide +kernel
theorem dX10_seen_51 : decode cX10_seen 51 = .ok (.iadd, 1) := by decide +kernel
theorem dX10_seen_52 : decode cX10_seen 52 = .ok (.iaload, 1) := by decide +kernel
theorem dX10_seen_53 : decode cX10_seen 53 = .ok (.goto 16, 3) := by decide +kernel
theorem dX10_seen_56 : decode cX10_seen 56 = .ok (.aload_n 0, 1) := by decide +kernel
theorem dX10_seen_57 : decode cX10_seen 57 = .ok (.iload_n 1, 1) := by decide +kernel
theorem dX10_seen_58 : decode cX10_seen 58 = .ok (.invokevirtual 216, 3) := by decide +kernel
theorem dX10_seen_61 : decode cX10_seen 61 = .ok (.ifCond .eq 7, 3) := by decide +kernel
theorem dX10_seen_64 : decode cX10_seen 64 = .ok (.iconst 1, 1) := by decide +kernel
theorem dX10_seen_65 : decode cX10_seen 65 = .ok (.goto 4, 3) := by decide +kernel
theorem dX10_seen_68 : decode cX10_seen 68 = .ok (.iconst 0, 1) := by decide +kernel
theorem dX10_seen_69 : decode cX10_seen 69 = .ok (.ireturn, 1) := by decide +kernel
theorem dX10_wrong_0 : decode cX10_wrong 0 = .ok (.iconst 0, 1) := by decide +kernel
theorem dX10_wrong_1 : decode cX10_wrong 1 = .ok (.istore_n 1, 1) := by decide +kernel
theorem dX10_wrong_2 : decode cX10_wrong 2 = .ok (.iload_n 1, 1) := by decide +kernel
theorem dX10_wrong_3 : decode cX10_wrong 3 = .ok (.aload_n 0, 1) := by decide +kernel
theorem dX10_wrong_4 : decode cX10_wrong 4 = .ok (.getfield 13, 3) := by decide +kernel
theorem dX10_wrong_7 : decode cX10_wrong 7 = .ok (.sipush 177, 3) := by decide +kernel
theorem dX10_wrong_10 : decode cX10_wrong 10 = .ok (.iaload, 1) := by decide +kernel
theorem dX10_wrong_11 : decode cX10_wrong 11 = .ok (.if_icmp .ge 19, 3) := by decide +kernel
theorem dX10_wrong_14 : decode cX10_wrong 14 = .ok (.aload_n 0, 1) := by decide +kernel
theorem dX10_wrong_15 : decode cX10_wrong 15 = .ok (.iload_n 1, 1) := by decide +kernel
theorem dX10_wrong_16 : decode cX10_wrong 16 = .ok (.invokevirtual 216, 3) := by decide +kernel
theorem dX10_wrong_19 : decode cX10_wrong 19 = .ok (.ifCond .ne 5, 3) := by decide +kernel
theorem dX10_wrong_22 : decode cX10_wrong 22 = .ok (.iload_n 1, 1) := by decide +kernel
theorem dX10_wrong_23 : decode cX10_wrong 23 = .ok (.ireturn, 1) := by decide +kernel
theorem dX10_wrong_24 : decode cX10_wrong 24 = .ok (.iinc 1 1, 3) := by decide +kernel
theorem dX10_wrong_27 : decode cX10_wrong 27 = .ok (.goto (-25), 3) := by decide +kernel
theorem dX10_wrong_30 : decode cX10_wrong 30 = .ok (.bipush (-2), 2) := by decide +kernel
theorem dX10_wrong_32 : decode cX10_wrong 32 = .ok (.ireturn, 1) := by decide +kernel
theorem dX10_areSo_0 : decode cX10_areSo 0 = .ok (.iconst 0, 1) := by decide +kernel
theorem dX10_areSo_1 : decode cX10_areSo 1 = .ok (.istore_n 2, 1) := by decide +kernel
theorem dX10_areSo_2 : decode cX10_areSo 2 = .ok (.iload_n 2, 1) := by decide +kernel
theorem dX10_areSo_3 : decode cX10_areSo 3 = .ok (.aload_n 0, 1) := by decide +kernel
theorem dX10_areSo_4 : decode cX10_areSo 4 = .ok (.getfield 13, 3) := by decide +kernel
theorem dX10_areSo_7 : decode cX10_areSo 7 = .ok (.sipush 177, 3) := by decide +kernel
theorem dX10_areSo_10 : decode cX10_areSo 10 = .ok (.iaload, 1) := by decide +kernel
theorem dX10_areSo_11 : decode cX10_areSo 11 = .ok (.if_icmp .ge 35, 3) := by decide +kernel
theorem dX10_areSo_14 : decode cX10_areSo 14 = .ok (.aload_n 0, 1) := by decide +kernel
theorem dX10_areSo_15 : decode cX10_areSo 15 = .ok (.getfield 13, 3) := by decide +kernel
theorem dX10_areSo_18 : decode cX10_areSo 18 = .ok (.sipush 178, 3) := by decide +kernel
theorem dX10_areSo_21 : decode cX10_areSo 21 = .ok (.iconst 4, 1) := by decide +kernel
theorem dX10_areSo_22 : decode cX10_areSo 22 = .ok (.iload_n 2, 1) := by decide +kernel
theorem dX10_areSo_23 : decode cX10_areSo 23 = .ok (.imul, 1) := by decide +kernel
theorem dX10_areSo_24 : decode cX10_areSo 24 = .ok (.iadd, 1) := by decide +kernel
theorem dX10_areSo_25 : decode cX10_areSo 25 = .ok (.iaload, 1) := by decide +kernel
theorem dX10_areSo_26 : decode cX10_areSo 26 = .ok (.iload_n 1, 1) := by decide +kernel
theorem dX10_areSo_27 : decode cX10_areSo 27 = .ok (.if_icmp .ne 13, 3) := by decide +kernel
theorem dX10_areSo_30 : decode cX10_areSo 30 = .ok (.aload_n 0, 1) := by decide +kernel
theorem dX10_areSo_31 : decode cX10_areSo 31 = .ok (.iload_n 2, 1) := by decide +kernel
theorem dX10_areSo_32 : decode cX10_areSo 32 = .ok (.invokevirtual 257, 3) := by decide +kernel
theorem dX10_areSo_35 : decode cX10_areSo 35 = .ok (.ifCond .ne 5, 3) := by decide +kernel
theorem dX10_areSo_38 : decode cX10_areSo 38 = .ok (.iconst 0, 1) := by decide +kernel
theorem dX10_areSo_39 : decode cX10_areSo 39 = .ok (.ireturn, 1) := by decide +kernel
theorem dX10_areSo_40 : decode cX10_areSo 40 = .ok (.iinc 2 1, 3) := by decide +kernel
theorem dX10_areSo_43 : decode cX10_areSo 43 = .ok (.goto (-41), 3) := by decide +kernel
theorem dX10_areSo_46 : decode cX10_areSo 46 = .ok (.iconst 1, 1) := by decide +kernel
theorem dX10_areSo_47 : decode cX10_areSo 47 = .ok (.ireturn, 1) := by decide +kernel
theorem dX10_explains_0 : decode cX10_explains 0 = .ok (.aload_n 0, 1) := by decide +kernel
theorem dX10_explains_1 : decode cX10_explains 1 = .ok (.iconst 0, 1) := by decide +kernel
theorem dX10_explains_2 : decode cX10_explains 2 = .ok (.invokevirtual 253, 3) := by decide +kernel
theorem dX10_explains_5 : decode cX10_explains 5 = .ok (.iconst 0, 1) := by decide +kernel
theorem dX10_explains_6 : decode cX10_explains 6 = .ok (.istore 5, 2) := by decide +kernel
theorem dX10_explains_8 : decode cX10_explains 8 = .ok (.iload 5, 2) := by decide +kernel
theorem dX10_explains_10 : decode cX10_explains 10 = .ok (.aload_n 0, 1) := by decide +kernel
theorem dX10_explains_11 : decode cX10_explains 11 = .ok (.getfield 13, 3) := by decide +kernel
theorem dX10_explains_14 : decode cX10_explains 14 = .ok (.bipush 56, 2) := by decide +kernel
theorem dX10_explains_16 : decode cX10_explains 16 = .ok (.iaload, 1) := by decide +kernel
theorem dX10_explains_17 : decode cX10_explains 17 = .ok (.if_icmp .gt 114, 3) := by decide +kernel
theorem dX10_explains_20 : decode cX10_explains 20 = .ok (.iload 5, 2) := by decide +kernel
theorem dX10_explains_22 : decode cX10_explains 22 = .ok (.iload_n 1, 1) := by decide +kernel
theorem dX10_explains_23 : decode cX10_explains 23 = .ok (.if_icmp .ne 57, 3) := by decide +kernel
theorem dX10_explains_26 : decode cX10_explains 26 = .ok (.aload_n 0, 1) := by decide +kernel
theorem dX10_explains_27 : decode cX10_explains 27 = .ok (.iload_n 2, 1) := by decide +kernel
theorem dX10_explains_28 : decode cX10_explains 28 = .ok (.iload_n 3, 1) := by decide +kernel
theorem dX10_explains_29 : decode cX10_explains 29 = .ok (.iload 4, 2) := by decide +kernel
theorem dX10_explains_31 : decode cX10_explains 31 = .ok (.invokevirtual 178, 3) := by decide +kernel
theorem dX10_explains_34 : decode cX10_explains 34 = .ok (.ifCond .ne 5, 3) := by decide +kernel
theorem dX10_explains_37 : decode cX10_explains 37 = .ok (.iconst 0, 1) := by decide +kernel
theorem dX10_explains_38 : decode cX10_explains 38 = .ok (.ireturn, 1) := by decide +kernel
theorem dX10_explains_39 : decode cX10_explains 39 = .ok (.aload_n 0, 1) := by decide +kernel
theorem dX10_explains_40 : decode cX10_explains 40 = .ok (.getfield 23, 3) := by decide +kernel
theorem dX10_explains_43 : decode cX10_explains 43 = .ok (.iload_n 2, 1) := by decide +kernel
theorem dX10_explains_44 : decode cX10_explains 44 = .ok (.iload_n 3, 1) := by decide +kernel
theorem dX10_explains_45 : decode cX10_explains 45 = .ok (.invokestatic 101, 3) := by decide +kernel
theorem dX10_explains_48 : decode cX10_explains 48 = .ok (.dup2, 1) := by decide +kernel
theorem dX10_explains_49 : decode cX10_explains 49 = .ok (.iaload, 1) := by decide +kernel
theorem dX10_explains_50 : decode cX10_explains 50 = .ok (.iconst 1, 1) := by decide +kernel
theorem dX10_explains_51 : decode cX10_explains 51 = .ok (.isub, 1) := by decide +kernel
theorem dX10_explains_52 : decode cX10_explains 52 = .ok (.iastore, 1) := by decide +kernel
theorem dX10_explains_53 : decode cX10_explains 53 = .ok (.aload_n 0, 1) := by decide +kernel
theorem dX10_explains_54 : decode cX10_explains 54 = .ok (.getfield 23, 3) := by decide +kernel
theorem dX10_explains_57 : decode cX10_explains 57 = .ok (.iload_n 2, 1) := by decide +kernel
theorem dX10_explains_58 : decode cX10_explains 58 = .ok (.iload 4, 2) := by decide +kernel
theorem dX10_explains_60 : decode cX10_explains 60 = .ok (.ifCond .eq 9, 3) := by decide +kernel
theorem dX10_explains_63 : decode cX10_explains 63 = .ok (.iload_n 3, 1) := by decide +kernel
theorem dX10_explains_64 : decode cX10_explains 64 = .ok (.iconst 1, 1) := by decide +kernel
theorem dX10_explains_65 : decode cX10_explains 65 = .ok (.iadd, 1) := by decide +kernel
theorem dX10_explains_66 : decode cX10_explains 66 = .ok (.goto 6, 3) := by decide +kernel
theorem dX10_explains_69 : decode cX10_explains 69 = .ok (.iload_n 3, 1) := by decide +kernel
theorem dX10_explains_70 : decode cX10_explains 70 = .ok (.iconst 1, 1) := by decide +kernel
theorem dX10_explains_71 : decode cX10_explains 71 = .ok (.isub, 1) := by decide +kernel
theorem dX10_explains_72 : decode cX10_explains 72 = .ok (.invokestatic 101, 3) := by decide +kernel
theorem dX10_explains_75 : decode cX10_explains 75 = .ok (.dup2, 1) := by decide +kernel
theorem dX10_explains_76 : decode cX10_explains 76 = .ok (.iaload, 1) := by decide +kernel
theorem dX10_explains_77 : decode cX10_explains 77 = .ok (.iconst 1, 1) := by decide +kernel
theorem dX10_explains_78 : decode cX10_explains 78 = .ok (.iadd, 1) := by decide +kernel
theorem dX10_explains_79 : decode cX10_explains 79 = .ok (.iastore, 1) := by decide +kernel
theorem dX10_explains_80 : decode cX10_explains 80 = .ok (.aload_n 0, 1) := by decide +kernel
theorem dX10_explains_81 : decode cX10_explains 81 = .ok (.iload 5, 2) := by decide +kernel
theorem dX10_explains_83 : decode cX10_explains 83 = .ok (.invokevirtual 260, 3) := by decide +kernel
theorem dX10_explains_86 : decode cX10_explains 86 = .ok (.ifCond .ne 5, 3) := by decide +kernel
theorem dX10_explains_89 : decode cX10_explains 89 = .ok (.iconst 0, 1) := by decide +kernel
theorem dX10_explains_90 : decode cX10_explains 90 = .ok (.ireturn, 1) := by decide +kernel
theorem dX10_explains_91 : decode cX10_explains 91 = .ok (.iload 5, 2) := by decide +kernel
theorem dX10_explains_93 : decode cX10_explains 93 = .ok (.aload_n 0, 1) := by decide +kernel
theorem dX10_explains_94 : decode cX10_explains 94 = .ok (.getfield 13, 3) := by decide +kernel
theorem dX10_explains_97 : decode cX10_explains 97 = .ok (.bipush 56, 2) := by decide +kernel
theorem dX10_explains_99 : decode cX10_explains 99 = .ok (.iaload, 1) := by decide +kernel
theorem dX10_explains_100 : decode cX10_explains 100 = .ok (.if_icmp .ne 5, 3) := by decide +kernel
theorem dX10_explains_103 : decode cX10_explains 103 = .ok (.iconst 1, 1) := by decide +kernel
theorem dX10_explains_104 : decode cX10_explains 104 = .ok (.ireturn, 1) := by decide +kernel
theorem dX10_explains_105 : decode cX10_explains 105 = .ok (.aload_n 0, 1) := by decide +kernel
theorem dX10_explains_106 : decode cX10_explains 106 = .ok (.iload 5, 2) := by decide +kernel
theorem dX10_explains_108 : decode cX10_explains 108 = .ok (.invokevirtual 172, 3) := by decide +kernel
theorem dX10_explains_111 : decode cX10_explains 111 = .ok (.aload_n 0, 1) := by decide +kernel
theorem dX10_explains_112 : decode cX10_explains 112 = .ok (.invokevirtual 154, 3) := by decide +kernel
theorem dX10_explains_115 : decode cX10_explains 115 = .ok (.ifCond .ne 5, 3) := by decide +kernel
theorem dX10_explains_118 : decode cX10_explains 118 = .ok (.iconst 0, 1) := by decide +kernel
theorem dX10_explains_119 : decode cX10_explains 119 = .ok (.ireturn, 1) := by decide +kernel
theorem dX10_explains_120 : decode cX10_explains 120 = .ok (.aload_n 0, 1) := by decide +kernel
theorem dX10_explains_121 : decode cX10_explains 121 = .ok (.iconst 1, 1) := by decide +kernel
theorem dX10_explains_122 : decode cX10_explains 122 = .ok (.invokevirtual 161, 3) := by decide +kernel
theorem dX10_explains_125 : decode cX10_explains 125 = .ok (.iinc 5 1, 3) := by decide +kernel
theorem dX10_explains_128 : decode cX10_explains 128 = .ok (.goto (-120), 3) := by decide +kernel
theorem dX10_explains_131 : decode cX10_explains 131 = .ok (.iconst 0, 1) := by decide +kernel
theorem dX10_explains_132 : decode cX10_explains 132 = .ok (.ireturn, 1) := by decide +kernel
theorem dX10_laysSlides_0 : decode cX10_laysSlides 0 = .ok (.aload_n 0, 1) := by decide +kernel
theorem dX10_laysSlides_1 : decode cX10_laysSlides 1 = .ok (.iconst 0, 1) := by decide +kernel
theorem dX10_laysSlides_2 : decode cX10_laysSlides 2 = .ok (.putfield 263, 3) := by decide +kernel
theorem dX10_laysSlides_5 : decode cX10_laysSlides 5 = .ok (.iconst 0, 1) := by decide +kernel
theorem dX10_laysSlides_6 : decode cX10_laysSlides 6 = .ok (.istore_n 1, 1) := by decide +kernel
theorem dX10_laysSlides_7 : decode cX10_laysSlides 7 = .ok (.iload_n 1, 1) := by decide +kernel
theorem dX10_laysSlides_8 : decode cX10_laysSlides 8 = .ok (.aload_n 0, 1) := by decide +kernel
theorem dX10_laysSlides_9 : decode cX10_laysSlides 9 = .ok (.getfield 13, 3) := by decide +kernel
theorem dX10_laysSlides_12 : decode cX10_laysSlides 12 = .ok (.bipush 56, 2) := by decide +kernel
theorem dX10_laysSlides_14 : decode cX10_laysSlides 14 = .ok (.iaload, 1) := by decide +kernel
theorem dX10_laysSlides_15 : decode cX10_laysSlides 15 = .ok (.if_icmp .gt 144, 3) := by decide +kernel
theorem dX10_laysSlides_18 : decode cX10_laysSlides 18 = .ok (.iconst 0, 1) := by decide +kernel
theorem dX10_laysSlides_19 : decode cX10_laysSlides 19 = .ok (.istore_n 2, 1) := by decide +kernel
theorem dX10_laysSlides_20 : decode cX10_laysSlides 20 = .ok (.iload_n 2, 1) := by decide +kernel
theorem dX10_laysSlides_21 : decode cX10_laysSlides 21 = .ok (.aload_n 0, 1) := by decide +kernel
theorem dX10_laysSlides_22 : decode cX10_laysSlides 22 = .ok (.getfield 13, 3) := by decide +kernel
theorem dX10_laysSlides_25 : decode cX10_laysSlides 25 = .ok (.iconst 1, 1) := by decide +kernel
theorem dX10_laysSlides_26 : decode cX10_laysSlides 26 = .ok (.iaload, 1) := by decide +kernel
theorem dX10_laysSlides_27 : decode cX10_laysSlides 27 = .ok (.if_icmp .ge 126, 3) := by decide +kernel
theorem dX10_laysSlides_30 : decode cX10_laysSlides 30 = .ok (.iconst 0, 1) := by decide +kernel
theorem dX10_laysSlides_31 : decode cX10_laysSlides 31 = .ok (.istore_n 3, 1) := by decide +kernel
theorem dX10_laysSlides_32 : decode cX10_laysSlides 32 = .ok (.iload_n 3, 1) := by decide +kernel
theorem dX10_laysSlides_33 : decode cX10_laysSlides 33 = .ok (.aload_n 0, 1) := by decide +kernel
theorem dX10_laysSlides_34 : decode cX10_laysSlides 34 = .ok (.getfield 13, 3) := by decide +kernel
theorem dX10_laysSlides_37 : decode cX10_laysSlides 37 = .ok (.iconst 0, 1) := by decide +kernel
theorem dX10_laysSlides_38 : decode cX10_laysSlides 38 = .ok (.iaload, 1) := by decide +kernel
theorem dX10_laysSlides_39 : decode cX10_laysSlides 39 = .ok (.if_icmp .ge 108, 3) := by decide +kernel
theorem dX10_laysSlides_42 : decode cX10_laysSlides 42 = .ok (.iconst 0, 1) := by decide +kernel
theorem dX10_laysSlides_43 : decode cX10_laysSlides 43 = .ok (.istore 4, 2) := by decide +kernel
theorem dX10_laysSlides_45 : decode cX10_laysSlides 45 = .ok (.iload 4, 2) := by decide +kernel
theorem dX10_laysSlides_47 : decode cX10_laysSlides 47 = .ok (.iconst 2, 1) := by decide +kernel
theorem dX10_laysSlides_48 : decode cX10_laysSlides 48 = .ok (.if_icmp .ge 93, 3) := by decide +kernel
theorem dX10_laysSlides_51 : decode cX10_laysSlides 51 = .ok (.aload_n 0, 1) := by decide +kernel
theorem dX10_laysSlides_52 : decode cX10_laysSlides 52 = .ok (.iload_n 1, 1) := by decide +kernel
theorem dX10_laysSlides_53 : decode cX10_laysSlides 53 = .ok (.iload_n 2, 1) := by decide +kernel
theorem dX10_laysSlides_54 : decode cX10_laysSlides 54 = .ok (.iload_n 3, 1) := by decide +kernel
theorem dX10_laysSlides_55 : decode cX10_laysSlides 55 = .ok (.iload 4, 2) := by decide +kernel
theorem dX10_laysSlides_57 : decode cX10_laysSlides 57 = .ok (.iconst 1, 1) := by decide +kernel
theorem dX10_laysSlides_58 : decode cX10_laysSlides 58 = .ok (.if_icmp .ne 7, 3) := by decide +kernel
theorem dX10_laysSlides_61 : decode cX10_laysSlides 61 = .ok (.iconst 1, 1) := by decide +kernel
theorem dX10_laysSlides_62 : decode cX10_laysSlides 62 = .ok (.goto 4, 3) := by decide +kernel
theorem dX10_laysSlides_65 : decode cX10_laysSlides 65 = .ok (.iconst 0, 1) := by decide +kernel
theorem dX10_laysSlides_66 : decode cX10_laysSlides 66 = .ok (.invokevirtual 266, 3) := by decide +kernel
theorem dX10_laysSlides_69 : decode cX10_laysSlides 69 = .ok (.ifCond .ne 6, 3) := by decide +kernel
theorem dX10_laysSlides_72 : decode cX10_laysSlides 72 = .ok (.goto 63, 3) := by decide +kernel
theorem dX10_laysSlides_75 : decode cX10_laysSlides 75 = .ok (.aload_n 0, 1) := by decide +kernel
theorem dX10_laysSlides_76 : decode cX10_laysSlides 76 = .ok (.getfield 57, 3) := by decide +kernel
theorem dX10_laysSlides_79 : decode cX10_laysSlides 79 = .ok (.aload_n 0, 1) := by decide +kernel
theorem dX10_laysSlides_80 : decode cX10_laysSlides 80 = .ok (.getfield 263, 3) := by decide +kernel
theorem dX10_laysSlides_83 : decode cX10_laysSlides 83 = .ok (.iload_n 1, 1) := by decide +kernel
theorem dX10_laysSlides_84 : decode cX10_laysSlides 84 = .ok (.iastore, 1) := by decide +kernel
theorem dX10_laysSlides_85 : decode cX10_laysSlides 85 = .ok (.aload_n 0, 1) := by decide +kernel
theorem dX10_laysSlides_86 : decode cX10_laysSlides 86 = .ok (.getfield 60, 3) := by decide +kernel
theorem dX10_laysSlides_89 : decode cX10_laysSlides 89 = .ok (.aload_n 0, 1) := by decide +kernel
theorem dX10_laysSlides_90 : decode cX10_laysSlides 90 = .ok (.getfield 263, 3) := by decide +kernel
theorem dX10_laysSlides_93 : decode cX10_laysSlides 93 = .ok (.iload_n 2, 1) := by decide +kernel
theorem dX10_laysSlides_94 : decode cX10_laysSlides 94 = .ok (.iastore, 1) := by decide +kernel
theorem dX10_laysSlides_95 : decode cX10_laysSlides 95 = .ok (.aload_n 0, 1) := by decide +kernel
theorem dX10_laysSlides_96 : decode cX10_laysSlides 96 = .ok (.getfield 63, 3) := by decide +kernel
theorem dX10_laysSlides_99 : decode cX10_laysSlides 99 = .ok (.aload_n 0, 1) := by decide +kernel
theorem dX10_laysSlides_100 : decode cX10_laysSlides 100 = .ok (.getfield 263, 3) := by decide +kernel
theorem dX10_laysSlides_103 : decode cX10_laysSlides 103 = .ok (.iload_n 3, 1) := by decide +kernel
theorem dX10_laysSlides_104 : decode cX10_laysSlides 104 = .ok (.iastore, 1) := by decide +kernel
theorem dX10_laysSlides_105 : decode cX10_laysSlides 105 = .ok (.aload_n 0, 1) := by decide +kernel
theorem dX10_laysSlides_106 : decode cX10_laysSlides 106 = .ok (.getfield 66, 3) := by decide +kernel
theorem dX10_laysSlides_109 : decode cX10_laysSlides 109 = .ok (.aload_n 0, 1) := by decide +kernel
theorem dX10_laysSlides_110 : decode cX10_laysSlides 110 = .ok (.getfield 263, 3) := by decide +kernel
theorem dX10_laysSlides_113 : decode cX10_laysSlides 113 = .ok (.iload 4, 2) := by decide +kernel
theorem dX10_laysSlides_115 : decode cX10_laysSlides 115 = .ok (.iconst 1, 1) := by decide +kernel
theorem dX10_laysSlides_116 : decode cX10_laysSlides 116 = .ok (.if_icmp .ne 7, 3) := by decide +kernel
theorem dX10_laysSlides_119 : decode cX10_laysSlides 119 = .ok (.iconst 1, 1) := by decide +kernel
theorem dX10_laysSlides_120 : decode cX10_laysSlides 120 = .ok (.goto 4, 3) := by decide +kernel
theorem dX10_laysSlides_123 : decode cX10_laysSlides 123 = .ok (.iconst 0, 1) := by decide +kernel
theorem dX10_laysSlides_124 : decode cX10_laysSlides 124 = .ok (.bastore, 1) := by decide +kernel
theorem dX10_laysSlides_125 : decode cX10_laysSlides 125 = .ok (.aload_n 0, 1) := by decide +kernel
theorem dX10_laysSlides_126 : decode cX10_laysSlides 126 = .ok (.dup, 1) := by decide +kernel
theorem dX10_laysSlides_127 : decode cX10_laysSlides 127 = .ok (.getfield 263, 3) := by decide +kernel
theorem dX10_laysSlides_130 : decode cX10_laysSlides 130 = .ok (.iconst 1, 1) := by decide +kernel
theorem dX10_laysSlides_131 : decode cX10_laysSlides 131 = .ok (.iadd, 1) := by decide +kernel
theorem dX10_laysSlides_132 : decode cX10_laysSlides 132 = .ok (.putfield 263, 3) := by decide +kernel
theorem dX10_laysSlides_135 : decode cX10_laysSlides 135 = .ok (.iinc 4 1, 3) := by decide +kernel
theorem dX10_laysSlides_138 : decode cX10_laysSlides 138 = .ok (.goto (-93), 3) := by decide +kernel
theorem dX10_laysSlides_141 : decode cX10_laysSlides 141 = .ok (.iinc 3 1, 3) := by decide +kernel
theorem dX10_laysSlides_144 : decode cX10_laysSlides 144 = .ok (.goto (-112), 3) := by decide +kernel
theorem dX10_laysSlides_147 : decode cX10_laysSlides 147 = .ok (.iinc 2 1, 3) := by decide +kernel
theorem dX10_laysSlides_150 : decode cX10_laysSlides 150 = .ok (.goto (-130), 3) := by decide +kernel
theorem dX10_laysSlides_153 : decode cX10_laysSlides 153 = .ok (.iinc 1 1, 3) := by decide +kernel
theorem dX10_laysSlides_156 : decode cX10_laysSlides 156 = .ok (.goto (-149), 3) := by decide +kernel
theorem dX10_laysSlides_159 : decode cX10_laysSlides 159 = .ok (.return_, 1) := by decide +kernel
theorem dX10_slides_0 : decode cX10_slides 0 = .ok (.aload_n 0, 1) := by decide +kernel
theorem dX10_slides_1 : decode cX10_slides 1 = .ok (.invokevirtual 270, 3) := by decide +kernel
theorem dX10_slides_4 : decode cX10_slides 4 = .ok (.aload_n 0, 1) := by decide +kernel
theorem dX10_slides_5 : decode cX10_slides 5 = .ok (.getfield 263, 3) := by decide +kernel
theorem dX10_slides_8 : decode cX10_slides 8 = .ok (.ireturn, 1) := by decide +kernel
theorem dX10_slideAt_0 : decode cX10_slideAt 0 = .ok (.aload_n 0, 1) := by decide +kernel
theorem dX10_slideAt_1 : decode cX10_slideAt 1 = .ok (.invokevirtual 270, 3) := by decide +kernel
theorem dX10_slideAt_4 : decode cX10_slideAt 4 = .ok (.iload_n 1, 1) := by decide +kernel
theorem dX10_slideAt_5 : decode cX10_slideAt 5 = .ok (.i2l, 1) := by decide +kernel
theorem dX10_slideAt_6 : decode cX10_slideAt 6 = .ok (.lconst 0, 1) := by decide +kernel
theorem dX10_slideAt_7 : decode cX10_slideAt 7 = .ok (.aload_n 0, 1) := by decide +kernel
theorem dX10_slideAt_8 : decode cX10_slideAt 8 = .ok (.getfield 263, 3) := by decide +kernel
theorem dX10_slideAt_11 : decode cX10_slideAt 11 = .ok (.iconst 1, 1) := by decide +kernel
theorem dX10_slideAt_12 : decode cX10_slideAt 12 = .ok (.isub, 1) := by decide +kernel
theorem dX10_slideAt_13 : decode cX10_slideAt 13 = .ok (.i2l, 1) := by decide +kernel
theorem dX10_slideAt_14 : decode cX10_slideAt 14 = .ok (.invokestatic 86, 3) := by decide +kernel
theorem dX10_slideAt_17 : decode cX10_slideAt 17 = .ok (.ifCond .eq 15, 3) := by decide +kernel
theorem dX10_slideAt_20 : decode cX10_slideAt 20 = .ok (.iload_n 2, 1) := by decide +kernel
theorem dX10_slideAt_21 : decode cX10_slideAt 21 = .ok (.i2l, 1) := by decide +kernel
theorem dX10_slideAt_22 : decode cX10_slideAt 22 = .ok (.lconst 0, 1) := by decide +kernel
theorem dX10_slideAt_23 : decode cX10_slideAt 23 = .ok (.ldc2_w 130, 3) := by decide +kernel
theorem dX10_slideAt_26 : decode cX10_slideAt 26 = .ok (.invokestatic 86, 3) := by decide +kernel
theorem dX10_slideAt_29 : decode cX10_slideAt 29 = .ok (.ifCond .ne 6, 3) := by decide +kernel
theorem dX10_slideAt_32 : decode cX10_slideAt 32 = .ok (.bipush (-2), 2) := by decide +kernel
theorem dX10_slideAt_34 : decode cX10_slideAt 34 = .ok (.ireturn, 1) := by decide +kernel
theorem dX10_slideAt_35 : decode cX10_slideAt 35 = .ok (.iload_n 2, 1) := by decide +kernel
theorem dX10_slideAt_36 : decode cX10_slideAt 36 = .ok (.tableswitch 68 0 3 #[32, 39, 46, 53], 32) := by decide +kernel
theorem dX10_slideAt_68 : decode cX10_slideAt 68 = .ok (.aload_n 0, 1) := by decide +kernel
theorem dX10_slideAt_69 : decode cX10_slideAt 69 = .ok (.getfield 57, 3) := by decide +kernel
theorem dX10_slideAt_72 : decode cX10_slideAt 72 = .ok (.iload_n 1, 1) := by decide +kernel
theorem dX10_slideAt_73 : decode cX10_slideAt 73 = .ok (.iaload, 1) := by decide +kernel
theorem dX10_slideAt_74 : decode cX10_slideAt 74 = .ok (.ireturn, 1) := by decide +kernel
theorem dX10_slideAt_75 : decode cX10_slideAt 75 = .ok (.aload_n 0, 1) := by decide +kernel
theorem dX10_slideAt_76 : decode cX10_slideAt 76 = .ok (.getfield 60, 3) := by decide +kernel
theorem dX10_slideAt_79 : decode cX10_slideAt 79 = .ok (.iload_n 1, 1) := by decide +kernel
theorem dX10_slideAt_80 : decode cX10_slideAt 80 = .ok (.iaload, 1) := by decide +kernel
theorem dX10_slideAt_81 : decode cX10_slideAt 81 = .ok (.ireturn, 1) := by decide +kernel
theorem dX10_slideAt_82 : decode cX10_slideAt 82 = .ok (.aload_n 0, 1) := by decide +kernel
theorem dX10_slideAt_83 : decode cX10_slideAt 83 = .ok (.getfield 63, 3) := by decide +kernel
theorem dX10_slideAt_86 : decode cX10_slideAt 86 = .ok (.iload_n 1, 1) := by decide +kernel
theorem dX10_slideAt_87 : decode cX10_slideAt 87 = .ok (.iaload, 1) := by decide +kernel
theorem dX10_slideAt_88 : decode cX10_slideAt 88 = .ok (.ireturn, 1) := by decide +kernel
theorem dX10_slideAt_89 : decode cX10_slideAt 89 = .ok (.aload_n 0, 1) := by decide +kernel
theorem dX10_slideAt_90 : decode cX10_slideAt 90 = .ok (.getfield 66, 3) := by decide +kernel
theorem dX10_slideAt_93 : decode cX10_slideAt 93 = .ok (.iload_n 1, 1) := by decide +kernel
theorem dX10_slideAt_94 : decode cX10_slideAt 94 = .ok (.baload, 1) := by decide +kernel
theorem dX10_slideAt_95 : decode cX10_slideAt 95 = .ok (.ifCond .eq 7, 3) := by decide +kernel
theorem dX10_slideAt_98 : decode cX10_slideAt 98 = .ok (.iconst 1, 1) := by decide +kernel
theorem dX10_slideAt_99 : decode cX10_slideAt 99 = .ok (.goto 4, 3) := by decide +kernel
theorem dX10_slideAt_102 : decode cX10_slideAt 102 = .ok (.iconst 0, 1) := by decide +kernel
theorem dX10_slideAt_103 : decode cX10_slideAt 103 = .ok (.ireturn, 1) := by decide +kernel
theorem dX10_slideAt_104 : decode cX10_slideAt 104 = .ok (.aload_n 0, 1) := by decide +kernel
theorem dX10_slideAt_105 : decode cX10_slideAt 105 = .ok (.aload_n 0, 1) := by decide +kernel
theorem dX10_slideAt_106 : decode cX10_slideAt 106 = .ok (.getfield 63, 3) := by decide +kernel
theorem dX10_slideAt_109 : decode cX10_slideAt 109 = .ok (.iload_n 1, 1) := by decide +kernel
theorem dX10_slideAt_110 : decode cX10_slideAt 110 = .ok (.iaload, 1) := by decide +kernel
theorem dX10_slideAt_111 : decode cX10_slideAt 111 = .ok (.aload_n 0, 1) := by decide +kernel
theorem dX10_slideAt_112 : decode cX10_slideAt 112 = .ok (.getfield 66, 3) := by decide +kernel
theorem dX10_slideAt_115 : decode cX10_slideAt 115 = .ok (.iload_n 1, 1) := by decide +kernel
theorem dX10_slideAt_116 : decode cX10_slideAt 116 = .ok (.baload, 1) := by decide +kernel
theorem dX10_slideAt_117 : decode cX10_slideAt 117 = .ok (.invokevirtual 186, 3) := by decide +kernel
theorem dX10_slideAt_120 : decode cX10_slideAt 120 = .ok (.ireturn, 1) := by decide +kernel
theorem dX10_times_0 : decode cX10_times 0 = .ok (.aload_n 0, 1) := by decide +kernel
theorem dX10_times_1 : decode cX10_times 1 = .ok (.invokevirtual 270, 3) := by decide +kernel
theorem dX10_times_4 : decode cX10_times 4 = .ok (.iconst 0, 1) := by decide +kernel
theorem dX10_times_5 : decode cX10_times 5 = .ok (.istore_n 1, 1) := by decide +kernel
theorem dX10_times_6 : decode cX10_times 6 = .ok (.iconst 0, 1) := by decide +kernel
theorem dX10_times_7 : decode cX10_times 7 = .ok (.istore_n 2, 1) := by decide +kernel
theorem dX10_times_8 : decode cX10_times 8 = .ok (.iload_n 2, 1) := by decide +kernel
theorem dX10_times_9 : decode cX10_times 9 = .ok (.aload_n 0, 1) := by decide +kernel
theorem dX10_times_10 : decode cX10_times 10 = .ok (.getfield 263, 3) := by decide +kernel
theorem dX10_times_13 : decode cX10_times 13 = .ok (.if_icmp .ge 20, 3) := by decide +kernel
theorem dX10_times_16 : decode cX10_times 16 = .ok (.iload_n 1, 1) := by decide +kernel
theorem dX10_times_17 : decode cX10_times 17 = .ok (.iconst 1, 1) := by decide +kernel
theorem dX10_times_18 : decode cX10_times 18 = .ok (.aload_n 0, 1) := by decide +kernel
theorem dX10_times_19 : decode cX10_times 19 = .ok (.getfield 57, 3) := by decide +kernel
theorem dX10_times_22 : decode cX10_times 22 = .ok (.iload_n 2, 1) := by decide +kernel
theorem dX10_times_23 : decode cX10_times 23 = .ok (.iaload, 1) := by decide +kernel
theorem dX10_times_24 : decode cX10_times 24 = .ok (.ishl, 1) := by decide +kernel
theorem dX10_times_25 : decode cX10_times 25 = .ok (.ior, 1) := by decide +kernel
theorem dX10_times_26 : decode cX10_times 26 = .ok (.istore_n 1, 1) := by decide +kernel
theorem dX10_times_27 : decode cX10_times 27 = .ok (.iinc 2 1, 3) := by decide +kernel
theorem dX10_times_30 : decode cX10_times 30 = .ok (.goto (-22), 3) := by decide +kernel
theorem dX10_times_33 : decode cX10_times 33 = .ok (.iload_n 1, 1) := by decide +kernel
theorem dX10_times_34 : decode cX10_times 34 = .ok (.ireturn, 1) := by decide +kernel
theorem dX10_moreBy_0 : decode cX10_moreBy 0 = .ok (.aload_n 0, 1) := by decide +kernel
theorem dX10_moreBy_1 : decode cX10_moreBy 1 = .ok (.getfield 57, 3) := by decide +kernel
theorem dX10_moreBy_4 : decode cX10_moreBy 4 = .ok (.iload_n 1, 1) := by decide +kernel
theorem dX10_moreBy_5 : decode cX10_moreBy 5 = .ok (.iaload, 1) := by decide +kernel
theorem dX10_moreBy_6 : decode cX10_moreBy 6 = .ok (.iload_n 2, 1) := by decide +kernel
theorem dX10_moreBy_7 : decode cX10_moreBy 7 = .ok (.if_icmp .gt 13, 3) := by decide +kernel
theorem dX10_moreBy_10 : decode cX10_moreBy 10 = .ok (.aload_n 0, 1) := by decide +kernel
theorem dX10_moreBy_11 : decode cX10_moreBy 11 = .ok (.getfield 60, 3) := by decide +kernel
theorem dX10_moreBy_14 : decode cX10_moreBy 14 = .ok (.iload_n 1, 1) := by decide +kernel
theorem dX10_moreBy_15 : decode cX10_moreBy 15 = .ok (.iaload, 1) := by decide +kernel
theorem dX10_moreBy_16 : decode cX10_moreBy 16 = .ok (.iload_n 3, 1) := by decide +kernel
theorem dX10_moreBy_17 : decode cX10_moreBy 17 = .ok (.if_icmp .eq 5, 3) := by decide +kernel
theorem dX10_moreBy_20 : decode cX10_moreBy 20 = .ok (.iconst 0, 1) := by decide +kernel
theorem dX10_moreBy_21 : decode cX10_moreBy 21 = .ok (.ireturn, 1) := by decide +kernel
theorem dX10_moreBy_22 : decode cX10_moreBy 22 = .ok (.aload_n 0, 1) := by decide +kernel
theorem dX10_moreBy_23 : decode cX10_moreBy 23 = .ok (.getfield 66, 3) := by decide +kernel
theorem dX10_moreBy_26 : decode cX10_moreBy 26 = .ok (.iload_n 1, 1) := by decide +kernel
theorem dX10_moreBy_27 : decode cX10_moreBy 27 = .ok (.baload, 1) := by decide +kernel
theorem dX10_moreBy_28 : decode cX10_moreBy 28 = .ok (.ifCond .eq 14, 3) := by decide +kernel
theorem dX10_moreBy_31 : decode cX10_moreBy 31 = .ok (.aload_n 0, 1) := by decide +kernel
theorem dX10_moreBy_32 : decode cX10_moreBy 32 = .ok (.getfield 63, 3) := by decide +kernel
theorem dX10_moreBy_35 : decode cX10_moreBy 35 = .ok (.iload_n 1, 1) := by decide +kernel
theorem dX10_moreBy_36 : decode cX10_moreBy 36 = .ok (.iaload, 1) := by decide +kernel
theorem dX10_moreBy_37 : decode cX10_moreBy 37 = .ok (.iconst 1, 1) := by decide +kernel
theorem dX10_moreBy_38 : decode cX10_moreBy 38 = .ok (.iadd, 1) := by decide +kernel
theorem dX10_moreBy_39 : decode cX10_moreBy 39 = .ok (.goto 11, 3) := by decide +kernel
theorem dX10_moreBy_42 : decode cX10_moreBy 42 = .ok (.aload_n 0, 1) := by decide +kernel
theorem dX10_moreBy_43 : decode cX10_moreBy 43 = .ok (.getfield 63, 3) := by decide +kernel
theorem dX10_moreBy_46 : decode cX10_moreBy 46 = .ok (.iload_n 1, 1) := by decide +kernel
theorem dX10_moreBy_47 : decode cX10_moreBy 47 = .ok (.iaload, 1) := by decide +kernel
theorem dX10_moreBy_48 : decode cX10_moreBy 48 = .ok (.iconst 1, 1) := by decide +kernel
theorem dX10_moreBy_49 : decode cX10_moreBy 49 = .ok (.isub, 1) := by decide +kernel
theorem dX10_moreBy_50 : decode cX10_moreBy 50 = .ok (.istore 5, 2) := by decide +kernel
theorem dX10_moreBy_52 : decode cX10_moreBy 52 = .ok (.aload_n 0, 1) := by decide +kernel
theorem dX10_moreBy_53 : decode cX10_moreBy 53 = .ok (.getfield 63, 3) := by decide +kernel
theorem dX10_moreBy_56 : decode cX10_moreBy 56 = .ok (.iload_n 1, 1) := by decide +kernel
theorem dX10_moreBy_57 : decode cX10_moreBy 57 = .ok (.iaload, 1) := by decide +kernel
theorem dX10_moreBy_58 : decode cX10_moreBy 58 = .ok (.iload 4, 2) := by decide +kernel
theorem dX10_moreBy_60 : decode cX10_moreBy 60 = .ok (.if_icmp .ne 7, 3) := by decide +kernel
theorem dX10_moreBy_63 : decode cX10_moreBy 63 = .ok (.iconst (-1), 1) := by decide +kernel
theorem dX10_moreBy_64 : decode cX10_moreBy 64 = .ok (.goto 15, 3) := by decide +kernel
theorem dX10_moreBy_67 : decode cX10_moreBy 67 = .ok (.iload 5, 2) := by decide +kernel
theorem dX10_moreBy_69 : decode cX10_moreBy 69 = .ok (.iload 4, 2) := by decide +kernel
theorem dX10_moreBy_71 : decode cX10_moreBy 71 = .ok (.if_icmp .ne 7, 3) := by decide +kernel
theorem dX10_moreBy_74 : decode cX10_moreBy 74 = .ok (.iconst 1, 1) := by decide +kernel
theorem dX10_moreBy_75 : decode cX10_moreBy 75 = .ok (.goto 4, 3) := by decide +kernel
theorem dX10_moreBy_78 : decode cX10_moreBy 78 = .ok (.iconst 0, 1) := by decide +kernel
theorem dX10_moreBy_79 : decode cX10_moreBy 79 = .ok (.ireturn, 1) := by decide +kernel
theorem dX10_mostAlike_0 : decode cX10_mostAlike 0 = .ok (.iconst 0, 1) := by decide +kernel
theorem dX10_mostAlike_1 : decode cX10_mostAlike 1 = .ok (.istore 4, 2) := by decide +kernel
theorem dX10_mostAlike_3 : decode cX10_mostAlike 3 = .ok (.iload 4, 2) := by decide +kernel
theorem dX10_mostAlike_5 : decode cX10_mostAlike 5 = .ok (.iconst 3, 1) := by decide +kernel
theorem dX10_mostAlike_6 : decode cX10_mostAlike 6 = .ok (.if_icmp .ge 17, 3) := by decide +kernel
theorem dX10_mostAlike_9 : decode cX10_mostAlike 9 = .ok (.aload_n 0, 1) := by decide +kernel
theorem dX10_mostAlike_10 : decode cX10_mostAlike 10 = .ok (.getfield 70, 3) := by decide +kernel
theorem dX10_mostAlike_13 : decode cX10_mostAlike 13 = .ok (.iload 4, 2) := by decide +kernel
theorem dX10_mostAlike_15 : decode cX10_mostAlike 15 = .ok (.iconst 0, 1) := by decide +kernel
theorem dX10_mostAlike_16 : decode cX10_mostAlike 16 = .ok (.iastore, 1) := by decide +kernel
theorem dX10_mostAlike_17 : decode cX10_mostAlike 17 = .ok (.iinc 4 1, 3) := by decide +kernel
theorem dX10_mostAlike_20 : decode cX10_mostAlike 20 = .ok (.goto (-17), 3) := by decide +kernel
theorem dX10_mostAlike_23 : decode cX10_mostAlike 23 = .ok (.iconst 0, 1) := by decide +kernel
theorem dX10_mostAlike_24 : decode cX10_mostAlike 24 = .ok (.istore 4, 2) := by decide +kernel
theorem dX10_mostAlike_26 : decode cX10_mostAlike 26 = .ok (.iload 4, 2) := by decide +kernel
theorem dX10_mostAlike_28 : decode cX10_mostAlike 28 = .ok (.aload_n 0, 1) := by decide +kernel
theorem dX10_mostAlike_29 : decode cX10_mostAlike 29 = .ok (.getfield 263, 3) := by decide +kernel
theorem dX10_mostAlike_32 : decode cX10_mostAlike 32 = .ok (.if_icmp .ge 29, 3) := by decide +kernel
theorem dX10_mostAlike_35 : decode cX10_mostAlike 35 = .ok (.aload_n 0, 1) := by decide +kernel
theorem dX10_mostAlike_36 : decode cX10_mostAlike 36 = .ok (.getfield 70, 3) := by decide +kernel
theorem dX10_mostAlike_39 : decode cX10_mostAlike 39 = .ok (.aload_n 0, 1) := by decide +kernel
theorem dX10_mostAlike_40 : decode cX10_mostAlike 40 = .ok (.iload 4, 2) := by decide +kernel
theorem dX10_mostAlike_42 : decode cX10_mostAlike 42 = .ok (.iload_n 1, 1) := by decide +kernel
theorem dX10_mostAlike_43 : decode cX10_mostAlike 43 = .ok (.iload_n 2, 1) := by decide +kernel
theorem dX10_mostAlike_44 : decode cX10_mostAlike 44 = .ok (.iload_n 3, 1) := by decide +kernel
theorem dX10_mostAlike_45 : decode cX10_mostAlike 45 = .ok (.invokevirtual 273, 3) := by decide +kernel
theorem dX10_mostAlike_48 : decode cX10_mostAlike 48 = .ok (.iconst 1, 1) := by decide +kernel
theorem dX10_mostAlike_49 : decode cX10_mostAlike 49 = .ok (.iadd, 1) := by decide +kernel
theorem dX10_mostAlike_50 : decode cX10_mostAlike 50 = .ok (.dup2, 1) := by decide +kernel
theorem dX10_mostAlike_51 : decode cX10_mostAlike 51 = .ok (.iaload, 1) := by decide +kernel
theorem dX10_mostAlike_52 : decode cX10_mostAlike 52 = .ok (.iconst 1, 1) := by decide +kernel
theorem dX10_mostAlike_53 : decode cX10_mostAlike 53 = .ok (.iadd, 1) := by decide +kernel
theorem dX10_mostAlike_54 : decode cX10_mostAlike 54 = .ok (.iastore, 1) := by decide +kernel
theorem dX10_mostAlike_55 : decode cX10_mostAlike 55 = .ok (.iinc 4 1, 3) := by decide +kernel
theorem dX10_mostAlike_58 : decode cX10_mostAlike 58 = .ok (.goto (-32), 3) := by decide +kernel
theorem dX10_mostAlike_61 : decode cX10_mostAlike 61 = .ok (.aload_n 0, 1) := by decide +kernel
theorem dX10_mostAlike_62 : decode cX10_mostAlike 62 = .ok (.getfield 70, 3) := by decide +kernel
theorem dX10_mostAlike_65 : decode cX10_mostAlike 65 = .ok (.iconst 0, 1) := by decide +kernel
theorem dX10_mostAlike_66 : decode cX10_mostAlike 66 = .ok (.iaload, 1) := by decide +kernel
theorem dX10_mostAlike_67 : decode cX10_mostAlike 67 = .ok (.aload_n 0, 1) := by decide +kernel
theorem dX10_mostAlike_68 : decode cX10_mostAlike 68 = .ok (.getfield 70, 3) := by decide +kernel
theorem dX10_mostAlike_71 : decode cX10_mostAlike 71 = .ok (.iconst 1, 1) := by decide +kernel
theorem dX10_mostAlike_72 : decode cX10_mostAlike 72 = .ok (.iaload, 1) := by decide +kernel
theorem dX10_mostAlike_73 : decode cX10_mostAlike 73 = .ok (.if_icmp .le 12, 3) := by decide +kernel
theorem dX10_mostAlike_76 : decode cX10_mostAlike 76 = .ok (.aload_n 0, 1) := by decide +kernel
theorem dX10_mostAlike_77 : decode cX10_mostAlike 77 = .ok (.getfield 70, 3) := by decide +kernel
theorem dX10_mostAlike_80 : decode cX10_mostAlike 80 = .ok (.iconst 0, 1) := by decide +kernel
theorem dX10_mostAlike_81 : decode cX10_mostAlike 81 = .ok (.iaload, 1) := by decide +kernel
theorem dX10_mostAlike_82 : decode cX10_mostAlike 82 = .ok (.goto 9, 3) := by decide +kernel
theorem dX10_mostAlike_85 : decode cX10_mostAlike 85 = .ok (.aload_n 0, 1) := by decide +kernel
theorem dX10_mostAlike_86 : decode cX10_mostAlike 86 = .ok (.getfield 70, 3) := by decide +kernel
theorem dX10_mostAlike_89 : decode cX10_mostAlike 89 = .ok (.iconst 1, 1) := by decide +kernel
theorem dX10_mostAlike_90 : decode cX10_mostAlike 90 = .ok (.iaload, 1) := by decide +kernel
theorem dX10_mostAlike_91 : decode cX10_mostAlike 91 = .ok (.istore 4, 2) := by decide +kernel
theorem dX10_mostAlike_93 : decode cX10_mostAlike 93 = .ok (.iload 4, 2) := by decide +kernel
theorem dX10_mostAlike_95 : decode cX10_mostAlike 95 = .ok (.aload_n 0, 1) := by decide +kernel
theorem dX10_mostAlike_96 : decode cX10_mostAlike 96 = .ok (.getfield 70, 3) := by decide +kernel
theorem dX10_mostAlike_99 : decode cX10_mostAlike 99 = .ok (.iconst 2, 1) := by decide +kernel
theorem dX10_mostAlike_100 : decode cX10_mostAlike 100 = .ok (.iaload, 1) := by decide +kernel
theorem dX10_mostAlike_101 : decode cX10_mostAlike 101 = .ok (.if_icmp .le 8, 3) := by decide +kernel
theorem dX10_mostAlike_104 : decode cX10_mostAlike 104 = .ok (.iload 4, 2) := by decide +kernel
theorem dX10_mostAlike_106 : decode cX10_mostAlike 106 = .ok (.goto 9, 3) := by decide +kernel
theorem dX10_mostAlike_109 : decode cX10_mostAlike 109 = .ok (.aload_n 0, 1) := by decide +kernel
theorem dX10_mostAlike_110 : decode cX10_mostAlike 110 = .ok (.getfield 70, 3) := by decide +kernel
theorem dX10_mostAlike_113 : decode cX10_mostAlike 113 = .ok (.iconst 2, 1) := by decide +kernel
theorem dX10_mostAlike_114 : decode cX10_mostAlike 114 = .ok (.iaload, 1) := by decide +kernel
theorem dX10_mostAlike_115 : decode cX10_mostAlike 115 = .ok (.ireturn, 1) := by decide +kernel
theorem dX10_look_0 : decode cX10_look 0 = .ok (.iload_n 1, 1) := by decide +kernel
theorem dX10_look_1 : decode cX10_look 1 = .ok (.i2l, 1) := by decide +kernel
theorem dX10_look_2 : decode cX10_look 2 = .ok (.lconst 0, 1) := by decide +kernel
theorem dX10_look_3 : decode cX10_look 3 = .ok (.ldc2_w 277, 3) := by decide +kernel
theorem dX10_look_6 : decode cX10_look 6 = .ok (.invokestatic 86, 3) := by decide +kernel
theorem dX10_look_9 : decode cX10_look 9 = .ok (.ifCond .ne 5, 3) := by decide +kernel
theorem dX10_look_12 : decode cX10_look 12 = .ok (.iconst (-1), 1) := by decide +kernel
theorem dX10_look_13 : decode cX10_look 13 = .ok (.ireturn, 1) := by decide +kernel
theorem dX10_look_14 : decode cX10_look 14 = .ok (.aload_n 0, 1) := by decide +kernel
theorem dX10_look_15 : decode cX10_look 15 = .ok (.invokevirtual 270, 3) := by decide +kernel
theorem dX10_look_18 : decode cX10_look 18 = .ok (.iconst (-1), 1) := by decide +kernel
theorem dX10_look_19 : decode cX10_look 19 = .ok (.istore_n 2, 1) := by decide +kernel
theorem dX10_look_20 : decode cX10_look 20 = .ok (.iconst (-1), 1) := by decide +kernel
theorem dX10_look_21 : decode cX10_look 21 = .ok (.istore_n 3, 1) := by decide +kernel
theorem dX10_look_22 : decode cX10_look 22 = .ok (.iconst (-1), 1) := by decide +kernel
theorem dX10_look_23 : decode cX10_look 23 = .ok (.istore 4, 2) := by decide +kernel
theorem dX10_look_25 : decode cX10_look 25 = .ok (.aload_n 0, 1) := by decide +kernel
theorem dX10_look_26 : decode cX10_look 26 = .ok (.getfield 263, 3) := by decide +kernel
theorem dX10_look_29 : decode cX10_look 29 = .ok (.ifCond .ne 5, 3) := by decide +kernel
theorem dX10_look_32 : decode cX10_look 32 = .ok (.iconst (-1), 1) := by decide +kernel
theorem dX10_look_33 : decode cX10_look 33 = .ok (.ireturn, 1) := by decide +kernel
theorem dX10_look_34 : decode cX10_look 34 = .ok (.iconst 0, 1) := by decide +kernel
theorem dX10_look_35 : decode cX10_look 35 = .ok (.istore 5, 2) := by decide +kernel
theorem dX10_look_37 : decode cX10_look 37 = .ok (.iload 5, 2) := by decide +kernel
theorem dX10_look_39 : decode cX10_look 39 = .ok (.aload_n 0, 1) := by decide +kernel
theorem dX10_look_40 : decode cX10_look 40 = .ok (.getfield 13, 3) := by decide +kernel
theorem dX10_look_43 : decode cX10_look 43 = .ok (.bipush 56, 2) := by decide +kernel
theorem dX10_look_45 : decode cX10_look 45 = .ok (.iaload, 1) := by decide +kernel
theorem dX10_look_46 : decode cX10_look 46 = .ok (.if_icmp .gt 92, 3) := by decide +kernel
theorem dX10_look_49 : decode cX10_look 49 = .ok (.iconst 0, 1) := by decide +kernel
theorem dX10_look_50 : decode cX10_look 50 = .ok (.istore 6, 2) := by decide +kernel
theorem dX10_look_52 : decode cX10_look 52 = .ok (.iload 6, 2) := by decide +kernel
theorem dX10_look_54 : decode cX10_look 54 = .ok (.aload_n 0, 1) := by decide +kernel
theorem dX10_look_55 : decode cX10_look 55 = .ok (.getfield 13, 3) := by decide +kernel
theorem dX10_look_58 : decode cX10_look 58 = .ok (.iconst 1, 1) := by decide +kernel
theorem dX10_look_59 : decode cX10_look 59 = .ok (.iaload, 1) := by decide +kernel
theorem dX10_look_60 : decode cX10_look 60 = .ok (.if_icmp .ge 72, 3) := by decide +kernel
theorem dX10_look_63 : decode cX10_look 63 = .ok (.iconst 0, 1) := by decide +kernel
theorem dX10_look_64 : decode cX10_look 64 = .ok (.istore 7, 2) := by decide +kernel
theorem dX10_look_66 : decode cX10_look 66 = .ok (.iload 7, 2) := by decide +kernel
theorem dX10_look_68 : decode cX10_look 68 = .ok (.aload_n 0, 1) := by decide +kernel
theorem dX10_look_69 : decode cX10_look 69 = .ok (.getfield 13, 3) := by decide +kernel
theorem dX10_look_72 : decode cX10_look 72 = .ok (.iconst 0, 1) := by decide +kernel
theorem dX10_look_73 : decode cX10_look 73 = .ok (.iaload, 1) := by decide +kernel
theorem dX10_look_74 : decode cX10_look 74 = .ok (.if_icmp .ge 52, 3) := by decide +kernel
theorem dX10_look_77 : decode cX10_look 77 = .ok (.aload_n 0, 1) := by decide +kernel
theorem dX10_look_78 : decode cX10_look 78 = .ok (.iload 5, 2) := by decide +kernel
theorem dX10_look_80 : decode cX10_look 80 = .ok (.iload 6, 2) := by decide +kernel
theorem dX10_look_82 : decode cX10_look 82 = .ok (.iload 7, 2) := by decide +kernel
theorem dX10_look_84 : decode cX10_look 84 = .ok (.invokevirtual 279, 3) := by decide +kernel
theorem dX10_look_87 : decode cX10_look 87 = .ok (.istore 8, 2) := by decide +kernel
theorem dX10_look_89 : decode cX10_look 89 = .ok (.iload 4, 2) := by decide +kernel
theorem dX10_look_91 : decode cX10_look 91 = .ok (.iconst (-1), 1) := by decide +kernel
theorem dX10_look_92 : decode cX10_look 92 = .ok (.if_icmp .eq 13, 3) := by decide +kernel
theorem dX10_look_95 : decode cX10_look 95 = .ok (.iload 8, 2) := by decide +kernel
theorem dX10_look_97 : decode cX10_look 97 = .ok (.iload 4, 2) := by decide +kernel
theorem dX10_look_99 : decode cX10_look 99 = .ok (.if_icmp .lt 6, 3) := by decide +kernel
theorem dX10_look_102 : decode cX10_look 102 = .ok (.goto 18, 3) := by decide +kernel
theorem dX10_look_105 : decode cX10_look 105 = .ok (.iload 8, 2) := by decide +kernel
theorem dX10_look_107 : decode cX10_look 107 = .ok (.istore 4, 2) := by decide +kernel
theorem dX10_look_109 : decode cX10_look 109 = .ok (.iload 5, 2) := by decide +kernel
theorem dX10_look_111 : decode cX10_look 111 = .ok (.istore_n 2, 1) := by decide +kernel
theorem dX10_look_112 : decode cX10_look 112 = .ok (.iload 6, 2) := by decide +kernel
theorem dX10_look_114 : decode cX10_look 114 = .ok (.iload 7, 2) := by decide +kernel
theorem dX10_look_116 : decode cX10_look 116 = .ok (.invokestatic 101, 3) := by decide +kernel
theorem dX10_look_119 : decode cX10_look 119 = .ok (.istore_n 3, 1) := by decide +kernel
theorem dX10_look_120 : decode cX10_look 120 = .ok (.iinc 7 1, 3) := by decide +kernel
theorem dX10_look_123 : decode cX10_look 123 = .ok (.goto (-57), 3) := by decide +kernel
theorem dX10_look_126 : decode cX10_look 126 = .ok (.iinc 6 1, 3) := by decide +kernel
theorem dX10_look_129 : decode cX10_look 129 = .ok (.goto (-77), 3) := by decide +kernel
theorem dX10_look_132 : decode cX10_look 132 = .ok (.iinc 5 1, 3) := by decide +kernel
theorem dX10_look_135 : decode cX10_look 135 = .ok (.goto (-98), 3) := by decide +kernel
theorem dX10_look_138 : decode cX10_look 138 = .ok (.iload_n 1, 1) := by decide +kernel
theorem dX10_look_139 : decode cX10_look 139 = .ok (.ifCond .ne 7, 3) := by decide +kernel
theorem dX10_look_142 : decode cX10_look 142 = .ok (.iload_n 2, 1) := by decide +kernel
theorem dX10_look_143 : decode cX10_look 143 = .ok (.goto 29, 3) := by decide +kernel
theorem dX10_look_146 : decode cX10_look 146 = .ok (.iload_n 1, 1) := by decide +kernel
theorem dX10_look_147 : decode cX10_look 147 = .ok (.iconst 1, 1) := by decide +kernel
theorem dX10_look_148 : decode cX10_look 148 = .ok (.if_icmp .ne 10, 3) := by decide +kernel
theorem dX10_look_151 : decode cX10_look 151 = .ok (.iload_n 3, 1) := by decide +kernel
theorem dX10_look_152 : decode cX10_look 152 = .ok (.bipush 6, 2) := by decide +kernel
theorem dX10_look_154 : decode cX10_look 154 = .ok (.idiv, 1) := by decide +kernel
theorem dX10_look_155 : decode cX10_look 155 = .ok (.goto 17, 3) := by decide +kernel
theorem dX10_look_158 : decode cX10_look 158 = .ok (.iload_n 1, 1) := by decide +kernel
theorem dX10_look_159 : decode cX10_look 159 = .ok (.iconst 2, 1) := by decide +kernel
theorem dX10_look_160 : decode cX10_look 160 = .ok (.if_icmp .ne 10, 3) := by decide +kernel
theorem dX10_look_163 : decode cX10_look 163 = .ok (.iload_n 3, 1) := by decide +kernel
theorem dX10_look_164 : decode cX10_look 164 = .ok (.bipush 6, 2) := by decide +kernel
theorem dX10_look_166 : decode cX10_look 166 = .ok (.irem, 1) := by decide +kernel
theorem dX10_look_167 : decode cX10_look 167 = .ok (.goto 5, 3) := by decide +kernel
theorem dX10_look_170 : decode cX10_look 170 = .ok (.iload 4, 2) := by decide +kernel
theorem dX10_look_172 : decode cX10_look 172 = .ok (.ireturn, 1) := by decide +kernel
theorem dX10_isLeftOut_0 : decode cX10_isLeftOut 0 = .ok (.aload_n 0, 1) := by decide +kernel
theorem dX10_isLeftOut_1 : decode cX10_isLeftOut 1 = .ok (.iconst 0, 1) := by decide +kernel
theorem dX10_isLeftOut_2 : decode cX10_isLeftOut 2 = .ok (.invokevirtual 253, 3) := by decide +kernel
theorem dX10_isLeftOut_5 : decode cX10_isLeftOut 5 = .ok (.iconst 0, 1) := by decide +kernel
theorem dX10_isLeftOut_6 : decode cX10_isLeftOut 6 = .ok (.istore_n 2, 1) := by decide +kernel
theorem dX10_isLeftOut_7 : decode cX10_isLeftOut 7 = .ok (.iload_n 2, 1) := by decide +kernel
theorem dX10_isLeftOut_8 : decode cX10_isLeftOut 8 = .ok (.aload_n 0, 1) := by decide +kernel
theorem dX10_isLeftOut_9 : decode cX10_isLeftOut 9 = .ok (.getfield 13, 3) := by decide +kernel
theorem dX10_isLeftOut_12 : decode cX10_isLeftOut 12 = .ok (.bipush 56, 2) := by decide +kernel
theorem dX10_isLeftOut_14 : decode cX10_isLeftOut 14 = .ok (.iaload, 1) := by decide +kernel
theorem dX10_isLeftOut_15 : decode cX10_isLeftOut 15 = .ok (.if_icmp .ge 46, 3) := by decide +kernel
theorem dX10_isLeftOut_18 : decode cX10_isLeftOut 18 = .ok (.aload_n 0, 1) := by decide +kernel
theorem dX10_isLeftOut_19 : decode cX10_isLeftOut 19 = .ok (.iload_n 2, 1) := by decide +kernel
theorem dX10_isLeftOut_20 : decode cX10_isLeftOut 20 = .ok (.invokevirtual 260, 3) := by decide +kernel
theorem dX10_isLeftOut_23 : decode cX10_isLeftOut 23 = .ok (.ifCond .ne 5, 3) := by decide +kernel
theorem dX10_isLeftOut_26 : decode cX10_isLeftOut 26 = .ok (.iconst 0, 1) := by decide +kernel
theorem dX10_isLeftOut_27 : decode cX10_isLeftOut 27 = .ok (.ireturn, 1) := by decide +kernel
theorem dX10_isLeftOut_28 : decode cX10_isLeftOut 28 = .ok (.aload_n 0, 1) := by decide +kernel
theorem dX10_isLeftOut_29 : decode cX10_isLeftOut 29 = .ok (.iload_n 2, 1) := by decide +kernel
theorem dX10_isLeftOut_30 : decode cX10_isLeftOut 30 = .ok (.invokevirtual 172, 3) := by decide +kernel
theorem dX10_isLeftOut_33 : decode cX10_isLeftOut 33 = .ok (.iload_n 2, 1) := by decide +kernel
theorem dX10_isLeftOut_34 : decode cX10_isLeftOut 34 = .ok (.iload_n 1, 1) := by decide +kernel
theorem dX10_isLeftOut_35 : decode cX10_isLeftOut 35 = .ok (.if_icmp .ne 6, 3) := by decide +kernel
theorem dX10_isLeftOut_38 : decode cX10_isLeftOut 38 = .ok (.goto 17, 3) := by decide +kernel
theorem dX10_isLeftOut_41 : decode cX10_isLeftOut 41 = .ok (.aload_n 0, 1) := by decide +kernel
theorem dX10_isLeftOut_42 : decode cX10_isLeftOut 42 = .ok (.invokevirtual 154, 3) := by decide +kernel
theorem dX10_isLeftOut_45 : decode cX10_isLeftOut 45 = .ok (.ifCond .ne 5, 3) := by decide +kernel
theorem dX10_isLeftOut_48 : decode cX10_isLeftOut 48 = .ok (.iconst 0, 1) := by decide +kernel
theorem dX10_isLeftOut_49 : decode cX10_isLeftOut 49 = .ok (.ireturn, 1) := by decide +kernel
theorem dX10_isLeftOut_50 : decode cX10_isLeftOut 50 = .ok (.aload_n 0, 1) := by decide +kernel
theorem dX10_isLeftOut_51 : decode cX10_isLeftOut 51 = .ok (.iconst 1, 1) := by decide +kernel
theorem dX10_isLeftOut_52 : decode cX10_isLeftOut 52 = .ok (.invokevirtual 161, 3) := by decide +kernel
theorem dX10_isLeftOut_55 : decode cX10_isLeftOut 55 = .ok (.iinc 2 1, 3) := by decide +kernel
theorem dX10_isLeftOut_58 : decode cX10_isLeftOut 58 = .ok (.goto (-51), 3) := by decide +kernel
theorem dX10_isLeftOut_61 : decode cX10_isLeftOut 61 = .ok (.aload_n 0, 1) := by decide +kernel
theorem dX10_isLeftOut_62 : decode cX10_isLeftOut 62 = .ok (.aload_n 0, 1) := by decide +kernel
theorem dX10_isLeftOut_63 : decode cX10_isLeftOut 63 = .ok (.getfield 13, 3) := by decide +kernel
theorem dX10_isLeftOut_66 : decode cX10_isLeftOut 66 = .ok (.bipush 56, 2) := by decide +kernel
theorem dX10_isLeftOut_68 : decode cX10_isLeftOut 68 = .ok (.iaload, 1) := by decide +kernel
theorem dX10_isLeftOut_69 : decode cX10_isLeftOut 69 = .ok (.invokevirtual 260, 3) := by decide +kernel
theorem dX10_isLeftOut_72 : decode cX10_isLeftOut 72 = .ok (.ireturn, 1) := by decide +kernel
theorem dX10_leftOut_0 : decode cX10_leftOut 0 = .ok (.iconst 0, 1) := by decide +kernel
theorem dX10_leftOut_1 : decode cX10_leftOut 1 = .ok (.istore_n 1, 1) := by decide +kernel
theorem dX10_leftOut_2 : decode cX10_leftOut 2 = .ok (.iconst 0, 1) := by decide +kernel
theorem dX10_leftOut_3 : decode cX10_leftOut 3 = .ok (.istore_n 2, 1) := by decide +kernel
theorem dX10_leftOut_4 : decode cX10_leftOut 4 = .ok (.iload_n 2, 1) := by decide +kernel
theorem dX10_leftOut_5 : decode cX10_leftOut 5 = .ok (.aload_n 0, 1) := by decide +kernel
theorem dX10_leftOut_6 : decode cX10_leftOut 6 = .ok (.getfield 13, 3) := by decide +kernel
theorem dX10_leftOut_9 : decode cX10_leftOut 9 = .ok (.bipush 56, 2) := by decide +kernel
theorem dX10_leftOut_11 : decode cX10_leftOut 11 = .ok (.iaload, 1) := by decide +kernel
theorem dX10_leftOut_12 : decode cX10_leftOut 12 = .ok (.if_icmp .ge 20, 3) := by decide +kernel
theorem dX10_leftOut_15 : decode cX10_leftOut 15 = .ok (.aload_n 0, 1) := by decide +kernel
theorem dX10_leftOut_16 : decode cX10_leftOut 16 = .ok (.iload_n 2, 1) := by decide +kernel
theorem dX10_leftOut_17 : decode cX10_leftOut 17 = .ok (.invokevirtual 282, 3) := by decide +kernel
theorem dX10_leftOut_20 : decode cX10_leftOut 20 = .ok (.ifCond .eq 6, 3) := by decide +kernel
theorem dX10_leftOut_23 : decode cX10_leftOut 23 = .ok (.iinc 1 1, 3) := by decide +kernel
theorem dX10_leftOut_26 : decode cX10_leftOut 26 = .ok (.iinc 2 1, 3) := by decide +kernel
theorem dX10_leftOut_29 : decode cX10_leftOut 29 = .ok (.goto (-25), 3) := by decide +kernel
theorem dX10_leftOut_32 : decode cX10_leftOut 32 = .ok (.iload_n 1, 1) := by decide +kernel
theorem dX10_leftOut_33 : decode cX10_leftOut 33 = .ok (.ireturn, 1) := by decide +kernel
theorem dX10_leftOutAt_0 : decode cX10_leftOutAt 0 = .ok (.iload_n 1, 1) := by decide +kernel
theorem dX10_leftOutAt_1 : decode cX10_leftOutAt 1 = .ok (.ifCond .ge 5, 3) := by decide +kernel
theorem dX10_leftOutAt_4 : decode cX10_leftOutAt 4 = .ok (.iconst (-1), 1) := by decide +kernel
theorem dX10_leftOutAt_5 : decode cX10_leftOutAt 5 = .ok (.ireturn, 1) := by decide +kernel
theorem dX10_leftOutAt_6 : decode cX10_leftOutAt 6 = .ok (.iload_n 1, 1) := by decide +kernel
theorem dX10_leftOutAt_7 : decode cX10_leftOutAt 7 = .ok (.istore_n 2, 1) := by decide +kernel
theorem dX10_leftOutAt_8 : decode cX10_leftOutAt 8 = .ok (.iconst 0, 1) := by decide +kernel
theorem dX10_leftOutAt_9 : decode cX10_leftOutAt 9 = .ok (.istore_n 3, 1) := by decide +kernel
theorem dX10_leftOutAt_10 : decode cX10_leftOutAt 10 = .ok (.iload_n 3, 1) := by decide +kernel
theorem dX10_leftOutAt_11 : decode cX10_leftOutAt 11 = .ok (.aload_n 0, 1) := by decide +kernel
theorem dX10_leftOutAt_12 : decode cX10_leftOutAt 12 = .ok (.getfield 13, 3) := by decide +kernel
theorem dX10_leftOutAt_15 : decode cX10_leftOutAt 15 = .ok (.bipush 56, 2) := by decide +kernel
theorem dX10_leftOutAt_17 : decode cX10_leftOutAt 17 = .ok (.iaload, 1) := by decide +kernel
theorem dX10_leftOutAt_18 : decode cX10_leftOutAt 18 = .ok (.if_icmp .ge 29, 3) := by decide +kernel
theorem dX10_leftOutAt_21 : decode cX10_leftOutAt 21 = .ok (.aload_n 0, 1) := by decide +kernel
theorem dX10_leftOutAt_22 : decode cX10_leftOutAt 22 = .ok (.iload_n 3, 1) := by decide +kernel
theorem dX10_leftOutAt_23 : decode cX10_leftOutAt 23 = .ok (.invokevirtual 282, 3) := by decide +kernel
theorem dX10_leftOutAt_26 : decode cX10_leftOutAt 26 = .ok (.ifCond .ne 6, 3) := by decide +kernel
theorem dX10_leftOutAt_29 : decode cX10_leftOutAt 29 = .ok (.goto 12, 3) := by decide +kernel
theorem dX10_leftOutAt_32 : decode cX10_leftOutAt 32 = .ok (.iload_n 2, 1) := by decide +kernel
theorem dX10_leftOutAt_33 : decode cX10_leftOutAt 33 = .ok (.ifCond .ne 5, 3) := by decide +kernel
theorem dX10_leftOutAt_36 : decode cX10_leftOutAt 36 = .ok (.iload_n 3, 1) := by decide +kernel
theorem dX10_leftOutAt_37 : decode cX10_leftOutAt 37 = .ok (.ireturn, 1) := by decide +kernel
theorem dX10_leftOutAt_38 : decode cX10_leftOutAt 38 = .ok (.iinc 2 (-1), 3) := by decide +kernel
theorem dX10_leftOutAt_41 : decode cX10_leftOutAt 41 = .ok (.iinc 3 1, 3) := by decide +kernel
theorem dX10_leftOutAt_44 : decode cX10_leftOutAt 44 = .ok (.goto (-34), 3) := by decide +kernel
theorem dX10_leftOutAt_47 : decode cX10_leftOutAt 47 = .ok (.bipush (-2), 2) := by decide +kernel
theorem dX10_leftOutAt_49 : decode cX10_leftOutAt 49 = .ok (.ireturn, 1) := by decide +kernel
theorem dX10_writesSign_0 : decode cX10_writesSign 0 = .ok (.aload_n 0, 1) := by decide +kernel
theorem dX10_writesSign_1 : decode cX10_writesSign 1 = .ok (.getfield 73, 3) := by decide +kernel
theorem dX10_writesSign_4 : decode cX10_writesSign 4 = .ok (.aload_n 0, 1) := by decide +kernel
theorem dX10_writesSign_5 : decode cX10_writesSign 5 = .ok (.getfield 285, 3) := by decide +kernel
theorem dX10_writesSign_8 : decode cX10_writesSign 8 = .ok (.iload_n 1, 1) := by decide +kernel
theorem dX10_writesSign_9 : decode cX10_writesSign 9 = .ok (.iastore, 1) := by decide +kernel
theorem dX10_writesSign_10 : decode cX10_writesSign 10 = .ok (.aload_n 0, 1) := by decide +kernel
theorem dX10_writesSign_11 : decode cX10_writesSign 11 = .ok (.dup, 1) := by decide +kernel
theorem dX10_writesSign_12 : decode cX10_writesSign 12 = .ok (.getfield 285, 3) := by decide +kernel
theorem dX10_writesSign_15 : decode cX10_writesSign 15 = .ok (.iconst 1, 1) := by decide +kernel
theorem dX10_writesSign_16 : decode cX10_writesSign 16 = .ok (.iadd, 1) := by decide +kernel
theorem dX10_writesSign_17 : decode cX10_writesSign 17 = .ok (.putfield 285, 3) := by decide +kernel
theorem dX10_writesSign_20 : decode cX10_writesSign 20 = .ok (.return_, 1) := by decide +kernel
theorem dX10_writesWord_0 : decode cX10_writesWord 0 = .ok (.aload_n 0, 1) := by decide +kernel
theorem dX10_writesWord_1 : decode cX10_writesWord 1 = .ok (.iload_n 1, 1) := by decide +kernel
theorem dX10_writesWord_2 : decode cX10_writesWord 2 = .ok (.invokevirtual 288, 3) := by decide +kernel
theorem dX10_writesWord_5 : decode cX10_writesWord 5 = .ok (.istore_n 2, 1) := by decide +kernel
theorem dX10_writesWord_6 : decode cX10_writesWord 6 = .ok (.aload_n 0, 1) := by decide +kernel
theorem dX10_writesWord_7 : decode cX10_writesWord 7 = .ok (.getfield 79, 3) := by decide +kernel
theorem dX10_writesWord_10 : decode cX10_writesWord 10 = .ok (.iload_n 2, 1) := by decide +kernel
theorem dX10_writesWord_11 : decode cX10_writesWord 11 = .ok (.baload, 1) := by decide +kernel
theorem dX10_writesWord_12 : decode cX10_writesWord 12 = .ok (.ifCond .eq 19, 3) := by decide +kernel
theorem dX10_writesWord_15 : decode cX10_writesWord 15 = .ok (.aload_n 0, 1) := by decide +kernel
theorem dX10_writesWord_16 : decode cX10_writesWord 16 = .ok (.aload_n 0, 1) := by decide +kernel
theorem dX10_writesWord_17 : decode cX10_writesWord 17 = .ok (.getfield 79, 3) := by decide +kernel
theorem dX10_writesWord_20 : decode cX10_writesWord 20 = .ok (.iload_n 2, 1) := by decide +kernel
theorem dX10_writesWord_21 : decode cX10_writesWord 21 = .ok (.baload, 1) := by decide +kernel
theorem dX10_writesWord_22 : decode cX10_writesWord 22 = .ok (.invokevirtual 291, 3) := by decide +kernel
theorem dX10_writesWord_25 : decode cX10_writesWord 25 = .ok (.iinc 2 1, 3) := by decide +kernel
theorem dX10_writesWord_28 : decode cX10_writesWord 28 = .ok (.goto (-22), 3) := by decide +kernel
theorem dX10_writesWord_31 : decode cX10_writesWord 31 = .ok (.return_, 1) := by decide +kernel
theorem dX10_writesNumber_0 : decode cX10_writesNumber 0 = .ok (.iconst 1, 1) := by decide +kernel
theorem dX10_writesNumber_1 : decode cX10_writesNumber 1 = .ok (.istore_n 2, 1) := by decide +kernel
theorem dX10_writesNumber_2 : decode cX10_writesNumber 2 = .ok (.iload_n 1, 1) := by decide +kernel
theorem dX10_writesNumber_3 : decode cX10_writesNumber 3 = .ok (.iload_n 2, 1) := by decide +kernel
theorem dX10_writesNumber_4 : decode cX10_writesNumber 4 = .ok (.idiv, 1) := by decide +kernel
theorem dX10_writesNumber_5 : decode cX10_writesNumber 5 = .ok (.bipush 9, 2) := by decide +kernel
theorem dX10_writesNumber_7 : decode cX10_writesNumber 7 = .ok (.if_icmp .le 11, 3) := by decide +kernel
theorem dX10_writesNumber_10 : decode cX10_writesNumber 10 = .ok (.iload_n 2, 1) := by decide +kernel
theorem dX10_writesNumber_11 : decode cX10_writesNumber 11 = .ok (.bipush 10, 2) := by decide +kernel
theorem dX10_writesNumber_13 : decode cX10_writesNumber 13 = .ok (.imul, 1) := by decide +kernel
theorem dX10_writesNumber_14 : decode cX10_writesNumber 14 = .ok (.istore_n 2, 1) := by decide +kernel
theorem dX10_writesNumber_15 : decode cX10_writesNumber 15 = .ok (.goto (-13), 3) := by decide +kernel
theorem dX10_writesNumber_18 : decode cX10_writesNumber 18 = .ok (.iload_n 2, 1) := by decide +kernel
theorem dX10_writesNumber_19 : decode cX10_writesNumber 19 = .ok (.ifCond .le 24, 3) := by decide +kernel
theorem dX10_writesNumber_22 : decode cX10_writesNumber 22 = .ok (.aload_n 0, 1) := by decide +kernel
theorem dX10_writesNumber_23 : decode cX10_writesNumber 23 = .ok (.bipush 48, 2) := by decide +kernel
theorem dX10_writesNumber_25 : decode cX10_writesNumber 25 = .ok (.iload_n 1, 1) := by decide +kernel
theorem dX10_writesNumber_26 : decode cX10_writesNumber 26 = .ok (.iload_n 2, 1) := by decide +kernel
theorem dX10_writesNumber_27 : decode cX10_writesNumber 27 = .ok (.idiv, 1) := by decide +kernel
theorem dX10_writesNumber_28 : decode cX10_writesNumber 28 = .ok (.bipush 10, 2) := by decide +kernel
theorem dX10_writesNumber_30 : decode cX10_writesNumber 30 = .ok (.irem, 1) := by decide +kernel
theorem dX10_writesNumber_31 : decode cX10_writesNumber 31 = .ok (.iadd, 1) := by decide +kernel
theorem dX10_writesNumber_32 : decode cX10_writesNumber 32 = .ok (.invokevirtual 291, 3) := by decide +kernel
theorem dX10_writesNumber_35 : decode cX10_writesNumber 35 = .ok (.iload_n 2, 1) := by decide +kernel
theorem dX10_writesNumber_36 : decode cX10_writesNumber 36 = .ok (.bipush 10, 2) := by decide +kernel
theorem dX10_writesNumber_38 : decode cX10_writesNumber 38 = .ok (.idiv, 1) := by decide +kernel
theorem dX10_writesNumber_39 : decode cX10_writesNumber 39 = .ok (.istore_n 2, 1) := by decide +kernel
theorem dX10_writesNumber_40 : decode cX10_writesNumber 40 = .ok (.goto (-22), 3) := by decide +kernel
theorem dX10_writesNumber_43 : decode cX10_writesNumber 43 = .ok (.return_, 1) := by decide +kernel
theorem dX10_writesNext_0 : decode cX10_writesNext 0 = .ok (.aload_n 0, 1) := by decide +kernel
theorem dX10_writesNext_1 : decode cX10_writesNext 1 = .ok (.bipush 32, 2) := by decide +kernel
theorem dX10_writesNext_3 : decode cX10_writesNext 3 = .ok (.invokevirtual 291, 3) := by decide +kernel
theorem dX10_writesNext_6 : decode cX10_writesNext 6 = .ok (.aload_n 0, 1) := by decide +kernel
theorem dX10_writesNext_7 : decode cX10_writesNext 7 = .ok (.iload_n 1, 1) := by decide +kernel
theorem dX10_writesNext_8 : decode cX10_writesNext 8 = .ok (.invokevirtual 294, 3) := by decide +kernel
theorem dX10_writesNext_11 : decode cX10_writesNext 11 = .ok (.return_, 1) := by decide +kernel
theorem dX10_toldText_0 : decode cX10_toldText 0 = .ok (.iload_n 1, 1) := by decide +kernel
theorem dX10_toldText_1 : decode cX10_toldText 1 = .ok (.iconst (-1), 1) := by decide +kernel
theorem dX10_toldText_2 : decode cX10_toldText 2 = .ok (.if_icmp .ne 10, 3) := by decide +kernel
theorem dX10_toldText_5 : decode cX10_toldText 5 = .ok (.aload_n 0, 1) := by decide +kernel
theorem dX10_toldText_6 : decode cX10_toldText 6 = .ok (.getfield 285, 3) := by decide +kernel
theorem dX10_toldText_9 : decode cX10_toldText 9 = .ok (.goto 22, 3) := by decide +kernel
theorem dX10_toldText_12 : decode cX10_toldText 12 = .ok (.iload_n 1, 1) := by decide +kernel
theorem dX10_toldText_13 : decode cX10_toldText 13 = .ok (.aload_n 0, 1) := by decide +kernel
theorem dX10_toldText_14 : decode cX10_toldText 14 = .ok (.getfield 285, 3) := by decide +kernel
theorem dX10_toldText_17 : decode cX10_toldText 17 = .ok (.if_icmp .ge 12, 3) := by decide +kernel
theorem dX10_toldText_20 : decode cX10_toldText 20 = .ok (.aload_n 0, 1) := by decide +kernel
theorem dX10_toldText_21 : decode cX10_toldText 21 = .ok (.getfield 73, 3) := by decide +kernel
theorem dX10_toldText_24 : decode cX10_toldText 24 = .ok (.iload_n 1, 1) := by decide +kernel
theorem dX10_toldText_25 : decode cX10_toldText 25 = .ok (.iaload, 1) := by decide +kernel
theorem dX10_toldText_26 : decode cX10_toldText 26 = .ok (.goto 5, 3) := by decide +kernel
theorem dX10_toldText_29 : decode cX10_toldText 29 = .ok (.bipush (-2), 2) := by decide +kernel
theorem dX10_toldText_31 : decode cX10_toldText 31 = .ok (.ireturn, 1) := by decide +kernel
theorem dX10_writesMove_0 : decode cX10_writesMove 0 = .ok (.aload_n 0, 1) := by decide +kernel
theorem dX10_writesMove_1 : decode cX10_writesMove 1 = .ok (.getfield 13, 3) := by decide +kernel
theorem dX10_writesMove_4 : decode cX10_writesMove 4 = .ok (.iload_n 1, 1) := by decide +kernel
theorem dX10_writesMove_5 : decode cX10_writesMove 5 = .ok (.iaload, 1) := by decide +kernel
theorem dX10_writesMove_6 : decode cX10_writesMove 6 = .ok (.istore_n 2, 1) := by decide +kernel
theorem dX10_writesMove_7 : decode cX10_writesMove 7 = .ok (.aload_n 0, 1) := by decide +kernel
theorem dX10_writesMove_8 : decode cX10_writesMove 8 = .ok (.iconst 2, 1) := by decide +kernel
theorem dX10_writesMove_9 : decode cX10_writesMove 9 = .ok (.iload_n 2, 1) := by decide +kernel
theorem dX10_writesMove_10 : decode cX10_writesMove 10 = .ok (.iadd, 1) := by decide +kernel
theorem dX10_writesMove_11 : decode cX10_writesMove 11 = .ok (.invokevirtual 297, 3) := by decide +kernel
theorem dX10_writesMove_14 : decode cX10_writesMove 14 = .ok (.aload_n 0, 1) := by decide +kernel
theorem dX10_writesMove_15 : decode cX10_writesMove 15 = .ok (.aload_n 0, 1) := by decide +kernel
theorem dX10_writesMove_16 : decode cX10_writesMove 16 = .ok (.getfield 13, 3) := by decide +kernel
theorem dX10_writesMove_19 : decode cX10_writesMove 19 = .ok (.iload_n 1, 1) := by decide +kernel
theorem dX10_writesMove_20 : decode cX10_writesMove 20 = .ok (.iconst 1, 1) := by decide +kernel
theorem dX10_writesMove_21 : decode cX10_writesMove 21 = .ok (.iadd, 1) := by decide +kernel
theorem dX10_writesMove_22 : decode cX10_writesMove 22 = .ok (.iaload, 1) := by decide +kernel
theorem dX10_writesMove_23 : decode cX10_writesMove 23 = .ok (.invokevirtual 300, 3) := by decide +kernel
theorem dX10_writesMove_26 : decode cX10_writesMove 26 = .ok (.iload_n 2, 1) := by decide +kernel
theorem dX10_writesMove_27 : decode cX10_writesMove 27 = .ok (.iconst 4, 1) := by decide +kernel
theorem dX10_writesMove_28 : decode cX10_writesMove 28 = .ok (.if_icmp .ne 15, 3) := by decide +kernel
theorem dX10_writesMove_31 : decode cX10_writesMove 31 = .ok (.aload_n 0, 1) := by decide +kernel
theorem dX10_writesMove_32 : decode cX10_writesMove 32 = .ok (.aload_n 0, 1) := by decide +kernel
theorem dX10_writesMove_33 : decode cX10_writesMove 33 = .ok (.getfield 13, 3) := by decide +kernel
theorem dX10_writesMove_36 : decode cX10_writesMove 36 = .ok (.iload_n 1, 1) := by decide +kernel
theorem dX10_writesMove_37 : decode cX10_writesMove 37 = .ok (.iconst 4, 1) := by decide +kernel
theorem dX10_writesMove_38 : decode cX10_writesMove 38 = .ok (.iadd, 1) := by decide +kernel
theorem dX10_writesMove_39 : decode cX10_writesMove 39 = .ok (.iaload, 1) := by decide +kernel
theorem dX10_writesMove_40 : decode cX10_writesMove 40 = .ok (.invokevirtual 300, 3) := by decide +kernel
theorem dX10_writesMove_43 : decode cX10_writesMove 43 = .ok (.aload_n 0, 1) := by decide +kernel
theorem dX10_writesMove_44 : decode cX10_writesMove 44 = .ok (.aload_n 0, 1) := by decide +kernel
theorem dX10_writesMove_45 : decode cX10_writesMove 45 = .ok (.getfield 13, 3) := by decide +kernel
theorem dX10_writesMove_48 : decode cX10_writesMove 48 = .ok (.iload_n 1, 1) := by decide +kernel
theorem dX10_writesMove_49 : decode cX10_writesMove 49 = .ok (.iconst 2, 1) := by decide +kernel
theorem dX10_writesMove_50 : decode cX10_writesMove 50 = .ok (.iadd, 1) := by decide +kernel
theorem dX10_writesMove_51 : decode cX10_writesMove 51 = .ok (.iaload, 1) := by decide +kernel
theorem dX10_writesMove_52 : decode cX10_writesMove 52 = .ok (.invokevirtual 300, 3) := by decide +kernel
theorem dX10_writesMove_55 : decode cX10_writesMove 55 = .ok (.iload_n 2, 1) := by decide +kernel
theorem dX10_writesMove_56 : decode cX10_writesMove 56 = .ok (.iconst 2, 1) := by decide +kernel
theorem dX10_writesMove_57 : decode cX10_writesMove 57 = .ok (.if_icmp .eq 20, 3) := by decide +kernel
theorem dX10_writesMove_60 : decode cX10_writesMove 60 = .ok (.iload_n 2, 1) := by decide +kernel
theorem dX10_writesMove_61 : decode cX10_writesMove 61 = .ok (.iconst 3, 1) := by decide +kernel
theorem dX10_writesMove_62 : decode cX10_writesMove 62 = .ok (.if_icmp .eq 15, 3) := by decide +kernel
theorem dX10_writesMove_65 : decode cX10_writesMove 65 = .ok (.aload_n 0, 1) := by decide +kernel
theorem dX10_writesMove_66 : decode cX10_writesMove 66 = .ok (.aload_n 0, 1) := by decide +kernel
theorem dX10_writesMove_67 : decode cX10_writesMove 67 = .ok (.getfield 13, 3) := by decide +kernel
theorem dX10_writesMove_70 : decode cX10_writesMove 70 = .ok (.iload_n 1, 1) := by decide +kernel
theorem dX10_writesMove_71 : decode cX10_writesMove 71 = .ok (.iconst 3, 1) := by decide +kernel
theorem dX10_writesMove_72 : decode cX10_writesMove 72 = .ok (.iadd, 1) := by decide +kernel
theorem dX10_writesMove_73 : decode cX10_writesMove 73 = .ok (.iaload, 1) := by decide +kernel
theorem dX10_writesMove_74 : decode cX10_writesMove 74 = .ok (.invokevirtual 300, 3) := by decide +kernel
theorem dX10_writesMove_77 : decode cX10_writesMove 77 = .ok (.aload_n 0, 1) := by decide +kernel
theorem dX10_writesMove_78 : decode cX10_writesMove 78 = .ok (.bipush 59, 2) := by decide +kernel
theorem dX10_writesMove_80 : decode cX10_writesMove 80 = .ok (.invokevirtual 291, 3) := by decide +kernel
theorem dX10_writesMove_83 : decode cX10_writesMove 83 = .ok (.return_, 1) := by decide +kernel
theorem dX10_spell_0 : decode cX10_spell 0 = .ok (.iload_n 1, 1) := by decide +kernel
theorem dX10_spell_1 : decode cX10_spell 1 = .ok (.iconst (-1), 1) := by decide +kernel
theorem dX10_spell_2 : decode cX10_spell 2 = .ok (.if_icmp .ge 5, 3) := by decide +kernel
theorem dX10_spell_5 : decode cX10_spell 5 = .ok (.iconst (-1), 1) := by decide +kernel
theorem dX10_spell_6 : decode cX10_spell 6 = .ok (.ireturn, 1) := by decide +kernel
theorem dX10_spell_7 : decode cX10_spell 7 = .ok (.aload_n 0, 1) := by decide +kernel
theorem dX10_spell_8 : decode cX10_spell 8 = .ok (.iconst 0, 1) := by decide +kernel
theorem dX10_spell_9 : decode cX10_spell 9 = .ok (.putfield 285, 3) := by decide +kernel
theorem dX10_spell_12 : decode cX10_spell 12 = .ok (.iconst 0, 1) := by decide +kernel
theorem dX10_spell_13 : decode cX10_spell 13 = .ok (.istore_n 2, 1) := by decide +kernel
theorem dX10_spell_14 : decode cX10_spell 14 = .ok (.iload_n 2, 1) := by decide +kernel
theorem dX10_spell_15 : decode cX10_spell 15 = .ok (.aload_n 0, 1) := by decide +kernel
theorem dX10_spell_16 : decode cX10_spell 16 = .ok (.getfield 13, 3) := by decide +kernel
theorem dX10_spell_19 : decode cX10_spell 19 = .ok (.iconst 0, 1) := by decide +kernel
theorem dX10_spell_20 : decode cX10_spell 20 = .ok (.iaload, 1) := by decide +kernel
theorem dX10_spell_21 : decode cX10_spell 21 = .ok (.if_icmp .ge 29, 3) := by decide +kernel
theorem dX10_spell_24 : decode cX10_spell 24 = .ok (.aload_n 0, 1) := by decide +kernel
theorem dX10_spell_25 : decode cX10_spell 25 = .ok (.iconst 0, 1) := by decide +kernel
theorem dX10_spell_26 : decode cX10_spell 26 = .ok (.invokevirtual 297, 3) := by decide +kernel
theorem dX10_spell_29 : decode cX10_spell 29 = .ok (.aload_n 0, 1) := by decide +kernel
theorem dX10_spell_30 : decode cX10_spell 30 = .ok (.aload_n 0, 1) := by decide +kernel
theorem dX10_spell_31 : decode cX10_spell 31 = .ok (.iload_n 2, 1) := by decide +kernel
theorem dX10_spell_32 : decode cX10_spell 32 = .ok (.invokevirtual 97, 3) := by decide +kernel
theorem dX10_spell_35 : decode cX10_spell 35 = .ok (.invokevirtual 300, 3) := by decide +kernel
theorem dX10_spell_38 : decode cX10_spell 38 = .ok (.aload_n 0, 1) := by decide +kernel
theorem dX10_spell_39 : decode cX10_spell 39 = .ok (.bipush 59, 2) := by decide +kernel
theorem dX10_spell_41 : decode cX10_spell 41 = .ok (.invokevirtual 291, 3) := by decide +kernel
theorem dX10_spell_44 : decode cX10_spell 44 = .ok (.iinc 2 1, 3) := by decide +kernel
theorem dX10_spell_47 : decode cX10_spell 47 = .ok (.goto (-33), 3) := by decide +kernel
theorem dX10_spell_50 : decode cX10_spell 50 = .ok (.iconst 0, 1) := by decide +kernel
theorem dX10_spell_51 : decode cX10_spell 51 = .ok (.istore_n 2, 1) := by decide +kernel
theorem dX10_spell_52 : decode cX10_spell 52 = .ok (.iload_n 2, 1) := by decide +kernel
theorem dX10_spell_53 : decode cX10_spell 53 = .ok (.aload_n 0, 1) := by decide +kernel
theorem dX10_spell_54 : decode cX10_spell 54 = .ok (.getfield 13, 3) := by decide +kernel
theorem dX10_spell_57 : decode cX10_spell 57 = .ok (.iconst 1, 1) := by decide +kernel
theorem dX10_spell_58 : decode cX10_spell 58 = .ok (.iaload, 1) := by decide +kernel
theorem dX10_spell_59 : decode cX10_spell 59 = .ok (.if_icmp .ge 55, 3) := by decide +kernel
theorem dX10_spell_62 : decode cX10_spell 62 = .ok (.aload_n 0, 1) := by decide +kernel
theorem dX10_spell_63 : decode cX10_spell 63 = .ok (.iconst 1, 1) := by decide +kernel
theorem dX10_spell_64 : decode cX10_spell 64 = .ok (.invokevirtual 297, 3) := by decide +kernel
theorem dX10_spell_67 : decode cX10_spell 67 = .ok (.iconst 0, 1) := by decide +kernel
theorem dX10_spell_68 : decode cX10_spell 68 = .ok (.istore_n 3, 1) := by decide +kernel
theorem dX10_spell_69 : decode cX10_spell 69 = .ok (.iload_n 3, 1) := by decide +kernel
theorem dX10_spell_70 : decode cX10_spell 70 = .ok (.aload_n 0, 1) := by decide +kernel
theorem dX10_spell_71 : decode cX10_spell 71 = .ok (.getfield 13, 3) := by decide +kernel
theorem dX10_spell_74 : decode cX10_spell 74 = .ok (.iconst 0, 1) := by decide +kernel
theorem dX10_spell_75 : decode cX10_spell 75 = .ok (.iaload, 1) := by decide +kernel
theorem dX10_spell_76 : decode cX10_spell 76 = .ok (.if_icmp .ge 26, 3) := by decide +kernel
theorem dX10_spell_79 : decode cX10_spell 79 = .ok (.aload_n 0, 1) := by decide +kernel
theorem dX10_spell_80 : decode cX10_spell 80 = .ok (.aload_n 0, 1) := by decide +kernel
theorem dX10_spell_81 : decode cX10_spell 81 = .ok (.getfield 13, 3) := by decide +kernel
theorem dX10_spell_84 : decode cX10_spell 84 = .ok (.bipush 32, 2) := by decide +kernel
theorem dX10_spell_86 : decode cX10_spell 86 = .ok (.iload_n 2, 1) := by decide +kernel
theorem dX10_spell_87 : decode cX10_spell 87 = .ok (.iload_n 3, 1) := by decide +kernel
theorem dX10_spell_88 : decode cX10_spell 88 = .ok (.invokestatic 101, 3) := by decide +kernel
theorem dX10_spell_91 : decode cX10_spell 91 = .ok (.iadd, 1) := by decide +kernel
theorem dX10_spell_92 : decode cX10_spell 92 = .ok (.iaload, 1) := by decide +kernel
theorem dX10_spell_93 : decode cX10_spell 93 = .ok (.invokevirtual 300, 3) := by decide +kernel
theorem dX10_spell_96 : decode cX10_spell 96 = .ok (.iinc 3 1, 3) := by decide +kernel
theorem dX10_spell_99 : decode cX10_spell 99 = .ok (.goto (-30), 3) := by decide +kernel
theorem dX10_spell_102 : decode cX10_spell 102 = .ok (.aload_n 0, 1) := by decide +kernel
theorem dX10_spell_103 : decode cX10_spell 103 = .ok (.bipush 59, 2) := by decide +kernel
theorem dX10_spell_105 : decode cX10_spell 105 = .ok (.invokevirtual 291, 3) := by decide +kernel
theorem dX10_spell_108 : decode cX10_spell 108 = .ok (.iinc 2 1, 3) := by decide +kernel
theorem dX10_spell_111 : decode cX10_spell 111 = .ok (.goto (-59), 3) := by decide +kernel
theorem dX10_spell_114 : decode cX10_spell 114 = .ok (.iconst 0, 1) := by decide +kernel
theorem dX10_spell_115 : decode cX10_spell 115 = .ok (.istore_n 2, 1) := by decide +kernel
theorem dX10_spell_116 : decode cX10_spell 116 = .ok (.iload_n 2, 1) := by decide +kernel
theorem dX10_spell_117 : decode cX10_spell 117 = .ok (.aload_n 0, 1) := by decide +kernel
theorem dX10_spell_118 : decode cX10_spell 118 = .ok (.getfield 13, 3) := by decide +kernel
theorem dX10_spell_121 : decode cX10_spell 121 = .ok (.bipush 56, 2) := by decide +kernel
theorem dX10_spell_123 : decode cX10_spell 123 = .ok (.iaload, 1) := by decide +kernel
theorem dX10_spell_124 : decode cX10_spell 124 = .ok (.if_icmp .ge 19, 3) := by decide +kernel
theorem dX10_spell_127 : decode cX10_spell 127 = .ok (.aload_n 0, 1) := by decide +kernel
theorem dX10_spell_128 : decode cX10_spell 128 = .ok (.bipush 57, 2) := by decide +kernel
theorem dX10_spell_130 : decode cX10_spell 130 = .ok (.iconst 5, 1) := by decide +kernel
theorem dX10_spell_131 : decode cX10_spell 131 = .ok (.iload_n 2, 1) := by decide +kernel
theorem dX10_spell_132 : decode cX10_spell 132 = .ok (.imul, 1) := by decide +kernel
theorem dX10_spell_133 : decode cX10_spell 133 = .ok (.iadd, 1) := by decide +kernel
theorem dX10_spell_134 : decode cX10_spell 134 = .ok (.invokevirtual 303, 3) := by decide +kernel
theorem dX10_spell_137 : decode cX10_spell 137 = .ok (.iinc 2 1, 3) := by decide +kernel
theorem dX10_spell_140 : decode cX10_spell 140 = .ok (.goto (-24), 3) := by decide +kernel
theorem dX10_spell_143 : decode cX10_spell 143 = .ok (.iconst 0, 1) := by decide +kernel
theorem dX10_spell_144 : decode cX10_spell 144 = .ok (.istore_n 2, 1) := by decide +kernel
theorem dX10_spell_145 : decode cX10_spell 145 = .ok (.iload_n 2, 1) := by decide +kernel
theorem dX10_spell_146 : decode cX10_spell 146 = .ok (.aload_n 0, 1) := by decide +kernel
theorem dX10_spell_147 : decode cX10_spell 147 = .ok (.getfield 13, 3) := by decide +kernel
theorem dX10_spell_150 : decode cX10_spell 150 = .ok (.sipush 177, 3) := by decide +kernel
theorem dX10_spell_153 : decode cX10_spell 153 = .ok (.iaload, 1) := by decide +kernel
theorem dX10_spell_154 : decode cX10_spell 154 = .ok (.if_icmp .ge 52, 3) := by decide +kernel
theorem dX10_spell_157 : decode cX10_spell 157 = .ok (.aload_n 0, 1) := by decide +kernel
theorem dX10_spell_158 : decode cX10_spell 158 = .ok (.bipush 7, 2) := by decide +kernel
theorem dX10_spell_160 : decode cX10_spell 160 = .ok (.invokevirtual 297, 3) := by decide +kernel
theorem dX10_spell_163 : decode cX10_spell 163 = .ok (.iconst 0, 1) := by decide +kernel
theorem dX10_spell_164 : decode cX10_spell 164 = .ok (.istore_n 3, 1) := by decide +kernel
theorem dX10_spell_165 : decode cX10_spell 165 = .ok (.iload_n 3, 1) := by decide +kernel
theorem dX10_spell_166 : decode cX10_spell 166 = .ok (.iconst 4, 1) := by decide +kernel
theorem dX10_spell_167 : decode cX10_spell 167 = .ok (.if_icmp .ge 27, 3) := by decide +kernel
theorem dX10_spell_170 : decode cX10_spell 170 = .ok (.aload_n 0, 1) := by decide +kernel
theorem dX10_spell_171 : decode cX10_spell 171 = .ok (.aload_n 0, 1) := by decide +kernel
theorem dX10_spell_172 : decode cX10_spell 172 = .ok (.getfield 13, 3) := by decide +kernel
theorem dX10_spell_175 : decode cX10_spell 175 = .ok (.sipush 178, 3) := by decide +kernel
theorem dX10_spell_178 : decode cX10_spell 178 = .ok (.iconst 4, 1) := by decide +kernel
theorem dX10_spell_179 : decode cX10_spell 179 = .ok (.iload_n 2, 1) := by decide +kernel
theorem dX10_spell_180 : decode cX10_spell 180 = .ok (.imul, 1) := by decide +kernel
theorem dX10_spell_181 : decode cX10_spell 181 = .ok (.iadd, 1) := by decide +kernel
theorem dX10_spell_182 : decode cX10_spell 182 = .ok (.iload_n 3, 1) := by decide +kernel
theorem dX10_spell_183 : decode cX10_spell 183 = .ok (.iadd, 1) := by decide +kernel
theorem dX10_spell_184 : decode cX10_spell 184 = .ok (.iaload, 1) := by decide +kernel
theorem dX10_spell_185 : decode cX10_spell 185 = .ok (.invokevirtual 300, 3) := by decide +kernel
theorem dX10_spell_188 : decode cX10_spell 188 = .ok (.iinc 3 1, 3) := by decide +kernel
theorem dX10_spell_191 : decode cX10_spell 191 = .ok (.goto (-26), 3) := by decide +kernel
theorem dX10_spell_194 : decode cX10_spell 194 = .ok (.aload_n 0, 1) := by decide +kernel
theorem dX10_spell_195 : decode cX10_spell 195 = .ok (.bipush 59, 2) := by decide +kernel
theorem dX10_spell_197 : decode cX10_spell 197 = .ok (.invokevirtual 291, 3) := by decide +kernel
theorem dX10_spell_200 : decode cX10_spell 200 = .ok (.iinc 2 1, 3) := by decide +kernel
theorem dX10_spell_203 : decode cX10_spell 203 = .ok (.goto (-58), 3) := by decide +kernel
theorem dX10_spell_206 : decode cX10_spell 206 = .ok (.aload_n 0, 1) := by decide +kernel
theorem dX10_spell_207 : decode cX10_spell 207 = .ok (.iload_n 1, 1) := by decide +kernel
theorem dX10_spell_208 : decode cX10_spell 208 = .ok (.invokevirtual 306, 3) := by decide +kernel
theorem dX10_spell_211 : decode cX10_spell 211 = .ok (.ireturn, 1) := by decide +kernel
theorem dX10_report_0 : decode cX10_report 0 = .ok (.aload_n 0, 1) := by decide +kernel
theorem dX10_report_1 : decode cX10_report 1 = .ok (.iload_n 1, 1) := by decide +kernel
theorem dX10_report_2 : decode cX10_report 2 = .ok (.invokevirtual 90, 3) := by decide +kernel
theorem dX10_report_5 : decode cX10_report 5 = .ok (.ifCond .eq 8, 3) := by decide +kernel
theorem dX10_report_8 : decode cX10_report 8 = .ok (.iload_n 2, 1) := by decide +kernel
theorem dX10_report_9 : decode cX10_report 9 = .ok (.iconst (-1), 1) := by decide +kernel
theorem dX10_report_10 : decode cX10_report 10 = .ok (.if_icmp .ge 5, 3) := by decide +kernel
theorem dX10_report_13 : decode cX10_report 13 = .ok (.iconst (-1), 1) := by decide +kernel
theorem dX10_report_14 : decode cX10_report 14 = .ok (.ireturn, 1) := by decide +kernel
theorem dX10_report_15 : decode cX10_report 15 = .ok (.aload_n 0, 1) := by decide +kernel
theorem dX10_report_16 : decode cX10_report 16 = .ok (.iconst 0, 1) := by decide +kernel
theorem dX10_report_17 : decode cX10_report 17 = .ok (.putfield 285, 3) := by decide +kernel
theorem dX10_report_20 : decode cX10_report 20 = .ok (.aload_n 0, 1) := by decide +kernel
theorem dX10_report_21 : decode cX10_report 21 = .ok (.getfield 13, 3) := by decide +kernel
theorem dX10_report_24 : decode cX10_report 24 = .ok (.iconst 0, 1) := by decide +kernel
theorem dX10_report_25 : decode cX10_report 25 = .ok (.iaload, 1) := by decide +kernel
theorem dX10_report_26 : decode cX10_report 26 = .ok (.iconst 1, 1) := by decide +kernel
theorem dX10_report_27 : decode cX10_report 27 = .ok (.isub, 1) := by decide +kernel
theorem dX10_report_28 : decode cX10_report 28 = .ok (.istore_n 3, 1) := by decide +kernel
theorem dX10_report_29 : decode cX10_report 29 = .ok (.iload_n 3, 1) := by decide +kernel
theorem dX10_report_30 : decode cX10_report 30 = .ok (.ifCond .lt 58, 3) := by decide +kernel
theorem dX10_report_33 : decode cX10_report 33 = .ok (.aload_n 0, 1) := by decide +kernel
theorem dX10_report_34 : decode cX10_report 34 = .ok (.iload_n 1, 1) := by decide +kernel
theorem dX10_report_35 : decode cX10_report 35 = .ok (.iload_n 3, 1) := by decide +kernel
theorem dX10_report_36 : decode cX10_report 36 = .ok (.invokevirtual 105, 3) := by decide +kernel
theorem dX10_report_39 : decode cX10_report 39 = .ok (.ifCond .ne 6, 3) := by decide +kernel
theorem dX10_report_42 : decode cX10_report 42 = .ok (.goto 40, 3) := by decide +kernel
theorem dX10_report_45 : decode cX10_report 45 = .ok (.aload_n 0, 1) := by decide +kernel
theorem dX10_report_46 : decode cX10_report 46 = .ok (.aload_n 0, 1) := by decide +kernel
theorem dX10_report_47 : decode cX10_report 47 = .ok (.iload_n 1, 1) := by decide +kernel
theorem dX10_report_48 : decode cX10_report 48 = .ok (.iload_n 3, 1) := by decide +kernel
theorem dX10_report_49 : decode cX10_report 49 = .ok (.invokevirtual 105, 3) := by decide +kernel
theorem dX10_report_52 : decode cX10_report 52 = .ok (.invokevirtual 294, 3) := by decide +kernel
theorem dX10_report_55 : decode cX10_report 55 = .ok (.aload_n 0, 1) := by decide +kernel
theorem dX10_report_56 : decode cX10_report 56 = .ok (.bipush 32, 2) := by decide +kernel
theorem dX10_report_58 : decode cX10_report 58 = .ok (.invokevirtual 291, 3) := by decide +kernel
theorem dX10_report_61 : decode cX10_report 61 = .ok (.aload_n 0, 1) := by decide +kernel
theorem dX10_report_62 : decode cX10_report 62 = .ok (.bipush 8, 2) := by decide +kernel
theorem dX10_report_64 : decode cX10_report 64 = .ok (.invokevirtual 297, 3) := by decide +kernel
theorem dX10_report_67 : decode cX10_report 67 = .ok (.aload_n 0, 1) := by decide +kernel
theorem dX10_report_68 : decode cX10_report 68 = .ok (.aload_n 0, 1) := by decide +kernel
theorem dX10_report_69 : decode cX10_report 69 = .ok (.iload_n 3, 1) := by decide +kernel
theorem dX10_report_70 : decode cX10_report 70 = .ok (.invokevirtual 108, 3) := by decide +kernel
theorem dX10_report_73 : decode cX10_report 73 = .ok (.invokevirtual 300, 3) := by decide +kernel
theorem dX10_report_76 : decode cX10_report 76 = .ok (.aload_n 0, 1) := by decide +kernel
theorem dX10_report_77 : decode cX10_report 77 = .ok (.bipush 59, 2) := by decide +kernel
theorem dX10_report_79 : decode cX10_report 79 = .ok (.invokevirtual 291, 3) := by decide +kernel
theorem dX10_report_82 : decode cX10_report 82 = .ok (.iinc 3 (-1), 3) := by decide +kernel
theorem dX10_report_85 : decode cX10_report 85 = .ok (.goto (-56), 3) := by decide +kernel
theorem dX10_report_88 : decode cX10_report 88 = .ok (.aload_n 0, 1) := by decide +kernel
theorem dX10_report_89 : decode cX10_report 89 = .ok (.bipush 9, 2) := by decide +kernel
theorem dX10_report_91 : decode cX10_report 91 = .ok (.invokevirtual 297, 3) := by decide +kernel
theorem dX10_report_94 : decode cX10_report 94 = .ok (.aload_n 0, 1) := by decide +kernel
theorem dX10_report_95 : decode cX10_report 95 = .ok (.aload_n 0, 1) := by decide +kernel
theorem dX10_report_96 : decode cX10_report 96 = .ok (.iload_n 1, 1) := by decide +kernel
theorem dX10_report_97 : decode cX10_report 97 = .ok (.invokevirtual 121, 3) := by decide +kernel
theorem dX10_report_100 : decode cX10_report 100 = .ok (.invokevirtual 300, 3) := by decide +kernel
theorem dX10_report_103 : decode cX10_report 103 = .ok (.aload_n 0, 1) := by decide +kernel
theorem dX10_report_104 : decode cX10_report 104 = .ok (.bipush 59, 2) := by decide +kernel
theorem dX10_report_106 : decode cX10_report 106 = .ok (.invokevirtual 291, 3) := by decide +kernel
