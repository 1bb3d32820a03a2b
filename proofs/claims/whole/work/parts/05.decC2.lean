theorem dX5_countWays_9 : decode cX5_countWays 9 = .ok (.getfield 18, 3) := by decide +kernel
theorem dX5_countWays_12 : decode cX5_countWays 12 = .ok (.iconst 0, 1) := by decide +kernel
theorem dX5_countWays_13 : decode cX5_countWays 13 = .ok (.lconst 1, 1) := by decide +kernel
theorem dX5_countWays_14 : decode cX5_countWays 14 = .ok (.lastore, 1) := by decide +kernel
theorem dX5_countWays_15 : decode cX5_countWays 15 = .ok (.iload_n 3, 1) := by decide +kernel
theorem dX5_countWays_16 : decode cX5_countWays 16 = .ok (.istore 4, 2) := by decide +kernel
theorem dX5_countWays_18 : decode cX5_countWays 18 = .ok (.iconst 0, 1) := by decide +kernel
theorem dX5_countWays_19 : decode cX5_countWays 19 = .ok (.istore 5, 2) := by decide +kernel
theorem dX5_countWays_21 : decode cX5_countWays 21 = .ok (.iload 5, 2) := by decide +kernel
theorem dX5_countWays_23 : decode cX5_countWays 23 = .ok (.aload_n 1, 1) := by decide +kernel
theorem dX5_countWays_24 : decode cX5_countWays 24 = .ok (.getfield 25, 3) := by decide +kernel
theorem dX5_countWays_27 : decode cX5_countWays 27 = .ok (.iconst 1, 1) := by decide +kernel
theorem dX5_countWays_28 : decode cX5_countWays 28 = .ok (.isub, 1) := by decide +kernel
theorem dX5_countWays_29 : decode cX5_countWays 29 = .ok (.if_icmp .ge 124, 3) := by decide +kernel
theorem dX5_countWays_32 : decode cX5_countWays 32 = .ok (.aload_n 0, 1) := by decide +kernel
theorem dX5_countWays_33 : decode cX5_countWays 33 = .ok (.aload_n 0, 1) := by decide +kernel
theorem dX5_countWays_34 : decode cX5_countWays 34 = .ok (.getfield 22, 3) := by decide +kernel
theorem dX5_countWays_37 : decode cX5_countWays 37 = .ok (.invokevirtual 73, 3) := by decide +kernel
theorem dX5_countWays_40 : decode cX5_countWays 40 = .ok (.aload_n 1, 1) := by decide +kernel
theorem dX5_countWays_41 : decode cX5_countWays 41 = .ok (.getfield 37, 3) := by decide +kernel
theorem dX5_countWays_44 : decode cX5_countWays 44 = .ok (.iload 5, 2) := by decide +kernel
theorem dX5_countWays_46 : decode cX5_countWays 46 = .ok (.iconst 1, 1) := by decide +kernel
theorem dX5_countWays_47 : decode cX5_countWays 47 = .ok (.iadd, 1) := by decide +kernel
theorem dX5_countWays_48 : decode cX5_countWays 48 = .ok (.iaload, 1) := by decide +kernel
theorem dX5_countWays_49 : decode cX5_countWays 49 = .ok (.istore 6, 2) := by decide +kernel
theorem dX5_countWays_51 : decode cX5_countWays 51 = .ok (.iconst 0, 1) := by decide +kernel
theorem dX5_countWays_52 : decode cX5_countWays 52 = .ok (.istore 7, 2) := by decide +kernel
theorem dX5_countWays_54 : decode cX5_countWays 54 = .ok (.iload 7, 2) := by decide +kernel
theorem dX5_countWays_56 : decode cX5_countWays 56 = .ok (.bipush 100, 2) := by decide +kernel
theorem dX5_countWays_58 : decode cX5_countWays 58 = .ok (.if_icmp .ge 53, 3) := by decide +kernel
theorem dX5_countWays_61 : decode cX5_countWays 61 = .ok (.aload_n 0, 1) := by decide +kernel
theorem dX5_countWays_62 : decode cX5_countWays 62 = .ok (.getfield 18, 3) := by decide +kernel
theorem dX5_countWays_65 : decode cX5_countWays 65 = .ok (.iload 7, 2) := by decide +kernel
theorem dX5_countWays_67 : decode cX5_countWays 67 = .ok (.laload, 1) := by decide +kernel
theorem dX5_countWays_68 : decode cX5_countWays 68 = .ok (.lconst 0, 1) := by decide +kernel
theorem dX5_countWays_69 : decode cX5_countWays 69 = .ok (.lcmp, 1) := by decide +kernel
theorem dX5_countWays_70 : decode cX5_countWays 70 = .ok (.ifCond .eq 35, 3) := by decide +kernel
theorem dX5_countWays_73 : decode cX5_countWays 73 = .ok (.aload_n 0, 1) := by decide +kernel
theorem dX5_countWays_74 : decode cX5_countWays 74 = .ok (.iload 4, 2) := by decide +kernel
theorem dX5_countWays_76 : decode cX5_countWays 76 = .ok (.iload 7, 2) := by decide +kernel
theorem dX5_countWays_78 : decode cX5_countWays 78 = .ok (.isub, 1) := by decide +kernel
theorem dX5_countWays_79 : decode cX5_countWays 79 = .ok (.aload_n 1, 1) := by decide +kernel
theorem dX5_countWays_80 : decode cX5_countWays 80 = .ok (.getfield 34, 3) := by decide +kernel
theorem dX5_countWays_83 : decode cX5_countWays 83 = .ok (.iload_n 2, 1) := by decide +kernel
theorem dX5_countWays_84 : decode cX5_countWays 84 = .ok (.bipush 6, 2) := by decide +kernel
theorem dX5_countWays_86 : decode cX5_countWays 86 = .ok (.imul, 1) := by decide +kernel
theorem dX5_countWays_87 : decode cX5_countWays 87 = .ok (.iload 5, 2) := by decide +kernel
theorem dX5_countWays_89 : decode cX5_countWays 89 = .ok (.iadd, 1) := by decide +kernel
theorem dX5_countWays_90 : decode cX5_countWays 90 = .ok (.iaload, 1) := by decide +kernel
theorem dX5_countWays_91 : decode cX5_countWays 91 = .ok (.iload 6, 2) := by decide +kernel
theorem dX5_countWays_93 : decode cX5_countWays 93 = .ok (.iload 4, 2) := by decide +kernel
theorem dX5_countWays_95 : decode cX5_countWays 95 = .ok (.aload_n 0, 1) := by decide +kernel
theorem dX5_countWays_96 : decode cX5_countWays 96 = .ok (.getfield 18, 3) := by decide +kernel
theorem dX5_countWays_99 : decode cX5_countWays 99 = .ok (.iload 7, 2) := by decide +kernel
theorem dX5_countWays_101 : decode cX5_countWays 101 = .ok (.laload, 1) := by decide +kernel
theorem dX5_countWays_102 : decode cX5_countWays 102 = .ok (.invokevirtual 77, 3) := by decide +kernel
theorem dX5_countWays_105 : decode cX5_countWays 105 = .ok (.iinc 7 1, 3) := by decide +kernel
theorem dX5_countWays_108 : decode cX5_countWays 108 = .ok (.goto (-54), 3) := by decide +kernel
theorem dX5_countWays_111 : decode cX5_countWays 111 = .ok (.aload_n 0, 1) := by decide +kernel
theorem dX5_countWays_112 : decode cX5_countWays 112 = .ok (.getfield 18, 3) := by decide +kernel
theorem dX5_countWays_115 : decode cX5_countWays 115 = .ok (.astore 7, 2) := by decide +kernel
theorem dX5_countWays_117 : decode cX5_countWays 117 = .ok (.aload_n 0, 1) := by decide +kernel
theorem dX5_countWays_118 : decode cX5_countWays 118 = .ok (.aload_n 0, 1) := by decide +kernel
theorem dX5_countWays_119 : decode cX5_countWays 119 = .ok (.getfield 22, 3) := by decide +kernel
theorem dX5_countWays_122 : decode cX5_countWays 122 = .ok (.putfield 18, 3) := by decide +kernel
theorem dX5_countWays_125 : decode cX5_countWays 125 = .ok (.aload_n 0, 1) := by decide +kernel
theorem dX5_countWays_126 : decode cX5_countWays 126 = .ok (.aload 7, 2) := by decide +kernel
theorem dX5_countWays_128 : decode cX5_countWays 128 = .ok (.putfield 22, 3) := by decide +kernel
theorem dX5_countWays_131 : decode cX5_countWays 131 = .ok (.iload 6, 2) := by decide +kernel
theorem dX5_countWays_133 : decode cX5_countWays 133 = .ok (.ifCond .le 11, 3) := by decide +kernel
theorem dX5_countWays_136 : decode cX5_countWays 136 = .ok (.iload 4, 2) := by decide +kernel
theorem dX5_countWays_138 : decode cX5_countWays 138 = .ok (.iload 6, 2) := by decide +kernel
theorem dX5_countWays_140 : decode cX5_countWays 140 = .ok (.idiv, 1) := by decide +kernel
theorem dX5_countWays_141 : decode cX5_countWays 141 = .ok (.goto 4, 3) := by decide +kernel
theorem dX5_countWays_144 : decode cX5_countWays 144 = .ok (.iconst 0, 1) := by decide +kernel
theorem dX5_countWays_145 : decode cX5_countWays 145 = .ok (.istore 4, 2) := by decide +kernel
theorem dX5_countWays_147 : decode cX5_countWays 147 = .ok (.iinc 5 1, 3) := by decide +kernel
theorem dX5_countWays_150 : decode cX5_countWays 150 = .ok (.goto (-129), 3) := by decide +kernel
theorem dX5_countWays_153 : decode cX5_countWays 153 = .ok (.aload_n 0, 1) := by decide +kernel
theorem dX5_countWays_154 : decode cX5_countWays 154 = .ok (.iload 4, 2) := by decide +kernel
theorem dX5_countWays_156 : decode cX5_countWays 156 = .ok (.aload_n 1, 1) := by decide +kernel
theorem dX5_countWays_157 : decode cX5_countWays 157 = .ok (.getfield 34, 3) := by decide +kernel
theorem dX5_countWays_160 : decode cX5_countWays 160 = .ok (.iload_n 2, 1) := by decide +kernel
theorem dX5_countWays_161 : decode cX5_countWays 161 = .ok (.bipush 6, 2) := by decide +kernel
theorem dX5_countWays_163 : decode cX5_countWays 163 = .ok (.imul, 1) := by decide +kernel
theorem dX5_countWays_164 : decode cX5_countWays 164 = .ok (.iconst 0, 1) := by decide +kernel
theorem dX5_countWays_165 : decode cX5_countWays 165 = .ok (.aload_n 1, 1) := by decide +kernel
theorem dX5_countWays_166 : decode cX5_countWays 166 = .ok (.getfield 25, 3) := by decide +kernel
theorem dX5_countWays_169 : decode cX5_countWays 169 = .ok (.iconst 1, 1) := by decide +kernel
theorem dX5_countWays_170 : decode cX5_countWays 170 = .ok (.isub, 1) := by decide +kernel
theorem dX5_countWays_171 : decode cX5_countWays 171 = .ok (.invokestatic 81, 3) := by decide +kernel
theorem dX5_countWays_174 : decode cX5_countWays 174 = .ok (.iadd, 1) := by decide +kernel
theorem dX5_countWays_175 : decode cX5_countWays 175 = .ok (.iaload, 1) := by decide +kernel
theorem dX5_countWays_176 : decode cX5_countWays 176 = .ok (.invokevirtual 84, 3) := by decide +kernel
theorem dX5_countWays_179 : decode cX5_countWays 179 = .ok (.lreturn, 1) := by decide +kernel
theorem dX5_clearWays_0 : decode cX5_clearWays 0 = .ok (.iconst 0, 1) := by decide +kernel
theorem dX5_clearWays_1 : decode cX5_clearWays 1 = .ok (.istore_n 2, 1) := by decide +kernel
theorem dX5_clearWays_2 : decode cX5_clearWays 2 = .ok (.iload_n 2, 1) := by decide +kernel
theorem dX5_clearWays_3 : decode cX5_clearWays 3 = .ok (.bipush 100, 2) := by decide +kernel
theorem dX5_clearWays_5 : decode cX5_clearWays 5 = .ok (.if_icmp .ge 13, 3) := by decide +kernel
theorem dX5_clearWays_8 : decode cX5_clearWays 8 = .ok (.aload_n 1, 1) := by decide +kernel
theorem dX5_clearWays_9 : decode cX5_clearWays 9 = .ok (.iload_n 2, 1) := by decide +kernel
theorem dX5_clearWays_10 : decode cX5_clearWays 10 = .ok (.lconst 0, 1) := by decide +kernel
theorem dX5_clearWays_11 : decode cX5_clearWays 11 = .ok (.lastore, 1) := by decide +kernel
theorem dX5_clearWays_12 : decode cX5_clearWays 12 = .ok (.iinc 2 1, 3) := by decide +kernel
theorem dX5_clearWays_15 : decode cX5_clearWays 15 = .ok (.goto (-13), 3) := by decide +kernel
theorem dX5_clearWays_18 : decode cX5_clearWays 18 = .ok (.return_, 1) := by decide +kernel
theorem dX5_spreadWays_0 : decode cX5_spreadWays 0 = .ok (.iload_n 3, 1) := by decide +kernel
theorem dX5_spreadWays_1 : decode cX5_spreadWays 1 = .ok (.iconst 1, 1) := by decide +kernel
theorem dX5_spreadWays_2 : decode cX5_spreadWays 2 = .ok (.if_icmp .lt 7, 3) := by decide +kernel
theorem dX5_spreadWays_5 : decode cX5_spreadWays 5 = .ok (.iload_n 1, 1) := by decide +kernel
theorem dX5_spreadWays_6 : decode cX5_spreadWays 6 = .ok (.ifCond .ge 4, 3) := by decide +kernel
theorem dX5_spreadWays_9 : decode cX5_spreadWays 9 = .ok (.return_, 1) := by decide +kernel
theorem dX5_spreadWays_10 : decode cX5_spreadWays 10 = .ok (.iload_n 2, 1) := by decide +kernel
theorem dX5_spreadWays_11 : decode cX5_spreadWays 11 = .ok (.iload_n 1, 1) := by decide +kernel
theorem dX5_spreadWays_12 : decode cX5_spreadWays 12 = .ok (.invokestatic 53, 3) := by decide +kernel
theorem dX5_spreadWays_15 : decode cX5_spreadWays 15 = .ok (.istore 7, 2) := by decide +kernel
theorem dX5_spreadWays_17 : decode cX5_spreadWays 17 = .ok (.iload_n 1, 1) := by decide +kernel
theorem dX5_spreadWays_18 : decode cX5_spreadWays 18 = .ok (.iload_n 3, 1) := by decide +kernel
theorem dX5_spreadWays_19 : decode cX5_spreadWays 19 = .ok (.irem, 1) := by decide +kernel
theorem dX5_spreadWays_20 : decode cX5_spreadWays 20 = .ok (.istore 8, 2) := by decide +kernel
theorem dX5_spreadWays_22 : decode cX5_spreadWays 22 = .ok (.iload 8, 2) := by decide +kernel
theorem dX5_spreadWays_24 : decode cX5_spreadWays 24 = .ok (.iload 7, 2) := by decide +kernel
theorem dX5_spreadWays_26 : decode cX5_spreadWays 26 = .ok (.if_icmp .gt 49, 3) := by decide +kernel
theorem dX5_spreadWays_29 : decode cX5_spreadWays 29 = .ok (.iload 4, 2) := by decide +kernel
theorem dX5_spreadWays_31 : decode cX5_spreadWays 31 = .ok (.iload_n 3, 1) := by decide +kernel
theorem dX5_spreadWays_32 : decode cX5_spreadWays 32 = .ok (.idiv, 1) := by decide +kernel
theorem dX5_spreadWays_33 : decode cX5_spreadWays 33 = .ok (.iload_n 1, 1) := by decide +kernel
theorem dX5_spreadWays_34 : decode cX5_spreadWays 34 = .ok (.iload 8, 2) := by decide +kernel
theorem dX5_spreadWays_36 : decode cX5_spreadWays 36 = .ok (.isub, 1) := by decide +kernel
theorem dX5_spreadWays_37 : decode cX5_spreadWays 37 = .ok (.iload_n 3, 1) := by decide +kernel
theorem dX5_spreadWays_38 : decode cX5_spreadWays 38 = .ok (.idiv, 1) := by decide +kernel
theorem dX5_spreadWays_39 : decode cX5_spreadWays 39 = .ok (.isub, 1) := by decide +kernel
theorem dX5_spreadWays_40 : decode cX5_spreadWays 40 = .ok (.istore 9, 2) := by decide +kernel
theorem dX5_spreadWays_42 : decode cX5_spreadWays 42 = .ok (.iload 9, 2) := by decide +kernel
theorem dX5_spreadWays_44 : decode cX5_spreadWays 44 = .ok (.ifCond .lt 22, 3) := by decide +kernel
theorem dX5_spreadWays_47 : decode cX5_spreadWays 47 = .ok (.iload 9, 2) := by decide +kernel
theorem dX5_spreadWays_49 : decode cX5_spreadWays 49 = .ok (.bipush 100, 2) := by decide +kernel
theorem dX5_spreadWays_51 : decode cX5_spreadWays 51 = .ok (.if_icmp .ge 15, 3) := by decide +kernel
theorem dX5_spreadWays_54 : decode cX5_spreadWays 54 = .ok (.aload_n 0, 1) := by decide +kernel
theorem dX5_spreadWays_55 : decode cX5_spreadWays 55 = .ok (.getfield 22, 3) := by decide +kernel
theorem dX5_spreadWays_58 : decode cX5_spreadWays 58 = .ok (.iload 9, 2) := by decide +kernel
theorem dX5_spreadWays_60 : decode cX5_spreadWays 60 = .ok (.dup2, 1) := by decide +kernel
theorem dX5_spreadWays_61 : decode cX5_spreadWays 61 = .ok (.laload, 1) := by decide +kernel
theorem dX5_spreadWays_62 : decode cX5_spreadWays 62 = .ok (.lload 5, 2) := by decide +kernel
theorem dX5_spreadWays_64 : decode cX5_spreadWays 64 = .ok (.ladd, 1) := by decide +kernel
theorem dX5_spreadWays_65 : decode cX5_spreadWays 65 = .ok (.lastore, 1) := by decide +kernel
theorem dX5_spreadWays_66 : decode cX5_spreadWays 66 = .ok (.iload 8, 2) := by decide +kernel
theorem dX5_spreadWays_68 : decode cX5_spreadWays 68 = .ok (.iload_n 3, 1) := by decide +kernel
theorem dX5_spreadWays_69 : decode cX5_spreadWays 69 = .ok (.iadd, 1) := by decide +kernel
theorem dX5_spreadWays_70 : decode cX5_spreadWays 70 = .ok (.istore 8, 2) := by decide +kernel
theorem dX5_spreadWays_72 : decode cX5_spreadWays 72 = .ok (.goto (-50), 3) := by decide +kernel
theorem dX5_spreadWays_75 : decode cX5_spreadWays 75 = .ok (.return_, 1) := by decide +kernel
theorem dX5_countTop_0 : decode cX5_countTop 0 = .ok (.lconst 0, 1) := by decide +kernel
theorem dX5_countTop_1 : decode cX5_countTop 1 = .ok (.lstore_n 3, 1) := by decide +kernel
theorem dX5_countTop_2 : decode cX5_countTop 2 = .ok (.iconst 0, 1) := by decide +kernel
theorem dX5_countTop_3 : decode cX5_countTop 3 = .ok (.istore 5, 2) := by decide +kernel
theorem dX5_countTop_5 : decode cX5_countTop 5 = .ok (.iload 5, 2) := by decide +kernel
theorem dX5_countTop_7 : decode cX5_countTop 7 = .ok (.bipush 100, 2) := by decide +kernel
theorem dX5_countTop_9 : decode cX5_countTop 9 = .ok (.if_icmp .ge 33, 3) := by decide +kernel
theorem dX5_countTop_12 : decode cX5_countTop 12 = .ok (.iload_n 1, 1) := by decide +kernel
theorem dX5_countTop_13 : decode cX5_countTop 13 = .ok (.iload 5, 2) := by decide +kernel
theorem dX5_countTop_15 : decode cX5_countTop 15 = .ok (.if_icmp .lt 21, 3) := by decide +kernel
theorem dX5_countTop_18 : decode cX5_countTop 18 = .ok (.iload_n 1, 1) := by decide +kernel
theorem dX5_countTop_19 : decode cX5_countTop 19 = .ok (.iload 5, 2) := by decide +kernel
theorem dX5_countTop_21 : decode cX5_countTop 21 = .ok (.isub, 1) := by decide +kernel
theorem dX5_countTop_22 : decode cX5_countTop 22 = .ok (.iload_n 2, 1) := by decide +kernel
theorem dX5_countTop_23 : decode cX5_countTop 23 = .ok (.if_icmp .gt 13, 3) := by decide +kernel
theorem dX5_countTop_26 : decode cX5_countTop 26 = .ok (.lload_n 3, 1) := by decide +kernel
theorem dX5_countTop_27 : decode cX5_countTop 27 = .ok (.aload_n 0, 1) := by decide +kernel
theorem dX5_countTop_28 : decode cX5_countTop 28 = .ok (.getfield 18, 3) := by decide +kernel
theorem dX5_countTop_31 : decode cX5_countTop 31 = .ok (.iload 5, 2) := by decide +kernel
theorem dX5_countTop_33 : decode cX5_countTop 33 = .ok (.laload, 1) := by decide +kernel
theorem dX5_countTop_34 : decode cX5_countTop 34 = .ok (.ladd, 1) := by decide +kernel
theorem dX5_countTop_35 : decode cX5_countTop 35 = .ok (.lstore_n 3, 1) := by decide +kernel
theorem dX5_countTop_36 : decode cX5_countTop 36 = .ok (.iinc 5 1, 3) := by decide +kernel
theorem dX5_countTop_39 : decode cX5_countTop 39 = .ok (.goto (-34), 3) := by decide +kernel
theorem dX5_countTop_42 : decode cX5_countTop 42 = .ok (.lload_n 3, 1) := by decide +kernel
theorem dX5_countTop_43 : decode cX5_countTop 43 = .ok (.lreturn, 1) := by decide +kernel
theorem dX6_init_0 : decode cX6_init 0 = .ok (.aload_n 0, 1) := by decide +kernel
theorem dX6_init_1 : decode cX6_init 1 = .ok (.invokespecial 3, 3) := by decide +kernel
theorem dX6_init_4 : decode cX6_init 4 = .ok (.aload_n 0, 1) := by decide +kernel
theorem dX6_init_5 : decode cX6_init 5 = .ok (.new 9, 3) := by decide +kernel
theorem dX6_init_8 : decode cX6_init 8 = .ok (.dup, 1) := by decide +kernel
theorem dX6_init_9 : decode cX6_init 9 = .ok (.invokespecial 11, 3) := by decide +kernel
theorem dX6_init_12 : decode cX6_init 12 = .ok (.putfield 12, 3) := by decide +kernel
theorem dX6_init_15 : decode cX6_init 15 = .ok (.aload_n 0, 1) := by decide +kernel
theorem dX6_init_16 : decode cX6_init 16 = .ok (.new 18, 3) := by decide +kernel
theorem dX6_init_19 : decode cX6_init 19 = .ok (.dup, 1) := by decide +kernel
theorem dX6_init_20 : decode cX6_init 20 = .ok (.invokespecial 20, 3) := by decide +kernel
theorem dX6_init_23 : decode cX6_init 23 = .ok (.putfield 21, 3) := by decide +kernel
theorem dX6_init_26 : decode cX6_init 26 = .ok (.aload_n 0, 1) := by decide +kernel
theorem dX6_init_27 : decode cX6_init 27 = .ok (.iconst 4, 1) := by decide +kernel
theorem dX6_init_28 : decode cX6_init 28 = .ok (.newarray .int, 2) := by decide +kernel
theorem dX6_init_30 : decode cX6_init 30 = .ok (.putfield 25, 3) := by decide +kernel
theorem dX6_init_33 : decode cX6_init 33 = .ok (.aload_n 0, 1) := by decide +kernel
theorem dX6_init_34 : decode cX6_init 34 = .ok (.new 29, 3) := by decide +kernel
theorem dX6_init_37 : decode cX6_init 37 = .ok (.dup, 1) := by decide +kernel
theorem dX6_init_38 : decode cX6_init 38 = .ok (.invokespecial 31, 3) := by decide +kernel
theorem dX6_init_41 : decode cX6_init 41 = .ok (.putfield 32, 3) := by decide +kernel
theorem dX6_init_44 : decode cX6_init 44 = .ok (.aload_n 0, 1) := by decide +kernel
theorem dX6_init_45 : decode cX6_init 45 = .ok (.aload_n 0, 1) := by decide +kernel
theorem dX6_init_46 : decode cX6_init 46 = .ok (.getfield 32, 3) := by decide +kernel
theorem dX6_init_49 : decode cX6_init 49 = .ok (.getfield 36, 3) := by decide +kernel
theorem dX6_init_52 : decode cX6_init 52 = .ok (.putfield 39, 3) := by decide +kernel
theorem dX6_init_55 : decode cX6_init 55 = .ok (.return_, 1) := by decide +kernel
theorem dX6_readAll_0 : decode cX6_readAll 0 = .ok (.aload_n 0, 1) := by decide +kernel
theorem dX6_readAll_1 : decode cX6_readAll 1 = .ok (.aload_n 0, 1) := by decide +kernel
theorem dX6_readAll_2 : decode cX6_readAll 2 = .ok (.getfield 32, 3) := by decide +kernel
theorem dX6_readAll_5 : decode cX6_readAll 5 = .ok (.getfield 40, 3) := by decide +kernel
theorem dX6_readAll_8 : decode cX6_readAll 8 = .ok (.putfield 44, 3) := by decide +kernel
theorem dX6_readAll_11 : decode cX6_readAll 11 = .ok (.aload_n 0, 1) := by decide +kernel
theorem dX6_readAll_12 : decode cX6_readAll 12 = .ok (.iconst 0, 1) := by decide +kernel
theorem dX6_readAll_13 : decode cX6_readAll 13 = .ok (.putfield 45, 3) := by decide +kernel
theorem dX6_readAll_16 : decode cX6_readAll 16 = .ok (.aload_n 0, 1) := by decide +kernel
theorem dX6_readAll_17 : decode cX6_readAll 17 = .ok (.iconst 0, 1) := by decide +kernel
theorem dX6_readAll_18 : decode cX6_readAll 18 = .ok (.putfield 48, 3) := by decide +kernel
theorem dX6_readAll_21 : decode cX6_readAll 21 = .ok (.aload_n 0, 1) := by decide +kernel
theorem dX6_readAll_22 : decode cX6_readAll 22 = .ok (.iconst (-1), 1) := by decide +kernel
theorem dX6_readAll_23 : decode cX6_readAll 23 = .ok (.putfield 51, 3) := by decide +kernel
theorem dX6_readAll_26 : decode cX6_readAll 26 = .ok (.aload_n 0, 1) := by decide +kernel
theorem dX6_readAll_27 : decode cX6_readAll 27 = .ok (.getfield 12, 3) := by decide +kernel
theorem dX6_readAll_30 : decode cX6_readAll 30 = .ok (.invokevirtual 54, 3) := by decide +kernel
theorem dX6_readAll_33 : decode cX6_readAll 33 = .ok (.aload_n 0, 1) := by decide +kernel
theorem dX6_readAll_34 : decode cX6_readAll 34 = .ok (.invokevirtual 57, 3) := by decide +kernel
theorem dX6_readAll_37 : decode cX6_readAll 37 = .ok (.iconst 0, 1) := by decide +kernel
theorem dX6_readAll_38 : decode cX6_readAll 38 = .ok (.istore_n 1, 1) := by decide +kernel
theorem dX6_readAll_39 : decode cX6_readAll 39 = .ok (.iload_n 1, 1) := by decide +kernel
theorem dX6_readAll_40 : decode cX6_readAll 40 = .ok (.sipush 400, 3) := by decide +kernel
theorem dX6_readAll_43 : decode cX6_readAll 43 = .ok (.if_icmp .ge 36, 3) := by decide +kernel
theorem dX6_readAll_46 : decode cX6_readAll 46 = .ok (.aload_n 0, 1) := by decide +kernel
theorem dX6_readAll_47 : decode cX6_readAll 47 = .ok (.getfield 45, 3) := by decide +kernel
theorem dX6_readAll_50 : decode cX6_readAll 50 = .ok (.aload_n 0, 1) := by decide +kernel
theorem dX6_readAll_51 : decode cX6_readAll 51 = .ok (.getfield 44, 3) := by decide +kernel
theorem dX6_readAll_54 : decode cX6_readAll 54 = .ok (.if_icmp .ge 25, 3) := by decide +kernel
theorem dX6_readAll_57 : decode cX6_readAll 57 = .ok (.aload_n 0, 1) := by decide +kernel
theorem dX6_readAll_58 : decode cX6_readAll 58 = .ok (.invokevirtual 60, 3) := by decide +kernel
theorem dX6_readAll_61 : decode cX6_readAll 61 = .ok (.ifCond .ne 8, 3) := by decide +kernel
theorem dX6_readAll_64 : decode cX6_readAll 64 = .ok (.aload_n 0, 1) := by decide +kernel
theorem dX6_readAll_65 : decode cX6_readAll 65 = .ok (.getfield 51, 3) := by decide +kernel
theorem dX6_readAll_68 : decode cX6_readAll 68 = .ok (.ireturn, 1) := by decide +kernel
theorem dX6_readAll_69 : decode cX6_readAll 69 = .ok (.aload_n 0, 1) := by decide +kernel
theorem dX6_readAll_70 : decode cX6_readAll 70 = .ok (.invokevirtual 57, 3) := by decide +kernel
theorem dX6_readAll_73 : decode cX6_readAll 73 = .ok (.iinc 1 1, 3) := by decide +kernel
theorem dX6_readAll_76 : decode cX6_readAll 76 = .ok (.goto (-37), 3) := by decide +kernel
theorem dX6_readAll_79 : decode cX6_readAll 79 = .ok (.iconst (-1), 1) := by decide +kernel
theorem dX6_readAll_80 : decode cX6_readAll 80 = .ok (.ireturn, 1) := by decide +kernel
theorem dX6_failAt_0 : decode cX6_failAt 0 = .ok (.aload_n 0, 1) := by decide +kernel
theorem dX6_failAt_1 : decode cX6_failAt 1 = .ok (.iload_n 1, 1) := by decide +kernel
theorem dX6_failAt_2 : decode cX6_failAt 2 = .ok (.putfield 51, 3) := by decide +kernel
theorem dX6_failAt_5 : decode cX6_failAt 5 = .ok (.iconst 0, 1) := by decide +kernel
theorem dX6_failAt_6 : decode cX6_failAt 6 = .ok (.ireturn, 1) := by decide +kernel
theorem dX6_readLine_0 : decode cX6_readLine 0 = .ok (.aload_n 0, 1) := by decide +kernel
theorem dX6_readLine_1 : decode cX6_readLine 1 = .ok (.getfield 45, 3) := by decide +kernel
theorem dX6_readLine_4 : decode cX6_readLine 4 = .ok (.istore_n 1, 1) := by decide +kernel
theorem dX6_readLine_5 : decode cX6_readLine 5 = .ok (.aload_n 0, 1) := by decide +kernel
theorem dX6_readLine_6 : decode cX6_readLine 6 = .ok (.invokevirtual 64, 3) := by decide +kernel
theorem dX6_readLine_9 : decode cX6_readLine 9 = .ok (.istore_n 2, 1) := by decide +kernel
theorem dX6_readLine_10 : decode cX6_readLine 10 = .ok (.aload_n 0, 1) := by decide +kernel
theorem dX6_readLine_11 : decode cX6_readLine 11 = .ok (.iload_n 2, 1) := by decide +kernel
theorem dX6_readLine_12 : decode cX6_readLine 12 = .ok (.invokevirtual 68, 3) := by decide +kernel
theorem dX6_readLine_15 : decode cX6_readLine 15 = .ok (.ifCond .ne 9, 3) := by decide +kernel
theorem dX6_readLine_18 : decode cX6_readLine 18 = .ok (.aload_n 0, 1) := by decide +kernel
theorem dX6_readLine_19 : decode cX6_readLine 19 = .ok (.iload_n 1, 1) := by decide +kernel
theorem dX6_readLine_20 : decode cX6_readLine 20 = .ok (.invokevirtual 72, 3) := by decide +kernel
theorem dX6_readLine_23 : decode cX6_readLine 23 = .ok (.ireturn, 1) := by decide +kernel
theorem dX6_readLine_24 : decode cX6_readLine 24 = .ok (.aload_n 0, 1) := by decide +kernel
theorem dX6_readLine_25 : decode cX6_readLine 25 = .ok (.aload_n 0, 1) := by decide +kernel
theorem dX6_readLine_26 : decode cX6_readLine 26 = .ok (.iload_n 2, 1) := by decide +kernel
theorem dX6_readLine_27 : decode cX6_readLine 27 = .ok (.invokevirtual 75, 3) := by decide +kernel
theorem dX6_readLine_30 : decode cX6_readLine 30 = .ok (.putfield 48, 3) := by decide +kernel
theorem dX6_readLine_33 : decode cX6_readLine 33 = .ok (.iload_n 2, 1) := by decide +kernel
theorem dX6_readLine_34 : decode cX6_readLine 34 = .ok (.tableswitch 41 5 7 #[26, 31, 36], 26) := by decide +kernel
theorem dX6_readLine_60 : decode cX6_readLine 60 = .ok (.aload_n 0, 1) := by decide +kernel
theorem dX6_readLine_61 : decode cX6_readLine 61 = .ok (.invokevirtual 79, 3) := by decide +kernel
theorem dX6_readLine_64 : decode cX6_readLine 64 = .ok (.ireturn, 1) := by decide +kernel
theorem dX6_readLine_65 : decode cX6_readLine 65 = .ok (.aload_n 0, 1) := by decide +kernel
theorem dX6_readLine_66 : decode cX6_readLine 66 = .ok (.invokevirtual 82, 3) := by decide +kernel
theorem dX6_readLine_69 : decode cX6_readLine 69 = .ok (.ireturn, 1) := by decide +kernel
theorem dX6_readLine_70 : decode cX6_readLine 70 = .ok (.aload_n 0, 1) := by decide +kernel
theorem dX6_readLine_71 : decode cX6_readLine 71 = .ok (.invokevirtual 85, 3) := by decide +kernel
theorem dX6_readLine_74 : decode cX6_readLine 74 = .ok (.ireturn, 1) := by decide +kernel
theorem dX6_readLine_75 : decode cX6_readLine 75 = .ok (.aload_n 0, 1) := by decide +kernel
theorem dX6_readLine_76 : decode cX6_readLine 76 = .ok (.iload_n 1, 1) := by decide +kernel
theorem dX6_readLine_77 : decode cX6_readLine 77 = .ok (.iload_n 2, 1) := by decide +kernel
theorem dX6_readLine_78 : decode cX6_readLine 78 = .ok (.invokevirtual 88, 3) := by decide +kernel
theorem dX6_readLine_81 : decode cX6_readLine 81 = .ok (.ireturn, 1) := by decide +kernel
theorem dX6_mayStand_0 : decode cX6_mayStand 0 = .ok (.iload_n 1, 1) := by decide +kernel
theorem dX6_mayStand_1 : decode cX6_mayStand 1 = .ok (.iconst (-1), 1) := by decide +kernel
theorem dX6_mayStand_2 : decode cX6_mayStand 2 = .ok (.if_icmp .eq 15, 3) := by decide +kernel
theorem dX6_mayStand_5 : decode cX6_mayStand 5 = .ok (.aload_n 0, 1) := by decide +kernel
theorem dX6_mayStand_6 : decode cX6_mayStand 6 = .ok (.iload_n 1, 1) := by decide +kernel
theorem dX6_mayStand_7 : decode cX6_mayStand 7 = .ok (.invokevirtual 75, 3) := by decide +kernel
theorem dX6_mayStand_10 : decode cX6_mayStand 10 = .ok (.aload_n 0, 1) := by decide +kernel
theorem dX6_mayStand_11 : decode cX6_mayStand 11 = .ok (.getfield 48, 3) := by decide +kernel
theorem dX6_mayStand_14 : decode cX6_mayStand 14 = .ok (.if_icmp .ge 5, 3) := by decide +kernel
theorem dX6_mayStand_17 : decode cX6_mayStand 17 = .ok (.iconst 0, 1) := by decide +kernel
theorem dX6_mayStand_18 : decode cX6_mayStand 18 = .ok (.ireturn, 1) := by decide +kernel
theorem dX6_mayStand_19 : decode cX6_mayStand 19 = .ok (.iload_n 1, 1) := by decide +kernel
theorem dX6_mayStand_20 : decode cX6_mayStand 20 = .ok (.tableswitch 72 5 7 #[28, 46, 54], 28) := by decide +kernel
theorem dX6_mayStand_48 : decode cX6_mayStand 48 = .ok (.aload_n 0, 1) := by decide +kernel
theorem dX6_mayStand_49 : decode cX6_mayStand 49 = .ok (.getfield 12, 3) := by decide +kernel
theorem dX6_mayStand_52 : decode cX6_mayStand 52 = .ok (.getfield 92, 3) := by decide +kernel
theorem dX6_mayStand_55 : decode cX6_mayStand 55 = .ok (.bipush 6, 2) := by decide +kernel
theorem dX6_mayStand_57 : decode cX6_mayStand 57 = .ok (.if_icmp .ge 7, 3) := by decide +kernel
theorem dX6_mayStand_60 : decode cX6_mayStand 60 = .ok (.iconst 1, 1) := by decide +kernel
theorem dX6_mayStand_61 : decode cX6_mayStand 61 = .ok (.goto 4, 3) := by decide +kernel
theorem dX6_mayStand_64 : decode cX6_mayStand 64 = .ok (.iconst 0, 1) := by decide +kernel
theorem dX6_mayStand_65 : decode cX6_mayStand 65 = .ok (.ireturn, 1) := by decide +kernel
theorem dX6_mayStand_66 : decode cX6_mayStand 66 = .ok (.aload_n 0, 1) := by decide +kernel
theorem dX6_mayStand_67 : decode cX6_mayStand 67 = .ok (.getfield 12, 3) := by decide +kernel
theorem dX6_mayStand_70 : decode cX6_mayStand 70 = .ok (.invokevirtual 95, 3) := by decide +kernel
theorem dX6_mayStand_73 : decode cX6_mayStand 73 = .ok (.ireturn, 1) := by decide +kernel
theorem dX6_mayStand_74 : decode cX6_mayStand 74 = .ok (.aload_n 0, 1) := by decide +kernel
theorem dX6_mayStand_75 : decode cX6_mayStand 75 = .ok (.getfield 12, 3) := by decide +kernel
theorem dX6_mayStand_78 : decode cX6_mayStand 78 = .ok (.getfield 98, 3) := by decide +kernel
theorem dX6_mayStand_81 : decode cX6_mayStand 81 = .ok (.bipush 12, 2) := by decide +kernel
theorem dX6_mayStand_83 : decode cX6_mayStand 83 = .ok (.if_icmp .ge 7, 3) := by decide +kernel
theorem dX6_mayStand_86 : decode cX6_mayStand 86 = .ok (.iconst 1, 1) := by decide +kernel
theorem dX6_mayStand_87 : decode cX6_mayStand 87 = .ok (.goto 4, 3) := by decide +kernel
theorem dX6_mayStand_90 : decode cX6_mayStand 90 = .ok (.iconst 0, 1) := by decide +kernel
theorem dX6_mayStand_91 : decode cX6_mayStand 91 = .ok (.ireturn, 1) := by decide +kernel
theorem dX6_mayStand_92 : decode cX6_mayStand 92 = .ok (.iconst 1, 1) := by decide +kernel
theorem dX6_mayStand_93 : decode cX6_mayStand 93 = .ok (.ireturn, 1) := by decide +kernel
theorem dX6_stageOf_0 : decode cX6_stageOf 0 = .ok (.iload_n 1, 1) := by decide +kernel
theorem dX6_stageOf_1 : decode cX6_stageOf 1 = .ok (.tableswitch 33 5 7 #[27, 29, 31], 27) := by decide +kernel
theorem dX6_stageOf_28 : decode cX6_stageOf 28 = .ok (.iconst 0, 1) := by decide +kernel
theorem dX6_stageOf_29 : decode cX6_stageOf 29 = .ok (.ireturn, 1) := by decide +kernel
theorem dX6_stageOf_30 : decode cX6_stageOf 30 = .ok (.iconst 1, 1) := by decide +kernel
theorem dX6_stageOf_31 : decode cX6_stageOf 31 = .ok (.ireturn, 1) := by decide +kernel
theorem dX6_stageOf_32 : decode cX6_stageOf 32 = .ok (.iconst 3, 1) := by decide +kernel
theorem dX6_stageOf_33 : decode cX6_stageOf 33 = .ok (.ireturn, 1) := by decide +kernel
theorem dX6_stageOf_34 : decode cX6_stageOf 34 = .ok (.iconst 2, 1) := by decide +kernel
theorem dX6_stageOf_35 : decode cX6_stageOf 35 = .ok (.ireturn, 1) := by decide +kernel
theorem dX6_readColumn_0 : decode cX6_readColumn 0 = .ok (.aload_n 0, 1) := by decide +kernel
theorem dX6_readColumn_1 : decode cX6_readColumn 1 = .ok (.getfield 12, 3) := by decide +kernel
theorem dX6_readColumn_4 : decode cX6_readColumn 4 = .ok (.getfield 92, 3) := by decide +kernel
theorem dX6_readColumn_7 : decode cX6_readColumn 7 = .ok (.ifCond .ne 7, 3) := by decide +kernel
theorem dX6_readColumn_10 : decode cX6_readColumn 10 = .ok (.iconst 1, 1) := by decide +kernel
theorem dX6_readColumn_11 : decode cX6_readColumn 11 = .ok (.goto 5, 3) := by decide +kernel
theorem dX6_readColumn_14 : decode cX6_readColumn 14 = .ok (.bipush 20, 2) := by decide +kernel
theorem dX6_readColumn_16 : decode cX6_readColumn 16 = .ok (.istore_n 1, 1) := by decide +kernel
theorem dX6_readColumn_17 : decode cX6_readColumn 17 = .ok (.aload_n 0, 1) := by decide +kernel
theorem dX6_readColumn_18 : decode cX6_readColumn 18 = .ok (.getfield 12, 3) := by decide +kernel
theorem dX6_readColumn_21 : decode cX6_readColumn 21 = .ok (.getfield 92, 3) := by decide +kernel
theorem dX6_readColumn_24 : decode cX6_readColumn 24 = .ok (.ifCond .ne 7, 3) := by decide +kernel
theorem dX6_readColumn_27 : decode cX6_readColumn 27 = .ok (.iconst 1, 1) := by decide +kernel
theorem dX6_readColumn_28 : decode cX6_readColumn 28 = .ok (.goto 4, 3) := by decide +kernel
theorem dX6_readColumn_31 : decode cX6_readColumn 31 = .ok (.iconst 2, 1) := by decide +kernel
theorem dX6_readColumn_32 : decode cX6_readColumn 32 = .ok (.istore_n 2, 1) := by decide +kernel
theorem dX6_readColumn_33 : decode cX6_readColumn 33 = .ok (.aload_n 0, 1) := by decide +kernel
theorem dX6_readColumn_34 : decode cX6_readColumn 34 = .ok (.iconst 0, 1) := by decide +kernel
theorem dX6_readColumn_35 : decode cX6_readColumn 35 = .ok (.iload_n 2, 1) := by decide +kernel
theorem dX6_readColumn_36 : decode cX6_readColumn 36 = .ok (.iload_n 1, 1) := by decide +kernel
theorem dX6_readColumn_37 : decode cX6_readColumn 37 = .ok (.invokevirtual 101, 3) := by decide +kernel
theorem dX6_readColumn_40 : decode cX6_readColumn 40 = .ok (.ifCond .eq 10, 3) := by decide +kernel
theorem dX6_readColumn_43 : decode cX6_readColumn 43 = .ok (.aload_n 0, 1) := by decide +kernel
theorem dX6_readColumn_44 : decode cX6_readColumn 44 = .ok (.invokevirtual 105, 3) := by decide +kernel
theorem dX6_readColumn_47 : decode cX6_readColumn 47 = .ok (.ifCond .ne 5, 3) := by decide +kernel
theorem dX6_readColumn_50 : decode cX6_readColumn 50 = .ok (.iconst 0, 1) := by decide +kernel
theorem dX6_readColumn_51 : decode cX6_readColumn 51 = .ok (.ireturn, 1) := by decide +kernel
theorem dX6_readColumn_52 : decode cX6_readColumn 52 = .ok (.aload_n 0, 1) := by decide +kernel
theorem dX6_readColumn_53 : decode cX6_readColumn 53 = .ok (.getfield 12, 3) := by decide +kernel
theorem dX6_readColumn_56 : decode cX6_readColumn 56 = .ok (.aload_n 0, 1) := by decide +kernel
theorem dX6_readColumn_57 : decode cX6_readColumn 57 = .ok (.getfield 25, 3) := by decide +kernel
theorem dX6_readColumn_60 : decode cX6_readColumn 60 = .ok (.iconst 0, 1) := by decide +kernel
theorem dX6_readColumn_61 : decode cX6_readColumn 61 = .ok (.iaload, 1) := by decide +kernel
theorem dX6_readColumn_62 : decode cX6_readColumn 62 = .ok (.invokevirtual 108, 3) := by decide +kernel
theorem dX6_readColumn_65 : decode cX6_readColumn 65 = .ok (.iconst 1, 1) := by decide +kernel
theorem dX6_readColumn_66 : decode cX6_readColumn 66 = .ok (.ireturn, 1) := by decide +kernel
theorem dX6_readRow_0 : decode cX6_readRow 0 = .ok (.aload_n 0, 1) := by decide +kernel
theorem dX6_readRow_1 : decode cX6_readRow 1 = .ok (.getfield 12, 3) := by decide +kernel
theorem dX6_readRow_4 : decode cX6_readRow 4 = .ok (.getfield 112, 3) := by decide +kernel
theorem dX6_readRow_7 : decode cX6_readRow 7 = .ok (.bipush 6, 2) := by decide +kernel
theorem dX6_readRow_9 : decode cX6_readRow 9 = .ok (.imul, 1) := by decide +kernel
theorem dX6_readRow_10 : decode cX6_readRow 10 = .ok (.istore_n 1, 1) := by decide +kernel
theorem dX6_readRow_11 : decode cX6_readRow 11 = .ok (.iconst 0, 1) := by decide +kernel
theorem dX6_readRow_12 : decode cX6_readRow 12 = .ok (.istore_n 2, 1) := by decide +kernel
theorem dX6_readRow_13 : decode cX6_readRow 13 = .ok (.iload_n 2, 1) := by decide +kernel
theorem dX6_readRow_14 : decode cX6_readRow 14 = .ok (.aload_n 0, 1) := by decide +kernel
theorem dX6_readRow_15 : decode cX6_readRow 15 = .ok (.getfield 12, 3) := by decide +kernel
theorem dX6_readRow_18 : decode cX6_readRow 18 = .ok (.getfield 92, 3) := by decide +kernel
theorem dX6_readRow_21 : decode cX6_readRow 21 = .ok (.if_icmp .ge 53, 3) := by decide +kernel
theorem dX6_readRow_24 : decode cX6_readRow 24 = .ok (.iload_n 2, 1) := by decide +kernel
theorem dX6_readRow_25 : decode cX6_readRow 25 = .ok (.ifCond .le 13, 3) := by decide +kernel
theorem dX6_readRow_28 : decode cX6_readRow 28 = .ok (.aload_n 0, 1) := by decide +kernel
theorem dX6_readRow_29 : decode cX6_readRow 29 = .ok (.invokevirtual 115, 3) := by decide +kernel
theorem dX6_readRow_32 : decode cX6_readRow 32 = .ok (.ifCond .eq 6, 3) := by decide +kernel
theorem dX6_readRow_35 : decode cX6_readRow 35 = .ok (.goto 39, 3) := by decide +kernel
theorem dX6_readRow_38 : decode cX6_readRow 38 = .ok (.aload_n 0, 1) := by decide +kernel
theorem dX6_readRow_39 : decode cX6_readRow 39 = .ok (.iconst 0, 1) := by decide +kernel
theorem dX6_readRow_40 : decode cX6_readRow 40 = .ok (.iconst 0, 1) := by decide +kernel
theorem dX6_readRow_41 : decode cX6_readRow 41 = .ok (.bipush 99, 2) := by decide +kernel
theorem dX6_readRow_43 : decode cX6_readRow 43 = .ok (.invokevirtual 101, 3) := by decide +kernel
theorem dX6_readRow_46 : decode cX6_readRow 46 = .ok (.ifCond .ne 5, 3) := by decide +kernel
theorem dX6_readRow_49 : decode cX6_readRow 49 = .ok (.iconst 0, 1) := by decide +kernel
theorem dX6_readRow_50 : decode cX6_readRow 50 = .ok (.ireturn, 1) := by decide +kernel
theorem dX6_readRow_51 : decode cX6_readRow 51 = .ok (.aload_n 0, 1) := by decide +kernel
theorem dX6_readRow_52 : decode cX6_readRow 52 = .ok (.getfield 12, 3) := by decide +kernel
theorem dX6_readRow_55 : decode cX6_readRow 55 = .ok (.getfield 118, 3) := by decide +kernel
theorem dX6_readRow_58 : decode cX6_readRow 58 = .ok (.iload_n 1, 1) := by decide +kernel
theorem dX6_readRow_59 : decode cX6_readRow 59 = .ok (.iload_n 2, 1) := by decide +kernel
theorem dX6_readRow_60 : decode cX6_readRow 60 = .ok (.iadd, 1) := by decide +kernel
theorem dX6_readRow_61 : decode cX6_readRow 61 = .ok (.aload_n 0, 1) := by decide +kernel
theorem dX6_readRow_62 : decode cX6_readRow 62 = .ok (.getfield 25, 3) := by decide +kernel
theorem dX6_readRow_65 : decode cX6_readRow 65 = .ok (.iconst 0, 1) := by decide +kernel
theorem dX6_readRow_66 : decode cX6_readRow 66 = .ok (.iaload, 1) := by decide +kernel
theorem dX6_readRow_67 : decode cX6_readRow 67 = .ok (.iastore, 1) := by decide +kernel
theorem dX6_readRow_68 : decode cX6_readRow 68 = .ok (.iinc 2 1, 3) := by decide +kernel
theorem dX6_readRow_71 : decode cX6_readRow 71 = .ok (.goto (-58), 3) := by decide +kernel
theorem dX6_readRow_74 : decode cX6_readRow 74 = .ok (.aload_n 0, 1) := by decide +kernel
theorem dX6_readRow_75 : decode cX6_readRow 75 = .ok (.invokevirtual 105, 3) := by decide +kernel
theorem dX6_readRow_78 : decode cX6_readRow 78 = .ok (.ifCond .ne 5, 3) := by decide +kernel
theorem dX6_readRow_81 : decode cX6_readRow 81 = .ok (.iconst 0, 1) := by decide +kernel
theorem dX6_readRow_82 : decode cX6_readRow 82 = .ok (.ireturn, 1) := by decide +kernel
theorem dX6_readRow_83 : decode cX6_readRow 83 = .ok (.aload_n 0, 1) := by decide +kernel
theorem dX6_readRow_84 : decode cX6_readRow 84 = .ok (.getfield 12, 3) := by decide +kernel
theorem dX6_readRow_87 : decode cX6_readRow 87 = .ok (.dup, 1) := by decide +kernel
theorem dX6_readRow_88 : decode cX6_readRow 88 = .ok (.getfield 112, 3) := by decide +kernel
theorem dX6_readRow_91 : decode cX6_readRow 91 = .ok (.iconst 1, 1) := by decide +kernel
theorem dX6_readRow_92 : decode cX6_readRow 92 = .ok (.iadd, 1) := by decide +kernel
theorem dX6_readRow_93 : decode cX6_readRow 93 = .ok (.putfield 112, 3) := by decide +kernel
theorem dX6_readRow_96 : decode cX6_readRow 96 = .ok (.aload_n 0, 1) := by decide +kernel
theorem dX6_readRow_97 : decode cX6_readRow 97 = .ok (.getfield 12, 3) := by decide +kernel
theorem dX6_readRow_100 : decode cX6_readRow 100 = .ok (.invokevirtual 121, 3) := by decide +kernel
theorem dX6_readRow_103 : decode cX6_readRow 103 = .ok (.iconst 1, 1) := by decide +kernel
theorem dX6_readRow_104 : decode cX6_readRow 104 = .ok (.ireturn, 1) := by decide +kernel
theorem dX6_readMove_0 : decode cX6_readMove 0 = .ok (.iload_n 2, 1) := by decide +kernel
theorem dX6_readMove_1 : decode cX6_readMove 1 = .ok (.iconst 4, 1) := by decide +kernel
theorem dX6_readMove_2 : decode cX6_readMove 2 = .ok (.if_icmp .ne 7, 3) := by decide +kernel
theorem dX6_readMove_5 : decode cX6_readMove 5 = .ok (.iconst 4, 1) := by decide +kernel
theorem dX6_readMove_6 : decode cX6_readMove 6 = .ok (.goto 18, 3) := by decide +kernel
theorem dX6_readMove_9 : decode cX6_readMove 9 = .ok (.iload_n 2, 1) := by decide +kernel
theorem dX6_readMove_10 : decode cX6_readMove 10 = .ok (.iconst 2, 1) := by decide +kernel
theorem dX6_readMove_11 : decode cX6_readMove 11 = .ok (.if_icmp .eq 8, 3) := by decide +kernel
theorem dX6_readMove_14 : decode cX6_readMove 14 = .ok (.iload_n 2, 1) := by decide +kernel
theorem dX6_readMove_15 : decode cX6_readMove 15 = .ok (.iconst 3, 1) := by decide +kernel
theorem dX6_readMove_16 : decode cX6_readMove 16 = .ok (.if_icmp .ne 7, 3) := by decide +kernel
theorem dX6_readMove_19 : decode cX6_readMove 19 = .ok (.iconst 2, 1) := by decide +kernel
theorem dX6_readMove_20 : decode cX6_readMove 20 = .ok (.goto 4, 3) := by decide +kernel
theorem dX6_readMove_23 : decode cX6_readMove 23 = .ok (.iconst 3, 1) := by decide +kernel
theorem dX6_readMove_24 : decode cX6_readMove 24 = .ok (.istore_n 3, 1) := by decide +kernel
theorem dX6_readMove_25 : decode cX6_readMove 25 = .ok (.aload_n 0, 1) := by decide +kernel
theorem dX6_readMove_26 : decode cX6_readMove 26 = .ok (.getfield 25, 3) := by decide +kernel
theorem dX6_readMove_29 : decode cX6_readMove 29 = .ok (.iconst 2, 1) := by decide +kernel
theorem dX6_readMove_30 : decode cX6_readMove 30 = .ok (.iconst 0, 1) := by decide +kernel
theorem dX6_readMove_31 : decode cX6_readMove 31 = .ok (.iastore, 1) := by decide +kernel
theorem dX6_readMove_32 : decode cX6_readMove 32 = .ok (.iconst 0, 1) := by decide +kernel
theorem dX6_readMove_33 : decode cX6_readMove 33 = .ok (.istore 4, 2) := by decide +kernel
theorem dX6_readMove_35 : decode cX6_readMove 35 = .ok (.iload 4, 2) := by decide +kernel
theorem dX6_readMove_37 : decode cX6_readMove 37 = .ok (.iload_n 3, 1) := by decide +kernel
theorem dX6_readMove_38 : decode cX6_readMove 38 = .ok (.if_icmp .ge 23, 3) := by decide +kernel
theorem dX6_readMove_41 : decode cX6_readMove 41 = .ok (.aload_n 0, 1) := by decide +kernel
theorem dX6_readMove_42 : decode cX6_readMove 42 = .ok (.iload 4, 2) := by decide +kernel
theorem dX6_readMove_44 : decode cX6_readMove 44 = .ok (.iconst 0, 1) := by decide +kernel
theorem dX6_readMove_45 : decode cX6_readMove 45 = .ok (.bipush 99, 2) := by decide +kernel
theorem dX6_readMove_47 : decode cX6_readMove 47 = .ok (.invokevirtual 101, 3) := by decide +kernel
theorem dX6_readMove_50 : decode cX6_readMove 50 = .ok (.ifCond .ne 5, 3) := by decide +kernel
theorem dX6_readMove_53 : decode cX6_readMove 53 = .ok (.iconst 0, 1) := by decide +kernel
theorem dX6_readMove_54 : decode cX6_readMove 54 = .ok (.ireturn, 1) := by decide +kernel
theorem dX6_readMove_55 : decode cX6_readMove 55 = .ok (.iinc 4 1, 3) := by decide +kernel
theorem dX6_readMove_58 : decode cX6_readMove 58 = .ok (.goto (-23), 3) := by decide +kernel
theorem dX6_readMove_61 : decode cX6_readMove 61 = .ok (.aload_n 0, 1) := by decide +kernel
theorem dX6_readMove_62 : decode cX6_readMove 62 = .ok (.invokevirtual 105, 3) := by decide +kernel
theorem dX6_readMove_65 : decode cX6_readMove 65 = .ok (.ifCond .ne 5, 3) := by decide +kernel
theorem dX6_readMove_68 : decode cX6_readMove 68 = .ok (.iconst 0, 1) := by decide +kernel
theorem dX6_readMove_69 : decode cX6_readMove 69 = .ok (.ireturn, 1) := by decide +kernel
theorem dX6_readMove_70 : decode cX6_readMove 70 = .ok (.iload_n 2, 1) := by decide +kernel
theorem dX6_readMove_71 : decode cX6_readMove 71 = .ok (.iconst 4, 1) := by decide +kernel
theorem dX6_readMove_72 : decode cX6_readMove 72 = .ok (.if_icmp .ne 7, 3) := by decide +kernel
theorem dX6_readMove_75 : decode cX6_readMove 75 = .ok (.iconst 1, 1) := by decide +kernel
theorem dX6_readMove_76 : decode cX6_readMove 76 = .ok (.goto 4, 3) := by decide +kernel
theorem dX6_readMove_79 : decode cX6_readMove 79 = .ok (.iconst 0, 1) := by decide +kernel
theorem dX6_readMove_80 : decode cX6_readMove 80 = .ok (.istore 4, 2) := by decide +kernel
theorem dX6_readMove_82 : decode cX6_readMove 82 = .ok (.iload 4, 2) := by decide +kernel
theorem dX6_readMove_84 : decode cX6_readMove 84 = .ok (.ifCond .eq 12, 3) := by decide +kernel
theorem dX6_readMove_87 : decode cX6_readMove 87 = .ok (.aload_n 0, 1) := by decide +kernel
theorem dX6_readMove_88 : decode cX6_readMove 88 = .ok (.getfield 25, 3) := by decide +kernel
theorem dX6_readMove_91 : decode cX6_readMove 91 = .ok (.iconst 1, 1) := by decide +kernel
theorem dX6_readMove_92 : decode cX6_readMove 92 = .ok (.iaload, 1) := by decide +kernel
theorem dX6_readMove_93 : decode cX6_readMove 93 = .ok (.goto 4, 3) := by decide +kernel
theorem dX6_readMove_96 : decode cX6_readMove 96 = .ok (.iconst 0, 1) := by decide +kernel
theorem dX6_readMove_97 : decode cX6_readMove 97 = .ok (.istore 5, 2) := by decide +kernel
theorem dX6_readMove_99 : decode cX6_readMove 99 = .ok (.iload 4, 2) := by decide +kernel
theorem dX6_readMove_101 : decode cX6_readMove 101 = .ok (.ifCond .eq 12, 3) := by decide +kernel
theorem dX6_readMove_104 : decode cX6_readMove 104 = .ok (.aload_n 0, 1) := by decide +kernel
theorem dX6_readMove_105 : decode cX6_readMove 105 = .ok (.getfield 25, 3) := by decide +kernel
theorem dX6_readMove_108 : decode cX6_readMove 108 = .ok (.iconst 2, 1) := by decide +kernel
theorem dX6_readMove_109 : decode cX6_readMove 109 = .ok (.iaload, 1) := by decide +kernel
theorem dX6_readMove_110 : decode cX6_readMove 110 = .ok (.goto 9, 3) := by decide +kernel
theorem dX6_readMove_113 : decode cX6_readMove 113 = .ok (.aload_n 0, 1) := by decide +kernel
theorem dX6_readMove_114 : decode cX6_readMove 114 = .ok (.getfield 25, 3) := by decide +kernel
theorem dX6_readMove_117 : decode cX6_readMove 117 = .ok (.iconst 1, 1) := by decide +kernel
theorem dX6_readMove_118 : decode cX6_readMove 118 = .ok (.iaload, 1) := by decide +kernel
theorem dX6_readMove_119 : decode cX6_readMove 119 = .ok (.istore 6, 2) := by decide +kernel
theorem dX6_readMove_121 : decode cX6_readMove 121 = .ok (.iload 4, 2) := by decide +kernel
theorem dX6_readMove_123 : decode cX6_readMove 123 = .ok (.ifCond .eq 12, 3) := by decide +kernel
theorem dX6_readMove_126 : decode cX6_readMove 126 = .ok (.aload_n 0, 1) := by decide +kernel
theorem dX6_readMove_127 : decode cX6_readMove 127 = .ok (.getfield 25, 3) := by decide +kernel
theorem dX6_readMove_130 : decode cX6_readMove 130 = .ok (.iconst 3, 1) := by decide +kernel
theorem dX6_readMove_131 : decode cX6_readMove 131 = .ok (.iaload, 1) := by decide +kernel
theorem dX6_readMove_132 : decode cX6_readMove 132 = .ok (.goto 9, 3) := by decide +kernel
theorem dX6_readMove_135 : decode cX6_readMove 135 = .ok (.aload_n 0, 1) := by decide +kernel
theorem dX6_readMove_136 : decode cX6_readMove 136 = .ok (.getfield 25, 3) := by decide +kernel
theorem dX6_readMove_139 : decode cX6_readMove 139 = .ok (.iconst 2, 1) := by decide +kernel
theorem dX6_readMove_140 : decode cX6_readMove 140 = .ok (.iaload, 1) := by decide +kernel
theorem dX6_readMove_141 : decode cX6_readMove 141 = .ok (.istore 7, 2) := by decide +kernel
theorem dX6_readMove_143 : decode cX6_readMove 143 = .ok (.aload_n 0, 1) := by decide +kernel
theorem dX6_readMove_144 : decode cX6_readMove 144 = .ok (.getfield 12, 3) := by decide +kernel
theorem dX6_readMove_147 : decode cX6_readMove 147 = .ok (.getfield 124, 3) := by decide +kernel
theorem dX6_readMove_150 : decode cX6_readMove 150 = .ok (.bipush 24, 2) := by decide +kernel
theorem dX6_readMove_152 : decode cX6_readMove 152 = .ok (.if_icmp .ge 30, 3) := by decide +kernel
theorem dX6_readMove_155 : decode cX6_readMove 155 = .ok (.aload_n 0, 1) := by decide +kernel
theorem dX6_readMove_156 : decode cX6_readMove 156 = .ok (.getfield 12, 3) := by decide +kernel
theorem dX6_readMove_159 : decode cX6_readMove 159 = .ok (.aload_n 0, 1) := by decide +kernel
theorem dX6_readMove_160 : decode cX6_readMove 160 = .ok (.getfield 21, 3) := by decide +kernel
theorem dX6_readMove_163 : decode cX6_readMove 163 = .ok (.iload_n 2, 1) := by decide +kernel
theorem dX6_readMove_164 : decode cX6_readMove 164 = .ok (.aload_n 0, 1) := by decide +kernel
theorem dX6_readMove_165 : decode cX6_readMove 165 = .ok (.getfield 25, 3) := by decide +kernel
theorem dX6_readMove_168 : decode cX6_readMove 168 = .ok (.iconst 0, 1) := by decide +kernel
theorem dX6_readMove_169 : decode cX6_readMove 169 = .ok (.iaload, 1) := by decide +kernel
theorem dX6_readMove_170 : decode cX6_readMove 170 = .ok (.iload 5, 2) := by decide +kernel
theorem dX6_readMove_172 : decode cX6_readMove 172 = .ok (.iload 6, 2) := by decide +kernel
theorem dX6_readMove_174 : decode cX6_readMove 174 = .ok (.iload 7, 2) := by decide +kernel
theorem dX6_readMove_176 : decode cX6_readMove 176 = .ok (.invokevirtual 127, 3) := by decide +kernel
theorem dX6_readMove_179 : decode cX6_readMove 179 = .ok (.ifCond .ne 9, 3) := by decide +kernel
theorem dX6_readMove_182 : decode cX6_readMove 182 = .ok (.aload_n 0, 1) := by decide +kernel
theorem dX6_readMove_183 : decode cX6_readMove 183 = .ok (.iload_n 1, 1) := by decide +kernel
theorem dX6_readMove_184 : decode cX6_readMove 184 = .ok (.invokevirtual 72, 3) := by decide +kernel
theorem dX6_readMove_187 : decode cX6_readMove 187 = .ok (.ireturn, 1) := by decide +kernel
theorem dX6_readMove_188 : decode cX6_readMove 188 = .ok (.aload_n 0, 1) := by decide +kernel
theorem dX6_readMove_189 : decode cX6_readMove 189 = .ok (.getfield 12, 3) := by decide +kernel
theorem dX6_readMove_192 : decode cX6_readMove 192 = .ok (.aload_n 0, 1) := by decide +kernel
theorem dX6_readMove_193 : decode cX6_readMove 193 = .ok (.getfield 21, 3) := by decide +kernel
theorem dX6_readMove_196 : decode cX6_readMove 196 = .ok (.invokevirtual 131, 3) := by decide +kernel
theorem dX6_readMove_199 : decode cX6_readMove 199 = .ok (.aload_n 0, 1) := by decide +kernel
theorem dX6_readMove_200 : decode cX6_readMove 200 = .ok (.getfield 12, 3) := by decide +kernel
theorem dX6_readMove_203 : decode cX6_readMove 203 = .ok (.iload_n 2, 1) := by decide +kernel
theorem dX6_readMove_204 : decode cX6_readMove 204 = .ok (.aload_n 0, 1) := by decide +kernel
theorem dX6_readMove_205 : decode cX6_readMove 205 = .ok (.getfield 25, 3) := by decide +kernel
theorem dX6_readMove_208 : decode cX6_readMove 208 = .ok (.iconst 0, 1) := by decide +kernel
theorem dX6_readMove_209 : decode cX6_readMove 209 = .ok (.iaload, 1) := by decide +kernel
theorem dX6_readMove_210 : decode cX6_readMove 210 = .ok (.iload 5, 2) := by decide +kernel
theorem dX6_readMove_212 : decode cX6_readMove 212 = .ok (.iload 6, 2) := by decide +kernel
theorem dX6_readMove_214 : decode cX6_readMove 214 = .ok (.iload 7, 2) := by decide +kernel
theorem dX6_readMove_216 : decode cX6_readMove 216 = .ok (.invokevirtual 135, 3) := by decide +kernel
theorem dX6_readMove_219 : decode cX6_readMove 219 = .ok (.iconst 1, 1) := by decide +kernel
theorem dX6_readMove_220 : decode cX6_readMove 220 = .ok (.ireturn, 1) := by decide +kernel
theorem dX6_readSeen_0 : decode cX6_readSeen 0 = .ok (.aload_n 0, 1) := by decide +kernel
theorem dX6_readSeen_1 : decode cX6_readSeen 1 = .ok (.iconst 0, 1) := by decide +kernel
theorem dX6_readSeen_2 : decode cX6_readSeen 2 = .ok (.iconst 0, 1) := by decide +kernel
theorem dX6_readSeen_3 : decode cX6_readSeen 3 = .ok (.aload_n 0, 1) := by decide +kernel
theorem dX6_readSeen_4 : decode cX6_readSeen 4 = .ok (.getfield 12, 3) := by decide +kernel
theorem dX6_readSeen_7 : decode cX6_readSeen 7 = .ok (.getfield 124, 3) := by decide +kernel
theorem dX6_readSeen_10 : decode cX6_readSeen 10 = .ok (.invokevirtual 101, 3) := by decide +kernel
theorem dX6_readSeen_13 : decode cX6_readSeen 13 = .ok (.ifCond .eq 61, 3) := by decide +kernel
theorem dX6_readSeen_16 : decode cX6_readSeen 16 = .ok (.aload_n 0, 1) := by decide +kernel
theorem dX6_readSeen_17 : decode cX6_readSeen 17 = .ok (.iconst 1, 1) := by decide +kernel
theorem dX6_readSeen_18 : decode cX6_readSeen 18 = .ok (.iconst 0, 1) := by decide +kernel
theorem dX6_readSeen_19 : decode cX6_readSeen 19 = .ok (.aload_n 0, 1) := by decide +kernel
theorem dX6_readSeen_20 : decode cX6_readSeen 20 = .ok (.getfield 12, 3) := by decide +kernel
theorem dX6_readSeen_23 : decode cX6_readSeen 23 = .ok (.getfield 112, 3) := by decide +kernel
theorem dX6_readSeen_26 : decode cX6_readSeen 26 = .ok (.iconst 1, 1) := by decide +kernel
theorem dX6_readSeen_27 : decode cX6_readSeen 27 = .ok (.isub, 1) := by decide +kernel
theorem dX6_readSeen_28 : decode cX6_readSeen 28 = .ok (.invokevirtual 101, 3) := by decide +kernel
theorem dX6_readSeen_31 : decode cX6_readSeen 31 = .ok (.ifCond .eq 43, 3) := by decide +kernel
theorem dX6_readSeen_34 : decode cX6_readSeen 34 = .ok (.aload_n 0, 1) := by decide +kernel
theorem dX6_readSeen_35 : decode cX6_readSeen 35 = .ok (.iconst 2, 1) := by decide +kernel
theorem dX6_readSeen_36 : decode cX6_readSeen 36 = .ok (.iconst 0, 1) := by decide +kernel
theorem dX6_readSeen_37 : decode cX6_readSeen 37 = .ok (.aload_n 0, 1) := by decide +kernel
theorem dX6_readSeen_38 : decode cX6_readSeen 38 = .ok (.getfield 12, 3) := by decide +kernel
theorem dX6_readSeen_41 : decode cX6_readSeen 41 = .ok (.getfield 92, 3) := by decide +kernel
theorem dX6_readSeen_44 : decode cX6_readSeen 44 = .ok (.iconst 1, 1) := by decide +kernel
theorem dX6_readSeen_45 : decode cX6_readSeen 45 = .ok (.isub, 1) := by decide +kernel
theorem dX6_readSeen_46 : decode cX6_readSeen 46 = .ok (.invokevirtual 101, 3) := by decide +kernel
theorem dX6_readSeen_49 : decode cX6_readSeen 49 = .ok (.ifCond .eq 25, 3) := by decide +kernel
theorem dX6_readSeen_52 : decode cX6_readSeen 52 = .ok (.aload_n 0, 1) := by decide +kernel
theorem dX6_readSeen_53 : decode cX6_readSeen 53 = .ok (.iconst 3, 1) := by decide +kernel
theorem dX6_readSeen_54 : decode cX6_readSeen 54 = .ok (.iconst 0, 1) := by decide +kernel
theorem dX6_readSeen_55 : decode cX6_readSeen 55 = .ok (.bipush 99, 2) := by decide +kernel
theorem dX6_readSeen_57 : decode cX6_readSeen 57 = .ok (.invokevirtual 101, 3) := by decide +kernel
theorem dX6_readSeen_60 : decode cX6_readSeen 60 = .ok (.ifCond .eq 14, 3) := by decide +kernel
theorem dX6_readSeen_63 : decode cX6_readSeen 63 = .ok (.aload_n 0, 1) := by decide +kernel
theorem dX6_readSeen_64 : decode cX6_readSeen 64 = .ok (.invokevirtual 105, 3) := by decide +kernel
theorem dX6_readSeen_67 : decode cX6_readSeen 67 = .ok (.ifCond .eq 7, 3) := by decide +kernel
theorem dX6_readSeen_70 : decode cX6_readSeen 70 = .ok (.iconst 1, 1) := by decide +kernel
theorem dX6_readSeen_71 : decode cX6_readSeen 71 = .ok (.goto 4, 3) := by decide +kernel
theorem dX6_readSeen_74 : decode cX6_readSeen 74 = .ok (.iconst 0, 1) := by decide +kernel
theorem dX6_readSeen_75 : decode cX6_readSeen 75 = .ok (.istore_n 1, 1) := by decide +kernel
theorem dX6_readSeen_76 : decode cX6_readSeen 76 = .ok (.iload_n 1, 1) := by decide +kernel
theorem dX6_readSeen_77 : decode cX6_readSeen 77 = .ok (.ifCond .eq 34, 3) := by decide +kernel
theorem dX6_readSeen_80 : decode cX6_readSeen 80 = .ok (.aload_n 0, 1) := by decide +kernel
theorem dX6_readSeen_81 : decode cX6_readSeen 81 = .ok (.getfield 12, 3) := by decide +kernel
theorem dX6_readSeen_84 : decode cX6_readSeen 84 = .ok (.aload_n 0, 1) := by decide +kernel
theorem dX6_readSeen_85 : decode cX6_readSeen 85 = .ok (.getfield 25, 3) := by decide +kernel
theorem dX6_readSeen_88 : decode cX6_readSeen 88 = .ok (.iconst 0, 1) := by decide +kernel
theorem dX6_readSeen_89 : decode cX6_readSeen 89 = .ok (.iaload, 1) := by decide +kernel
theorem dX6_readSeen_90 : decode cX6_readSeen 90 = .ok (.aload_n 0, 1) := by decide +kernel
theorem dX6_readSeen_91 : decode cX6_readSeen 91 = .ok (.getfield 25, 3) := by decide +kernel
theorem dX6_readSeen_94 : decode cX6_readSeen 94 = .ok (.iconst 1, 1) := by decide +kernel
theorem dX6_readSeen_95 : decode cX6_readSeen 95 = .ok (.iaload, 1) := by decide +kernel
theorem dX6_readSeen_96 : decode cX6_readSeen 96 = .ok (.aload_n 0, 1) := by decide +kernel
theorem dX6_readSeen_97 : decode cX6_readSeen 97 = .ok (.getfield 25, 3) := by decide +kernel
theorem dX6_readSeen_100 : decode cX6_readSeen 100 = .ok (.iconst 2, 1) := by decide +kernel
theorem dX6_readSeen_101 : decode cX6_readSeen 101 = .ok (.iaload, 1) := by decide +kernel
theorem dX6_readSeen_102 : decode cX6_readSeen 102 = .ok (.aload_n 0, 1) := by decide +kernel
theorem dX6_readSeen_103 : decode cX6_readSeen 103 = .ok (.getfield 25, 3) := by decide +kernel
theorem dX6_readSeen_106 : decode cX6_readSeen 106 = .ok (.iconst 3, 1) := by decide +kernel
theorem dX6_readSeen_107 : decode cX6_readSeen 107 = .ok (.iaload, 1) := by decide +kernel
theorem dX6_readSeen_108 : decode cX6_readSeen 108 = .ok (.invokevirtual 139, 3) := by decide +kernel
theorem dX6_readSeen_111 : decode cX6_readSeen 111 = .ok (.iload_n 1, 1) := by decide +kernel
theorem dX6_readSeen_112 : decode cX6_readSeen 112 = .ok (.ireturn, 1) := by decide +kernel
theorem dX6_readWord_0 : decode cX6_readWord 0 = .ok (.aload_n 0, 1) := by decide +kernel
theorem dX6_readWord_1 : decode cX6_readWord 1 = .ok (.getfield 45, 3) := by decide +kernel
theorem dX6_readWord_4 : decode cX6_readWord 4 = .ok (.istore_n 1, 1) := by decide +kernel
theorem dX6_readWord_5 : decode cX6_readWord 5 = .ok (.aload_n 0, 1) := by decide +kernel
theorem dX6_readWord_6 : decode cX6_readWord 6 = .ok (.getfield 45, 3) := by decide +kernel
theorem dX6_readWord_9 : decode cX6_readWord 9 = .ok (.aload_n 0, 1) := by decide +kernel
theorem dX6_readWord_10 : decode cX6_readWord 10 = .ok (.getfield 44, 3) := by decide +kernel
theorem dX6_readWord_13 : decode cX6_readWord 13 = .ok (.if_icmp .ge 44, 3) := by decide +kernel
theorem dX6_readWord_16 : decode cX6_readWord 16 = .ok (.aload_n 0, 1) := by decide +kernel
theorem dX6_readWord_17 : decode cX6_readWord 17 = .ok (.getfield 39, 3) := by decide +kernel
theorem dX6_readWord_20 : decode cX6_readWord 20 = .ok (.aload_n 0, 1) := by decide +kernel
theorem dX6_readWord_21 : decode cX6_readWord 21 = .ok (.getfield 45, 3) := by decide +kernel
theorem dX6_readWord_24 : decode cX6_readWord 24 = .ok (.iaload, 1) := by decide +kernel
theorem dX6_readWord_25 : decode cX6_readWord 25 = .ok (.bipush 97, 2) := by decide +kernel
theorem dX6_readWord_27 : decode cX6_readWord 27 = .ok (.if_icmp .lt 30, 3) := by decide +kernel
theorem dX6_readWord_30 : decode cX6_readWord 30 = .ok (.aload_n 0, 1) := by decide +kernel
theorem dX6_readWord_31 : decode cX6_readWord 31 = .ok (.getfield 39, 3) := by decide +kernel
theorem dX6_readWord_34 : decode cX6_readWord 34 = .ok (.aload_n 0, 1) := by decide +kernel
theorem dX6_readWord_35 : decode cX6_readWord 35 = .ok (.getfield 45, 3) := by decide +kernel
theorem dX6_readWord_38 : decode cX6_readWord 38 = .ok (.iaload, 1) := by decide +kernel
theorem dX6_readWord_39 : decode cX6_readWord 39 = .ok (.bipush 122, 2) := by decide +kernel
theorem dX6_readWord_41 : decode cX6_readWord 41 = .ok (.if_icmp .gt 16, 3) := by decide +kernel
theorem dX6_readWord_44 : decode cX6_readWord 44 = .ok (.aload_n 0, 1) := by decide +kernel
theorem dX6_readWord_45 : decode cX6_readWord 45 = .ok (.dup, 1) := by decide +kernel
theorem dX6_readWord_46 : decode cX6_readWord 46 = .ok (.getfield 45, 3) := by decide +kernel
theorem dX6_readWord_49 : decode cX6_readWord 49 = .ok (.iconst 1, 1) := by decide +kernel
theorem dX6_readWord_50 : decode cX6_readWord 50 = .ok (.iadd, 1) := by decide +kernel
theorem dX6_readWord_51 : decode cX6_readWord 51 = .ok (.putfield 45, 3) := by decide +kernel
theorem dX6_readWord_54 : decode cX6_readWord 54 = .ok (.goto (-49), 3) := by decide +kernel
theorem dX6_readWord_57 : decode cX6_readWord 57 = .ok (.iconst 0, 1) := by decide +kernel
theorem dX6_readWord_58 : decode cX6_readWord 58 = .ok (.istore_n 2, 1) := by decide +kernel
theorem dX6_readWord_59 : decode cX6_readWord 59 = .ok (.iload_n 2, 1) := by decide +kernel
theorem dX6_readWord_60 : decode cX6_readWord 60 = .ok (.bipush 7, 2) := by decide +kernel
theorem dX6_readWord_62 : decode cX6_readWord 62 = .ok (.if_icmp .gt 23, 3) := by decide +kernel
theorem dX6_readWord_65 : decode cX6_readWord 65 = .ok (.aload_n 0, 1) := by decide +kernel
theorem dX6_readWord_66 : decode cX6_readWord 66 = .ok (.iload_n 1, 1) := by decide +kernel
theorem dX6_readWord_67 : decode cX6_readWord 67 = .ok (.iload_n 2, 1) := by decide +kernel
theorem dX6_readWord_68 : decode cX6_readWord 68 = .ok (.invokestatic 143, 3) := by decide +kernel
theorem dX6_readWord_71 : decode cX6_readWord 71 = .ok (.invokevirtual 147, 3) := by decide +kernel
theorem dX6_readWord_74 : decode cX6_readWord 74 = .ok (.ifCond .eq 5, 3) := by decide +kernel
theorem dX6_readWord_77 : decode cX6_readWord 77 = .ok (.iload_n 2, 1) := by decide +kernel
theorem dX6_readWord_78 : decode cX6_readWord 78 = .ok (.ireturn, 1) := by decide +kernel
theorem dX6_readWord_79 : decode cX6_readWord 79 = .ok (.iinc 2 1, 3) := by decide +kernel
theorem dX6_readWord_82 : decode cX6_readWord 82 = .ok (.goto (-23), 3) := by decide +kernel
theorem dX6_readWord_85 : decode cX6_readWord 85 = .ok (.iconst (-1), 1) := by decide +kernel
theorem dX6_readWord_86 : decode cX6_readWord 86 = .ok (.ireturn, 1) := by decide +kernel
theorem dX6_stands_0 : decode cX6_stands 0 = .ok (.aload_n 0, 1) := by decide +kernel
theorem dX6_stands_1 : decode cX6_stands 1 = .ok (.getfield 45, 3) := by decide +kernel
theorem dX6_stands_4 : decode cX6_stands 4 = .ok (.iload_n 1, 1) := by decide +kernel
theorem dX6_stands_5 : decode cX6_stands 5 = .ok (.isub, 1) := by decide +kernel
theorem dX6_stands_6 : decode cX6_stands 6 = .ok (.aload_n 2, 1) := by decide +kernel
theorem dX6_stands_7 : decode cX6_stands 7 = .ok (.invokevirtual 151, 3) := by decide +kernel
theorem dX6_stands_10 : decode cX6_stands 10 = .ok (.if_icmp .eq 5, 3) := by decide +kernel
theorem dX6_stands_13 : decode cX6_stands 13 = .ok (.iconst 0, 1) := by decide +kernel
theorem dX6_stands_14 : decode cX6_stands 14 = .ok (.ireturn, 1) := by decide +kernel
theorem dX6_stands_15 : decode cX6_stands 15 = .ok (.iconst 0, 1) := by decide +kernel
theorem dX6_stands_16 : decode cX6_stands 16 = .ok (.istore_n 3, 1) := by decide +kernel
theorem dX6_stands_17 : decode cX6_stands 17 = .ok (.iload_n 3, 1) := by decide +kernel
theorem dX6_stands_18 : decode cX6_stands 18 = .ok (.aload_n 2, 1) := by decide +kernel
theorem dX6_stands_19 : decode cX6_stands 19 = .ok (.invokevirtual 151, 3) := by decide +kernel
theorem dX6_stands_22 : decode cX6_stands 22 = .ok (.if_icmp .ge 27, 3) := by decide +kernel
theorem dX6_stands_25 : decode cX6_stands 25 = .ok (.aload_n 0, 1) := by decide +kernel
theorem dX6_stands_26 : decode cX6_stands 26 = .ok (.getfield 39, 3) := by decide +kernel
theorem dX6_stands_29 : decode cX6_stands 29 = .ok (.iload_n 1, 1) := by decide +kernel
theorem dX6_stands_30 : decode cX6_stands 30 = .ok (.iload_n 3, 1) := by decide +kernel
theorem dX6_stands_31 : decode cX6_stands 31 = .ok (.iadd, 1) := by decide +kernel
theorem dX6_stands_32 : decode cX6_stands 32 = .ok (.iaload, 1) := by decide +kernel
theorem dX6_stands_33 : decode cX6_stands 33 = .ok (.aload_n 2, 1) := by decide +kernel
theorem dX6_stands_34 : decode cX6_stands 34 = .ok (.iload_n 3, 1) := by decide +kernel
theorem dX6_stands_35 : decode cX6_stands 35 = .ok (.invokevirtual 155, 3) := by decide +kernel
theorem dX6_stands_38 : decode cX6_stands 38 = .ok (.if_icmp .eq 5, 3) := by decide +kernel
theorem dX6_stands_41 : decode cX6_stands 41 = .ok (.iconst 0, 1) := by decide +kernel
theorem dX6_stands_42 : decode cX6_stands 42 = .ok (.ireturn, 1) := by decide +kernel
theorem dX6_stands_43 : decode cX6_stands 43 = .ok (.iinc 3 1, 3) := by decide +kernel
theorem dX6_stands_46 : decode cX6_stands 46 = .ok (.goto (-29), 3) := by decide +kernel
theorem dX6_stands_49 : decode cX6_stands 49 = .ok (.iconst 1, 1) := by decide +kernel
theorem dX6_stands_50 : decode cX6_stands 50 = .ok (.ireturn, 1) := by decide +kernel
theorem dX6_spelled_0 : decode cX6_spelled 0 = .ok (.iload_n 0, 1) := by decide +kernel
theorem dX6_spelled_1 : decode cX6_spelled 1 = .ok (.tableswitch 36 5 7 #[27, 30, 33], 27) := by decide +kernel
theorem dX6_spelled_28 : decode cX6_spelled 28 = .ok (.ldc 159, 2) := by decide +kernel
theorem dX6_spelled_30 : decode cX6_spelled 30 = .ok (.areturn, 1) := by decide +kernel
theorem dX6_spelled_31 : decode cX6_spelled 31 = .ok (.ldc 161, 2) := by decide +kernel
theorem dX6_spelled_33 : decode cX6_spelled 33 = .ok (.areturn, 1) := by decide +kernel
theorem dX6_spelled_34 : decode cX6_spelled 34 = .ok (.ldc 163, 2) := by decide +kernel
theorem dX6_spelled_36 : decode cX6_spelled 36 = .ok (.areturn, 1) := by decide +kernel
theorem dX6_spelled_37 : decode cX6_spelled 37 = .ok (.iload_n 0, 1) := by decide +kernel
theorem dX6_spelled_38 : decode cX6_spelled 38 = .ok (.invokestatic 165, 3) := by decide +kernel
theorem dX6_spelled_41 : decode cX6_spelled 41 = .ok (.areturn, 1) := by decide +kernel
theorem dX6_moveWord_0 : decode cX6_moveWord 0 = .ok (.iload_n 0, 1) := by decide +kernel
theorem dX6_moveWord_1 : decode cX6_moveWord 1 = .ok (.tableswitch 43 0 3 #[31, 34, 37, 40], 31) := by decide +kernel
theorem dX6_moveWord_32 : decode cX6_moveWord 32 = .ok (.ldc 168, 2) := by decide +kernel
theorem dX6_moveWord_34 : decode cX6_moveWord 34 = .ok (.areturn, 1) := by decide +kernel
theorem dX6_moveWord_35 : decode cX6_moveWord 35 = .ok (.ldc 170, 2) := by decide +kernel
theorem dX6_moveWord_37 : decode cX6_moveWord 37 = .ok (.areturn, 1) := by decide +kernel
theorem dX6_moveWord_38 : decode cX6_moveWord 38 = .ok (.ldc 172, 2) := by decide +kernel
theorem dX6_moveWord_40 : decode cX6_moveWord 40 = .ok (.areturn, 1) := by decide +kernel
theorem dX6_moveWord_41 : decode cX6_moveWord 41 = .ok (.ldc 174, 2) := by decide +kernel
theorem dX6_moveWord_43 : decode cX6_moveWord 43 = .ok (.areturn, 1) := by decide +kernel
theorem dX6_moveWord_44 : decode cX6_moveWord 44 = .ok (.ldc 176, 2) := by decide +kernel
theorem dX6_moveWord_46 : decode cX6_moveWord 46 = .ok (.areturn, 1) := by decide +kernel
theorem dX6_readNumber_0 : decode cX6_readNumber 0 = .ok (.aload_n 0, 1) := by decide +kernel
theorem dX6_readNumber_1 : decode cX6_readNumber 1 = .ok (.getfield 45, 3) := by decide +kernel
theorem dX6_readNumber_4 : decode cX6_readNumber 4 = .ok (.istore 4, 2) := by decide +kernel
theorem dX6_readNumber_6 : decode cX6_readNumber 6 = .ok (.aload_n 0, 1) := by decide +kernel
theorem dX6_readNumber_7 : decode cX6_readNumber 7 = .ok (.invokevirtual 57, 3) := by decide +kernel
theorem dX6_readNumber_10 : decode cX6_readNumber 10 = .ok (.aload_n 0, 1) := by decide +kernel
theorem dX6_readNumber_11 : decode cX6_readNumber 11 = .ok (.getfield 45, 3) := by decide +kernel
theorem dX6_readNumber_14 : decode cX6_readNumber 14 = .ok (.istore 5, 2) := by decide +kernel
theorem dX6_readNumber_16 : decode cX6_readNumber 16 = .ok (.iconst 0, 1) := by decide +kernel
theorem dX6_readNumber_17 : decode cX6_readNumber 17 = .ok (.istore 6, 2) := by decide +kernel
theorem dX6_readNumber_19 : decode cX6_readNumber 19 = .ok (.aload_n 0, 1) := by decide +kernel
theorem dX6_readNumber_20 : decode cX6_readNumber 20 = .ok (.getfield 45, 3) := by decide +kernel
theorem dX6_readNumber_23 : decode cX6_readNumber 23 = .ok (.aload_n 0, 1) := by decide +kernel
theorem dX6_readNumber_24 : decode cX6_readNumber 24 = .ok (.getfield 44, 3) := by decide +kernel
theorem dX6_readNumber_27 : decode cX6_readNumber 27 = .ok (.if_icmp .ge 80, 3) := by decide +kernel
theorem dX6_readNumber_30 : decode cX6_readNumber 30 = .ok (.aload_n 0, 1) := by decide +kernel
theorem dX6_readNumber_31 : decode cX6_readNumber 31 = .ok (.getfield 39, 3) := by decide +kernel
theorem dX6_readNumber_34 : decode cX6_readNumber 34 = .ok (.aload_n 0, 1) := by decide +kernel
theorem dX6_readNumber_35 : decode cX6_readNumber 35 = .ok (.getfield 45, 3) := by decide +kernel
theorem dX6_readNumber_38 : decode cX6_readNumber 38 = .ok (.iaload, 1) := by decide +kernel
theorem dX6_readNumber_39 : decode cX6_readNumber 39 = .ok (.bipush 48, 2) := by decide +kernel
theorem dX6_readNumber_41 : decode cX6_readNumber 41 = .ok (.if_icmp .lt 66, 3) := by decide +kernel
theorem dX6_readNumber_44 : decode cX6_readNumber 44 = .ok (.aload_n 0, 1) := by decide +kernel
theorem dX6_readNumber_45 : decode cX6_readNumber 45 = .ok (.getfield 39, 3) := by decide +kernel
theorem dX6_readNumber_48 : decode cX6_readNumber 48 = .ok (.aload_n 0, 1) := by decide +kernel
theorem dX6_readNumber_49 : decode cX6_readNumber 49 = .ok (.getfield 45, 3) := by decide +kernel
theorem dX6_readNumber_52 : decode cX6_readNumber 52 = .ok (.iaload, 1) := by decide +kernel
theorem dX6_readNumber_53 : decode cX6_readNumber 53 = .ok (.bipush 57, 2) := by decide +kernel
theorem dX6_readNumber_55 : decode cX6_readNumber 55 = .ok (.if_icmp .gt 52, 3) := by decide +kernel
theorem dX6_readNumber_58 : decode cX6_readNumber 58 = .ok (.aload_n 0, 1) := by decide +kernel
theorem dX6_readNumber_59 : decode cX6_readNumber 59 = .ok (.getfield 45, 3) := by decide +kernel
theorem dX6_readNumber_62 : decode cX6_readNumber 62 = .ok (.iload 5, 2) := by decide +kernel
theorem dX6_readNumber_64 : decode cX6_readNumber 64 = .ok (.isub, 1) := by decide +kernel
theorem dX6_readNumber_65 : decode cX6_readNumber 65 = .ok (.iconst 2, 1) := by decide +kernel
theorem dX6_readNumber_66 : decode cX6_readNumber 66 = .ok (.if_icmp .ge 24, 3) := by decide +kernel
theorem dX6_readNumber_69 : decode cX6_readNumber 69 = .ok (.iload 6, 2) := by decide +kernel
theorem dX6_readNumber_71 : decode cX6_readNumber 71 = .ok (.bipush 10, 2) := by decide +kernel
theorem dX6_readNumber_73 : decode cX6_readNumber 73 = .ok (.imul, 1) := by decide +kernel
theorem dX6_readNumber_74 : decode cX6_readNumber 74 = .ok (.aload_n 0, 1) := by decide +kernel
theorem dX6_readNumber_75 : decode cX6_readNumber 75 = .ok (.getfield 39, 3) := by decide +kernel
theorem dX6_readNumber_78 : decode cX6_readNumber 78 = .ok (.aload_n 0, 1) := by decide +kernel
theorem dX6_readNumber_79 : decode cX6_readNumber 79 = .ok (.getfield 45, 3) := by decide +kernel
theorem dX6_readNumber_82 : decode cX6_readNumber 82 = .ok (.iaload, 1) := by decide +kernel
theorem dX6_readNumber_83 : decode cX6_readNumber 83 = .ok (.iadd, 1) := by decide +kernel
theorem dX6_readNumber_84 : decode cX6_readNumber 84 = .ok (.bipush 48, 2) := by decide +kernel
theorem dX6_readNumber_86 : decode cX6_readNumber 86 = .ok (.isub, 1) := by decide +kernel
theorem dX6_readNumber_87 : decode cX6_readNumber 87 = .ok (.goto 5, 3) := by decide +kernel
theorem dX6_readNumber_90 : decode cX6_readNumber 90 = .ok (.iload 6, 2) := by decide +kernel
theorem dX6_readNumber_92 : decode cX6_readNumber 92 = .ok (.istore 6, 2) := by decide +kernel
theorem dX6_readNumber_94 : decode cX6_readNumber 94 = .ok (.aload_n 0, 1) := by decide +kernel
theorem dX6_readNumber_95 : decode cX6_readNumber 95 = .ok (.dup, 1) := by decide +kernel
theorem dX6_readNumber_96 : decode cX6_readNumber 96 = .ok (.getfield 45, 3) := by decide +kernel
theorem dX6_readNumber_99 : decode cX6_readNumber 99 = .ok (.iconst 1, 1) := by decide +kernel
theorem dX6_readNumber_100 : decode cX6_readNumber 100 = .ok (.iadd, 1) := by decide +kernel
theorem dX6_readNumber_101 : decode cX6_readNumber 101 = .ok (.putfield 45, 3) := by decide +kernel
theorem dX6_readNumber_104 : decode cX6_readNumber 104 = .ok (.goto (-85), 3) := by decide +kernel
theorem dX6_readNumber_107 : decode cX6_readNumber 107 = .ok (.aload_n 0, 1) := by decide +kernel
theorem dX6_readNumber_108 : decode cX6_readNumber 108 = .ok (.getfield 45, 3) := by decide +kernel
theorem dX6_readNumber_111 : decode cX6_readNumber 111 = .ok (.iload 5, 2) := by decide +kernel
theorem dX6_readNumber_113 : decode cX6_readNumber 113 = .ok (.isub, 1) := by decide +kernel
theorem dX6_readNumber_114 : decode cX6_readNumber 114 = .ok (.istore 7, 2) := by decide +kernel
theorem dX6_readNumber_116 : decode cX6_readNumber 116 = .ok (.iload 5, 2) := by decide +kernel
theorem dX6_readNumber_118 : decode cX6_readNumber 118 = .ok (.iload 4, 2) := by decide +kernel
theorem dX6_readNumber_120 : decode cX6_readNumber 120 = .ok (.if_icmp .eq 27, 3) := by decide +kernel
theorem dX6_readNumber_123 : decode cX6_readNumber 123 = .ok (.iload 7, 2) := by decide +kernel
theorem dX6_readNumber_125 : decode cX6_readNumber 125 = .ok (.iconst 1, 1) := by decide +kernel
theorem dX6_readNumber_126 : decode cX6_readNumber 126 = .ok (.if_icmp .lt 21, 3) := by decide +kernel
theorem dX6_readNumber_129 : decode cX6_readNumber 129 = .ok (.iload 7, 2) := by decide +kernel
theorem dX6_readNumber_131 : decode cX6_readNumber 131 = .ok (.iconst 2, 1) := by decide +kernel
theorem dX6_readNumber_132 : decode cX6_readNumber 132 = .ok (.if_icmp .gt 15, 3) := by decide +kernel
theorem dX6_readNumber_135 : decode cX6_readNumber 135 = .ok (.iload 6, 2) := by decide +kernel
theorem dX6_readNumber_137 : decode cX6_readNumber 137 = .ok (.iload_n 2, 1) := by decide +kernel
theorem dX6_readNumber_138 : decode cX6_readNumber 138 = .ok (.if_icmp .lt 9, 3) := by decide +kernel
theorem dX6_readNumber_141 : decode cX6_readNumber 141 = .ok (.iload 6, 2) := by decide +kernel
theorem dX6_readNumber_143 : decode cX6_readNumber 143 = .ok (.iload_n 3, 1) := by decide +kernel
theorem dX6_readNumber_144 : decode cX6_readNumber 144 = .ok (.if_icmp .le 10, 3) := by decide +kernel
theorem dX6_readNumber_147 : decode cX6_readNumber 147 = .ok (.aload_n 0, 1) := by decide +kernel
theorem dX6_readNumber_148 : decode cX6_readNumber 148 = .ok (.iload 5, 2) := by decide +kernel
theorem dX6_readNumber_150 : decode cX6_readNumber 150 = .ok (.invokevirtual 72, 3) := by decide +kernel
theorem dX6_readNumber_153 : decode cX6_readNumber 153 = .ok (.ireturn, 1) := by decide +kernel
theorem dX6_readNumber_154 : decode cX6_readNumber 154 = .ok (.aload_n 0, 1) := by decide +kernel
theorem dX6_readNumber_155 : decode cX6_readNumber 155 = .ok (.getfield 25, 3) := by decide +kernel
theorem dX6_readNumber_158 : decode cX6_readNumber 158 = .ok (.iload_n 1, 1) := by decide +kernel
theorem dX6_readNumber_159 : decode cX6_readNumber 159 = .ok (.iload 6, 2) := by decide +kernel
theorem dX6_readNumber_161 : decode cX6_readNumber 161 = .ok (.iastore, 1) := by decide +kernel
theorem dX6_readNumber_162 : decode cX6_readNumber 162 = .ok (.iconst 1, 1) := by decide +kernel
theorem dX6_readNumber_163 : decode cX6_readNumber 163 = .ok (.ireturn, 1) := by decide +kernel
theorem dX6_endComesNext_0 : decode cX6_endComesNext 0 = .ok (.aload_n 0, 1) := by decide +kernel
theorem dX6_endComesNext_1 : decode cX6_endComesNext 1 = .ok (.invokevirtual 178, 3) := by decide +kernel
theorem dX6_endComesNext_4 : decode cX6_endComesNext 4 = .ok (.istore_n 1, 1) := by decide +kernel
theorem dX6_endComesNext_5 : decode cX6_endComesNext 5 = .ok (.iload_n 1, 1) := by decide +kernel
theorem dX6_endComesNext_6 : decode cX6_endComesNext 6 = .ok (.aload_n 0, 1) := by decide +kernel
theorem dX6_endComesNext_7 : decode cX6_endComesNext 7 = .ok (.getfield 44, 3) := by decide +kernel
theorem dX6_endComesNext_10 : decode cX6_endComesNext 10 = .ok (.if_icmp .ge 18, 3) := by decide +kernel
theorem dX6_endComesNext_13 : decode cX6_endComesNext 13 = .ok (.aload_n 0, 1) := by decide +kernel
theorem dX6_endComesNext_14 : decode cX6_endComesNext 14 = .ok (.getfield 39, 3) := by decide +kernel
theorem dX6_endComesNext_17 : decode cX6_endComesNext 17 = .ok (.iload_n 1, 1) := by decide +kernel
theorem dX6_endComesNext_18 : decode cX6_endComesNext 18 = .ok (.iaload, 1) := by decide +kernel
theorem dX6_endComesNext_19 : decode cX6_endComesNext 19 = .ok (.bipush 59, 2) := by decide +kernel
theorem dX6_endComesNext_21 : decode cX6_endComesNext 21 = .ok (.if_icmp .ne 7, 3) := by decide +kernel
theorem dX6_endComesNext_24 : decode cX6_endComesNext 24 = .ok (.iconst 1, 1) := by decide +kernel
theorem dX6_endComesNext_25 : decode cX6_endComesNext 25 = .ok (.goto 4, 3) := by decide +kernel
theorem dX6_endComesNext_28 : decode cX6_endComesNext 28 = .ok (.iconst 0, 1) := by decide +kernel
theorem dX6_endComesNext_29 : decode cX6_endComesNext 29 = .ok (.ireturn, 1) := by decide +kernel
theorem dX6_readEnd_0 : decode cX6_readEnd 0 = .ok (.aload_n 0, 1) := by decide +kernel
theorem dX6_readEnd_1 : decode cX6_readEnd 1 = .ok (.invokevirtual 57, 3) := by decide +kernel
theorem dX6_readEnd_4 : decode cX6_readEnd 4 = .ok (.aload_n 0, 1) := by decide +kernel
theorem dX6_readEnd_5 : decode cX6_readEnd 5 = .ok (.getfield 45, 3) := by decide +kernel
theorem dX6_readEnd_8 : decode cX6_readEnd 8 = .ok (.aload_n 0, 1) := by decide +kernel
theorem dX6_readEnd_9 : decode cX6_readEnd 9 = .ok (.getfield 44, 3) := by decide +kernel
theorem dX6_readEnd_12 : decode cX6_readEnd 12 = .ok (.if_icmp .ge 17, 3) := by decide +kernel
theorem dX6_readEnd_15 : decode cX6_readEnd 15 = .ok (.aload_n 0, 1) := by decide +kernel
theorem dX6_readEnd_16 : decode cX6_readEnd 16 = .ok (.getfield 39, 3) := by decide +kernel
theorem dX6_readEnd_19 : decode cX6_readEnd 19 = .ok (.aload_n 0, 1) := by decide +kernel
theorem dX6_readEnd_20 : decode cX6_readEnd 20 = .ok (.getfield 45, 3) := by decide +kernel
theorem dX6_readEnd_23 : decode cX6_readEnd 23 = .ok (.iaload, 1) := by decide +kernel
theorem dX6_readEnd_24 : decode cX6_readEnd 24 = .ok (.bipush 59, 2) := by decide +kernel
theorem dX6_readEnd_26 : decode cX6_readEnd 26 = .ok (.if_icmp .eq 12, 3) := by decide +kernel
theorem dX6_readEnd_29 : decode cX6_readEnd 29 = .ok (.aload_n 0, 1) := by decide +kernel
theorem dX6_readEnd_30 : decode cX6_readEnd 30 = .ok (.aload_n 0, 1) := by decide +kernel
theorem dX6_readEnd_31 : decode cX6_readEnd 31 = .ok (.getfield 45, 3) := by decide +kernel
theorem dX6_readEnd_34 : decode cX6_readEnd 34 = .ok (.invokevirtual 72, 3) := by decide +kernel
theorem dX6_readEnd_37 : decode cX6_readEnd 37 = .ok (.ireturn, 1) := by decide +kernel
theorem dX6_readEnd_38 : decode cX6_readEnd 38 = .ok (.aload_n 0, 1) := by decide +kernel
theorem dX6_readEnd_39 : decode cX6_readEnd 39 = .ok (.dup, 1) := by decide +kernel
theorem dX6_readEnd_40 : decode cX6_readEnd 40 = .ok (.getfield 45, 3) := by decide +kernel
theorem dX6_readEnd_43 : decode cX6_readEnd 43 = .ok (.iconst 1, 1) := by decide +kernel
theorem dX6_readEnd_44 : decode cX6_readEnd 44 = .ok (.iadd, 1) := by decide +kernel
theorem dX6_readEnd_45 : decode cX6_readEnd 45 = .ok (.putfield 45, 3) := by decide +kernel
theorem dX6_readEnd_48 : decode cX6_readEnd 48 = .ok (.iconst 1, 1) := by decide +kernel
theorem dX6_readEnd_49 : decode cX6_readEnd 49 = .ok (.ireturn, 1) := by decide +kernel
theorem dX6_skipBlanks_0 : decode cX6_skipBlanks 0 = .ok (.aload_n 0, 1) := by decide +kernel
theorem dX6_skipBlanks_1 : decode cX6_skipBlanks 1 = .ok (.aload_n 0, 1) := by decide +kernel
theorem dX6_skipBlanks_2 : decode cX6_skipBlanks 2 = .ok (.invokevirtual 178, 3) := by decide +kernel
theorem dX6_skipBlanks_5 : decode cX6_skipBlanks 5 = .ok (.putfield 45, 3) := by decide +kernel
theorem dX6_skipBlanks_8 : decode cX6_skipBlanks 8 = .ok (.return_, 1) := by decide +kernel
theorem dX6_blanksEnd_0 : decode cX6_blanksEnd 0 = .ok (.aload_n 0, 1) := by decide +kernel
theorem dX6_blanksEnd_1 : decode cX6_blanksEnd 1 = .ok (.getfield 45, 3) := by decide +kernel
theorem dX6_blanksEnd_4 : decode cX6_blanksEnd 4 = .ok (.istore_n 1, 1) := by decide +kernel
theorem dX6_blanksEnd_5 : decode cX6_blanksEnd 5 = .ok (.iload_n 1, 1) := by decide +kernel
theorem dX6_blanksEnd_6 : decode cX6_blanksEnd 6 = .ok (.aload_n 0, 1) := by decide +kernel
theorem dX6_blanksEnd_7 : decode cX6_blanksEnd 7 = .ok (.getfield 44, 3) := by decide +kernel
theorem dX6_blanksEnd_10 : decode cX6_blanksEnd 10 = .ok (.if_icmp .ge 31, 3) := by decide +kernel
theorem dX6_blanksEnd_13 : decode cX6_blanksEnd 13 = .ok (.aload_n 0, 1) := by decide +kernel
theorem dX6_blanksEnd_14 : decode cX6_blanksEnd 14 = .ok (.getfield 39, 3) := by decide +kernel
theorem dX6_blanksEnd_17 : decode cX6_blanksEnd 17 = .ok (.iload_n 1, 1) := by decide +kernel
theorem dX6_blanksEnd_18 : decode cX6_blanksEnd 18 = .ok (.iaload, 1) := by decide +kernel
theorem dX6_blanksEnd_19 : decode cX6_blanksEnd 19 = .ok (.bipush 32, 2) := by decide +kernel
theorem dX6_blanksEnd_21 : decode cX6_blanksEnd 21 = .ok (.if_icmp .eq 14, 3) := by decide +kernel
theorem dX6_blanksEnd_24 : decode cX6_blanksEnd 24 = .ok (.aload_n 0, 1) := by decide +kernel
theorem dX6_blanksEnd_25 : decode cX6_blanksEnd 25 = .ok (.getfield 39, 3) := by decide +kernel
theorem dX6_blanksEnd_28 : decode cX6_blanksEnd 28 = .ok (.iload_n 1, 1) := by decide +kernel
theorem dX6_blanksEnd_29 : decode cX6_blanksEnd 29 = .ok (.iaload, 1) := by decide +kernel
theorem dX6_blanksEnd_30 : decode cX6_blanksEnd 30 = .ok (.bipush 10, 2) := by decide +kernel
theorem dX6_blanksEnd_32 : decode cX6_blanksEnd 32 = .ok (.if_icmp .ne 9, 3) := by decide +kernel
theorem dX6_blanksEnd_35 : decode cX6_blanksEnd 35 = .ok (.iinc 1 1, 3) := by decide +kernel
theorem dX6_blanksEnd_38 : decode cX6_blanksEnd 38 = .ok (.goto (-33), 3) := by decide +kernel
theorem dX6_blanksEnd_41 : decode cX6_blanksEnd 41 = .ok (.iload_n 1, 1) := by decide +kernel
theorem dX6_blanksEnd_42 : decode cX6_blanksEnd 42 = .ok (.ireturn, 1) := by decide +kernel
theorem dX7_init_0 : decode cX7_init 0 = .ok (.aload_n 0, 1) := by decide +kernel
theorem dX7_init_1 : decode cX7_init 1 = .ok (.invokespecial 3, 3) := by decide +kernel
theorem dX7_init_4 : decode cX7_init 4 = .ok (.aload_n 0, 1) := by decide +kernel
theorem dX7_init_5 : decode cX7_init 5 = .ok (.sipush 700, 3) := by decide +kernel
theorem dX7_init_8 : decode cX7_init 8 = .ok (.newarray .byte, 2) := by decide +kernel
theorem dX7_init_10 : decode cX7_init 10 = .ok (.putfield 11, 3) := by decide +kernel
theorem dX7_init_13 : decode cX7_init 13 = .ok (.aload_n 0, 1) := by decide +kernel
theorem dX7_init_14 : decode cX7_init 14 = .ok (.bipush (-2), 2) := by decide +kernel
theorem dX7_init_16 : decode cX7_init 16 = .ok (.putfield 15, 3) := by decide +kernel
theorem dX7_init_19 : decode cX7_init 19 = .ok (.return_, 1) := by decide +kernel
theorem dX7_tell_0 : decode cX7_tell 0 = .ok (.iload_n 1, 1) := by decide +kernel
theorem dX7_tell_1 : decode cX7_tell 1 = .ok (.ifCond .ge 8, 3) := by decide +kernel
theorem dX7_tell_4 : decode cX7_tell 4 = .ok (.aload_n 0, 1) := by decide +kernel
theorem dX7_tell_5 : decode cX7_tell 5 = .ok (.getfield 19, 3) := by decide +kernel
theorem dX7_tell_8 : decode cX7_tell 8 = .ok (.ireturn, 1) := by decide +kernel
theorem dX7_tell_9 : decode cX7_tell 9 = .ok (.iload_n 1, 1) := by decide +kernel
theorem dX7_tell_10 : decode cX7_tell 10 = .ok (.aload_n 0, 1) := by decide +kernel
theorem dX7_tell_11 : decode cX7_tell 11 = .ok (.getfield 19, 3) := by decide +kernel
theorem dX7_tell_14 : decode cX7_tell 14 = .ok (.if_icmp .ge 12, 3) := by decide +kernel
theorem dX7_tell_17 : decode cX7_tell 17 = .ok (.aload_n 0, 1) := by decide +kernel
theorem dX7_tell_18 : decode cX7_tell 18 = .ok (.getfield 11, 3) := by decide +kernel
theorem dX7_tell_21 : decode cX7_tell 21 = .ok (.iload_n 1, 1) := by decide +kernel
theorem dX7_tell_22 : decode cX7_tell 22 = .ok (.baload, 1) := by decide +kernel
theorem dX7_tell_23 : decode cX7_tell 23 = .ok (.goto 5, 3) := by decide +kernel
theorem dX7_tell_26 : decode cX7_tell 26 = .ok (.bipush (-2), 2) := by decide +kernel
theorem dX7_tell_28 : decode cX7_tell 28 = .ok (.ireturn, 1) := by decide +kernel
theorem dX7_writeCloth_0 : decode cX7_writeCloth 0 = .ok (.aload_n 0, 1) := by decide +kernel
theorem dX7_writeCloth_1 : decode cX7_writeCloth 1 = .ok (.getfield 15, 3) := by decide +kernel
theorem dX7_writeCloth_4 : decode cX7_writeCloth 4 = .ok (.iconst (-1), 1) := by decide +kernel
theorem dX7_writeCloth_5 : decode cX7_writeCloth 5 = .ok (.if_icmp .ne 4, 3) := by decide +kernel
theorem dX7_writeCloth_8 : decode cX7_writeCloth 8 = .ok (.return_, 1) := by decide +kernel
theorem dX7_writeCloth_9 : decode cX7_writeCloth 9 = .ok (.aload_n 0, 1) := by decide +kernel
theorem dX7_writeCloth_10 : decode cX7_writeCloth 10 = .ok (.iconst (-1), 1) := by decide +kernel
theorem dX7_writeCloth_11 : decode cX7_writeCloth 11 = .ok (.putfield 15, 3) := by decide +kernel
theorem dX7_writeCloth_14 : decode cX7_writeCloth 14 = .ok (.aload_n 0, 1) := by decide +kernel
theorem dX7_writeCloth_15 : decode cX7_writeCloth 15 = .ok (.iconst 0, 1) := by decide +kernel
theorem dX7_writeCloth_16 : decode cX7_writeCloth 16 = .ok (.putfield 19, 3) := by decide +kernel
theorem dX7_writeCloth_19 : decode cX7_writeCloth 19 = .ok (.iconst 0, 1) := by decide +kernel
theorem dX7_writeCloth_20 : decode cX7_writeCloth 20 = .ok (.istore_n 2, 1) := by decide +kernel
theorem dX7_writeCloth_21 : decode cX7_writeCloth 21 = .ok (.iload_n 2, 1) := by decide +kernel
theorem dX7_writeCloth_22 : decode cX7_writeCloth 22 = .ok (.aload_n 1, 1) := by decide +kernel
theorem dX7_writeCloth_23 : decode cX7_writeCloth 23 = .ok (.getfield 22, 3) := by decide +kernel
theorem dX7_writeCloth_26 : decode cX7_writeCloth 26 = .ok (.if_icmp .ge 31, 3) := by decide +kernel
theorem dX7_writeCloth_29 : decode cX7_writeCloth 29 = .ok (.aload_n 0, 1) := by decide +kernel
theorem dX7_writeCloth_30 : decode cX7_writeCloth 30 = .ok (.ldc 27, 2) := by decide +kernel
theorem dX7_writeCloth_32 : decode cX7_writeCloth 32 = .ok (.invokevirtual 29, 3) := by decide +kernel
theorem dX7_writeCloth_35 : decode cX7_writeCloth 35 = .ok (.aload_n 0, 1) := by decide +kernel
theorem dX7_writeCloth_36 : decode cX7_writeCloth 36 = .ok (.aload_n 1, 1) := by decide +kernel
theorem dX7_writeCloth_37 : decode cX7_writeCloth 37 = .ok (.getfield 33, 3) := by decide +kernel
theorem dX7_writeCloth_40 : decode cX7_writeCloth 40 = .ok (.iload_n 2, 1) := by decide +kernel
theorem dX7_writeCloth_41 : decode cX7_writeCloth 41 = .ok (.iaload, 1) := by decide +kernel
theorem dX7_writeCloth_42 : decode cX7_writeCloth 42 = .ok (.invokevirtual 37, 3) := by decide +kernel
theorem dX7_writeCloth_45 : decode cX7_writeCloth 45 = .ok (.aload_n 0, 1) := by decide +kernel
theorem dX7_writeCloth_46 : decode cX7_writeCloth 46 = .ok (.bipush 59, 2) := by decide +kernel
theorem dX7_writeCloth_48 : decode cX7_writeCloth 48 = .ok (.invokevirtual 41, 3) := by decide +kernel
theorem dX7_writeCloth_51 : decode cX7_writeCloth 51 = .ok (.iinc 2 1, 3) := by decide +kernel
theorem dX7_writeCloth_54 : decode cX7_writeCloth 54 = .ok (.goto (-33), 3) := by decide +kernel
theorem dX7_writeCloth_57 : decode cX7_writeCloth 57 = .ok (.iconst 0, 1) := by decide +kernel
theorem dX7_writeCloth_58 : decode cX7_writeCloth 58 = .ok (.istore_n 2, 1) := by decide +kernel
theorem dX7_writeCloth_59 : decode cX7_writeCloth 59 = .ok (.iload_n 2, 1) := by decide +kernel
theorem dX7_writeCloth_60 : decode cX7_writeCloth 60 = .ok (.aload_n 1, 1) := by decide +kernel
theorem dX7_writeCloth_61 : decode cX7_writeCloth 61 = .ok (.getfield 45, 3) := by decide +kernel
theorem dX7_writeCloth_64 : decode cX7_writeCloth 64 = .ok (.if_icmp .ge 31, 3) := by decide +kernel
theorem dX7_writeCloth_67 : decode cX7_writeCloth 67 = .ok (.aload_n 0, 1) := by decide +kernel
theorem dX7_writeCloth_68 : decode cX7_writeCloth 68 = .ok (.ldc 48, 2) := by decide +kernel
theorem dX7_writeCloth_70 : decode cX7_writeCloth 70 = .ok (.invokevirtual 29, 3) := by decide +kernel
theorem dX7_writeCloth_73 : decode cX7_writeCloth 73 = .ok (.aload_n 0, 1) := by decide +kernel
theorem dX7_writeCloth_74 : decode cX7_writeCloth 74 = .ok (.aload_n 1, 1) := by decide +kernel
theorem dX7_writeCloth_75 : decode cX7_writeCloth 75 = .ok (.getfield 50, 3) := by decide +kernel
theorem dX7_writeCloth_78 : decode cX7_writeCloth 78 = .ok (.iload_n 2, 1) := by decide +kernel
theorem dX7_writeCloth_79 : decode cX7_writeCloth 79 = .ok (.bipush 6, 2) := by decide +kernel
theorem dX7_writeCloth_81 : decode cX7_writeCloth 81 = .ok (.imul, 1) := by decide +kernel
theorem dX7_writeCloth_82 : decode cX7_writeCloth 82 = .ok (.aload_n 1, 1) := by decide +kernel
theorem dX7_writeCloth_83 : decode cX7_writeCloth 83 = .ok (.getfield 22, 3) := by decide +kernel
theorem dX7_writeCloth_86 : decode cX7_writeCloth 86 = .ok (.invokevirtual 53, 3) := by decide +kernel
theorem dX7_writeCloth_89 : decode cX7_writeCloth 89 = .ok (.iinc 2 1, 3) := by decide +kernel
theorem dX7_writeCloth_92 : decode cX7_writeCloth 92 = .ok (.goto (-33), 3) := by decide +kernel
theorem dX7_writeCloth_95 : decode cX7_writeCloth 95 = .ok (.iconst 0, 1) := by decide +kernel
theorem dX7_writeCloth_96 : decode cX7_writeCloth 96 = .ok (.istore_n 2, 1) := by decide +kernel
theorem dX7_writeCloth_97 : decode cX7_writeCloth 97 = .ok (.iload_n 2, 1) := by decide +kernel
theorem dX7_writeCloth_98 : decode cX7_writeCloth 98 = .ok (.aload_n 1, 1) := by decide +kernel
theorem dX7_writeCloth_99 : decode cX7_writeCloth 99 = .ok (.getfield 57, 3) := by decide +kernel
theorem dX7_writeCloth_102 : decode cX7_writeCloth 102 = .ok (.if_icmp .ge 17, 3) := by decide +kernel
theorem dX7_writeCloth_105 : decode cX7_writeCloth 105 = .ok (.aload_n 0, 1) := by decide +kernel
theorem dX7_writeCloth_106 : decode cX7_writeCloth 106 = .ok (.aload_n 1, 1) := by decide +kernel
theorem dX7_writeCloth_107 : decode cX7_writeCloth 107 = .ok (.iload_n 2, 1) := by decide +kernel
theorem dX7_writeCloth_108 : decode cX7_writeCloth 108 = .ok (.iconst 5, 1) := by decide +kernel
theorem dX7_writeCloth_109 : decode cX7_writeCloth 109 = .ok (.imul, 1) := by decide +kernel
theorem dX7_writeCloth_110 : decode cX7_writeCloth 110 = .ok (.invokevirtual 60, 3) := by decide +kernel
theorem dX7_writeCloth_113 : decode cX7_writeCloth 113 = .ok (.iinc 2 1, 3) := by decide +kernel
theorem dX7_writeCloth_116 : decode cX7_writeCloth 116 = .ok (.goto (-19), 3) := by decide +kernel
theorem dX7_writeCloth_119 : decode cX7_writeCloth 119 = .ok (.iconst 0, 1) := by decide +kernel
theorem dX7_writeCloth_120 : decode cX7_writeCloth 120 = .ok (.istore_n 2, 1) := by decide +kernel
theorem dX7_writeCloth_121 : decode cX7_writeCloth 121 = .ok (.iload_n 2, 1) := by decide +kernel
theorem dX7_writeCloth_122 : decode cX7_writeCloth 122 = .ok (.aload_n 1, 1) := by decide +kernel
theorem dX7_writeCloth_123 : decode cX7_writeCloth 123 = .ok (.getfield 64, 3) := by decide +kernel
theorem dX7_writeCloth_126 : decode cX7_writeCloth 126 = .ok (.if_icmp .ge 27, 3) := by decide +kernel
theorem dX7_writeCloth_129 : decode cX7_writeCloth 129 = .ok (.aload_n 0, 1) := by decide +kernel
theorem dX7_writeCloth_130 : decode cX7_writeCloth 130 = .ok (.ldc 67, 2) := by decide +kernel
theorem dX7_writeCloth_132 : decode cX7_writeCloth 132 = .ok (.invokevirtual 29, 3) := by decide +kernel
theorem dX7_writeCloth_135 : decode cX7_writeCloth 135 = .ok (.aload_n 0, 1) := by decide +kernel
theorem dX7_writeCloth_136 : decode cX7_writeCloth 136 = .ok (.aload_n 1, 1) := by decide +kernel
theorem dX7_writeCloth_137 : decode cX7_writeCloth 137 = .ok (.getfield 69, 3) := by decide +kernel
theorem dX7_writeCloth_140 : decode cX7_writeCloth 140 = .ok (.iload_n 2, 1) := by decide +kernel
theorem dX7_writeCloth_141 : decode cX7_writeCloth 141 = .ok (.iconst 4, 1) := by decide +kernel
theorem dX7_writeCloth_142 : decode cX7_writeCloth 142 = .ok (.imul, 1) := by decide +kernel
theorem dX7_writeCloth_143 : decode cX7_writeCloth 143 = .ok (.iconst 4, 1) := by decide +kernel
theorem dX7_writeCloth_144 : decode cX7_writeCloth 144 = .ok (.invokevirtual 53, 3) := by decide +kernel
theorem dX7_writeCloth_147 : decode cX7_writeCloth 147 = .ok (.iinc 2 1, 3) := by decide +kernel
theorem dX7_writeCloth_150 : decode cX7_writeCloth 150 = .ok (.goto (-29), 3) := by decide +kernel
theorem dX7_writeCloth_153 : decode cX7_writeCloth 153 = .ok (.return_, 1) := by decide +kernel
theorem dX7_writeMove_0 : decode cX7_writeMove 0 = .ok (.aload_n 1, 1) := by decide +kernel
theorem dX7_writeMove_1 : decode cX7_writeMove 1 = .ok (.getfield 71, 3) := by decide +kernel
theorem dX7_writeMove_4 : decode cX7_writeMove 4 = .ok (.iload_n 2, 1) := by decide +kernel
theorem dX7_writeMove_5 : decode cX7_writeMove 5 = .ok (.iaload, 1) := by decide +kernel
theorem dX7_writeMove_6 : decode cX7_writeMove 6 = .ok (.istore_n 3, 1) := by decide +kernel
theorem dX7_writeMove_7 : decode cX7_writeMove 7 = .ok (.aload_n 0, 1) := by decide +kernel
theorem dX7_writeMove_8 : decode cX7_writeMove 8 = .ok (.iload_n 3, 1) := by decide +kernel
theorem dX7_writeMove_9 : decode cX7_writeMove 9 = .ok (.invokestatic 74, 3) := by decide +kernel
theorem dX7_writeMove_12 : decode cX7_writeMove 12 = .ok (.invokevirtual 29, 3) := by decide +kernel
theorem dX7_writeMove_15 : decode cX7_writeMove 15 = .ok (.aload_n 0, 1) := by decide +kernel
theorem dX7_writeMove_16 : decode cX7_writeMove 16 = .ok (.aload_n 1, 1) := by decide +kernel
theorem dX7_writeMove_17 : decode cX7_writeMove 17 = .ok (.getfield 71, 3) := by decide +kernel
theorem dX7_writeMove_20 : decode cX7_writeMove 20 = .ok (.iload_n 2, 1) := by decide +kernel
theorem dX7_writeMove_21 : decode cX7_writeMove 21 = .ok (.iconst 1, 1) := by decide +kernel
theorem dX7_writeMove_22 : decode cX7_writeMove 22 = .ok (.iadd, 1) := by decide +kernel
theorem dX7_writeMove_23 : decode cX7_writeMove 23 = .ok (.iaload, 1) := by decide +kernel
theorem dX7_writeMove_24 : decode cX7_writeMove 24 = .ok (.invokevirtual 37, 3) := by decide +kernel
theorem dX7_writeMove_27 : decode cX7_writeMove 27 = .ok (.iload_n 3, 1) := by decide +kernel
theorem dX7_writeMove_28 : decode cX7_writeMove 28 = .ok (.iconst 4, 1) := by decide +kernel
theorem dX7_writeMove_29 : decode cX7_writeMove 29 = .ok (.if_icmp .ne 21, 3) := by decide +kernel
theorem dX7_writeMove_32 : decode cX7_writeMove 32 = .ok (.aload_n 0, 1) := by decide +kernel
theorem dX7_writeMove_33 : decode cX7_writeMove 33 = .ok (.bipush 32, 2) := by decide +kernel
theorem dX7_writeMove_35 : decode cX7_writeMove 35 = .ok (.invokevirtual 41, 3) := by decide +kernel
theorem dX7_writeMove_38 : decode cX7_writeMove 38 = .ok (.aload_n 0, 1) := by decide +kernel
theorem dX7_writeMove_39 : decode cX7_writeMove 39 = .ok (.aload_n 1, 1) := by decide +kernel
theorem dX7_writeMove_40 : decode cX7_writeMove 40 = .ok (.getfield 71, 3) := by decide +kernel
theorem dX7_writeMove_43 : decode cX7_writeMove 43 = .ok (.iload_n 2, 1) := by decide +kernel
theorem dX7_writeMove_44 : decode cX7_writeMove 44 = .ok (.iconst 4, 1) := by decide +kernel
theorem dX7_writeMove_45 : decode cX7_writeMove 45 = .ok (.iadd, 1) := by decide +kernel
theorem dX7_writeMove_46 : decode cX7_writeMove 46 = .ok (.iaload, 1) := by decide +kernel
theorem dX7_writeMove_47 : decode cX7_writeMove 47 = .ok (.invokevirtual 37, 3) := by decide +kernel
theorem dX7_writeMove_50 : decode cX7_writeMove 50 = .ok (.aload_n 0, 1) := by decide +kernel
theorem dX7_writeMove_51 : decode cX7_writeMove 51 = .ok (.bipush 32, 2) := by decide +kernel
theorem dX7_writeMove_53 : decode cX7_writeMove 53 = .ok (.invokevirtual 41, 3) := by decide +kernel
theorem dX7_writeMove_56 : decode cX7_writeMove 56 = .ok (.aload_n 0, 1) := by decide +kernel
theorem dX7_writeMove_57 : decode cX7_writeMove 57 = .ok (.aload_n 1, 1) := by decide +kernel
theorem dX7_writeMove_58 : decode cX7_writeMove 58 = .ok (.getfield 71, 3) := by decide +kernel
theorem dX7_writeMove_61 : decode cX7_writeMove 61 = .ok (.iload_n 2, 1) := by decide +kernel
theorem dX7_writeMove_62 : decode cX7_writeMove 62 = .ok (.iconst 2, 1) := by decide +kernel
theorem dX7_writeMove_63 : decode cX7_writeMove 63 = .ok (.iadd, 1) := by decide +kernel
theorem dX7_writeMove_64 : decode cX7_writeMove 64 = .ok (.iaload, 1) := by decide +kernel
theorem dX7_writeMove_65 : decode cX7_writeMove 65 = .ok (.invokevirtual 37, 3) := by decide +kernel
theorem dX7_writeMove_68 : decode cX7_writeMove 68 = .ok (.iload_n 3, 1) := by decide +kernel
theorem dX7_writeMove_69 : decode cX7_writeMove 69 = .ok (.iconst 2, 1) := by decide +kernel
theorem dX7_writeMove_70 : decode cX7_writeMove 70 = .ok (.if_icmp .eq 26, 3) := by decide +kernel
theorem dX7_writeMove_73 : decode cX7_writeMove 73 = .ok (.iload_n 3, 1) := by decide +kernel
theorem dX7_writeMove_74 : decode cX7_writeMove 74 = .ok (.iconst 3, 1) := by decide +kernel
theorem dX7_writeMove_75 : decode cX7_writeMove 75 = .ok (.if_icmp .eq 21, 3) := by decide +kernel
theorem dX7_writeMove_78 : decode cX7_writeMove 78 = .ok (.aload_n 0, 1) := by decide +kernel
theorem dX7_writeMove_79 : decode cX7_writeMove 79 = .ok (.bipush 32, 2) := by decide +kernel
theorem dX7_writeMove_81 : decode cX7_writeMove 81 = .ok (.invokevirtual 41, 3) := by decide +kernel
theorem dX7_writeMove_84 : decode cX7_writeMove 84 = .ok (.aload_n 0, 1) := by decide +kernel
theorem dX7_writeMove_85 : decode cX7_writeMove 85 = .ok (.aload_n 1, 1) := by decide +kernel
theorem dX7_writeMove_86 : decode cX7_writeMove 86 = .ok (.getfield 71, 3) := by decide +kernel
theorem dX7_writeMove_89 : decode cX7_writeMove 89 = .ok (.iload_n 2, 1) := by decide +kernel
theorem dX7_writeMove_90 : decode cX7_writeMove 90 = .ok (.iconst 3, 1) := by decide +kernel
theorem dX7_writeMove_91 : decode cX7_writeMove 91 = .ok (.iadd, 1) := by decide +kernel
theorem dX7_writeMove_92 : decode cX7_writeMove 92 = .ok (.iaload, 1) := by decide +kernel
theorem dX7_writeMove_93 : decode cX7_writeMove 93 = .ok (.invokevirtual 37, 3) := by decide +kernel
theorem dX7_writeMove_96 : decode cX7_writeMove 96 = .ok (.aload_n 0, 1) := by decide +kernel
theorem dX7_writeMove_97 : decode cX7_writeMove 97 = .ok (.bipush 59, 2) := by decide +kernel
theorem dX7_writeMove_99 : decode cX7_writeMove 99 = .ok (.invokevirtual 41, 3) := by decide +kernel
theorem dX7_writeMove_102 : decode cX7_writeMove 102 = .ok (.return_, 1) := by decide +kernel
theorem dX7_writeRow_0 : decode cX7_writeRow 0 = .ok (.aload_n 0, 1) := by decide +kernel
theorem dX7_writeRow_1 : decode cX7_writeRow 1 = .ok (.getfield 15, 3) := by decide +kernel
theorem dX7_writeRow_4 : decode cX7_writeRow 4 = .ok (.iload_n 2, 1) := by decide +kernel
theorem dX7_writeRow_5 : decode cX7_writeRow 5 = .ok (.if_icmp .ne 4, 3) := by decide +kernel
theorem dX7_writeRow_8 : decode cX7_writeRow 8 = .ok (.return_, 1) := by decide +kernel
theorem dX7_writeRow_9 : decode cX7_writeRow 9 = .ok (.aload_n 0, 1) := by decide +kernel
theorem dX7_writeRow_10 : decode cX7_writeRow 10 = .ok (.iload_n 2, 1) := by decide +kernel
theorem dX7_writeRow_11 : decode cX7_writeRow 11 = .ok (.putfield 15, 3) := by decide +kernel
theorem dX7_writeRow_14 : decode cX7_writeRow 14 = .ok (.aload_n 0, 1) := by decide +kernel
theorem dX7_writeRow_15 : decode cX7_writeRow 15 = .ok (.iconst 0, 1) := by decide +kernel
theorem dX7_writeRow_16 : decode cX7_writeRow 16 = .ok (.putfield 19, 3) := by decide +kernel
theorem dX7_writeRow_19 : decode cX7_writeRow 19 = .ok (.aload_n 1, 1) := by decide +kernel
theorem dX7_writeRow_20 : decode cX7_writeRow 20 = .ok (.getfield 22, 3) := by decide +kernel
theorem dX7_writeRow_23 : decode cX7_writeRow 23 = .ok (.iconst 1, 1) := by decide +kernel
theorem dX7_writeRow_24 : decode cX7_writeRow 24 = .ok (.isub, 1) := by decide +kernel
theorem dX7_writeRow_25 : decode cX7_writeRow 25 = .ok (.istore_n 3, 1) := by decide +kernel
theorem dX7_writeRow_26 : decode cX7_writeRow 26 = .ok (.iload_n 3, 1) := by decide +kernel
theorem dX7_writeRow_27 : decode cX7_writeRow 27 = .ok (.ifCond .lt 61, 3) := by decide +kernel
theorem dX7_writeRow_30 : decode cX7_writeRow 30 = .ok (.aload_n 1, 1) := by decide +kernel
theorem dX7_writeRow_31 : decode cX7_writeRow 31 = .ok (.getfield 80, 3) := by decide +kernel
theorem dX7_writeRow_34 : decode cX7_writeRow 34 = .ok (.iload_n 2, 1) := by decide +kernel
theorem dX7_writeRow_35 : decode cX7_writeRow 35 = .ok (.bipush 6, 2) := by decide +kernel
theorem dX7_writeRow_37 : decode cX7_writeRow 37 = .ok (.imul, 1) := by decide +kernel
theorem dX7_writeRow_38 : decode cX7_writeRow 38 = .ok (.iload_n 3, 1) := by decide +kernel
theorem dX7_writeRow_39 : decode cX7_writeRow 39 = .ok (.iadd, 1) := by decide +kernel
theorem dX7_writeRow_40 : decode cX7_writeRow 40 = .ok (.iaload, 1) := by decide +kernel
theorem dX7_writeRow_41 : decode cX7_writeRow 41 = .ok (.istore 4, 2) := by decide +kernel
theorem dX7_writeRow_43 : decode cX7_writeRow 43 = .ok (.iload 4, 2) := by decide +kernel
theorem dX7_writeRow_45 : decode cX7_writeRow 45 = .ok (.ifCond .le 37, 3) := by decide +kernel
theorem dX7_writeRow_48 : decode cX7_writeRow 48 = .ok (.aload_n 0, 1) := by decide +kernel
theorem dX7_writeRow_49 : decode cX7_writeRow 49 = .ok (.iload 4, 2) := by decide +kernel
theorem dX7_writeRow_51 : decode cX7_writeRow 51 = .ok (.invokevirtual 37, 3) := by decide +kernel
theorem dX7_writeRow_54 : decode cX7_writeRow 54 = .ok (.aload_n 0, 1) := by decide +kernel
theorem dX7_writeRow_55 : decode cX7_writeRow 55 = .ok (.bipush 32, 2) := by decide +kernel
theorem dX7_writeRow_57 : decode cX7_writeRow 57 = .ok (.invokevirtual 41, 3) := by decide +kernel
theorem dX7_writeRow_60 : decode cX7_writeRow 60 = .ok (.aload_n 0, 1) := by decide +kernel
theorem dX7_writeRow_61 : decode cX7_writeRow 61 = .ok (.ldc 83, 2) := by decide +kernel
theorem dX7_writeRow_63 : decode cX7_writeRow 63 = .ok (.invokevirtual 29, 3) := by decide +kernel
theorem dX7_writeRow_66 : decode cX7_writeRow 66 = .ok (.aload_n 0, 1) := by decide +kernel
theorem dX7_writeRow_67 : decode cX7_writeRow 67 = .ok (.aload_n 1, 1) := by decide +kernel
theorem dX7_writeRow_68 : decode cX7_writeRow 68 = .ok (.getfield 85, 3) := by decide +kernel
theorem dX7_writeRow_71 : decode cX7_writeRow 71 = .ok (.iload_n 3, 1) := by decide +kernel
theorem dX7_writeRow_72 : decode cX7_writeRow 72 = .ok (.iaload, 1) := by decide +kernel
theorem dX7_writeRow_73 : decode cX7_writeRow 73 = .ok (.invokevirtual 37, 3) := by decide +kernel
theorem dX7_writeRow_76 : decode cX7_writeRow 76 = .ok (.aload_n 0, 1) := by decide +kernel
theorem dX7_writeRow_77 : decode cX7_writeRow 77 = .ok (.bipush 59, 2) := by decide +kernel
theorem dX7_writeRow_79 : decode cX7_writeRow 79 = .ok (.invokevirtual 41, 3) := by decide +kernel
theorem dX7_writeRow_82 : decode cX7_writeRow 82 = .ok (.iinc 3 (-1), 3) := by decide +kernel
theorem dX7_writeRow_85 : decode cX7_writeRow 85 = .ok (.goto (-59), 3) := by decide +kernel
theorem dX7_writeRow_88 : decode cX7_writeRow 88 = .ok (.aload_n 0, 1) := by decide +kernel
theorem dX7_writeRow_89 : decode cX7_writeRow 89 = .ok (.ldc 88, 2) := by decide +kernel
theorem dX7_writeRow_91 : decode cX7_writeRow 91 = .ok (.invokevirtual 29, 3) := by decide +kernel
theorem dX7_writeRow_94 : decode cX7_writeRow 94 = .ok (.aload_n 0, 1) := by decide +kernel
theorem dX7_writeRow_95 : decode cX7_writeRow 95 = .ok (.aload_n 1, 1) := by decide +kernel
theorem dX7_writeRow_96 : decode cX7_writeRow 96 = .ok (.iload_n 2, 1) := by decide +kernel
theorem dX7_writeRow_97 : decode cX7_writeRow 97 = .ok (.invokevirtual 90, 3) := by decide +kernel
theorem dX7_writeRow_100 : decode cX7_writeRow 100 = .ok (.invokevirtual 37, 3) := by decide +kernel
theorem dX7_writeRow_103 : decode cX7_writeRow 103 = .ok (.aload_n 0, 1) := by decide +kernel
theorem dX7_writeRow_104 : decode cX7_writeRow 104 = .ok (.bipush 59, 2) := by decide +kernel
theorem dX7_writeRow_106 : decode cX7_writeRow 106 = .ok (.invokevirtual 41, 3) := by decide +kernel
theorem dX7_writeRow_109 : decode cX7_writeRow 109 = .ok (.return_, 1) := by decide +kernel
theorem dX7_addNumbers_0 : decode cX7_addNumbers 0 = .ok (.iconst 0, 1) := by decide +kernel
theorem dX7_addNumbers_1 : decode cX7_addNumbers 1 = .ok (.istore 4, 2) := by decide +kernel
theorem dX7_addNumbers_3 : decode cX7_addNumbers 3 = .ok (.iload 4, 2) := by decide +kernel
theorem dX7_addNumbers_5 : decode cX7_addNumbers 5 = .ok (.iload_n 3, 1) := by decide +kernel
theorem dX7_addNumbers_6 : decode cX7_addNumbers 6 = .ok (.if_icmp .ge 30, 3) := by decide +kernel
theorem dX7_addNumbers_9 : decode cX7_addNumbers 9 = .ok (.iload 4, 2) := by decide +kernel
theorem dX7_addNumbers_11 : decode cX7_addNumbers 11 = .ok (.ifCond .le 9, 3) := by decide +kernel
theorem dX7_addNumbers_14 : decode cX7_addNumbers 14 = .ok (.aload_n 0, 1) := by decide +kernel
theorem dX7_addNumbers_15 : decode cX7_addNumbers 15 = .ok (.bipush 32, 2) := by decide +kernel
theorem dX7_addNumbers_17 : decode cX7_addNumbers 17 = .ok (.invokevirtual 41, 3) := by decide +kernel
theorem dX7_addNumbers_20 : decode cX7_addNumbers 20 = .ok (.aload_n 0, 1) := by decide +kernel
theorem dX7_addNumbers_21 : decode cX7_addNumbers 21 = .ok (.aload_n 1, 1) := by decide +kernel
theorem dX7_addNumbers_22 : decode cX7_addNumbers 22 = .ok (.iload_n 2, 1) := by decide +kernel
theorem dX7_addNumbers_23 : decode cX7_addNumbers 23 = .ok (.iload 4, 2) := by decide +kernel
theorem dX7_addNumbers_25 : decode cX7_addNumbers 25 = .ok (.iadd, 1) := by decide +kernel
theorem dX7_addNumbers_26 : decode cX7_addNumbers 26 = .ok (.iaload, 1) := by decide +kernel
theorem dX7_addNumbers_27 : decode cX7_addNumbers 27 = .ok (.invokevirtual 37, 3) := by decide +kernel
theorem dX7_addNumbers_30 : decode cX7_addNumbers 30 = .ok (.iinc 4 1, 3) := by decide +kernel
theorem dX7_addNumbers_33 : decode cX7_addNumbers 33 = .ok (.goto (-30), 3) := by decide +kernel
theorem dX7_addNumbers_36 : decode cX7_addNumbers 36 = .ok (.aload_n 0, 1) := by decide +kernel
theorem dX7_addNumbers_37 : decode cX7_addNumbers 37 = .ok (.bipush 59, 2) := by decide +kernel
theorem dX7_addNumbers_39 : decode cX7_addNumbers 39 = .ok (.invokevirtual 41, 3) := by decide +kernel
theorem dX7_addNumbers_42 : decode cX7_addNumbers 42 = .ok (.return_, 1) := by decide +kernel
theorem dX7_addWord_0 : decode cX7_addWord 0 = .ok (.iconst 0, 1) := by decide +kernel
theorem dX7_addWord_1 : decode cX7_addWord 1 = .ok (.istore_n 2, 1) := by decide +kernel
theorem dX7_addWord_2 : decode cX7_addWord 2 = .ok (.iload_n 2, 1) := by decide +kernel
theorem dX7_addWord_3 : decode cX7_addWord 3 = .ok (.aload_n 1, 1) := by decide +kernel
theorem dX7_addWord_4 : decode cX7_addWord 4 = .ok (.invokevirtual 94, 3) := by decide +kernel
theorem dX7_addWord_7 : decode cX7_addWord 7 = .ok (.if_icmp .ge 18, 3) := by decide +kernel
theorem dX7_addWord_10 : decode cX7_addWord 10 = .ok (.aload_n 0, 1) := by decide +kernel
theorem dX7_addWord_11 : decode cX7_addWord 11 = .ok (.aload_n 1, 1) := by decide +kernel
theorem dX7_addWord_12 : decode cX7_addWord 12 = .ok (.iload_n 2, 1) := by decide +kernel
theorem dX7_addWord_13 : decode cX7_addWord 13 = .ok (.invokevirtual 99, 3) := by decide +kernel
theorem dX7_addWord_16 : decode cX7_addWord 16 = .ok (.invokevirtual 41, 3) := by decide +kernel
theorem dX7_addWord_19 : decode cX7_addWord 19 = .ok (.iinc 2 1, 3) := by decide +kernel
theorem dX7_addWord_22 : decode cX7_addWord 22 = .ok (.goto (-20), 3) := by decide +kernel
theorem dX7_addWord_25 : decode cX7_addWord 25 = .ok (.aload_n 0, 1) := by decide +kernel
theorem dX7_addWord_26 : decode cX7_addWord 26 = .ok (.bipush 32, 2) := by decide +kernel
theorem dX7_addWord_28 : decode cX7_addWord 28 = .ok (.invokevirtual 41, 3) := by decide +kernel
theorem dX7_addWord_31 : decode cX7_addWord 31 = .ok (.return_, 1) := by decide +kernel
theorem dX7_addNumber_0 : decode cX7_addNumber 0 = .ok (.iconst 1, 1) := by decide +kernel
theorem dX7_addNumber_1 : decode cX7_addNumber 1 = .ok (.istore_n 2, 1) := by decide +kernel
theorem dX7_addNumber_2 : decode cX7_addNumber 2 = .ok (.iconst 1, 1) := by decide +kernel
theorem dX7_addNumber_3 : decode cX7_addNumber 3 = .ok (.istore_n 3, 1) := by decide +kernel
theorem dX7_addNumber_4 : decode cX7_addNumber 4 = .ok (.iload_n 3, 1) := by decide +kernel
theorem dX7_addNumber_5 : decode cX7_addNumber 5 = .ok (.bipush 10, 2) := by decide +kernel
theorem dX7_addNumber_7 : decode cX7_addNumber 7 = .ok (.if_icmp .ge 22, 3) := by decide +kernel
theorem dX7_addNumber_10 : decode cX7_addNumber 10 = .ok (.iload_n 1, 1) := by decide +kernel
theorem dX7_addNumber_11 : decode cX7_addNumber 11 = .ok (.iload_n 2, 1) := by decide +kernel
theorem dX7_addNumber_12 : decode cX7_addNumber 12 = .ok (.idiv, 1) := by decide +kernel
theorem dX7_addNumber_13 : decode cX7_addNumber 13 = .ok (.bipush 10, 2) := by decide +kernel
theorem dX7_addNumber_15 : decode cX7_addNumber 15 = .ok (.if_icmp .lt 14, 3) := by decide +kernel
theorem dX7_addNumber_18 : decode cX7_addNumber 18 = .ok (.iload_n 2, 1) := by decide +kernel
theorem dX7_addNumber_19 : decode cX7_addNumber 19 = .ok (.bipush 10, 2) := by decide +kernel
theorem dX7_addNumber_21 : decode cX7_addNumber 21 = .ok (.imul, 1) := by decide +kernel
theorem dX7_addNumber_22 : decode cX7_addNumber 22 = .ok (.istore_n 2, 1) := by decide +kernel
theorem dX7_addNumber_23 : decode cX7_addNumber 23 = .ok (.iinc 3 1, 3) := by decide +kernel
theorem dX7_addNumber_26 : decode cX7_addNumber 26 = .ok (.goto (-22), 3) := by decide +kernel
theorem dX7_addNumber_29 : decode cX7_addNumber 29 = .ok (.iload_n 2, 1) := by decide +kernel
theorem dX7_addNumber_30 : decode cX7_addNumber 30 = .ok (.istore_n 3, 1) := by decide +kernel
theorem dX7_addNumber_31 : decode cX7_addNumber 31 = .ok (.iload_n 3, 1) := by decide +kernel
theorem dX7_addNumber_32 : decode cX7_addNumber 32 = .ok (.ifCond .le 25, 3) := by decide +kernel
theorem dX7_addNumber_35 : decode cX7_addNumber 35 = .ok (.aload_n 0, 1) := by decide +kernel
theorem dX7_addNumber_36 : decode cX7_addNumber 36 = .ok (.bipush 48, 2) := by decide +kernel
theorem dX7_addNumber_38 : decode cX7_addNumber 38 = .ok (.iload_n 1, 1) := by decide +kernel
theorem dX7_addNumber_39 : decode cX7_addNumber 39 = .ok (.iload_n 3, 1) := by decide +kernel
theorem dX7_addNumber_40 : decode cX7_addNumber 40 = .ok (.idiv, 1) := by decide +kernel
theorem dX7_addNumber_41 : decode cX7_addNumber 41 = .ok (.bipush 10, 2) := by decide +kernel
theorem dX7_addNumber_43 : decode cX7_addNumber 43 = .ok (.irem, 1) := by decide +kernel
theorem dX7_addNumber_44 : decode cX7_addNumber 44 = .ok (.iadd, 1) := by decide +kernel
theorem dX7_addNumber_45 : decode cX7_addNumber 45 = .ok (.i2c, 1) := by decide +kernel
theorem dX7_addNumber_46 : decode cX7_addNumber 46 = .ok (.invokevirtual 41, 3) := by decide +kernel
theorem dX7_addNumber_49 : decode cX7_addNumber 49 = .ok (.iload_n 3, 1) := by decide +kernel
theorem dX7_addNumber_50 : decode cX7_addNumber 50 = .ok (.bipush 10, 2) := by decide +kernel
theorem dX7_addNumber_52 : decode cX7_addNumber 52 = .ok (.idiv, 1) := by decide +kernel
theorem dX7_addNumber_53 : decode cX7_addNumber 53 = .ok (.istore_n 3, 1) := by decide +kernel
theorem dX7_addNumber_54 : decode cX7_addNumber 54 = .ok (.goto (-23), 3) := by decide +kernel
theorem dX7_addNumber_57 : decode cX7_addNumber 57 = .ok (.return_, 1) := by decide +kernel
theorem dX7_addByte_0 : decode cX7_addByte 0 = .ok (.aload_n 0, 1) := by decide +kernel
theorem dX7_addByte_1 : decode cX7_addByte 1 = .ok (.getfield 19, 3) := by decide +kernel
theorem dX7_addByte_4 : decode cX7_addByte 4 = .ok (.sipush 700, 3) := by decide +kernel
theorem dX7_addByte_7 : decode cX7_addByte 7 = .ok (.if_icmp .ge 24, 3) := by decide +kernel
theorem dX7_addByte_10 : decode cX7_addByte 10 = .ok (.aload_n 0, 1) := by decide +kernel
theorem dX7_addByte_11 : decode cX7_addByte 11 = .ok (.getfield 11, 3) := by decide +kernel
theorem dX7_addByte_14 : decode cX7_addByte 14 = .ok (.aload_n 0, 1) := by decide +kernel
theorem dX7_addByte_15 : decode cX7_addByte 15 = .ok (.getfield 19, 3) := by decide +kernel
theorem dX7_addByte_18 : decode cX7_addByte 18 = .ok (.iload_n 1, 1) := by decide +kernel
theorem dX7_addByte_19 : decode cX7_addByte 19 = .ok (.i2b, 1) := by decide +kernel
theorem dX7_addByte_20 : decode cX7_addByte 20 = .ok (.bastore, 1) := by decide +kernel
theorem dX7_addByte_21 : decode cX7_addByte 21 = .ok (.aload_n 0, 1) := by decide +kernel
theorem dX7_addByte_22 : decode cX7_addByte 22 = .ok (.dup, 1) := by decide +kernel
theorem dX7_addByte_23 : decode cX7_addByte 23 = .ok (.getfield 19, 3) := by decide +kernel
theorem dX7_addByte_26 : decode cX7_addByte 26 = .ok (.iconst 1, 1) := by decide +kernel
theorem dX7_addByte_27 : decode cX7_addByte 27 = .ok (.iadd, 1) := by decide +kernel
theorem dX7_addByte_28 : decode cX7_addByte 28 = .ok (.putfield 19, 3) := by decide +kernel
theorem dX7_addByte_31 : decode cX7_addByte 31 = .ok (.return_, 1) := by decide +kernel
theorem dX8_init_0 : decode cX8_init 0 = .ok (.aload_n 0, 1) := by decide +kernel
theorem dX8_init_1 : decode cX8_init 1 = .ok (.invokespecial 3, 3) := by decide +kernel
theorem dX8_init_4 : decode cX8_init 4 = .ok (.aload_n 0, 1) := by decide +kernel
theorem dX8_init_5 : decode cX8_init 5 = .ok (.sipush 400, 3) := by decide +kernel
theorem dX8_init_8 : decode cX8_init 8 = .ok (.newarray .int, 2) := by decide +kernel
theorem dX8_init_10 : decode cX8_init 10 = .ok (.putfield 9, 3) := by decide +kernel
theorem dX8_init_13 : decode cX8_init 13 = .ok (.return_, 1) := by decide +kernel
theorem dX8_addWord_0 : decode cX8_addWord 0 = .ok (.bipush 24, 2) := by decide +kernel
theorem dX8_addWord_2 : decode cX8_addWord 2 = .ok (.istore_n 2, 1) := by decide +kernel
theorem dX8_addWord_3 : decode cX8_addWord 3 = .ok (.iload_n 2, 1) := by decide +kernel
theorem dX8_addWord_4 : decode cX8_addWord 4 = .ok (.ifCond .lt 45, 3) := by decide +kernel
theorem dX8_addWord_7 : decode cX8_addWord 7 = .ok (.aload_n 0, 1) := by decide +kernel
theorem dX8_addWord_8 : decode cX8_addWord 8 = .ok (.getfield 15, 3) := by decide +kernel
theorem dX8_addWord_11 : decode cX8_addWord 11 = .ok (.sipush 400, 3) := by decide +kernel
theorem dX8_addWord_14 : decode cX8_addWord 14 = .ok (.if_icmp .ge 35, 3) := by decide +kernel
theorem dX8_addWord_17 : decode cX8_addWord 17 = .ok (.aload_n 0, 1) := by decide +kernel
theorem dX8_addWord_18 : decode cX8_addWord 18 = .ok (.getfield 9, 3) := by decide +kernel
theorem dX8_addWord_21 : decode cX8_addWord 21 = .ok (.aload_n 0, 1) := by decide +kernel
theorem dX8_addWord_22 : decode cX8_addWord 22 = .ok (.getfield 15, 3) := by decide +kernel
theorem dX8_addWord_25 : decode cX8_addWord 25 = .ok (.iload_n 1, 1) := by decide +kernel
theorem dX8_addWord_26 : decode cX8_addWord 26 = .ok (.iload_n 2, 1) := by decide +kernel
theorem dX8_addWord_27 : decode cX8_addWord 27 = .ok (.iushr, 1) := by decide +kernel
theorem dX8_addWord_28 : decode cX8_addWord 28 = .ok (.sipush 255, 3) := by decide +kernel
theorem dX8_addWord_31 : decode cX8_addWord 31 = .ok (.iand, 1) := by decide +kernel
theorem dX8_addWord_32 : decode cX8_addWord 32 = .ok (.iastore, 1) := by decide +kernel
theorem dX8_addWord_33 : decode cX8_addWord 33 = .ok (.aload_n 0, 1) := by decide +kernel
theorem dX8_addWord_34 : decode cX8_addWord 34 = .ok (.dup, 1) := by decide +kernel
theorem dX8_addWord_35 : decode cX8_addWord 35 = .ok (.getfield 15, 3) := by decide +kernel
theorem dX8_addWord_38 : decode cX8_addWord 38 = .ok (.iconst 1, 1) := by decide +kernel
theorem dX8_addWord_39 : decode cX8_addWord 39 = .ok (.iadd, 1) := by decide +kernel
theorem dX8_addWord_40 : decode cX8_addWord 40 = .ok (.putfield 15, 3) := by decide +kernel
theorem dX8_addWord_43 : decode cX8_addWord 43 = .ok (.iinc 2 (-8), 3) := by decide +kernel
theorem dX8_addWord_46 : decode cX8_addWord 46 = .ok (.goto (-43), 3) := by decide +kernel
theorem dX8_addWord_49 : decode cX8_addWord 49 = .ok (.return_, 1) := by decide +kernel
