theorem dX0_init_0 : decode cX0_init 0 = .ok (.aload_n 0, 1) := by decide +kernel
theorem dX0_init_1 : decode cX0_init 1 = .ok (.invokespecial 3, 3) := by decide +kernel
theorem dX0_init_4 : decode cX0_init 4 = .ok (.aload_n 0, 1) := by decide +kernel
theorem dX0_init_5 : decode cX0_init 5 = .ok (.bipush 6, 2) := by decide +kernel
theorem dX0_init_7 : decode cX0_init 7 = .ok (.newarray .int, 2) := by decide +kernel
theorem dX0_init_9 : decode cX0_init 9 = .ok (.putfield 9, 3) := by decide +kernel
theorem dX0_init_12 : decode cX0_init 12 = .ok (.aload_n 0, 1) := by decide +kernel
theorem dX0_init_13 : decode cX0_init 13 = .ok (.bipush 6, 2) := by decide +kernel
theorem dX0_init_15 : decode cX0_init 15 = .ok (.newarray .int, 2) := by decide +kernel
theorem dX0_init_17 : decode cX0_init 17 = .ok (.putfield 15, 3) := by decide +kernel
theorem dX0_init_20 : decode cX0_init 20 = .ok (.aload_n 0, 1) := by decide +kernel
theorem dX0_init_21 : decode cX0_init 21 = .ok (.bipush 24, 2) := by decide +kernel
theorem dX0_init_23 : decode cX0_init 23 = .ok (.newarray .int, 2) := by decide +kernel
theorem dX0_init_25 : decode cX0_init 25 = .ok (.putfield 18, 3) := by decide +kernel
theorem dX0_init_28 : decode cX0_init 28 = .ok (.aload_n 0, 1) := by decide +kernel
theorem dX0_init_29 : decode cX0_init 29 = .ok (.bipush 24, 2) := by decide +kernel
theorem dX0_init_31 : decode cX0_init 31 = .ok (.newarray .int, 2) := by decide +kernel
theorem dX0_init_33 : decode cX0_init 33 = .ok (.putfield 21, 3) := by decide +kernel
theorem dX0_init_36 : decode cX0_init 36 = .ok (.aload_n 0, 1) := by decide +kernel
theorem dX0_init_37 : decode cX0_init 37 = .ok (.bipush 120, 2) := by decide +kernel
theorem dX0_init_39 : decode cX0_init 39 = .ok (.newarray .int, 2) := by decide +kernel
theorem dX0_init_41 : decode cX0_init 41 = .ok (.putfield 24, 3) := by decide +kernel
theorem dX0_init_44 : decode cX0_init 44 = .ok (.aload_n 0, 1) := by decide +kernel
theorem dX0_init_45 : decode cX0_init 45 = .ok (.bipush 48, 2) := by decide +kernel
theorem dX0_init_47 : decode cX0_init 47 = .ok (.newarray .int, 2) := by decide +kernel
theorem dX0_init_49 : decode cX0_init 49 = .ok (.putfield 27, 3) := by decide +kernel
theorem dX0_init_52 : decode cX0_init 52 = .ok (.return_, 1) := by decide +kernel
theorem dX0_copyFrom_0 : decode cX0_copyFrom 0 = .ok (.aload_n 1, 1) := by decide +kernel
theorem dX0_copyFrom_1 : decode cX0_copyFrom 1 = .ok (.getfield 9, 3) := by decide +kernel
theorem dX0_copyFrom_4 : decode cX0_copyFrom 4 = .ok (.iconst 0, 1) := by decide +kernel
theorem dX0_copyFrom_5 : decode cX0_copyFrom 5 = .ok (.aload_n 0, 1) := by decide +kernel
theorem dX0_copyFrom_6 : decode cX0_copyFrom 6 = .ok (.getfield 9, 3) := by decide +kernel
theorem dX0_copyFrom_9 : decode cX0_copyFrom 9 = .ok (.iconst 0, 1) := by decide +kernel
theorem dX0_copyFrom_10 : decode cX0_copyFrom 10 = .ok (.bipush 6, 2) := by decide +kernel
theorem dX0_copyFrom_12 : decode cX0_copyFrom 12 = .ok (.invokestatic 30, 3) := by decide +kernel
theorem dX0_copyFrom_15 : decode cX0_copyFrom 15 = .ok (.aload_n 1, 1) := by decide +kernel
theorem dX0_copyFrom_16 : decode cX0_copyFrom 16 = .ok (.getfield 15, 3) := by decide +kernel
theorem dX0_copyFrom_19 : decode cX0_copyFrom 19 = .ok (.iconst 0, 1) := by decide +kernel
theorem dX0_copyFrom_20 : decode cX0_copyFrom 20 = .ok (.aload_n 0, 1) := by decide +kernel
theorem dX0_copyFrom_21 : decode cX0_copyFrom 21 = .ok (.getfield 15, 3) := by decide +kernel
theorem dX0_copyFrom_24 : decode cX0_copyFrom 24 = .ok (.iconst 0, 1) := by decide +kernel
theorem dX0_copyFrom_25 : decode cX0_copyFrom 25 = .ok (.bipush 6, 2) := by decide +kernel
theorem dX0_copyFrom_27 : decode cX0_copyFrom 27 = .ok (.invokestatic 30, 3) := by decide +kernel
theorem dX0_copyFrom_30 : decode cX0_copyFrom 30 = .ok (.aload_n 1, 1) := by decide +kernel
theorem dX0_copyFrom_31 : decode cX0_copyFrom 31 = .ok (.getfield 18, 3) := by decide +kernel
theorem dX0_copyFrom_34 : decode cX0_copyFrom 34 = .ok (.iconst 0, 1) := by decide +kernel
theorem dX0_copyFrom_35 : decode cX0_copyFrom 35 = .ok (.aload_n 0, 1) := by decide +kernel
theorem dX0_copyFrom_36 : decode cX0_copyFrom 36 = .ok (.getfield 18, 3) := by decide +kernel
theorem dX0_copyFrom_39 : decode cX0_copyFrom 39 = .ok (.iconst 0, 1) := by decide +kernel
theorem dX0_copyFrom_40 : decode cX0_copyFrom 40 = .ok (.bipush 24, 2) := by decide +kernel
theorem dX0_copyFrom_42 : decode cX0_copyFrom 42 = .ok (.invokestatic 30, 3) := by decide +kernel
theorem dX0_copyFrom_45 : decode cX0_copyFrom 45 = .ok (.aload_n 1, 1) := by decide +kernel
theorem dX0_copyFrom_46 : decode cX0_copyFrom 46 = .ok (.getfield 21, 3) := by decide +kernel
theorem dX0_copyFrom_49 : decode cX0_copyFrom 49 = .ok (.iconst 0, 1) := by decide +kernel
theorem dX0_copyFrom_50 : decode cX0_copyFrom 50 = .ok (.aload_n 0, 1) := by decide +kernel
theorem dX0_copyFrom_51 : decode cX0_copyFrom 51 = .ok (.getfield 21, 3) := by decide +kernel
theorem dX0_copyFrom_54 : decode cX0_copyFrom 54 = .ok (.iconst 0, 1) := by decide +kernel
theorem dX0_copyFrom_55 : decode cX0_copyFrom 55 = .ok (.bipush 24, 2) := by decide +kernel
theorem dX0_copyFrom_57 : decode cX0_copyFrom 57 = .ok (.invokestatic 30, 3) := by decide +kernel
theorem dX0_copyFrom_60 : decode cX0_copyFrom 60 = .ok (.aload_n 1, 1) := by decide +kernel
theorem dX0_copyFrom_61 : decode cX0_copyFrom 61 = .ok (.getfield 24, 3) := by decide +kernel
theorem dX0_copyFrom_64 : decode cX0_copyFrom 64 = .ok (.iconst 0, 1) := by decide +kernel
theorem dX0_copyFrom_65 : decode cX0_copyFrom 65 = .ok (.aload_n 0, 1) := by decide +kernel
theorem dX0_copyFrom_66 : decode cX0_copyFrom 66 = .ok (.getfield 24, 3) := by decide +kernel
theorem dX0_copyFrom_69 : decode cX0_copyFrom 69 = .ok (.iconst 0, 1) := by decide +kernel
theorem dX0_copyFrom_70 : decode cX0_copyFrom 70 = .ok (.aload_n 1, 1) := by decide +kernel
theorem dX0_copyFrom_71 : decode cX0_copyFrom 71 = .ok (.getfield 36, 3) := by decide +kernel
theorem dX0_copyFrom_74 : decode cX0_copyFrom 74 = .ok (.iconst 5, 1) := by decide +kernel
theorem dX0_copyFrom_75 : decode cX0_copyFrom 75 = .ok (.imul, 1) := by decide +kernel
theorem dX0_copyFrom_76 : decode cX0_copyFrom 76 = .ok (.invokestatic 30, 3) := by decide +kernel
theorem dX0_copyFrom_79 : decode cX0_copyFrom 79 = .ok (.aload_n 1, 1) := by decide +kernel
theorem dX0_copyFrom_80 : decode cX0_copyFrom 80 = .ok (.getfield 27, 3) := by decide +kernel
theorem dX0_copyFrom_83 : decode cX0_copyFrom 83 = .ok (.iconst 0, 1) := by decide +kernel
theorem dX0_copyFrom_84 : decode cX0_copyFrom 84 = .ok (.aload_n 0, 1) := by decide +kernel
theorem dX0_copyFrom_85 : decode cX0_copyFrom 85 = .ok (.getfield 27, 3) := by decide +kernel
theorem dX0_copyFrom_88 : decode cX0_copyFrom 88 = .ok (.iconst 0, 1) := by decide +kernel
theorem dX0_copyFrom_89 : decode cX0_copyFrom 89 = .ok (.aload_n 1, 1) := by decide +kernel
theorem dX0_copyFrom_90 : decode cX0_copyFrom 90 = .ok (.getfield 40, 3) := by decide +kernel
theorem dX0_copyFrom_93 : decode cX0_copyFrom 93 = .ok (.iconst 4, 1) := by decide +kernel
theorem dX0_copyFrom_94 : decode cX0_copyFrom 94 = .ok (.imul, 1) := by decide +kernel
theorem dX0_copyFrom_95 : decode cX0_copyFrom 95 = .ok (.invokestatic 30, 3) := by decide +kernel
theorem dX0_copyFrom_98 : decode cX0_copyFrom 98 = .ok (.aload_n 0, 1) := by decide +kernel
theorem dX0_copyFrom_99 : decode cX0_copyFrom 99 = .ok (.aload_n 1, 1) := by decide +kernel
theorem dX0_copyFrom_100 : decode cX0_copyFrom 100 = .ok (.getfield 43, 3) := by decide +kernel
theorem dX0_copyFrom_103 : decode cX0_copyFrom 103 = .ok (.putfield 43, 3) := by decide +kernel
theorem dX0_copyFrom_106 : decode cX0_copyFrom 106 = .ok (.aload_n 0, 1) := by decide +kernel
theorem dX0_copyFrom_107 : decode cX0_copyFrom 107 = .ok (.aload_n 1, 1) := by decide +kernel
theorem dX0_copyFrom_108 : decode cX0_copyFrom 108 = .ok (.getfield 46, 3) := by decide +kernel
theorem dX0_copyFrom_111 : decode cX0_copyFrom 111 = .ok (.putfield 46, 3) := by decide +kernel
theorem dX0_copyFrom_114 : decode cX0_copyFrom 114 = .ok (.aload_n 0, 1) := by decide +kernel
theorem dX0_copyFrom_115 : decode cX0_copyFrom 115 = .ok (.aload_n 1, 1) := by decide +kernel
theorem dX0_copyFrom_116 : decode cX0_copyFrom 116 = .ok (.getfield 36, 3) := by decide +kernel
theorem dX0_copyFrom_119 : decode cX0_copyFrom 119 = .ok (.putfield 36, 3) := by decide +kernel
theorem dX0_copyFrom_122 : decode cX0_copyFrom 122 = .ok (.aload_n 0, 1) := by decide +kernel
theorem dX0_copyFrom_123 : decode cX0_copyFrom 123 = .ok (.aload_n 1, 1) := by decide +kernel
theorem dX0_copyFrom_124 : decode cX0_copyFrom 124 = .ok (.getfield 40, 3) := by decide +kernel
theorem dX0_copyFrom_127 : decode cX0_copyFrom 127 = .ok (.putfield 40, 3) := by decide +kernel
theorem dX0_copyFrom_130 : decode cX0_copyFrom 130 = .ok (.return_, 1) := by decide +kernel
theorem dX0_emptyAll_0 : decode cX0_emptyAll 0 = .ok (.aload_n 0, 1) := by decide +kernel
theorem dX0_emptyAll_1 : decode cX0_emptyAll 1 = .ok (.iconst 0, 1) := by decide +kernel
theorem dX0_emptyAll_2 : decode cX0_emptyAll 2 = .ok (.putfield 43, 3) := by decide +kernel
theorem dX0_emptyAll_5 : decode cX0_emptyAll 5 = .ok (.aload_n 0, 1) := by decide +kernel
theorem dX0_emptyAll_6 : decode cX0_emptyAll 6 = .ok (.iconst 0, 1) := by decide +kernel
theorem dX0_emptyAll_7 : decode cX0_emptyAll 7 = .ok (.putfield 46, 3) := by decide +kernel
theorem dX0_emptyAll_10 : decode cX0_emptyAll 10 = .ok (.iconst 0, 1) := by decide +kernel
theorem dX0_emptyAll_11 : decode cX0_emptyAll 11 = .ok (.istore_n 1, 1) := by decide +kernel
theorem dX0_emptyAll_12 : decode cX0_emptyAll 12 = .ok (.iload_n 1, 1) := by decide +kernel
theorem dX0_emptyAll_13 : decode cX0_emptyAll 13 = .ok (.bipush 24, 2) := by decide +kernel
theorem dX0_emptyAll_15 : decode cX0_emptyAll 15 = .ok (.if_icmp .ge 16, 3) := by decide +kernel
theorem dX0_emptyAll_18 : decode cX0_emptyAll 18 = .ok (.aload_n 0, 1) := by decide +kernel
theorem dX0_emptyAll_19 : decode cX0_emptyAll 19 = .ok (.getfield 18, 3) := by decide +kernel
theorem dX0_emptyAll_22 : decode cX0_emptyAll 22 = .ok (.iload_n 1, 1) := by decide +kernel
theorem dX0_emptyAll_23 : decode cX0_emptyAll 23 = .ok (.iconst 0, 1) := by decide +kernel
theorem dX0_emptyAll_24 : decode cX0_emptyAll 24 = .ok (.iastore, 1) := by decide +kernel
theorem dX0_emptyAll_25 : decode cX0_emptyAll 25 = .ok (.iinc 1 1, 3) := by decide +kernel
theorem dX0_emptyAll_28 : decode cX0_emptyAll 28 = .ok (.goto (-16), 3) := by decide +kernel
theorem dX0_emptyAll_31 : decode cX0_emptyAll 31 = .ok (.aload_n 0, 1) := by decide +kernel
theorem dX0_emptyAll_32 : decode cX0_emptyAll 32 = .ok (.invokevirtual 49, 3) := by decide +kernel
theorem dX0_emptyAll_35 : decode cX0_emptyAll 35 = .ok (.return_, 1) := by decide +kernel
theorem dX0_makeAnew_0 : decode cX0_makeAnew 0 = .ok (.aload_n 0, 1) := by decide +kernel
theorem dX0_makeAnew_1 : decode cX0_makeAnew 1 = .ok (.getfield 18, 3) := by decide +kernel
theorem dX0_makeAnew_4 : decode cX0_makeAnew 4 = .ok (.iconst 0, 1) := by decide +kernel
theorem dX0_makeAnew_5 : decode cX0_makeAnew 5 = .ok (.aload_n 0, 1) := by decide +kernel
theorem dX0_makeAnew_6 : decode cX0_makeAnew 6 = .ok (.getfield 21, 3) := by decide +kernel
theorem dX0_makeAnew_9 : decode cX0_makeAnew 9 = .ok (.iconst 0, 1) := by decide +kernel
theorem dX0_makeAnew_10 : decode cX0_makeAnew 10 = .ok (.bipush 24, 2) := by decide +kernel
theorem dX0_makeAnew_12 : decode cX0_makeAnew 12 = .ok (.invokestatic 30, 3) := by decide +kernel
theorem dX0_makeAnew_15 : decode cX0_makeAnew 15 = .ok (.aload_n 0, 1) := by decide +kernel
theorem dX0_makeAnew_16 : decode cX0_makeAnew 16 = .ok (.iconst 0, 1) := by decide +kernel
theorem dX0_makeAnew_17 : decode cX0_makeAnew 17 = .ok (.putfield 36, 3) := by decide +kernel
theorem dX0_makeAnew_20 : decode cX0_makeAnew 20 = .ok (.aload_n 0, 1) := by decide +kernel
theorem dX0_makeAnew_21 : decode cX0_makeAnew 21 = .ok (.iconst 0, 1) := by decide +kernel
theorem dX0_makeAnew_22 : decode cX0_makeAnew 22 = .ok (.putfield 40, 3) := by decide +kernel
theorem dX0_makeAnew_25 : decode cX0_makeAnew 25 = .ok (.return_, 1) := by decide +kernel
theorem dX0_hasRow_0 : decode cX0_hasRow 0 = .ok (.iload_n 1, 1) := by decide +kernel
theorem dX0_hasRow_1 : decode cX0_hasRow 1 = .ok (.ifCond .lt 15, 3) := by decide +kernel
theorem dX0_hasRow_4 : decode cX0_hasRow 4 = .ok (.iload_n 1, 1) := by decide +kernel
theorem dX0_hasRow_5 : decode cX0_hasRow 5 = .ok (.aload_n 0, 1) := by decide +kernel
theorem dX0_hasRow_6 : decode cX0_hasRow 6 = .ok (.getfield 46, 3) := by decide +kernel
theorem dX0_hasRow_9 : decode cX0_hasRow 9 = .ok (.if_icmp .ge 7, 3) := by decide +kernel
theorem dX0_hasRow_12 : decode cX0_hasRow 12 = .ok (.iconst 1, 1) := by decide +kernel
theorem dX0_hasRow_13 : decode cX0_hasRow 13 = .ok (.goto 4, 3) := by decide +kernel
theorem dX0_hasRow_16 : decode cX0_hasRow 16 = .ok (.iconst 0, 1) := by decide +kernel
theorem dX0_hasRow_17 : decode cX0_hasRow 17 = .ok (.ireturn, 1) := by decide +kernel
theorem dX0_hasColumn_0 : decode cX0_hasColumn 0 = .ok (.iload_n 1, 1) := by decide +kernel
theorem dX0_hasColumn_1 : decode cX0_hasColumn 1 = .ok (.ifCond .lt 15, 3) := by decide +kernel
theorem dX0_hasColumn_4 : decode cX0_hasColumn 4 = .ok (.iload_n 1, 1) := by decide +kernel
theorem dX0_hasColumn_5 : decode cX0_hasColumn 5 = .ok (.aload_n 0, 1) := by decide +kernel
theorem dX0_hasColumn_6 : decode cX0_hasColumn 6 = .ok (.getfield 43, 3) := by decide +kernel
theorem dX0_hasColumn_9 : decode cX0_hasColumn 9 = .ok (.if_icmp .ge 7, 3) := by decide +kernel
theorem dX0_hasColumn_12 : decode cX0_hasColumn 12 = .ok (.iconst 1, 1) := by decide +kernel
theorem dX0_hasColumn_13 : decode cX0_hasColumn 13 = .ok (.goto 4, 3) := by decide +kernel
theorem dX0_hasColumn_16 : decode cX0_hasColumn 16 = .ok (.iconst 0, 1) := by decide +kernel
theorem dX0_hasColumn_17 : decode cX0_hasColumn 17 = .ok (.ireturn, 1) := by decide +kernel
theorem dX0_hasCell_0 : decode cX0_hasCell 0 = .ok (.iload_n 1, 1) := by decide +kernel
theorem dX0_hasCell_1 : decode cX0_hasCell 1 = .ok (.ifCond .lt 27, 3) := by decide +kernel
theorem dX0_hasCell_4 : decode cX0_hasCell 4 = .ok (.iload_n 1, 1) := by decide +kernel
theorem dX0_hasCell_5 : decode cX0_hasCell 5 = .ok (.aload_n 0, 1) := by decide +kernel
theorem dX0_hasCell_6 : decode cX0_hasCell 6 = .ok (.getfield 46, 3) := by decide +kernel
theorem dX0_hasCell_9 : decode cX0_hasCell 9 = .ok (.if_icmp .ge 19, 3) := by decide +kernel
theorem dX0_hasCell_12 : decode cX0_hasCell 12 = .ok (.iload_n 2, 1) := by decide +kernel
theorem dX0_hasCell_13 : decode cX0_hasCell 13 = .ok (.ifCond .lt 15, 3) := by decide +kernel
theorem dX0_hasCell_16 : decode cX0_hasCell 16 = .ok (.iload_n 2, 1) := by decide +kernel
theorem dX0_hasCell_17 : decode cX0_hasCell 17 = .ok (.aload_n 0, 1) := by decide +kernel
theorem dX0_hasCell_18 : decode cX0_hasCell 18 = .ok (.getfield 43, 3) := by decide +kernel
theorem dX0_hasCell_21 : decode cX0_hasCell 21 = .ok (.if_icmp .ge 7, 3) := by decide +kernel
theorem dX0_hasCell_24 : decode cX0_hasCell 24 = .ok (.iconst 1, 1) := by decide +kernel
theorem dX0_hasCell_25 : decode cX0_hasCell 25 = .ok (.goto 4, 3) := by decide +kernel
theorem dX0_hasCell_28 : decode cX0_hasCell 28 = .ok (.iconst 0, 1) := by decide +kernel
theorem dX0_hasCell_29 : decode cX0_hasCell 29 = .ok (.ireturn, 1) := by decide +kernel
theorem dX0_cellAt_0 : decode cX0_cellAt 0 = .ok (.aload_n 0, 1) := by decide +kernel
theorem dX0_cellAt_1 : decode cX0_cellAt 1 = .ok (.getfield 18, 3) := by decide +kernel
theorem dX0_cellAt_4 : decode cX0_cellAt 4 = .ok (.iload_n 1, 1) := by decide +kernel
theorem dX0_cellAt_5 : decode cX0_cellAt 5 = .ok (.bipush 6, 2) := by decide +kernel
theorem dX0_cellAt_7 : decode cX0_cellAt 7 = .ok (.imul, 1) := by decide +kernel
theorem dX0_cellAt_8 : decode cX0_cellAt 8 = .ok (.iload_n 2, 1) := by decide +kernel
theorem dX0_cellAt_9 : decode cX0_cellAt 9 = .ok (.iadd, 1) := by decide +kernel
theorem dX0_cellAt_10 : decode cX0_cellAt 10 = .ok (.iaload, 1) := by decide +kernel
theorem dX0_cellAt_11 : decode cX0_cellAt 11 = .ok (.ireturn, 1) := by decide +kernel
theorem dX0_mayAddColumn_0 : decode cX0_mayAddColumn 0 = .ok (.aload_n 0, 1) := by decide +kernel
theorem dX0_mayAddColumn_1 : decode cX0_mayAddColumn 1 = .ok (.getfield 43, 3) := by decide +kernel
theorem dX0_mayAddColumn_4 : decode cX0_mayAddColumn 4 = .ok (.bipush 6, 2) := by decide +kernel
theorem dX0_mayAddColumn_6 : decode cX0_mayAddColumn 6 = .ok (.if_icmp .lt 5, 3) := by decide +kernel
theorem dX0_mayAddColumn_9 : decode cX0_mayAddColumn 9 = .ok (.iconst 0, 1) := by decide +kernel
theorem dX0_mayAddColumn_10 : decode cX0_mayAddColumn 10 = .ok (.ireturn, 1) := by decide +kernel
theorem dX0_mayAddColumn_11 : decode cX0_mayAddColumn 11 = .ok (.aload_n 0, 1) := by decide +kernel
theorem dX0_mayAddColumn_12 : decode cX0_mayAddColumn 12 = .ok (.getfield 43, 3) := by decide +kernel
theorem dX0_mayAddColumn_15 : decode cX0_mayAddColumn 15 = .ok (.ifCond .ne 16, 3) := by decide +kernel
theorem dX0_mayAddColumn_18 : decode cX0_mayAddColumn 18 = .ok (.iload_n 1, 1) := by decide +kernel
theorem dX0_mayAddColumn_19 : decode cX0_mayAddColumn 19 = .ok (.iconst 1, 1) := by decide +kernel
theorem dX0_mayAddColumn_20 : decode cX0_mayAddColumn 20 = .ok (.if_icmp .ne 7, 3) := by decide +kernel
theorem dX0_mayAddColumn_23 : decode cX0_mayAddColumn 23 = .ok (.iconst 1, 1) := by decide +kernel
theorem dX0_mayAddColumn_24 : decode cX0_mayAddColumn 24 = .ok (.goto 23, 3) := by decide +kernel
theorem dX0_mayAddColumn_27 : decode cX0_mayAddColumn 27 = .ok (.iconst 0, 1) := by decide +kernel
theorem dX0_mayAddColumn_28 : decode cX0_mayAddColumn 28 = .ok (.goto 19, 3) := by decide +kernel
theorem dX0_mayAddColumn_31 : decode cX0_mayAddColumn 31 = .ok (.iload_n 1, 1) := by decide +kernel
theorem dX0_mayAddColumn_32 : decode cX0_mayAddColumn 32 = .ok (.iconst 2, 1) := by decide +kernel
theorem dX0_mayAddColumn_33 : decode cX0_mayAddColumn 33 = .ok (.if_icmp .lt 13, 3) := by decide +kernel
theorem dX0_mayAddColumn_36 : decode cX0_mayAddColumn 36 = .ok (.iload_n 1, 1) := by decide +kernel
theorem dX0_mayAddColumn_37 : decode cX0_mayAddColumn 37 = .ok (.bipush 20, 2) := by decide +kernel
theorem dX0_mayAddColumn_39 : decode cX0_mayAddColumn 39 = .ok (.if_icmp .gt 7, 3) := by decide +kernel
theorem dX0_mayAddColumn_42 : decode cX0_mayAddColumn 42 = .ok (.iconst 1, 1) := by decide +kernel
theorem dX0_mayAddColumn_43 : decode cX0_mayAddColumn 43 = .ok (.goto 4, 3) := by decide +kernel
theorem dX0_mayAddColumn_46 : decode cX0_mayAddColumn 46 = .ok (.iconst 0, 1) := by decide +kernel
theorem dX0_mayAddColumn_47 : decode cX0_mayAddColumn 47 = .ok (.ireturn, 1) := by decide +kernel
theorem dX0_addColumn_0 : decode cX0_addColumn 0 = .ok (.aload_n 0, 1) := by decide +kernel
theorem dX0_addColumn_1 : decode cX0_addColumn 1 = .ok (.getfield 9, 3) := by decide +kernel
theorem dX0_addColumn_4 : decode cX0_addColumn 4 = .ok (.aload_n 0, 1) := by decide +kernel
theorem dX0_addColumn_5 : decode cX0_addColumn 5 = .ok (.getfield 43, 3) := by decide +kernel
theorem dX0_addColumn_8 : decode cX0_addColumn 8 = .ok (.iload_n 1, 1) := by decide +kernel
theorem dX0_addColumn_9 : decode cX0_addColumn 9 = .ok (.iastore, 1) := by decide +kernel
theorem dX0_addColumn_10 : decode cX0_addColumn 10 = .ok (.aload_n 0, 1) := by decide +kernel
theorem dX0_addColumn_11 : decode cX0_addColumn 11 = .ok (.getfield 15, 3) := by decide +kernel
theorem dX0_addColumn_14 : decode cX0_addColumn 14 = .ok (.aload_n 0, 1) := by decide +kernel
theorem dX0_addColumn_15 : decode cX0_addColumn 15 = .ok (.getfield 43, 3) := by decide +kernel
theorem dX0_addColumn_18 : decode cX0_addColumn 18 = .ok (.aload_n 0, 1) := by decide +kernel
theorem dX0_addColumn_19 : decode cX0_addColumn 19 = .ok (.getfield 43, 3) := by decide +kernel
theorem dX0_addColumn_22 : decode cX0_addColumn 22 = .ok (.ifCond .ne 7, 3) := by decide +kernel
theorem dX0_addColumn_25 : decode cX0_addColumn 25 = .ok (.iconst 1, 1) := by decide +kernel
theorem dX0_addColumn_26 : decode cX0_addColumn 26 = .ok (.goto 16, 3) := by decide +kernel
theorem dX0_addColumn_29 : decode cX0_addColumn 29 = .ok (.iload_n 1, 1) := by decide +kernel
theorem dX0_addColumn_30 : decode cX0_addColumn 30 = .ok (.aload_n 0, 1) := by decide +kernel
theorem dX0_addColumn_31 : decode cX0_addColumn 31 = .ok (.getfield 15, 3) := by decide +kernel
theorem dX0_addColumn_34 : decode cX0_addColumn 34 = .ok (.aload_n 0, 1) := by decide +kernel
theorem dX0_addColumn_35 : decode cX0_addColumn 35 = .ok (.getfield 43, 3) := by decide +kernel
theorem dX0_addColumn_38 : decode cX0_addColumn 38 = .ok (.iconst 1, 1) := by decide +kernel
theorem dX0_addColumn_39 : decode cX0_addColumn 39 = .ok (.isub, 1) := by decide +kernel
theorem dX0_addColumn_40 : decode cX0_addColumn 40 = .ok (.iaload, 1) := by decide +kernel
theorem dX0_addColumn_41 : decode cX0_addColumn 41 = .ok (.imul, 1) := by decide +kernel
theorem dX0_addColumn_42 : decode cX0_addColumn 42 = .ok (.iastore, 1) := by decide +kernel
theorem dX0_addColumn_43 : decode cX0_addColumn 43 = .ok (.aload_n 0, 1) := by decide +kernel
theorem dX0_addColumn_44 : decode cX0_addColumn 44 = .ok (.dup, 1) := by decide +kernel
theorem dX0_addColumn_45 : decode cX0_addColumn 45 = .ok (.getfield 43, 3) := by decide +kernel
theorem dX0_addColumn_48 : decode cX0_addColumn 48 = .ok (.iconst 1, 1) := by decide +kernel
theorem dX0_addColumn_49 : decode cX0_addColumn 49 = .ok (.iadd, 1) := by decide +kernel
theorem dX0_addColumn_50 : decode cX0_addColumn 50 = .ok (.putfield 43, 3) := by decide +kernel
theorem dX0_addColumn_53 : decode cX0_addColumn 53 = .ok (.return_, 1) := by decide +kernel
theorem dX0_mayAddRow_0 : decode cX0_mayAddRow 0 = .ok (.aload_n 0, 1) := by decide +kernel
theorem dX0_mayAddRow_1 : decode cX0_mayAddRow 1 = .ok (.getfield 43, 3) := by decide +kernel
theorem dX0_mayAddRow_4 : decode cX0_mayAddRow 4 = .ok (.ifCond .le 15, 3) := by decide +kernel
theorem dX0_mayAddRow_7 : decode cX0_mayAddRow 7 = .ok (.aload_n 0, 1) := by decide +kernel
theorem dX0_mayAddRow_8 : decode cX0_mayAddRow 8 = .ok (.getfield 46, 3) := by decide +kernel
theorem dX0_mayAddRow_11 : decode cX0_mayAddRow 11 = .ok (.iconst 4, 1) := by decide +kernel
theorem dX0_mayAddRow_12 : decode cX0_mayAddRow 12 = .ok (.if_icmp .ge 7, 3) := by decide +kernel
theorem dX0_mayAddRow_15 : decode cX0_mayAddRow 15 = .ok (.iconst 1, 1) := by decide +kernel
theorem dX0_mayAddRow_16 : decode cX0_mayAddRow 16 = .ok (.goto 4, 3) := by decide +kernel
theorem dX0_mayAddRow_19 : decode cX0_mayAddRow 19 = .ok (.iconst 0, 1) := by decide +kernel
theorem dX0_mayAddRow_20 : decode cX0_mayAddRow 20 = .ok (.ireturn, 1) := by decide +kernel
theorem dX0_removeRow_0 : decode cX0_removeRow 0 = .ok (.iload_n 1, 1) := by decide +kernel
theorem dX0_removeRow_1 : decode cX0_removeRow 1 = .ok (.istore_n 2, 1) := by decide +kernel
theorem dX0_removeRow_2 : decode cX0_removeRow 2 = .ok (.iload_n 2, 1) := by decide +kernel
theorem dX0_removeRow_3 : decode cX0_removeRow 3 = .ok (.aload_n 0, 1) := by decide +kernel
theorem dX0_removeRow_4 : decode cX0_removeRow 4 = .ok (.getfield 46, 3) := by decide +kernel
theorem dX0_removeRow_7 : decode cX0_removeRow 7 = .ok (.iconst 1, 1) := by decide +kernel
theorem dX0_removeRow_8 : decode cX0_removeRow 8 = .ok (.isub, 1) := by decide +kernel
theorem dX0_removeRow_9 : decode cX0_removeRow 9 = .ok (.if_icmp .ge 32, 3) := by decide +kernel
theorem dX0_removeRow_12 : decode cX0_removeRow 12 = .ok (.aload_n 0, 1) := by decide +kernel
theorem dX0_removeRow_13 : decode cX0_removeRow 13 = .ok (.getfield 18, 3) := by decide +kernel
theorem dX0_removeRow_16 : decode cX0_removeRow 16 = .ok (.iload_n 2, 1) := by decide +kernel
theorem dX0_removeRow_17 : decode cX0_removeRow 17 = .ok (.iconst 1, 1) := by decide +kernel
theorem dX0_removeRow_18 : decode cX0_removeRow 18 = .ok (.iadd, 1) := by decide +kernel
theorem dX0_removeRow_19 : decode cX0_removeRow 19 = .ok (.bipush 6, 2) := by decide +kernel
theorem dX0_removeRow_21 : decode cX0_removeRow 21 = .ok (.imul, 1) := by decide +kernel
theorem dX0_removeRow_22 : decode cX0_removeRow 22 = .ok (.aload_n 0, 1) := by decide +kernel
theorem dX0_removeRow_23 : decode cX0_removeRow 23 = .ok (.getfield 18, 3) := by decide +kernel
theorem dX0_removeRow_26 : decode cX0_removeRow 26 = .ok (.iload_n 2, 1) := by decide +kernel
theorem dX0_removeRow_27 : decode cX0_removeRow 27 = .ok (.bipush 6, 2) := by decide +kernel
theorem dX0_removeRow_29 : decode cX0_removeRow 29 = .ok (.imul, 1) := by decide +kernel
theorem dX0_removeRow_30 : decode cX0_removeRow 30 = .ok (.bipush 6, 2) := by decide +kernel
theorem dX0_removeRow_32 : decode cX0_removeRow 32 = .ok (.invokestatic 30, 3) := by decide +kernel
theorem dX0_removeRow_35 : decode cX0_removeRow 35 = .ok (.iinc 2 1, 3) := by decide +kernel
theorem dX0_removeRow_38 : decode cX0_removeRow 38 = .ok (.goto (-36), 3) := by decide +kernel
theorem dX0_removeRow_41 : decode cX0_removeRow 41 = .ok (.aload_n 0, 1) := by decide +kernel
theorem dX0_removeRow_42 : decode cX0_removeRow 42 = .ok (.aload_n 0, 1) := by decide +kernel
theorem dX0_removeRow_43 : decode cX0_removeRow 43 = .ok (.getfield 46, 3) := by decide +kernel
theorem dX0_removeRow_46 : decode cX0_removeRow 46 = .ok (.iconst 1, 1) := by decide +kernel
theorem dX0_removeRow_47 : decode cX0_removeRow 47 = .ok (.isub, 1) := by decide +kernel
theorem dX0_removeRow_48 : decode cX0_removeRow 48 = .ok (.invokevirtual 52, 3) := by decide +kernel
theorem dX0_removeRow_51 : decode cX0_removeRow 51 = .ok (.aload_n 0, 1) := by decide +kernel
theorem dX0_removeRow_52 : decode cX0_removeRow 52 = .ok (.dup, 1) := by decide +kernel
theorem dX0_removeRow_53 : decode cX0_removeRow 53 = .ok (.getfield 46, 3) := by decide +kernel
theorem dX0_removeRow_56 : decode cX0_removeRow 56 = .ok (.iconst 1, 1) := by decide +kernel
theorem dX0_removeRow_57 : decode cX0_removeRow 57 = .ok (.isub, 1) := by decide +kernel
theorem dX0_removeRow_58 : decode cX0_removeRow 58 = .ok (.putfield 46, 3) := by decide +kernel
theorem dX0_removeRow_61 : decode cX0_removeRow 61 = .ok (.return_, 1) := by decide +kernel
theorem dX0_emptyRow_0 : decode cX0_emptyRow 0 = .ok (.iconst 0, 1) := by decide +kernel
theorem dX0_emptyRow_1 : decode cX0_emptyRow 1 = .ok (.istore_n 2, 1) := by decide +kernel
theorem dX0_emptyRow_2 : decode cX0_emptyRow 2 = .ok (.iload_n 2, 1) := by decide +kernel
theorem dX0_emptyRow_3 : decode cX0_emptyRow 3 = .ok (.bipush 6, 2) := by decide +kernel
theorem dX0_emptyRow_5 : decode cX0_emptyRow 5 = .ok (.if_icmp .ge 21, 3) := by decide +kernel
theorem dX0_emptyRow_8 : decode cX0_emptyRow 8 = .ok (.aload_n 0, 1) := by decide +kernel
theorem dX0_emptyRow_9 : decode cX0_emptyRow 9 = .ok (.getfield 18, 3) := by decide +kernel
theorem dX0_emptyRow_12 : decode cX0_emptyRow 12 = .ok (.iload_n 1, 1) := by decide +kernel
theorem dX0_emptyRow_13 : decode cX0_emptyRow 13 = .ok (.bipush 6, 2) := by decide +kernel
theorem dX0_emptyRow_15 : decode cX0_emptyRow 15 = .ok (.imul, 1) := by decide +kernel
theorem dX0_emptyRow_16 : decode cX0_emptyRow 16 = .ok (.iload_n 2, 1) := by decide +kernel
theorem dX0_emptyRow_17 : decode cX0_emptyRow 17 = .ok (.iadd, 1) := by decide +kernel
theorem dX0_emptyRow_18 : decode cX0_emptyRow 18 = .ok (.iconst 0, 1) := by decide +kernel
theorem dX0_emptyRow_19 : decode cX0_emptyRow 19 = .ok (.iastore, 1) := by decide +kernel
theorem dX0_emptyRow_20 : decode cX0_emptyRow 20 = .ok (.iinc 2 1, 3) := by decide +kernel
theorem dX0_emptyRow_23 : decode cX0_emptyRow 23 = .ok (.goto (-21), 3) := by decide +kernel
theorem dX0_emptyRow_26 : decode cX0_emptyRow 26 = .ok (.return_, 1) := by decide +kernel
theorem dX0_sumOf_0 : decode cX0_sumOf 0 = .ok (.iconst 0, 1) := by decide +kernel
theorem dX0_sumOf_1 : decode cX0_sumOf 1 = .ok (.istore_n 2, 1) := by decide +kernel
theorem dX0_sumOf_2 : decode cX0_sumOf 2 = .ok (.iconst 0, 1) := by decide +kernel
theorem dX0_sumOf_3 : decode cX0_sumOf 3 = .ok (.istore_n 3, 1) := by decide +kernel
theorem dX0_sumOf_4 : decode cX0_sumOf 4 = .ok (.iload_n 3, 1) := by decide +kernel
theorem dX0_sumOf_5 : decode cX0_sumOf 5 = .ok (.aload_n 0, 1) := by decide +kernel
theorem dX0_sumOf_6 : decode cX0_sumOf 6 = .ok (.getfield 43, 3) := by decide +kernel
theorem dX0_sumOf_9 : decode cX0_sumOf 9 = .ok (.if_icmp .ge 30, 3) := by decide +kernel
theorem dX0_sumOf_12 : decode cX0_sumOf 12 = .ok (.iload_n 2, 1) := by decide +kernel
theorem dX0_sumOf_13 : decode cX0_sumOf 13 = .ok (.aload_n 0, 1) := by decide +kernel
theorem dX0_sumOf_14 : decode cX0_sumOf 14 = .ok (.getfield 18, 3) := by decide +kernel
theorem dX0_sumOf_17 : decode cX0_sumOf 17 = .ok (.iload_n 1, 1) := by decide +kernel
theorem dX0_sumOf_18 : decode cX0_sumOf 18 = .ok (.bipush 6, 2) := by decide +kernel
theorem dX0_sumOf_20 : decode cX0_sumOf 20 = .ok (.imul, 1) := by decide +kernel
theorem dX0_sumOf_21 : decode cX0_sumOf 21 = .ok (.iload_n 3, 1) := by decide +kernel
theorem dX0_sumOf_22 : decode cX0_sumOf 22 = .ok (.iadd, 1) := by decide +kernel
theorem dX0_sumOf_23 : decode cX0_sumOf 23 = .ok (.iaload, 1) := by decide +kernel
theorem dX0_sumOf_24 : decode cX0_sumOf 24 = .ok (.aload_n 0, 1) := by decide +kernel
theorem dX0_sumOf_25 : decode cX0_sumOf 25 = .ok (.getfield 15, 3) := by decide +kernel
theorem dX0_sumOf_28 : decode cX0_sumOf 28 = .ok (.iload_n 3, 1) := by decide +kernel
theorem dX0_sumOf_29 : decode cX0_sumOf 29 = .ok (.iaload, 1) := by decide +kernel
theorem dX0_sumOf_30 : decode cX0_sumOf 30 = .ok (.imul, 1) := by decide +kernel
theorem dX0_sumOf_31 : decode cX0_sumOf 31 = .ok (.iadd, 1) := by decide +kernel
theorem dX0_sumOf_32 : decode cX0_sumOf 32 = .ok (.istore_n 2, 1) := by decide +kernel
theorem dX0_sumOf_33 : decode cX0_sumOf 33 = .ok (.iinc 3 1, 3) := by decide +kernel
theorem dX0_sumOf_36 : decode cX0_sumOf 36 = .ok (.goto (-32), 3) := by decide +kernel
theorem dX0_sumOf_39 : decode cX0_sumOf 39 = .ok (.iload_n 2, 1) := by decide +kernel
theorem dX0_sumOf_40 : decode cX0_sumOf 40 = .ok (.ireturn, 1) := by decide +kernel
theorem dX0_sumOfAll_0 : decode cX0_sumOfAll 0 = .ok (.iconst 0, 1) := by decide +kernel
theorem dX0_sumOfAll_1 : decode cX0_sumOfAll 1 = .ok (.istore_n 1, 1) := by decide +kernel
theorem dX0_sumOfAll_2 : decode cX0_sumOfAll 2 = .ok (.iconst 0, 1) := by decide +kernel
theorem dX0_sumOfAll_3 : decode cX0_sumOfAll 3 = .ok (.istore_n 2, 1) := by decide +kernel
theorem dX0_sumOfAll_4 : decode cX0_sumOfAll 4 = .ok (.iload_n 2, 1) := by decide +kernel
theorem dX0_sumOfAll_5 : decode cX0_sumOfAll 5 = .ok (.aload_n 0, 1) := by decide +kernel
theorem dX0_sumOfAll_6 : decode cX0_sumOfAll 6 = .ok (.getfield 46, 3) := by decide +kernel
theorem dX0_sumOfAll_9 : decode cX0_sumOfAll 9 = .ok (.if_icmp .ge 17, 3) := by decide +kernel
theorem dX0_sumOfAll_12 : decode cX0_sumOfAll 12 = .ok (.iload_n 1, 1) := by decide +kernel
theorem dX0_sumOfAll_13 : decode cX0_sumOfAll 13 = .ok (.aload_n 0, 1) := by decide +kernel
theorem dX0_sumOfAll_14 : decode cX0_sumOfAll 14 = .ok (.iload_n 2, 1) := by decide +kernel
theorem dX0_sumOfAll_15 : decode cX0_sumOfAll 15 = .ok (.invokevirtual 56, 3) := by decide +kernel
theorem dX0_sumOfAll_18 : decode cX0_sumOfAll 18 = .ok (.iadd, 1) := by decide +kernel
theorem dX0_sumOfAll_19 : decode cX0_sumOfAll 19 = .ok (.istore_n 1, 1) := by decide +kernel
theorem dX0_sumOfAll_20 : decode cX0_sumOfAll 20 = .ok (.iinc 2 1, 3) := by decide +kernel
theorem dX0_sumOfAll_23 : decode cX0_sumOfAll 23 = .ok (.goto (-19), 3) := by decide +kernel
theorem dX0_sumOfAll_26 : decode cX0_sumOfAll 26 = .ok (.iload_n 1, 1) := by decide +kernel
theorem dX0_sumOfAll_27 : decode cX0_sumOfAll 27 = .ok (.ireturn, 1) := by decide +kernel
theorem dX0_countersOf_0 : decode cX0_countersOf 0 = .ok (.iconst 0, 1) := by decide +kernel
theorem dX0_countersOf_1 : decode cX0_countersOf 1 = .ok (.istore_n 2, 1) := by decide +kernel
theorem dX0_countersOf_2 : decode cX0_countersOf 2 = .ok (.iconst 0, 1) := by decide +kernel
theorem dX0_countersOf_3 : decode cX0_countersOf 3 = .ok (.istore_n 3, 1) := by decide +kernel
theorem dX0_countersOf_4 : decode cX0_countersOf 4 = .ok (.iload_n 3, 1) := by decide +kernel
theorem dX0_countersOf_5 : decode cX0_countersOf 5 = .ok (.aload_n 0, 1) := by decide +kernel
theorem dX0_countersOf_6 : decode cX0_countersOf 6 = .ok (.getfield 43, 3) := by decide +kernel
theorem dX0_countersOf_9 : decode cX0_countersOf 9 = .ok (.if_icmp .ge 23, 3) := by decide +kernel
theorem dX0_countersOf_12 : decode cX0_countersOf 12 = .ok (.iload_n 2, 1) := by decide +kernel
theorem dX0_countersOf_13 : decode cX0_countersOf 13 = .ok (.aload_n 0, 1) := by decide +kernel
theorem dX0_countersOf_14 : decode cX0_countersOf 14 = .ok (.getfield 18, 3) := by decide +kernel
theorem dX0_countersOf_17 : decode cX0_countersOf 17 = .ok (.iload_n 1, 1) := by decide +kernel
theorem dX0_countersOf_18 : decode cX0_countersOf 18 = .ok (.bipush 6, 2) := by decide +kernel
theorem dX0_countersOf_20 : decode cX0_countersOf 20 = .ok (.imul, 1) := by decide +kernel
theorem dX0_countersOf_21 : decode cX0_countersOf 21 = .ok (.iload_n 3, 1) := by decide +kernel
theorem dX0_countersOf_22 : decode cX0_countersOf 22 = .ok (.iadd, 1) := by decide +kernel
theorem dX0_countersOf_23 : decode cX0_countersOf 23 = .ok (.iaload, 1) := by decide +kernel
theorem dX0_countersOf_24 : decode cX0_countersOf 24 = .ok (.iadd, 1) := by decide +kernel
theorem dX0_countersOf_25 : decode cX0_countersOf 25 = .ok (.istore_n 2, 1) := by decide +kernel
theorem dX0_countersOf_26 : decode cX0_countersOf 26 = .ok (.iinc 3 1, 3) := by decide +kernel
theorem dX0_countersOf_29 : decode cX0_countersOf 29 = .ok (.goto (-25), 3) := by decide +kernel
theorem dX0_countersOf_32 : decode cX0_countersOf 32 = .ok (.iload_n 2, 1) := by decide +kernel
theorem dX0_countersOf_33 : decode cX0_countersOf 33 = .ok (.ireturn, 1) := by decide +kernel
theorem dX0_countersOfAll_0 : decode cX0_countersOfAll 0 = .ok (.iconst 0, 1) := by decide +kernel
theorem dX0_countersOfAll_1 : decode cX0_countersOfAll 1 = .ok (.istore_n 1, 1) := by decide +kernel
theorem dX0_countersOfAll_2 : decode cX0_countersOfAll 2 = .ok (.iconst 0, 1) := by decide +kernel
theorem dX0_countersOfAll_3 : decode cX0_countersOfAll 3 = .ok (.istore_n 2, 1) := by decide +kernel
theorem dX0_countersOfAll_4 : decode cX0_countersOfAll 4 = .ok (.iload_n 2, 1) := by decide +kernel
theorem dX0_countersOfAll_5 : decode cX0_countersOfAll 5 = .ok (.aload_n 0, 1) := by decide +kernel
theorem dX0_countersOfAll_6 : decode cX0_countersOfAll 6 = .ok (.getfield 46, 3) := by decide +kernel
theorem dX0_countersOfAll_9 : decode cX0_countersOfAll 9 = .ok (.if_icmp .ge 17, 3) := by decide +kernel
theorem dX0_countersOfAll_12 : decode cX0_countersOfAll 12 = .ok (.iload_n 1, 1) := by decide +kernel
theorem dX0_countersOfAll_13 : decode cX0_countersOfAll 13 = .ok (.aload_n 0, 1) := by decide +kernel
theorem dX0_countersOfAll_14 : decode cX0_countersOfAll 14 = .ok (.iload_n 2, 1) := by decide +kernel
theorem dX0_countersOfAll_15 : decode cX0_countersOfAll 15 = .ok (.invokevirtual 60, 3) := by decide +kernel
theorem dX0_countersOfAll_18 : decode cX0_countersOfAll 18 = .ok (.iadd, 1) := by decide +kernel
theorem dX0_countersOfAll_19 : decode cX0_countersOfAll 19 = .ok (.istore_n 1, 1) := by decide +kernel
theorem dX0_countersOfAll_20 : decode cX0_countersOfAll 20 = .ok (.iinc 2 1, 3) := by decide +kernel
theorem dX0_countersOfAll_23 : decode cX0_countersOfAll 23 = .ok (.goto (-19), 3) := by decide +kernel
theorem dX0_countersOfAll_26 : decode cX0_countersOfAll 26 = .ok (.iload_n 1, 1) := by decide +kernel
theorem dX0_countersOfAll_27 : decode cX0_countersOfAll 27 = .ok (.ireturn, 1) := by decide +kernel
theorem dX0_countersIn_0 : decode cX0_countersIn 0 = .ok (.iconst 0, 1) := by decide +kernel
theorem dX0_countersIn_1 : decode cX0_countersIn 1 = .ok (.istore_n 2, 1) := by decide +kernel
theorem dX0_countersIn_2 : decode cX0_countersIn 2 = .ok (.iconst 0, 1) := by decide +kernel
theorem dX0_countersIn_3 : decode cX0_countersIn 3 = .ok (.istore_n 3, 1) := by decide +kernel
theorem dX0_countersIn_4 : decode cX0_countersIn 4 = .ok (.iload_n 3, 1) := by decide +kernel
theorem dX0_countersIn_5 : decode cX0_countersIn 5 = .ok (.aload_n 0, 1) := by decide +kernel
theorem dX0_countersIn_6 : decode cX0_countersIn 6 = .ok (.getfield 46, 3) := by decide +kernel
theorem dX0_countersIn_9 : decode cX0_countersIn 9 = .ok (.if_icmp .ge 23, 3) := by decide +kernel
theorem dX0_countersIn_12 : decode cX0_countersIn 12 = .ok (.iload_n 2, 1) := by decide +kernel
theorem dX0_countersIn_13 : decode cX0_countersIn 13 = .ok (.aload_n 0, 1) := by decide +kernel
theorem dX0_countersIn_14 : decode cX0_countersIn 14 = .ok (.getfield 18, 3) := by decide +kernel
theorem dX0_countersIn_17 : decode cX0_countersIn 17 = .ok (.iload_n 3, 1) := by decide +kernel
theorem dX0_countersIn_18 : decode cX0_countersIn 18 = .ok (.bipush 6, 2) := by decide +kernel
theorem dX0_countersIn_20 : decode cX0_countersIn 20 = .ok (.imul, 1) := by decide +kernel
theorem dX0_countersIn_21 : decode cX0_countersIn 21 = .ok (.iload_n 1, 1) := by decide +kernel
theorem dX0_countersIn_22 : decode cX0_countersIn 22 = .ok (.iadd, 1) := by decide +kernel
theorem dX0_countersIn_23 : decode cX0_countersIn 23 = .ok (.iaload, 1) := by decide +kernel
theorem dX0_countersIn_24 : decode cX0_countersIn 24 = .ok (.iadd, 1) := by decide +kernel
theorem dX0_countersIn_25 : decode cX0_countersIn 25 = .ok (.istore_n 2, 1) := by decide +kernel
theorem dX0_countersIn_26 : decode cX0_countersIn 26 = .ok (.iinc 3 1, 3) := by decide +kernel
theorem dX0_countersIn_29 : decode cX0_countersIn 29 = .ok (.goto (-25), 3) := by decide +kernel
theorem dX0_countersIn_32 : decode cX0_countersIn 32 = .ok (.iload_n 2, 1) := by decide +kernel
theorem dX0_countersIn_33 : decode cX0_countersIn 33 = .ok (.ireturn, 1) := by decide +kernel
theorem dX0_richestRow_0 : decode cX0_richestRow 0 = .ok (.iconst (-1), 1) := by decide +kernel
theorem dX0_richestRow_1 : decode cX0_richestRow 1 = .ok (.istore_n 1, 1) := by decide +kernel
theorem dX0_richestRow_2 : decode cX0_richestRow 2 = .ok (.iconst (-1), 1) := by decide +kernel
theorem dX0_richestRow_3 : decode cX0_richestRow 3 = .ok (.istore_n 2, 1) := by decide +kernel
theorem dX0_richestRow_4 : decode cX0_richestRow 4 = .ok (.iconst 0, 1) := by decide +kernel
theorem dX0_richestRow_5 : decode cX0_richestRow 5 = .ok (.istore_n 3, 1) := by decide +kernel
theorem dX0_richestRow_6 : decode cX0_richestRow 6 = .ok (.iload_n 3, 1) := by decide +kernel
theorem dX0_richestRow_7 : decode cX0_richestRow 7 = .ok (.aload_n 0, 1) := by decide +kernel
theorem dX0_richestRow_8 : decode cX0_richestRow 8 = .ok (.getfield 46, 3) := by decide +kernel
theorem dX0_richestRow_11 : decode cX0_richestRow 11 = .ok (.if_icmp .ge 27, 3) := by decide +kernel
theorem dX0_richestRow_14 : decode cX0_richestRow 14 = .ok (.aload_n 0, 1) := by decide +kernel
theorem dX0_richestRow_15 : decode cX0_richestRow 15 = .ok (.iload_n 3, 1) := by decide +kernel
theorem dX0_richestRow_16 : decode cX0_richestRow 16 = .ok (.invokevirtual 56, 3) := by decide +kernel
theorem dX0_richestRow_19 : decode cX0_richestRow 19 = .ok (.istore 4, 2) := by decide +kernel
theorem dX0_richestRow_21 : decode cX0_richestRow 21 = .ok (.iload 4, 2) := by decide +kernel
theorem dX0_richestRow_23 : decode cX0_richestRow 23 = .ok (.iload_n 2, 1) := by decide +kernel
theorem dX0_richestRow_24 : decode cX0_richestRow 24 = .ok (.if_icmp .le 8, 3) := by decide +kernel
theorem dX0_richestRow_27 : decode cX0_richestRow 27 = .ok (.iload 4, 2) := by decide +kernel
theorem dX0_richestRow_29 : decode cX0_richestRow 29 = .ok (.istore_n 2, 1) := by decide +kernel
theorem dX0_richestRow_30 : decode cX0_richestRow 30 = .ok (.iload_n 3, 1) := by decide +kernel
theorem dX0_richestRow_31 : decode cX0_richestRow 31 = .ok (.istore_n 1, 1) := by decide +kernel
theorem dX0_richestRow_32 : decode cX0_richestRow 32 = .ok (.iinc 3 1, 3) := by decide +kernel
theorem dX0_richestRow_35 : decode cX0_richestRow 35 = .ok (.goto (-29), 3) := by decide +kernel
theorem dX0_richestRow_38 : decode cX0_richestRow 38 = .ok (.iload_n 1, 1) := by decide +kernel
theorem dX0_richestRow_39 : decode cX0_richestRow 39 = .ok (.ireturn, 1) := by decide +kernel
theorem dX0_joinFits_0 : decode cX0_joinFits 0 = .ok (.iconst 0, 1) := by decide +kernel
theorem dX0_joinFits_1 : decode cX0_joinFits 1 = .ok (.istore_n 3, 1) := by decide +kernel
theorem dX0_joinFits_2 : decode cX0_joinFits 2 = .ok (.iload_n 3, 1) := by decide +kernel
theorem dX0_joinFits_3 : decode cX0_joinFits 3 = .ok (.aload_n 0, 1) := by decide +kernel
theorem dX0_joinFits_4 : decode cX0_joinFits 4 = .ok (.getfield 43, 3) := by decide +kernel
theorem dX0_joinFits_7 : decode cX0_joinFits 7 = .ok (.if_icmp .ge 39, 3) := by decide +kernel
theorem dX0_joinFits_10 : decode cX0_joinFits 10 = .ok (.aload_n 0, 1) := by decide +kernel
theorem dX0_joinFits_11 : decode cX0_joinFits 11 = .ok (.getfield 18, 3) := by decide +kernel
theorem dX0_joinFits_14 : decode cX0_joinFits 14 = .ok (.iload_n 1, 1) := by decide +kernel
theorem dX0_joinFits_15 : decode cX0_joinFits 15 = .ok (.bipush 6, 2) := by decide +kernel
theorem dX0_joinFits_17 : decode cX0_joinFits 17 = .ok (.imul, 1) := by decide +kernel
theorem dX0_joinFits_18 : decode cX0_joinFits 18 = .ok (.iload_n 3, 1) := by decide +kernel
theorem dX0_joinFits_19 : decode cX0_joinFits 19 = .ok (.iadd, 1) := by decide +kernel
theorem dX0_joinFits_20 : decode cX0_joinFits 20 = .ok (.iaload, 1) := by decide +kernel
theorem dX0_joinFits_21 : decode cX0_joinFits 21 = .ok (.aload_n 0, 1) := by decide +kernel
theorem dX0_joinFits_22 : decode cX0_joinFits 22 = .ok (.getfield 18, 3) := by decide +kernel
theorem dX0_joinFits_25 : decode cX0_joinFits 25 = .ok (.iload_n 2, 1) := by decide +kernel
theorem dX0_joinFits_26 : decode cX0_joinFits 26 = .ok (.bipush 6, 2) := by decide +kernel
theorem dX0_joinFits_28 : decode cX0_joinFits 28 = .ok (.imul, 1) := by decide +kernel
theorem dX0_joinFits_29 : decode cX0_joinFits 29 = .ok (.iload_n 3, 1) := by decide +kernel
theorem dX0_joinFits_30 : decode cX0_joinFits 30 = .ok (.iadd, 1) := by decide +kernel
theorem dX0_joinFits_31 : decode cX0_joinFits 31 = .ok (.iaload, 1) := by decide +kernel
theorem dX0_joinFits_32 : decode cX0_joinFits 32 = .ok (.iadd, 1) := by decide +kernel
theorem dX0_joinFits_33 : decode cX0_joinFits 33 = .ok (.bipush 99, 2) := by decide +kernel
theorem dX0_joinFits_35 : decode cX0_joinFits 35 = .ok (.if_icmp .le 5, 3) := by decide +kernel
theorem dX0_joinFits_38 : decode cX0_joinFits 38 = .ok (.iconst 0, 1) := by decide +kernel
theorem dX0_joinFits_39 : decode cX0_joinFits 39 = .ok (.ireturn, 1) := by decide +kernel
theorem dX0_joinFits_40 : decode cX0_joinFits 40 = .ok (.iinc 3 1, 3) := by decide +kernel
theorem dX0_joinFits_43 : decode cX0_joinFits 43 = .ok (.goto (-41), 3) := by decide +kernel
theorem dX0_joinFits_46 : decode cX0_joinFits 46 = .ok (.iconst 1, 1) := by decide +kernel
theorem dX0_joinFits_47 : decode cX0_joinFits 47 = .ok (.ireturn, 1) := by decide +kernel
theorem dX0_describe_0 : decode cX0_describe 0 = .ok (.aload_n 0, 1) := by decide +kernel
theorem dX0_describe_1 : decode cX0_describe 1 = .ok (.iload_n 3, 1) := by decide +kernel
theorem dX0_describe_2 : decode cX0_describe 2 = .ok (.iload 5, 2) := by decide +kernel
theorem dX0_describe_4 : decode cX0_describe 4 = .ok (.invokevirtual 63, 3) := by decide +kernel
theorem dX0_describe_7 : decode cX0_describe 7 = .ok (.ifCond .ne 5, 3) := by decide +kernel
theorem dX0_describe_10 : decode cX0_describe 10 = .ok (.iconst 0, 1) := by decide +kernel
theorem dX0_describe_11 : decode cX0_describe 11 = .ok (.ireturn, 1) := by decide +kernel
theorem dX0_describe_12 : decode cX0_describe 12 = .ok (.iload_n 3, 1) := by decide +kernel
theorem dX0_describe_13 : decode cX0_describe 13 = .ok (.bipush 6, 2) := by decide +kernel
theorem dX0_describe_15 : decode cX0_describe 15 = .ok (.imul, 1) := by decide +kernel
theorem dX0_describe_16 : decode cX0_describe 16 = .ok (.iload 5, 2) := by decide +kernel
theorem dX0_describe_18 : decode cX0_describe 18 = .ok (.iadd, 1) := by decide +kernel
theorem dX0_describe_19 : decode cX0_describe 19 = .ok (.istore 7, 2) := by decide +kernel
theorem dX0_describe_21 : decode cX0_describe 21 = .ok (.iload_n 2, 1) := by decide +kernel
theorem dX0_describe_22 : decode cX0_describe 22 = .ok (.tableswitch 178 0 4 #[34, 52, 71, 107, 135], 34) := by decide +kernel
theorem dX0_describe_56 : decode cX0_describe 56 = .ok (.aload_n 1, 1) := by decide +kernel
theorem dX0_describe_57 : decode cX0_describe 57 = .ok (.iload 7, 2) := by decide +kernel
theorem dX0_describe_59 : decode cX0_describe 59 = .ok (.iload 6, 2) := by decide +kernel
theorem dX0_describe_61 : decode cX0_describe 61 = .ok (.iload 7, 2) := by decide +kernel
theorem dX0_describe_63 : decode cX0_describe 63 = .ok (.iconst 0, 1) := by decide +kernel
theorem dX0_describe_64 : decode cX0_describe 64 = .ok (.invokevirtual 67, 3) := by decide +kernel
theorem dX0_describe_67 : decode cX0_describe 67 = .ok (.aload_n 0, 1) := by decide +kernel
theorem dX0_describe_68 : decode cX0_describe 68 = .ok (.iload 6, 2) := by decide +kernel
theorem dX0_describe_70 : decode cX0_describe 70 = .ok (.invokevirtual 73, 3) := by decide +kernel
theorem dX0_describe_73 : decode cX0_describe 73 = .ok (.ireturn, 1) := by decide +kernel
theorem dX0_describe_74 : decode cX0_describe 74 = .ok (.aload_n 1, 1) := by decide +kernel
theorem dX0_describe_75 : decode cX0_describe 75 = .ok (.iload 7, 2) := by decide +kernel
theorem dX0_describe_77 : decode cX0_describe 77 = .ok (.iload 6, 2) := by decide +kernel
theorem dX0_describe_79 : decode cX0_describe 79 = .ok (.ineg, 1) := by decide +kernel
theorem dX0_describe_80 : decode cX0_describe 80 = .ok (.iload 7, 2) := by decide +kernel
theorem dX0_describe_82 : decode cX0_describe 82 = .ok (.iconst 0, 1) := by decide +kernel
theorem dX0_describe_83 : decode cX0_describe 83 = .ok (.invokevirtual 67, 3) := by decide +kernel
theorem dX0_describe_86 : decode cX0_describe 86 = .ok (.aload_n 0, 1) := by decide +kernel
theorem dX0_describe_87 : decode cX0_describe 87 = .ok (.iload 6, 2) := by decide +kernel
theorem dX0_describe_89 : decode cX0_describe 89 = .ok (.invokevirtual 73, 3) := by decide +kernel
theorem dX0_describe_92 : decode cX0_describe 92 = .ok (.ireturn, 1) := by decide +kernel
theorem dX0_describe_93 : decode cX0_describe 93 = .ok (.aload_n 0, 1) := by decide +kernel
theorem dX0_describe_94 : decode cX0_describe 94 = .ok (.iload 5, 2) := by decide +kernel
theorem dX0_describe_96 : decode cX0_describe 96 = .ok (.iconst 1, 1) := by decide +kernel
theorem dX0_describe_97 : decode cX0_describe 97 = .ok (.iadd, 1) := by decide +kernel
theorem dX0_describe_98 : decode cX0_describe 98 = .ok (.invokevirtual 77, 3) := by decide +kernel
theorem dX0_describe_101 : decode cX0_describe 101 = .ok (.ifCond .ne 5, 3) := by decide +kernel
theorem dX0_describe_104 : decode cX0_describe 104 = .ok (.iconst 0, 1) := by decide +kernel
theorem dX0_describe_105 : decode cX0_describe 105 = .ok (.ireturn, 1) := by decide +kernel
theorem dX0_describe_106 : decode cX0_describe 106 = .ok (.aload_n 1, 1) := by decide +kernel
theorem dX0_describe_107 : decode cX0_describe 107 = .ok (.iload 7, 2) := by decide +kernel
theorem dX0_describe_109 : decode cX0_describe 109 = .ok (.aload_n 0, 1) := by decide +kernel
theorem dX0_describe_110 : decode cX0_describe 110 = .ok (.getfield 9, 3) := by decide +kernel
theorem dX0_describe_113 : decode cX0_describe 113 = .ok (.iload 5, 2) := by decide +kernel
theorem dX0_describe_115 : decode cX0_describe 115 = .ok (.iconst 1, 1) := by decide +kernel
theorem dX0_describe_116 : decode cX0_describe 116 = .ok (.iadd, 1) := by decide +kernel
theorem dX0_describe_117 : decode cX0_describe 117 = .ok (.iaload, 1) := by decide +kernel
theorem dX0_describe_118 : decode cX0_describe 118 = .ok (.ineg, 1) := by decide +kernel
theorem dX0_describe_119 : decode cX0_describe 119 = .ok (.iload 7, 2) := by decide +kernel
theorem dX0_describe_121 : decode cX0_describe 121 = .ok (.iconst 1, 1) := by decide +kernel
theorem dX0_describe_122 : decode cX0_describe 122 = .ok (.iadd, 1) := by decide +kernel
theorem dX0_describe_123 : decode cX0_describe 123 = .ok (.iconst 1, 1) := by decide +kernel
theorem dX0_describe_124 : decode cX0_describe 124 = .ok (.invokevirtual 67, 3) := by decide +kernel
theorem dX0_describe_127 : decode cX0_describe 127 = .ok (.iconst 1, 1) := by decide +kernel
theorem dX0_describe_128 : decode cX0_describe 128 = .ok (.ireturn, 1) := by decide +kernel
theorem dX0_describe_129 : decode cX0_describe 129 = .ok (.iload 5, 2) := by decide +kernel
theorem dX0_describe_131 : decode cX0_describe 131 = .ok (.iconst 1, 1) := by decide +kernel
theorem dX0_describe_132 : decode cX0_describe 132 = .ok (.if_icmp .ge 5, 3) := by decide +kernel
theorem dX0_describe_135 : decode cX0_describe 135 = .ok (.iconst 0, 1) := by decide +kernel
theorem dX0_describe_136 : decode cX0_describe 136 = .ok (.ireturn, 1) := by decide +kernel
theorem dX0_describe_137 : decode cX0_describe 137 = .ok (.aload_n 1, 1) := by decide +kernel
theorem dX0_describe_138 : decode cX0_describe 138 = .ok (.iload 7, 2) := by decide +kernel
theorem dX0_describe_140 : decode cX0_describe 140 = .ok (.iconst (-1), 1) := by decide +kernel
theorem dX0_describe_141 : decode cX0_describe 141 = .ok (.iload 7, 2) := by decide +kernel
theorem dX0_describe_143 : decode cX0_describe 143 = .ok (.iconst 1, 1) := by decide +kernel
theorem dX0_describe_144 : decode cX0_describe 144 = .ok (.isub, 1) := by decide +kernel
theorem dX0_describe_145 : decode cX0_describe 145 = .ok (.aload_n 0, 1) := by decide +kernel
theorem dX0_describe_146 : decode cX0_describe 146 = .ok (.getfield 9, 3) := by decide +kernel
theorem dX0_describe_149 : decode cX0_describe 149 = .ok (.iload 5, 2) := by decide +kernel
theorem dX0_describe_151 : decode cX0_describe 151 = .ok (.iaload, 1) := by decide +kernel
theorem dX0_describe_152 : decode cX0_describe 152 = .ok (.invokevirtual 67, 3) := by decide +kernel
theorem dX0_describe_155 : decode cX0_describe 155 = .ok (.iconst 1, 1) := by decide +kernel
theorem dX0_describe_156 : decode cX0_describe 156 = .ok (.ireturn, 1) := by decide +kernel
theorem dX0_describe_157 : decode cX0_describe 157 = .ok (.aload_n 0, 1) := by decide +kernel
theorem dX0_describe_158 : decode cX0_describe 158 = .ok (.iload 4, 2) := by decide +kernel
theorem dX0_describe_160 : decode cX0_describe 160 = .ok (.invokevirtual 80, 3) := by decide +kernel
theorem dX0_describe_163 : decode cX0_describe 163 = .ok (.ifCond .eq 9, 3) := by decide +kernel
theorem dX0_describe_166 : decode cX0_describe 166 = .ok (.iload 4, 2) := by decide +kernel
theorem dX0_describe_168 : decode cX0_describe 168 = .ok (.iload_n 3, 1) := by decide +kernel
theorem dX0_describe_169 : decode cX0_describe 169 = .ok (.if_icmp .ne 5, 3) := by decide +kernel
theorem dX0_describe_172 : decode cX0_describe 172 = .ok (.iconst 0, 1) := by decide +kernel
theorem dX0_describe_173 : decode cX0_describe 173 = .ok (.ireturn, 1) := by decide +kernel
theorem dX0_describe_174 : decode cX0_describe 174 = .ok (.aload_n 1, 1) := by decide +kernel
theorem dX0_describe_175 : decode cX0_describe 175 = .ok (.iload 7, 2) := by decide +kernel
theorem dX0_describe_177 : decode cX0_describe 177 = .ok (.iload 6, 2) := by decide +kernel
theorem dX0_describe_179 : decode cX0_describe 179 = .ok (.ineg, 1) := by decide +kernel
theorem dX0_describe_180 : decode cX0_describe 180 = .ok (.iload 4, 2) := by decide +kernel
theorem dX0_describe_182 : decode cX0_describe 182 = .ok (.bipush 6, 2) := by decide +kernel
theorem dX0_describe_184 : decode cX0_describe 184 = .ok (.imul, 1) := by decide +kernel
theorem dX0_describe_185 : decode cX0_describe 185 = .ok (.iload 5, 2) := by decide +kernel
theorem dX0_describe_187 : decode cX0_describe 187 = .ok (.iadd, 1) := by decide +kernel
theorem dX0_describe_188 : decode cX0_describe 188 = .ok (.iload 6, 2) := by decide +kernel
theorem dX0_describe_190 : decode cX0_describe 190 = .ok (.invokevirtual 67, 3) := by decide +kernel
theorem dX0_describe_193 : decode cX0_describe 193 = .ok (.aload_n 0, 1) := by decide +kernel
theorem dX0_describe_194 : decode cX0_describe 194 = .ok (.iload 6, 2) := by decide +kernel
theorem dX0_describe_196 : decode cX0_describe 196 = .ok (.invokevirtual 73, 3) := by decide +kernel
theorem dX0_describe_199 : decode cX0_describe 199 = .ok (.ireturn, 1) := by decide +kernel
theorem dX0_describe_200 : decode cX0_describe 200 = .ok (.iconst 0, 1) := by decide +kernel
theorem dX0_describe_201 : decode cX0_describe 201 = .ok (.ireturn, 1) := by decide +kernel
theorem dX0_isAmount_0 : decode cX0_isAmount 0 = .ok (.iload_n 1, 1) := by decide +kernel
theorem dX0_isAmount_1 : decode cX0_isAmount 1 = .ok (.iconst 1, 1) := by decide +kernel
theorem dX0_isAmount_2 : decode cX0_isAmount 2 = .ok (.if_icmp .lt 13, 3) := by decide +kernel
theorem dX0_isAmount_5 : decode cX0_isAmount 5 = .ok (.iload_n 1, 1) := by decide +kernel
theorem dX0_isAmount_6 : decode cX0_isAmount 6 = .ok (.bipush 99, 2) := by decide +kernel
theorem dX0_isAmount_8 : decode cX0_isAmount 8 = .ok (.if_icmp .gt 7, 3) := by decide +kernel
theorem dX0_isAmount_11 : decode cX0_isAmount 11 = .ok (.iconst 1, 1) := by decide +kernel
theorem dX0_isAmount_12 : decode cX0_isAmount 12 = .ok (.goto 4, 3) := by decide +kernel
theorem dX0_isAmount_15 : decode cX0_isAmount 15 = .ok (.iconst 0, 1) := by decide +kernel
theorem dX0_isAmount_16 : decode cX0_isAmount 16 = .ok (.ireturn, 1) := by decide +kernel
theorem dX0_describeLogged_0 : decode cX0_describeLogged 0 = .ok (.iload_n 2, 1) := by decide +kernel
theorem dX0_describeLogged_1 : decode cX0_describeLogged 1 = .ok (.iconst 5, 1) := by decide +kernel
theorem dX0_describeLogged_2 : decode cX0_describeLogged 2 = .ok (.imul, 1) := by decide +kernel
theorem dX0_describeLogged_3 : decode cX0_describeLogged 3 = .ok (.istore_n 3, 1) := by decide +kernel
theorem dX0_describeLogged_4 : decode cX0_describeLogged 4 = .ok (.aload_n 0, 1) := by decide +kernel
theorem dX0_describeLogged_5 : decode cX0_describeLogged 5 = .ok (.aload_n 1, 1) := by decide +kernel
theorem dX0_describeLogged_6 : decode cX0_describeLogged 6 = .ok (.aload_n 0, 1) := by decide +kernel
theorem dX0_describeLogged_7 : decode cX0_describeLogged 7 = .ok (.getfield 24, 3) := by decide +kernel
theorem dX0_describeLogged_10 : decode cX0_describeLogged 10 = .ok (.iload_n 3, 1) := by decide +kernel
theorem dX0_describeLogged_11 : decode cX0_describeLogged 11 = .ok (.iaload, 1) := by decide +kernel
theorem dX0_describeLogged_12 : decode cX0_describeLogged 12 = .ok (.aload_n 0, 1) := by decide +kernel
theorem dX0_describeLogged_13 : decode cX0_describeLogged 13 = .ok (.getfield 24, 3) := by decide +kernel
theorem dX0_describeLogged_16 : decode cX0_describeLogged 16 = .ok (.iload_n 3, 1) := by decide +kernel
theorem dX0_describeLogged_17 : decode cX0_describeLogged 17 = .ok (.iconst 1, 1) := by decide +kernel
theorem dX0_describeLogged_18 : decode cX0_describeLogged 18 = .ok (.iadd, 1) := by decide +kernel
theorem dX0_describeLogged_19 : decode cX0_describeLogged 19 = .ok (.iaload, 1) := by decide +kernel
theorem dX0_describeLogged_20 : decode cX0_describeLogged 20 = .ok (.aload_n 0, 1) := by decide +kernel
theorem dX0_describeLogged_21 : decode cX0_describeLogged 21 = .ok (.getfield 24, 3) := by decide +kernel
theorem dX0_describeLogged_24 : decode cX0_describeLogged 24 = .ok (.iload_n 3, 1) := by decide +kernel
theorem dX0_describeLogged_25 : decode cX0_describeLogged 25 = .ok (.iconst 4, 1) := by decide +kernel
theorem dX0_describeLogged_26 : decode cX0_describeLogged 26 = .ok (.iadd, 1) := by decide +kernel
theorem dX0_describeLogged_27 : decode cX0_describeLogged 27 = .ok (.iaload, 1) := by decide +kernel
theorem dX0_describeLogged_28 : decode cX0_describeLogged 28 = .ok (.aload_n 0, 1) := by decide +kernel
theorem dX0_describeLogged_29 : decode cX0_describeLogged 29 = .ok (.getfield 24, 3) := by decide +kernel
theorem dX0_describeLogged_32 : decode cX0_describeLogged 32 = .ok (.iload_n 3, 1) := by decide +kernel
theorem dX0_describeLogged_33 : decode cX0_describeLogged 33 = .ok (.iconst 2, 1) := by decide +kernel
theorem dX0_describeLogged_34 : decode cX0_describeLogged 34 = .ok (.iadd, 1) := by decide +kernel
theorem dX0_describeLogged_35 : decode cX0_describeLogged 35 = .ok (.iaload, 1) := by decide +kernel
theorem dX0_describeLogged_36 : decode cX0_describeLogged 36 = .ok (.aload_n 0, 1) := by decide +kernel
theorem dX0_describeLogged_37 : decode cX0_describeLogged 37 = .ok (.getfield 24, 3) := by decide +kernel
theorem dX0_describeLogged_40 : decode cX0_describeLogged 40 = .ok (.iload_n 3, 1) := by decide +kernel
theorem dX0_describeLogged_41 : decode cX0_describeLogged 41 = .ok (.iconst 3, 1) := by decide +kernel
theorem dX0_describeLogged_42 : decode cX0_describeLogged 42 = .ok (.iadd, 1) := by decide +kernel
theorem dX0_describeLogged_43 : decode cX0_describeLogged 43 = .ok (.iaload, 1) := by decide +kernel
theorem dX0_describeLogged_44 : decode cX0_describeLogged 44 = .ok (.invokevirtual 83, 3) := by decide +kernel
theorem dX0_describeLogged_47 : decode cX0_describeLogged 47 = .ok (.ireturn, 1) := by decide +kernel
theorem dX0_canMake_0 : decode cX0_canMake 0 = .ok (.aload_n 0, 1) := by decide +kernel
theorem dX0_canMake_1 : decode cX0_canMake 1 = .ok (.aload_n 1, 1) := by decide +kernel
theorem dX0_canMake_2 : decode cX0_canMake 2 = .ok (.iload_n 2, 1) := by decide +kernel
theorem dX0_canMake_3 : decode cX0_canMake 3 = .ok (.iload_n 3, 1) := by decide +kernel
theorem dX0_canMake_4 : decode cX0_canMake 4 = .ok (.iload 4, 2) := by decide +kernel
theorem dX0_canMake_6 : decode cX0_canMake 6 = .ok (.iload 5, 2) := by decide +kernel
theorem dX0_canMake_8 : decode cX0_canMake 8 = .ok (.iload 6, 2) := by decide +kernel
theorem dX0_canMake_10 : decode cX0_canMake 10 = .ok (.invokevirtual 83, 3) := by decide +kernel
theorem dX0_canMake_13 : decode cX0_canMake 13 = .ok (.ifCond .eq 15, 3) := by decide +kernel
theorem dX0_canMake_16 : decode cX0_canMake 16 = .ok (.aload_n 0, 1) := by decide +kernel
theorem dX0_canMake_17 : decode cX0_canMake 17 = .ok (.aload_n 1, 1) := by decide +kernel
theorem dX0_canMake_18 : decode cX0_canMake 18 = .ok (.invokevirtual 87, 3) := by decide +kernel
theorem dX0_canMake_21 : decode cX0_canMake 21 = .ok (.ifCond .eq 7, 3) := by decide +kernel
theorem dX0_canMake_24 : decode cX0_canMake 24 = .ok (.iconst 1, 1) := by decide +kernel
theorem dX0_canMake_25 : decode cX0_canMake 25 = .ok (.goto 4, 3) := by decide +kernel
theorem dX0_canMake_28 : decode cX0_canMake 28 = .ok (.iconst 0, 1) := by decide +kernel
theorem dX0_canMake_29 : decode cX0_canMake 29 = .ok (.ireturn, 1) := by decide +kernel
theorem dX0_staysInBounds_0 : decode cX0_staysInBounds 0 = .ok (.aload_n 0, 1) := by decide +kernel
theorem dX0_staysInBounds_1 : decode cX0_staysInBounds 1 = .ok (.getfield 18, 3) := by decide +kernel
theorem dX0_staysInBounds_4 : decode cX0_staysInBounds 4 = .ok (.aload_n 1, 1) := by decide +kernel
theorem dX0_staysInBounds_5 : decode cX0_staysInBounds 5 = .ok (.getfield 91, 3) := by decide +kernel
theorem dX0_staysInBounds_8 : decode cX0_staysInBounds 8 = .ok (.iaload, 1) := by decide +kernel
theorem dX0_staysInBounds_9 : decode cX0_staysInBounds 9 = .ok (.aload_n 1, 1) := by decide +kernel
theorem dX0_staysInBounds_10 : decode cX0_staysInBounds 10 = .ok (.getfield 93, 3) := by decide +kernel
theorem dX0_staysInBounds_13 : decode cX0_staysInBounds 13 = .ok (.iadd, 1) := by decide +kernel
theorem dX0_staysInBounds_14 : decode cX0_staysInBounds 14 = .ok (.istore_n 2, 1) := by decide +kernel
theorem dX0_staysInBounds_15 : decode cX0_staysInBounds 15 = .ok (.aload_n 0, 1) := by decide +kernel
theorem dX0_staysInBounds_16 : decode cX0_staysInBounds 16 = .ok (.getfield 18, 3) := by decide +kernel
theorem dX0_staysInBounds_19 : decode cX0_staysInBounds 19 = .ok (.aload_n 1, 1) := by decide +kernel
theorem dX0_staysInBounds_20 : decode cX0_staysInBounds 20 = .ok (.getfield 96, 3) := by decide +kernel
theorem dX0_staysInBounds_23 : decode cX0_staysInBounds 23 = .ok (.iaload, 1) := by decide +kernel
theorem dX0_staysInBounds_24 : decode cX0_staysInBounds 24 = .ok (.aload_n 1, 1) := by decide +kernel
theorem dX0_staysInBounds_25 : decode cX0_staysInBounds 25 = .ok (.getfield 99, 3) := by decide +kernel
theorem dX0_staysInBounds_28 : decode cX0_staysInBounds 28 = .ok (.iadd, 1) := by decide +kernel
theorem dX0_staysInBounds_29 : decode cX0_staysInBounds 29 = .ok (.istore_n 3, 1) := by decide +kernel
theorem dX0_staysInBounds_30 : decode cX0_staysInBounds 30 = .ok (.iload_n 2, 1) := by decide +kernel
theorem dX0_staysInBounds_31 : decode cX0_staysInBounds 31 = .ok (.ifCond .lt 23, 3) := by decide +kernel
theorem dX0_staysInBounds_34 : decode cX0_staysInBounds 34 = .ok (.iload_n 2, 1) := by decide +kernel
theorem dX0_staysInBounds_35 : decode cX0_staysInBounds 35 = .ok (.bipush 99, 2) := by decide +kernel
theorem dX0_staysInBounds_37 : decode cX0_staysInBounds 37 = .ok (.if_icmp .gt 17, 3) := by decide +kernel
theorem dX0_staysInBounds_40 : decode cX0_staysInBounds 40 = .ok (.iload_n 3, 1) := by decide +kernel
theorem dX0_staysInBounds_41 : decode cX0_staysInBounds 41 = .ok (.ifCond .lt 13, 3) := by decide +kernel
theorem dX0_staysInBounds_44 : decode cX0_staysInBounds 44 = .ok (.iload_n 3, 1) := by decide +kernel
theorem dX0_staysInBounds_45 : decode cX0_staysInBounds 45 = .ok (.bipush 99, 2) := by decide +kernel
theorem dX0_staysInBounds_47 : decode cX0_staysInBounds 47 = .ok (.if_icmp .gt 7, 3) := by decide +kernel
theorem dX0_staysInBounds_50 : decode cX0_staysInBounds 50 = .ok (.iconst 1, 1) := by decide +kernel
theorem dX0_staysInBounds_51 : decode cX0_staysInBounds 51 = .ok (.goto 4, 3) := by decide +kernel
theorem dX0_staysInBounds_54 : decode cX0_staysInBounds 54 = .ok (.iconst 0, 1) := by decide +kernel
theorem dX0_staysInBounds_55 : decode cX0_staysInBounds 55 = .ok (.ireturn, 1) := by decide +kernel
theorem dX0_apply_0 : decode cX0_apply 0 = .ok (.aload_n 0, 1) := by decide +kernel
theorem dX0_apply_1 : decode cX0_apply 1 = .ok (.getfield 18, 3) := by decide +kernel
theorem dX0_apply_4 : decode cX0_apply 4 = .ok (.aload_n 1, 1) := by decide +kernel
theorem dX0_apply_5 : decode cX0_apply 5 = .ok (.getfield 91, 3) := by decide +kernel
theorem dX0_apply_8 : decode cX0_apply 8 = .ok (.dup2, 1) := by decide +kernel
theorem dX0_apply_9 : decode cX0_apply 9 = .ok (.iaload, 1) := by decide +kernel
theorem dX0_apply_10 : decode cX0_apply 10 = .ok (.aload_n 1, 1) := by decide +kernel
theorem dX0_apply_11 : decode cX0_apply 11 = .ok (.getfield 93, 3) := by decide +kernel
theorem dX0_apply_14 : decode cX0_apply 14 = .ok (.iadd, 1) := by decide +kernel
theorem dX0_apply_15 : decode cX0_apply 15 = .ok (.iastore, 1) := by decide +kernel
theorem dX0_apply_16 : decode cX0_apply 16 = .ok (.aload_n 0, 1) := by decide +kernel
theorem dX0_apply_17 : decode cX0_apply 17 = .ok (.getfield 18, 3) := by decide +kernel
theorem dX0_apply_20 : decode cX0_apply 20 = .ok (.aload_n 1, 1) := by decide +kernel
theorem dX0_apply_21 : decode cX0_apply 21 = .ok (.getfield 96, 3) := by decide +kernel
theorem dX0_apply_24 : decode cX0_apply 24 = .ok (.dup2, 1) := by decide +kernel
theorem dX0_apply_25 : decode cX0_apply 25 = .ok (.iaload, 1) := by decide +kernel
theorem dX0_apply_26 : decode cX0_apply 26 = .ok (.aload_n 1, 1) := by decide +kernel
theorem dX0_apply_27 : decode cX0_apply 27 = .ok (.getfield 99, 3) := by decide +kernel
theorem dX0_apply_30 : decode cX0_apply 30 = .ok (.iadd, 1) := by decide +kernel
theorem dX0_apply_31 : decode cX0_apply 31 = .ok (.iastore, 1) := by decide +kernel
theorem dX0_apply_32 : decode cX0_apply 32 = .ok (.return_, 1) := by decide +kernel
theorem dX0_writeMove_0 : decode cX0_writeMove 0 = .ok (.aload_n 0, 1) := by decide +kernel
theorem dX0_writeMove_1 : decode cX0_writeMove 1 = .ok (.getfield 36, 3) := by decide +kernel
theorem dX0_writeMove_4 : decode cX0_writeMove 4 = .ok (.bipush 24, 2) := by decide +kernel
theorem dX0_writeMove_6 : decode cX0_writeMove 6 = .ok (.if_icmp .lt 4, 3) := by decide +kernel
theorem dX0_writeMove_9 : decode cX0_writeMove 9 = .ok (.return_, 1) := by decide +kernel
theorem dX0_writeMove_10 : decode cX0_writeMove 10 = .ok (.aload_n 0, 1) := by decide +kernel
theorem dX0_writeMove_11 : decode cX0_writeMove 11 = .ok (.getfield 36, 3) := by decide +kernel
theorem dX0_writeMove_14 : decode cX0_writeMove 14 = .ok (.iconst 5, 1) := by decide +kernel
theorem dX0_writeMove_15 : decode cX0_writeMove 15 = .ok (.imul, 1) := by decide +kernel
theorem dX0_writeMove_16 : decode cX0_writeMove 16 = .ok (.istore 6, 2) := by decide +kernel
theorem dX0_writeMove_18 : decode cX0_writeMove 18 = .ok (.aload_n 0, 1) := by decide +kernel
theorem dX0_writeMove_19 : decode cX0_writeMove 19 = .ok (.getfield 24, 3) := by decide +kernel
theorem dX0_writeMove_22 : decode cX0_writeMove 22 = .ok (.iload 6, 2) := by decide +kernel
theorem dX0_writeMove_24 : decode cX0_writeMove 24 = .ok (.iload_n 1, 1) := by decide +kernel
theorem dX0_writeMove_25 : decode cX0_writeMove 25 = .ok (.iastore, 1) := by decide +kernel
theorem dX0_writeMove_26 : decode cX0_writeMove 26 = .ok (.aload_n 0, 1) := by decide +kernel
theorem dX0_writeMove_27 : decode cX0_writeMove 27 = .ok (.getfield 24, 3) := by decide +kernel
theorem dX0_writeMove_30 : decode cX0_writeMove 30 = .ok (.iload 6, 2) := by decide +kernel
theorem dX0_writeMove_32 : decode cX0_writeMove 32 = .ok (.iconst 1, 1) := by decide +kernel
theorem dX0_writeMove_33 : decode cX0_writeMove 33 = .ok (.iadd, 1) := by decide +kernel
theorem dX0_writeMove_34 : decode cX0_writeMove 34 = .ok (.iload_n 2, 1) := by decide +kernel
theorem dX0_writeMove_35 : decode cX0_writeMove 35 = .ok (.iastore, 1) := by decide +kernel
theorem dX0_writeMove_36 : decode cX0_writeMove 36 = .ok (.aload_n 0, 1) := by decide +kernel
theorem dX0_writeMove_37 : decode cX0_writeMove 37 = .ok (.getfield 24, 3) := by decide +kernel
theorem dX0_writeMove_40 : decode cX0_writeMove 40 = .ok (.iload 6, 2) := by decide +kernel
theorem dX0_writeMove_42 : decode cX0_writeMove 42 = .ok (.iconst 2, 1) := by decide +kernel
theorem dX0_writeMove_43 : decode cX0_writeMove 43 = .ok (.iadd, 1) := by decide +kernel
theorem dX0_writeMove_44 : decode cX0_writeMove 44 = .ok (.iload 4, 2) := by decide +kernel
theorem dX0_writeMove_46 : decode cX0_writeMove 46 = .ok (.iastore, 1) := by decide +kernel
theorem dX0_writeMove_47 : decode cX0_writeMove 47 = .ok (.aload_n 0, 1) := by decide +kernel
theorem dX0_writeMove_48 : decode cX0_writeMove 48 = .ok (.getfield 24, 3) := by decide +kernel
theorem dX0_writeMove_51 : decode cX0_writeMove 51 = .ok (.iload 6, 2) := by decide +kernel
theorem dX0_writeMove_53 : decode cX0_writeMove 53 = .ok (.iconst 3, 1) := by decide +kernel
theorem dX0_writeMove_54 : decode cX0_writeMove 54 = .ok (.iadd, 1) := by decide +kernel
theorem dX0_writeMove_55 : decode cX0_writeMove 55 = .ok (.iload_n 1, 1) := by decide +kernel
theorem dX0_writeMove_56 : decode cX0_writeMove 56 = .ok (.iconst 2, 1) := by decide +kernel
theorem dX0_writeMove_57 : decode cX0_writeMove 57 = .ok (.if_icmp .eq 8, 3) := by decide +kernel
theorem dX0_writeMove_60 : decode cX0_writeMove 60 = .ok (.iload_n 1, 1) := by decide +kernel
theorem dX0_writeMove_61 : decode cX0_writeMove 61 = .ok (.iconst 3, 1) := by decide +kernel
theorem dX0_writeMove_62 : decode cX0_writeMove 62 = .ok (.if_icmp .ne 7, 3) := by decide +kernel
theorem dX0_writeMove_65 : decode cX0_writeMove 65 = .ok (.iconst 0, 1) := by decide +kernel
theorem dX0_writeMove_66 : decode cX0_writeMove 66 = .ok (.goto 5, 3) := by decide +kernel
theorem dX0_writeMove_69 : decode cX0_writeMove 69 = .ok (.iload 5, 2) := by decide +kernel
theorem dX0_writeMove_71 : decode cX0_writeMove 71 = .ok (.iastore, 1) := by decide +kernel
theorem dX0_writeMove_72 : decode cX0_writeMove 72 = .ok (.aload_n 0, 1) := by decide +kernel
theorem dX0_writeMove_73 : decode cX0_writeMove 73 = .ok (.getfield 24, 3) := by decide +kernel
theorem dX0_writeMove_76 : decode cX0_writeMove 76 = .ok (.iload 6, 2) := by decide +kernel
theorem dX0_writeMove_78 : decode cX0_writeMove 78 = .ok (.iconst 4, 1) := by decide +kernel
theorem dX0_writeMove_79 : decode cX0_writeMove 79 = .ok (.iadd, 1) := by decide +kernel
theorem dX0_writeMove_80 : decode cX0_writeMove 80 = .ok (.iload_n 1, 1) := by decide +kernel
theorem dX0_writeMove_81 : decode cX0_writeMove 81 = .ok (.iconst 4, 1) := by decide +kernel
theorem dX0_writeMove_82 : decode cX0_writeMove 82 = .ok (.if_icmp .ne 7, 3) := by decide +kernel
theorem dX0_writeMove_85 : decode cX0_writeMove 85 = .ok (.iload_n 3, 1) := by decide +kernel
theorem dX0_writeMove_86 : decode cX0_writeMove 86 = .ok (.goto 4, 3) := by decide +kernel
theorem dX0_writeMove_89 : decode cX0_writeMove 89 = .ok (.iconst 0, 1) := by decide +kernel
theorem dX0_writeMove_90 : decode cX0_writeMove 90 = .ok (.iastore, 1) := by decide +kernel
theorem dX0_writeMove_91 : decode cX0_writeMove 91 = .ok (.aload_n 0, 1) := by decide +kernel
theorem dX0_writeMove_92 : decode cX0_writeMove 92 = .ok (.dup, 1) := by decide +kernel
theorem dX0_writeMove_93 : decode cX0_writeMove 93 = .ok (.getfield 36, 3) := by decide +kernel
theorem dX0_writeMove_96 : decode cX0_writeMove 96 = .ok (.iconst 1, 1) := by decide +kernel
theorem dX0_writeMove_97 : decode cX0_writeMove 97 = .ok (.iadd, 1) := by decide +kernel
theorem dX0_writeMove_98 : decode cX0_writeMove 98 = .ok (.putfield 36, 3) := by decide +kernel
theorem dX0_writeMove_101 : decode cX0_writeMove 101 = .ok (.return_, 1) := by decide +kernel
theorem dX0_addSight_0 : decode cX0_addSight 0 = .ok (.aload_n 0, 1) := by decide +kernel
theorem dX0_addSight_1 : decode cX0_addSight 1 = .ok (.getfield 40, 3) := by decide +kernel
theorem dX0_addSight_4 : decode cX0_addSight 4 = .ok (.bipush 12, 2) := by decide +kernel
theorem dX0_addSight_6 : decode cX0_addSight 6 = .ok (.if_icmp .lt 4, 3) := by decide +kernel
theorem dX0_addSight_9 : decode cX0_addSight 9 = .ok (.return_, 1) := by decide +kernel
theorem dX0_addSight_10 : decode cX0_addSight 10 = .ok (.aload_n 0, 1) := by decide +kernel
theorem dX0_addSight_11 : decode cX0_addSight 11 = .ok (.getfield 40, 3) := by decide +kernel
theorem dX0_addSight_14 : decode cX0_addSight 14 = .ok (.iconst 4, 1) := by decide +kernel
theorem dX0_addSight_15 : decode cX0_addSight 15 = .ok (.imul, 1) := by decide +kernel
theorem dX0_addSight_16 : decode cX0_addSight 16 = .ok (.istore 5, 2) := by decide +kernel
theorem dX0_addSight_18 : decode cX0_addSight 18 = .ok (.aload_n 0, 1) := by decide +kernel
theorem dX0_addSight_19 : decode cX0_addSight 19 = .ok (.getfield 27, 3) := by decide +kernel
theorem dX0_addSight_22 : decode cX0_addSight 22 = .ok (.iload 5, 2) := by decide +kernel
theorem dX0_addSight_24 : decode cX0_addSight 24 = .ok (.iload_n 1, 1) := by decide +kernel
theorem dX0_addSight_25 : decode cX0_addSight 25 = .ok (.iastore, 1) := by decide +kernel
theorem dX0_addSight_26 : decode cX0_addSight 26 = .ok (.aload_n 0, 1) := by decide +kernel
theorem dX0_addSight_27 : decode cX0_addSight 27 = .ok (.getfield 27, 3) := by decide +kernel
theorem dX0_addSight_30 : decode cX0_addSight 30 = .ok (.iload 5, 2) := by decide +kernel
theorem dX0_addSight_32 : decode cX0_addSight 32 = .ok (.iconst 1, 1) := by decide +kernel
theorem dX0_addSight_33 : decode cX0_addSight 33 = .ok (.iadd, 1) := by decide +kernel
theorem dX0_addSight_34 : decode cX0_addSight 34 = .ok (.iload_n 2, 1) := by decide +kernel
theorem dX0_addSight_35 : decode cX0_addSight 35 = .ok (.iastore, 1) := by decide +kernel
theorem dX0_addSight_36 : decode cX0_addSight 36 = .ok (.aload_n 0, 1) := by decide +kernel
theorem dX0_addSight_37 : decode cX0_addSight 37 = .ok (.getfield 27, 3) := by decide +kernel
theorem dX0_addSight_40 : decode cX0_addSight 40 = .ok (.iload 5, 2) := by decide +kernel
theorem dX0_addSight_42 : decode cX0_addSight 42 = .ok (.iconst 2, 1) := by decide +kernel
theorem dX0_addSight_43 : decode cX0_addSight 43 = .ok (.iadd, 1) := by decide +kernel
theorem dX0_addSight_44 : decode cX0_addSight 44 = .ok (.iload_n 3, 1) := by decide +kernel
theorem dX0_addSight_45 : decode cX0_addSight 45 = .ok (.iastore, 1) := by decide +kernel
theorem dX0_addSight_46 : decode cX0_addSight 46 = .ok (.aload_n 0, 1) := by decide +kernel
theorem dX0_addSight_47 : decode cX0_addSight 47 = .ok (.getfield 27, 3) := by decide +kernel
theorem dX0_addSight_50 : decode cX0_addSight 50 = .ok (.iload 5, 2) := by decide +kernel
theorem dX0_addSight_52 : decode cX0_addSight 52 = .ok (.iconst 3, 1) := by decide +kernel
theorem dX0_addSight_53 : decode cX0_addSight 53 = .ok (.iadd, 1) := by decide +kernel
theorem dX0_addSight_54 : decode cX0_addSight 54 = .ok (.iload 4, 2) := by decide +kernel
theorem dX0_addSight_56 : decode cX0_addSight 56 = .ok (.iastore, 1) := by decide +kernel
theorem dX0_addSight_57 : decode cX0_addSight 57 = .ok (.aload_n 0, 1) := by decide +kernel
theorem dX0_addSight_58 : decode cX0_addSight 58 = .ok (.dup, 1) := by decide +kernel
theorem dX0_addSight_59 : decode cX0_addSight 59 = .ok (.getfield 40, 3) := by decide +kernel
theorem dX0_addSight_62 : decode cX0_addSight 62 = .ok (.iconst 1, 1) := by decide +kernel
theorem dX0_addSight_63 : decode cX0_addSight 63 = .ok (.iadd, 1) := by decide +kernel
theorem dX0_addSight_64 : decode cX0_addSight 64 = .ok (.putfield 40, 3) := by decide +kernel
theorem dX0_addSight_67 : decode cX0_addSight 67 = .ok (.return_, 1) := by decide +kernel
theorem dX0_dropSight_0 : decode cX0_dropSight 0 = .ok (.aload_n 0, 1) := by decide +kernel
theorem dX0_dropSight_1 : decode cX0_dropSight 1 = .ok (.getfield 40, 3) := by decide +kernel
theorem dX0_dropSight_4 : decode cX0_dropSight 4 = .ok (.iconst 1, 1) := by decide +kernel
theorem dX0_dropSight_5 : decode cX0_dropSight 5 = .ok (.isub, 1) := by decide +kernel
theorem dX0_dropSight_6 : decode cX0_dropSight 6 = .ok (.iload_n 1, 1) := by decide +kernel
theorem dX0_dropSight_7 : decode cX0_dropSight 7 = .ok (.isub, 1) := by decide +kernel
theorem dX0_dropSight_8 : decode cX0_dropSight 8 = .ok (.iconst 4, 1) := by decide +kernel
theorem dX0_dropSight_9 : decode cX0_dropSight 9 = .ok (.imul, 1) := by decide +kernel
theorem dX0_dropSight_10 : decode cX0_dropSight 10 = .ok (.istore_n 2, 1) := by decide +kernel
theorem dX0_dropSight_11 : decode cX0_dropSight 11 = .ok (.aload_n 0, 1) := by decide +kernel
theorem dX0_dropSight_12 : decode cX0_dropSight 12 = .ok (.getfield 27, 3) := by decide +kernel
theorem dX0_dropSight_15 : decode cX0_dropSight 15 = .ok (.iload_n 1, 1) := by decide +kernel
theorem dX0_dropSight_16 : decode cX0_dropSight 16 = .ok (.iconst 1, 1) := by decide +kernel
theorem dX0_dropSight_17 : decode cX0_dropSight 17 = .ok (.iadd, 1) := by decide +kernel
theorem dX0_dropSight_18 : decode cX0_dropSight 18 = .ok (.iconst 4, 1) := by decide +kernel
theorem dX0_dropSight_19 : decode cX0_dropSight 19 = .ok (.imul, 1) := by decide +kernel
theorem dX0_dropSight_20 : decode cX0_dropSight 20 = .ok (.aload_n 0, 1) := by decide +kernel
theorem dX0_dropSight_21 : decode cX0_dropSight 21 = .ok (.getfield 27, 3) := by decide +kernel
theorem dX0_dropSight_24 : decode cX0_dropSight 24 = .ok (.iload_n 1, 1) := by decide +kernel
theorem dX0_dropSight_25 : decode cX0_dropSight 25 = .ok (.iconst 4, 1) := by decide +kernel
theorem dX0_dropSight_26 : decode cX0_dropSight 26 = .ok (.imul, 1) := by decide +kernel
theorem dX0_dropSight_27 : decode cX0_dropSight 27 = .ok (.iload_n 2, 1) := by decide +kernel
theorem dX0_dropSight_28 : decode cX0_dropSight 28 = .ok (.invokestatic 30, 3) := by decide +kernel
theorem dX0_dropSight_31 : decode cX0_dropSight 31 = .ok (.aload_n 0, 1) := by decide +kernel
theorem dX0_dropSight_32 : decode cX0_dropSight 32 = .ok (.dup, 1) := by decide +kernel
theorem dX0_dropSight_33 : decode cX0_dropSight 33 = .ok (.getfield 40, 3) := by decide +kernel
theorem dX0_dropSight_36 : decode cX0_dropSight 36 = .ok (.iconst 1, 1) := by decide +kernel
theorem dX0_dropSight_37 : decode cX0_dropSight 37 = .ok (.isub, 1) := by decide +kernel
theorem dX0_dropSight_38 : decode cX0_dropSight 38 = .ok (.putfield 40, 3) := by decide +kernel
theorem dX0_dropSight_41 : decode cX0_dropSight 41 = .ok (.return_, 1) := by decide +kernel
theorem dX0_dropSightsBehind_0 : decode cX0_dropSightsBehind 0 = .ok (.aload_n 0, 1) := by decide +kernel
theorem dX0_dropSightsBehind_1 : decode cX0_dropSightsBehind 1 = .ok (.getfield 40, 3) := by decide +kernel
theorem dX0_dropSightsBehind_4 : decode cX0_dropSightsBehind 4 = .ok (.iconst 1, 1) := by decide +kernel
theorem dX0_dropSightsBehind_5 : decode cX0_dropSightsBehind 5 = .ok (.isub, 1) := by decide +kernel
theorem dX0_dropSightsBehind_6 : decode cX0_dropSightsBehind 6 = .ok (.istore_n 2, 1) := by decide +kernel
theorem dX0_dropSightsBehind_7 : decode cX0_dropSightsBehind 7 = .ok (.iload_n 2, 1) := by decide +kernel
theorem dX0_dropSightsBehind_8 : decode cX0_dropSightsBehind 8 = .ok (.ifCond .lt 26, 3) := by decide +kernel
theorem dX0_dropSightsBehind_11 : decode cX0_dropSightsBehind 11 = .ok (.aload_n 0, 1) := by decide +kernel
theorem dX0_dropSightsBehind_12 : decode cX0_dropSightsBehind 12 = .ok (.getfield 27, 3) := by decide +kernel
theorem dX0_dropSightsBehind_15 : decode cX0_dropSightsBehind 15 = .ok (.iload_n 2, 1) := by decide +kernel
theorem dX0_dropSightsBehind_16 : decode cX0_dropSightsBehind 16 = .ok (.iconst 4, 1) := by decide +kernel
theorem dX0_dropSightsBehind_17 : decode cX0_dropSightsBehind 17 = .ok (.imul, 1) := by decide +kernel
theorem dX0_dropSightsBehind_18 : decode cX0_dropSightsBehind 18 = .ok (.iaload, 1) := by decide +kernel
theorem dX0_dropSightsBehind_19 : decode cX0_dropSightsBehind 19 = .ok (.iload_n 1, 1) := by decide +kernel
theorem dX0_dropSightsBehind_20 : decode cX0_dropSightsBehind 20 = .ok (.if_icmp .le 8, 3) := by decide +kernel
theorem dX0_dropSightsBehind_23 : decode cX0_dropSightsBehind 23 = .ok (.aload_n 0, 1) := by decide +kernel
theorem dX0_dropSightsBehind_24 : decode cX0_dropSightsBehind 24 = .ok (.iload_n 2, 1) := by decide +kernel
theorem dX0_dropSightsBehind_25 : decode cX0_dropSightsBehind 25 = .ok (.invokevirtual 102, 3) := by decide +kernel
theorem dX0_dropSightsBehind_28 : decode cX0_dropSightsBehind 28 = .ok (.iinc 2 (-1), 3) := by decide +kernel
theorem dX0_dropSightsBehind_31 : decode cX0_dropSightsBehind 31 = .ok (.goto (-24), 3) := by decide +kernel
theorem dX0_dropSightsBehind_34 : decode cX0_dropSightsBehind 34 = .ok (.return_, 1) := by decide +kernel
theorem dX1_init_0 : decode cX1_init 0 = .ok (.aload_n 0, 1) := by decide +kernel
theorem dX1_init_1 : decode cX1_init 1 = .ok (.invokespecial 1, 3) := by decide +kernel
theorem dX1_init_4 : decode cX1_init 4 = .ok (.return_, 1) := by decide +kernel
theorem dX1_tell_0 : decode cX1_tell 0 = .ok (.aload_n 0, 1) := by decide +kernel
theorem dX1_tell_1 : decode cX1_tell 1 = .ok (.iload_n 1, 1) := by decide +kernel
theorem dX1_tell_2 : decode cX1_tell 2 = .ok (.putfield 7, 3) := by decide +kernel
theorem dX1_tell_5 : decode cX1_tell 5 = .ok (.aload_n 0, 1) := by decide +kernel
theorem dX1_tell_6 : decode cX1_tell 6 = .ok (.iload_n 2, 1) := by decide +kernel
theorem dX1_tell_7 : decode cX1_tell 7 = .ok (.putfield 13, 3) := by decide +kernel
theorem dX1_tell_10 : decode cX1_tell 10 = .ok (.aload_n 0, 1) := by decide +kernel
theorem dX1_tell_11 : decode cX1_tell 11 = .ok (.iload_n 3, 1) := by decide +kernel
theorem dX1_tell_12 : decode cX1_tell 12 = .ok (.putfield 16, 3) := by decide +kernel
theorem dX1_tell_15 : decode cX1_tell 15 = .ok (.aload_n 0, 1) := by decide +kernel
theorem dX1_tell_16 : decode cX1_tell 16 = .ok (.iload 4, 2) := by decide +kernel
theorem dX1_tell_18 : decode cX1_tell 18 = .ok (.putfield 19, 3) := by decide +kernel
theorem dX1_tell_21 : decode cX1_tell 21 = .ok (.return_, 1) := by decide +kernel
theorem dX1_tellSlide_0 : decode cX1_tellSlide 0 = .ok (.aload_n 0, 1) := by decide +kernel
theorem dX1_tellSlide_1 : decode cX1_tellSlide 1 = .ok (.iload_n 1, 1) := by decide +kernel
theorem dX1_tellSlide_2 : decode cX1_tellSlide 2 = .ok (.iconst (-1), 1) := by decide +kernel
theorem dX1_tellSlide_3 : decode cX1_tellSlide 3 = .ok (.iload_n 2, 1) := by decide +kernel
theorem dX1_tellSlide_4 : decode cX1_tellSlide 4 = .ok (.ifCond .eq 9, 3) := by decide +kernel
theorem dX1_tellSlide_7 : decode cX1_tellSlide 7 = .ok (.iload_n 1, 1) := by decide +kernel
theorem dX1_tellSlide_8 : decode cX1_tellSlide 8 = .ok (.iconst 1, 1) := by decide +kernel
theorem dX1_tellSlide_9 : decode cX1_tellSlide 9 = .ok (.iadd, 1) := by decide +kernel
theorem dX1_tellSlide_10 : decode cX1_tellSlide 10 = .ok (.goto 6, 3) := by decide +kernel
theorem dX1_tellSlide_13 : decode cX1_tellSlide 13 = .ok (.iload_n 1, 1) := by decide +kernel
theorem dX1_tellSlide_14 : decode cX1_tellSlide 14 = .ok (.iconst 1, 1) := by decide +kernel
theorem dX1_tellSlide_15 : decode cX1_tellSlide 15 = .ok (.isub, 1) := by decide +kernel
theorem dX1_tellSlide_16 : decode cX1_tellSlide 16 = .ok (.iconst 1, 1) := by decide +kernel
theorem dX1_tellSlide_17 : decode cX1_tellSlide 17 = .ok (.invokevirtual 22, 3) := by decide +kernel
theorem dX1_tellSlide_20 : decode cX1_tellSlide 20 = .ok (.return_, 1) := by decide +kernel
theorem dX1_reverse_0 : decode cX1_reverse 0 = .ok (.aload_n 0, 1) := by decide +kernel
theorem dX1_reverse_1 : decode cX1_reverse 1 = .ok (.aload_n 0, 1) := by decide +kernel
theorem dX1_reverse_2 : decode cX1_reverse 2 = .ok (.getfield 13, 3) := by decide +kernel
theorem dX1_reverse_5 : decode cX1_reverse 5 = .ok (.ineg, 1) := by decide +kernel
theorem dX1_reverse_6 : decode cX1_reverse 6 = .ok (.putfield 13, 3) := by decide +kernel
theorem dX1_reverse_9 : decode cX1_reverse 9 = .ok (.aload_n 0, 1) := by decide +kernel
theorem dX1_reverse_10 : decode cX1_reverse 10 = .ok (.aload_n 0, 1) := by decide +kernel
theorem dX1_reverse_11 : decode cX1_reverse 11 = .ok (.getfield 19, 3) := by decide +kernel
theorem dX1_reverse_14 : decode cX1_reverse 14 = .ok (.ineg, 1) := by decide +kernel
theorem dX1_reverse_15 : decode cX1_reverse 15 = .ok (.putfield 19, 3) := by decide +kernel
theorem dX1_reverse_18 : decode cX1_reverse 18 = .ok (.return_, 1) := by decide +kernel
theorem dX1_changeOf_0 : decode cX1_changeOf 0 = .ok (.iload_n 1, 1) := by decide +kernel
theorem dX1_changeOf_1 : decode cX1_changeOf 1 = .ok (.aload_n 0, 1) := by decide +kernel
theorem dX1_changeOf_2 : decode cX1_changeOf 2 = .ok (.getfield 7, 3) := by decide +kernel
theorem dX1_changeOf_5 : decode cX1_changeOf 5 = .ok (.if_icmp .ne 10, 3) := by decide +kernel
theorem dX1_changeOf_8 : decode cX1_changeOf 8 = .ok (.aload_n 0, 1) := by decide +kernel
theorem dX1_changeOf_9 : decode cX1_changeOf 9 = .ok (.getfield 13, 3) := by decide +kernel
theorem dX1_changeOf_12 : decode cX1_changeOf 12 = .ok (.goto 4, 3) := by decide +kernel
theorem dX1_changeOf_15 : decode cX1_changeOf 15 = .ok (.iconst 0, 1) := by decide +kernel
theorem dX1_changeOf_16 : decode cX1_changeOf 16 = .ok (.iload_n 1, 1) := by decide +kernel
theorem dX1_changeOf_17 : decode cX1_changeOf 17 = .ok (.aload_n 0, 1) := by decide +kernel
theorem dX1_changeOf_18 : decode cX1_changeOf 18 = .ok (.getfield 16, 3) := by decide +kernel
theorem dX1_changeOf_21 : decode cX1_changeOf 21 = .ok (.if_icmp .ne 10, 3) := by decide +kernel
theorem dX1_changeOf_24 : decode cX1_changeOf 24 = .ok (.aload_n 0, 1) := by decide +kernel
theorem dX1_changeOf_25 : decode cX1_changeOf 25 = .ok (.getfield 19, 3) := by decide +kernel
theorem dX1_changeOf_28 : decode cX1_changeOf 28 = .ok (.goto 4, 3) := by decide +kernel
theorem dX1_changeOf_31 : decode cX1_changeOf 31 = .ok (.iconst 0, 1) := by decide +kernel
theorem dX1_changeOf_32 : decode cX1_changeOf 32 = .ok (.iadd, 1) := by decide +kernel
theorem dX1_changeOf_33 : decode cX1_changeOf 33 = .ok (.ireturn, 1) := by decide +kernel
theorem dX2_init_0 : decode cX2_init 0 = .ok (.aload_n 0, 1) := by decide +kernel
theorem dX2_init_1 : decode cX2_init 1 = .ok (.invokespecial 5, 3) := by decide +kernel
theorem dX2_init_4 : decode cX2_init 4 = .ok (.aload_n 0, 1) := by decide +kernel
theorem dX2_init_5 : decode cX2_init 5 = .ok (.sipush 600, 3) := by decide +kernel
theorem dX2_init_8 : decode cX2_init 8 = .ok (.newarray .int, 2) := by decide +kernel
theorem dX2_init_10 : decode cX2_init 10 = .ok (.putfield 11, 3) := by decide +kernel
theorem dX2_init_13 : decode cX2_init 13 = .ok (.aload_n 0, 1) := by decide +kernel
theorem dX2_init_14 : decode cX2_init 14 = .ok (.sipush 600, 3) := by decide +kernel
theorem dX2_init_17 : decode cX2_init 17 = .ok (.newarray .int, 2) := by decide +kernel
theorem dX2_init_19 : decode cX2_init 19 = .ok (.putfield 15, 3) := by decide +kernel
theorem dX2_init_22 : decode cX2_init 22 = .ok (.aload_n 0, 1) := by decide +kernel
theorem dX2_init_23 : decode cX2_init 23 = .ok (.sipush 600, 3) := by decide +kernel
theorem dX2_init_26 : decode cX2_init 26 = .ok (.newarray .int, 2) := by decide +kernel
theorem dX2_init_28 : decode cX2_init 28 = .ok (.putfield 18, 3) := by decide +kernel
theorem dX2_init_31 : decode cX2_init 31 = .ok (.aload_n 0, 1) := by decide +kernel
theorem dX2_init_32 : decode cX2_init 32 = .ok (.bipush 25, 2) := by decide +kernel
theorem dX2_init_34 : decode cX2_init 34 = .ok (.newarray .int, 2) := by decide +kernel
theorem dX2_init_36 : decode cX2_init 36 = .ok (.putfield 21, 3) := by decide +kernel
theorem dX2_init_39 : decode cX2_init 39 = .ok (.aload_n 0, 1) := by decide +kernel
theorem dX2_init_40 : decode cX2_init 40 = .ok (.bipush 12, 2) := by decide +kernel
theorem dX2_init_42 : decode cX2_init 42 = .ok (.newarray .int, 2) := by decide +kernel
theorem dX2_init_44 : decode cX2_init 44 = .ok (.putfield 24, 3) := by decide +kernel
theorem dX2_init_47 : decode cX2_init 47 = .ok (.aload_n 0, 1) := by decide +kernel
theorem dX2_init_48 : decode cX2_init 48 = .ok (.sipush 1000, 3) := by decide +kernel
theorem dX2_init_51 : decode cX2_init 51 = .ok (.newarray .int, 2) := by decide +kernel
theorem dX2_init_53 : decode cX2_init 53 = .ok (.putfield 27, 3) := by decide +kernel
theorem dX2_init_56 : decode cX2_init 56 = .ok (.aload_n 0, 1) := by decide +kernel
theorem dX2_init_57 : decode cX2_init 57 = .ok (.bipush 24, 2) := by decide +kernel
theorem dX2_init_59 : decode cX2_init 59 = .ok (.newarray .int, 2) := by decide +kernel
theorem dX2_init_61 : decode cX2_init 61 = .ok (.putfield 30, 3) := by decide +kernel
theorem dX2_init_64 : decode cX2_init 64 = .ok (.aload_n 0, 1) := by decide +kernel
theorem dX2_init_65 : decode cX2_init 65 = .ok (.bipush 24, 2) := by decide +kernel
theorem dX2_init_67 : decode cX2_init 67 = .ok (.newarray .int, 2) := by decide +kernel
theorem dX2_init_69 : decode cX2_init 69 = .ok (.putfield 33, 3) := by decide +kernel
theorem dX2_init_72 : decode cX2_init 72 = .ok (.aload_n 0, 1) := by decide +kernel
theorem dX2_init_73 : decode cX2_init 73 = .ok (.iconst 4, 1) := by decide +kernel
theorem dX2_init_74 : decode cX2_init 74 = .ok (.newarray .int, 2) := by decide +kernel
theorem dX2_init_76 : decode cX2_init 76 = .ok (.putfield 36, 3) := by decide +kernel
theorem dX2_init_79 : decode cX2_init 79 = .ok (.aload_n 0, 1) := by decide +kernel
theorem dX2_init_80 : decode cX2_init 80 = .ok (.new 39, 3) := by decide +kernel
theorem dX2_init_83 : decode cX2_init 83 = .ok (.dup, 1) := by decide +kernel
theorem dX2_init_84 : decode cX2_init 84 = .ok (.invokespecial 41, 3) := by decide +kernel
theorem dX2_init_87 : decode cX2_init 87 = .ok (.putfield 42, 3) := by decide +kernel
theorem dX2_init_90 : decode cX2_init 90 = .ok (.return_, 1) := by decide +kernel
theorem dX2_layOut_0 : decode cX2_layOut 0 = .ok (.aload_n 0, 1) := by decide +kernel
theorem dX2_layOut_1 : decode cX2_layOut 1 = .ok (.getfield 46, 3) := by decide +kernel
theorem dX2_layOut_4 : decode cX2_layOut 4 = .ok (.ifCond .eq 4, 3) := by decide +kernel
theorem dX2_layOut_7 : decode cX2_layOut 7 = .ok (.return_, 1) := by decide +kernel
theorem dX2_layOut_8 : decode cX2_layOut 8 = .ok (.aload_n 0, 1) := by decide +kernel
theorem dX2_layOut_9 : decode cX2_layOut 9 = .ok (.iconst 1, 1) := by decide +kernel
theorem dX2_layOut_10 : decode cX2_layOut 10 = .ok (.putfield 46, 3) := by decide +kernel
theorem dX2_layOut_13 : decode cX2_layOut 13 = .ok (.aload_n 1, 1) := by decide +kernel
theorem dX2_layOut_14 : decode cX2_layOut 14 = .ok (.getfield 50, 3) := by decide +kernel
theorem dX2_layOut_17 : decode cX2_layOut 17 = .ok (.iconst 0, 1) := by decide +kernel
theorem dX2_layOut_18 : decode cX2_layOut 18 = .ok (.aload_n 0, 1) := by decide +kernel
theorem dX2_layOut_19 : decode cX2_layOut 19 = .ok (.getfield 11, 3) := by decide +kernel
theorem dX2_layOut_22 : decode cX2_layOut 22 = .ok (.iconst 0, 1) := by decide +kernel
theorem dX2_layOut_23 : decode cX2_layOut 23 = .ok (.bipush 24, 2) := by decide +kernel
theorem dX2_layOut_25 : decode cX2_layOut 25 = .ok (.invokestatic 55, 3) := by decide +kernel
theorem dX2_layOut_28 : decode cX2_layOut 28 = .ok (.iconst 1, 1) := by decide +kernel
theorem dX2_layOut_29 : decode cX2_layOut 29 = .ok (.istore_n 2, 1) := by decide +kernel
theorem dX2_layOut_30 : decode cX2_layOut 30 = .ok (.iload_n 2, 1) := by decide +kernel
theorem dX2_layOut_31 : decode cX2_layOut 31 = .ok (.aload_n 1, 1) := by decide +kernel
theorem dX2_layOut_32 : decode cX2_layOut 32 = .ok (.getfield 61, 3) := by decide +kernel
theorem dX2_layOut_35 : decode cX2_layOut 35 = .ok (.if_icmp .gt 100, 3) := by decide +kernel
theorem dX2_layOut_38 : decode cX2_layOut 38 = .ok (.aload_n 0, 1) := by decide +kernel
theorem dX2_layOut_39 : decode cX2_layOut 39 = .ok (.getfield 11, 3) := by decide +kernel
theorem dX2_layOut_42 : decode cX2_layOut 42 = .ok (.iload_n 2, 1) := by decide +kernel
theorem dX2_layOut_43 : decode cX2_layOut 43 = .ok (.iconst 1, 1) := by decide +kernel
theorem dX2_layOut_44 : decode cX2_layOut 44 = .ok (.isub, 1) := by decide +kernel
theorem dX2_layOut_45 : decode cX2_layOut 45 = .ok (.bipush 24, 2) := by decide +kernel
theorem dX2_layOut_47 : decode cX2_layOut 47 = .ok (.imul, 1) := by decide +kernel
theorem dX2_layOut_48 : decode cX2_layOut 48 = .ok (.aload_n 0, 1) := by decide +kernel
theorem dX2_layOut_49 : decode cX2_layOut 49 = .ok (.getfield 11, 3) := by decide +kernel
theorem dX2_layOut_52 : decode cX2_layOut 52 = .ok (.iload_n 2, 1) := by decide +kernel
theorem dX2_layOut_53 : decode cX2_layOut 53 = .ok (.bipush 24, 2) := by decide +kernel
theorem dX2_layOut_55 : decode cX2_layOut 55 = .ok (.imul, 1) := by decide +kernel
theorem dX2_layOut_56 : decode cX2_layOut 56 = .ok (.bipush 24, 2) := by decide +kernel
theorem dX2_layOut_58 : decode cX2_layOut 58 = .ok (.invokestatic 55, 3) := by decide +kernel
theorem dX2_layOut_61 : decode cX2_layOut 61 = .ok (.aload_n 1, 1) := by decide +kernel
theorem dX2_layOut_62 : decode cX2_layOut 62 = .ok (.aload_n 0, 1) := by decide +kernel
theorem dX2_layOut_63 : decode cX2_layOut 63 = .ok (.getfield 42, 3) := by decide +kernel
theorem dX2_layOut_66 : decode cX2_layOut 66 = .ok (.iload_n 2, 1) := by decide +kernel
theorem dX2_layOut_67 : decode cX2_layOut 67 = .ok (.iconst 1, 1) := by decide +kernel
theorem dX2_layOut_68 : decode cX2_layOut 68 = .ok (.isub, 1) := by decide +kernel
theorem dX2_layOut_69 : decode cX2_layOut 69 = .ok (.invokevirtual 65, 3) := by decide +kernel
theorem dX2_layOut_72 : decode cX2_layOut 72 = .ok (.ifCond .eq 57, 3) := by decide +kernel
theorem dX2_layOut_75 : decode cX2_layOut 75 = .ok (.aload_n 0, 1) := by decide +kernel
theorem dX2_layOut_76 : decode cX2_layOut 76 = .ok (.getfield 11, 3) := by decide +kernel
theorem dX2_layOut_79 : decode cX2_layOut 79 = .ok (.iload_n 2, 1) := by decide +kernel
theorem dX2_layOut_80 : decode cX2_layOut 80 = .ok (.bipush 24, 2) := by decide +kernel
theorem dX2_layOut_82 : decode cX2_layOut 82 = .ok (.imul, 1) := by decide +kernel
theorem dX2_layOut_83 : decode cX2_layOut 83 = .ok (.aload_n 0, 1) := by decide +kernel
theorem dX2_layOut_84 : decode cX2_layOut 84 = .ok (.getfield 42, 3) := by decide +kernel
theorem dX2_layOut_87 : decode cX2_layOut 87 = .ok (.getfield 69, 3) := by decide +kernel
theorem dX2_layOut_90 : decode cX2_layOut 90 = .ok (.iadd, 1) := by decide +kernel
theorem dX2_layOut_91 : decode cX2_layOut 91 = .ok (.dup2, 1) := by decide +kernel
theorem dX2_layOut_92 : decode cX2_layOut 92 = .ok (.iaload, 1) := by decide +kernel
theorem dX2_layOut_93 : decode cX2_layOut 93 = .ok (.aload_n 0, 1) := by decide +kernel
theorem dX2_layOut_94 : decode cX2_layOut 94 = .ok (.getfield 42, 3) := by decide +kernel
theorem dX2_layOut_97 : decode cX2_layOut 97 = .ok (.getfield 72, 3) := by decide +kernel
theorem dX2_layOut_100 : decode cX2_layOut 100 = .ok (.iadd, 1) := by decide +kernel
theorem dX2_layOut_101 : decode cX2_layOut 101 = .ok (.iastore, 1) := by decide +kernel
theorem dX2_layOut_102 : decode cX2_layOut 102 = .ok (.aload_n 0, 1) := by decide +kernel
theorem dX2_layOut_103 : decode cX2_layOut 103 = .ok (.getfield 11, 3) := by decide +kernel
theorem dX2_layOut_106 : decode cX2_layOut 106 = .ok (.iload_n 2, 1) := by decide +kernel
theorem dX2_layOut_107 : decode cX2_layOut 107 = .ok (.bipush 24, 2) := by decide +kernel
theorem dX2_layOut_109 : decode cX2_layOut 109 = .ok (.imul, 1) := by decide +kernel
theorem dX2_layOut_110 : decode cX2_layOut 110 = .ok (.aload_n 0, 1) := by decide +kernel
theorem dX2_layOut_111 : decode cX2_layOut 111 = .ok (.getfield 42, 3) := by decide +kernel
theorem dX2_layOut_114 : decode cX2_layOut 114 = .ok (.getfield 75, 3) := by decide +kernel
theorem dX2_layOut_117 : decode cX2_layOut 117 = .ok (.iadd, 1) := by decide +kernel
theorem dX2_layOut_118 : decode cX2_layOut 118 = .ok (.dup2, 1) := by decide +kernel
theorem dX2_layOut_119 : decode cX2_layOut 119 = .ok (.iaload, 1) := by decide +kernel
theorem dX2_layOut_120 : decode cX2_layOut 120 = .ok (.aload_n 0, 1) := by decide +kernel
theorem dX2_layOut_121 : decode cX2_layOut 121 = .ok (.getfield 42, 3) := by decide +kernel
theorem dX2_layOut_124 : decode cX2_layOut 124 = .ok (.getfield 78, 3) := by decide +kernel
theorem dX2_layOut_127 : decode cX2_layOut 127 = .ok (.iadd, 1) := by decide +kernel
theorem dX2_layOut_128 : decode cX2_layOut 128 = .ok (.iastore, 1) := by decide +kernel
theorem dX2_layOut_129 : decode cX2_layOut 129 = .ok (.iinc 2 1, 3) := by decide +kernel
theorem dX2_layOut_132 : decode cX2_layOut 132 = .ok (.goto (-102), 3) := by decide +kernel
theorem dX2_layOut_135 : decode cX2_layOut 135 = .ok (.aload_n 0, 1) := by decide +kernel
theorem dX2_layOut_136 : decode cX2_layOut 136 = .ok (.aload_n 1, 1) := by decide +kernel
theorem dX2_layOut_137 : decode cX2_layOut 137 = .ok (.invokevirtual 81, 3) := by decide +kernel
theorem dX2_layOut_140 : decode cX2_layOut 140 = .ok (.aload_n 0, 1) := by decide +kernel
theorem dX2_layOut_141 : decode cX2_layOut 141 = .ok (.aload_n 1, 1) := by decide +kernel
theorem dX2_layOut_142 : decode cX2_layOut 142 = .ok (.invokevirtual 85, 3) := by decide +kernel
theorem dX2_layOut_145 : decode cX2_layOut 145 = .ok (.iconst 0, 1) := by decide +kernel
theorem dX2_layOut_146 : decode cX2_layOut 146 = .ok (.istore_n 2, 1) := by decide +kernel
theorem dX2_layOut_147 : decode cX2_layOut 147 = .ok (.iload_n 2, 1) := by decide +kernel
theorem dX2_layOut_148 : decode cX2_layOut 148 = .ok (.aload_n 1, 1) := by decide +kernel
theorem dX2_layOut_149 : decode cX2_layOut 149 = .ok (.getfield 88, 3) := by decide +kernel
theorem dX2_layOut_152 : decode cX2_layOut 152 = .ok (.if_icmp .ge 49, 3) := by decide +kernel
theorem dX2_layOut_155 : decode cX2_layOut 155 = .ok (.iload_n 2, 1) := by decide +kernel
theorem dX2_layOut_156 : decode cX2_layOut 156 = .ok (.iconst 4, 1) := by decide +kernel
theorem dX2_layOut_157 : decode cX2_layOut 157 = .ok (.imul, 1) := by decide +kernel
theorem dX2_layOut_158 : decode cX2_layOut 158 = .ok (.istore_n 3, 1) := by decide +kernel
theorem dX2_layOut_159 : decode cX2_layOut 159 = .ok (.aload_n 0, 1) := by decide +kernel
theorem dX2_layOut_160 : decode cX2_layOut 160 = .ok (.getfield 24, 3) := by decide +kernel
theorem dX2_layOut_163 : decode cX2_layOut 163 = .ok (.iload_n 2, 1) := by decide +kernel
theorem dX2_layOut_164 : decode cX2_layOut 164 = .ok (.aload_n 1, 1) := by decide +kernel
theorem dX2_layOut_165 : decode cX2_layOut 165 = .ok (.getfield 91, 3) := by decide +kernel
theorem dX2_layOut_168 : decode cX2_layOut 168 = .ok (.iload_n 3, 1) := by decide +kernel
theorem dX2_layOut_169 : decode cX2_layOut 169 = .ok (.iconst 3, 1) := by decide +kernel
theorem dX2_layOut_170 : decode cX2_layOut 170 = .ok (.iadd, 1) := by decide +kernel
theorem dX2_layOut_171 : decode cX2_layOut 171 = .ok (.iaload, 1) := by decide +kernel
theorem dX2_layOut_172 : decode cX2_layOut 172 = .ok (.aload_n 0, 1) := by decide +kernel
theorem dX2_layOut_173 : decode cX2_layOut 173 = .ok (.getfield 11, 3) := by decide +kernel
theorem dX2_layOut_176 : decode cX2_layOut 176 = .ok (.aload_n 1, 1) := by decide +kernel
theorem dX2_layOut_177 : decode cX2_layOut 177 = .ok (.getfield 91, 3) := by decide +kernel
theorem dX2_layOut_180 : decode cX2_layOut 180 = .ok (.iload_n 3, 1) := by decide +kernel
theorem dX2_layOut_181 : decode cX2_layOut 181 = .ok (.iaload, 1) := by decide +kernel
theorem dX2_layOut_182 : decode cX2_layOut 182 = .ok (.bipush 24, 2) := by decide +kernel
theorem dX2_layOut_184 : decode cX2_layOut 184 = .ok (.imul, 1) := by decide +kernel
theorem dX2_layOut_185 : decode cX2_layOut 185 = .ok (.aload_n 0, 1) := by decide +kernel
theorem dX2_layOut_186 : decode cX2_layOut 186 = .ok (.aload_n 1, 1) := by decide +kernel
theorem dX2_layOut_187 : decode cX2_layOut 187 = .ok (.iload_n 2, 1) := by decide +kernel
theorem dX2_layOut_188 : decode cX2_layOut 188 = .ok (.invokevirtual 94, 3) := by decide +kernel
theorem dX2_layOut_191 : decode cX2_layOut 191 = .ok (.iadd, 1) := by decide +kernel
theorem dX2_layOut_192 : decode cX2_layOut 192 = .ok (.iaload, 1) := by decide +kernel
theorem dX2_layOut_193 : decode cX2_layOut 193 = .ok (.isub, 1) := by decide +kernel
theorem dX2_layOut_194 : decode cX2_layOut 194 = .ok (.iastore, 1) := by decide +kernel
theorem dX2_layOut_195 : decode cX2_layOut 195 = .ok (.iinc 2 1, 3) := by decide +kernel
theorem dX2_layOut_198 : decode cX2_layOut 198 = .ok (.goto (-51), 3) := by decide +kernel
theorem dX2_layOut_201 : decode cX2_layOut 201 = .ok (.return_, 1) := by decide +kernel
theorem dX2_sightCell_0 : decode cX2_sightCell 0 = .ok (.iload_n 2, 1) := by decide +kernel
theorem dX2_sightCell_1 : decode cX2_sightCell 1 = .ok (.iconst 4, 1) := by decide +kernel
theorem dX2_sightCell_2 : decode cX2_sightCell 2 = .ok (.imul, 1) := by decide +kernel
theorem dX2_sightCell_3 : decode cX2_sightCell 3 = .ok (.istore_n 3, 1) := by decide +kernel
theorem dX2_sightCell_4 : decode cX2_sightCell 4 = .ok (.aload_n 1, 1) := by decide +kernel
theorem dX2_sightCell_5 : decode cX2_sightCell 5 = .ok (.getfield 91, 3) := by decide +kernel
theorem dX2_sightCell_8 : decode cX2_sightCell 8 = .ok (.iload_n 3, 1) := by decide +kernel
theorem dX2_sightCell_9 : decode cX2_sightCell 9 = .ok (.iconst 1, 1) := by decide +kernel
theorem dX2_sightCell_10 : decode cX2_sightCell 10 = .ok (.iadd, 1) := by decide +kernel
theorem dX2_sightCell_11 : decode cX2_sightCell 11 = .ok (.iaload, 1) := by decide +kernel
theorem dX2_sightCell_12 : decode cX2_sightCell 12 = .ok (.bipush 6, 2) := by decide +kernel
theorem dX2_sightCell_14 : decode cX2_sightCell 14 = .ok (.imul, 1) := by decide +kernel
theorem dX2_sightCell_15 : decode cX2_sightCell 15 = .ok (.aload_n 1, 1) := by decide +kernel
theorem dX2_sightCell_16 : decode cX2_sightCell 16 = .ok (.getfield 91, 3) := by decide +kernel
theorem dX2_sightCell_19 : decode cX2_sightCell 19 = .ok (.iload_n 3, 1) := by decide +kernel
theorem dX2_sightCell_20 : decode cX2_sightCell 20 = .ok (.iconst 2, 1) := by decide +kernel
theorem dX2_sightCell_21 : decode cX2_sightCell 21 = .ok (.iadd, 1) := by decide +kernel
theorem dX2_sightCell_22 : decode cX2_sightCell 22 = .ok (.iaload, 1) := by decide +kernel
theorem dX2_sightCell_23 : decode cX2_sightCell 23 = .ok (.iadd, 1) := by decide +kernel
theorem dX2_sightCell_24 : decode cX2_sightCell 24 = .ok (.ireturn, 1) := by decide +kernel
theorem dX2_layExtremes_0 : decode cX2_layExtremes 0 = .ok (.aload_n 1, 1) := by decide +kernel
theorem dX2_layExtremes_1 : decode cX2_layExtremes 1 = .ok (.getfield 61, 3) := by decide +kernel
theorem dX2_layExtremes_4 : decode cX2_layExtremes 4 = .ok (.istore_n 2, 1) := by decide +kernel
theorem dX2_layExtremes_5 : decode cX2_layExtremes 5 = .ok (.iload_n 2, 1) := by decide +kernel
theorem dX2_layExtremes_6 : decode cX2_layExtremes 6 = .ok (.ifCond .lt 168, 3) := by decide +kernel
theorem dX2_layExtremes_9 : decode cX2_layExtremes 9 = .ok (.aload_n 0, 1) := by decide +kernel
theorem dX2_layExtremes_10 : decode cX2_layExtremes 10 = .ok (.getfield 21, 3) := by decide +kernel
theorem dX2_layExtremes_13 : decode cX2_layExtremes 13 = .ok (.iload_n 2, 1) := by decide +kernel
theorem dX2_layExtremes_14 : decode cX2_layExtremes 14 = .ok (.iconst 0, 1) := by decide +kernel
theorem dX2_layExtremes_15 : decode cX2_layExtremes 15 = .ok (.iastore, 1) := by decide +kernel
theorem dX2_layExtremes_16 : decode cX2_layExtremes 16 = .ok (.iload_n 2, 1) := by decide +kernel
theorem dX2_layExtremes_17 : decode cX2_layExtremes 17 = .ok (.aload_n 1, 1) := by decide +kernel
theorem dX2_layExtremes_18 : decode cX2_layExtremes 18 = .ok (.getfield 61, 3) := by decide +kernel
theorem dX2_layExtremes_21 : decode cX2_layExtremes 21 = .ok (.if_icmp .ne 7, 3) := by decide +kernel
theorem dX2_layExtremes_24 : decode cX2_layExtremes 24 = .ok (.iconst 1, 1) := by decide +kernel
theorem dX2_layExtremes_25 : decode cX2_layExtremes 25 = .ok (.goto 4, 3) := by decide +kernel
theorem dX2_layExtremes_28 : decode cX2_layExtremes 28 = .ok (.iconst 0, 1) := by decide +kernel
theorem dX2_layExtremes_29 : decode cX2_layExtremes 29 = .ok (.istore_n 3, 1) := by decide +kernel
theorem dX2_layExtremes_30 : decode cX2_layExtremes 30 = .ok (.iload_n 2, 1) := by decide +kernel
theorem dX2_layExtremes_31 : decode cX2_layExtremes 31 = .ok (.bipush 24, 2) := by decide +kernel
theorem dX2_layExtremes_33 : decode cX2_layExtremes 33 = .ok (.imul, 1) := by decide +kernel
theorem dX2_layExtremes_34 : decode cX2_layExtremes 34 = .ok (.aload_n 1, 1) := by decide +kernel
theorem dX2_layExtremes_35 : decode cX2_layExtremes 35 = .ok (.getfield 98, 3) := by decide +kernel
theorem dX2_layExtremes_38 : decode cX2_layExtremes 38 = .ok (.bipush 6, 2) := by decide +kernel
theorem dX2_layExtremes_40 : decode cX2_layExtremes 40 = .ok (.imul, 1) := by decide +kernel
theorem dX2_layExtremes_41 : decode cX2_layExtremes 41 = .ok (.iadd, 1) := by decide +kernel
theorem dX2_layExtremes_42 : decode cX2_layExtremes 42 = .ok (.istore 4, 2) := by decide +kernel
theorem dX2_layExtremes_44 : decode cX2_layExtremes 44 = .ok (.iload_n 2, 1) := by decide +kernel
theorem dX2_layExtremes_45 : decode cX2_layExtremes 45 = .ok (.bipush 24, 2) := by decide +kernel
theorem dX2_layExtremes_47 : decode cX2_layExtremes 47 = .ok (.imul, 1) := by decide +kernel
theorem dX2_layExtremes_48 : decode cX2_layExtremes 48 = .ok (.istore 5, 2) := by decide +kernel
theorem dX2_layExtremes_50 : decode cX2_layExtremes 50 = .ok (.iload 5, 2) := by decide +kernel
theorem dX2_layExtremes_52 : decode cX2_layExtremes 52 = .ok (.iload 4, 2) := by decide +kernel
theorem dX2_layExtremes_54 : decode cX2_layExtremes 54 = .ok (.if_icmp .ge 114, 3) := by decide +kernel
theorem dX2_layExtremes_57 : decode cX2_layExtremes 57 = .ok (.aload_n 0, 1) := by decide +kernel
theorem dX2_layExtremes_58 : decode cX2_layExtremes 58 = .ok (.getfield 15, 3) := by decide +kernel
theorem dX2_layExtremes_61 : decode cX2_layExtremes 61 = .ok (.iload 5, 2) := by decide +kernel
theorem dX2_layExtremes_63 : decode cX2_layExtremes 63 = .ok (.iload_n 3, 1) := by decide +kernel
theorem dX2_layExtremes_64 : decode cX2_layExtremes 64 = .ok (.ifCond .eq 13, 3) := by decide +kernel
theorem dX2_layExtremes_67 : decode cX2_layExtremes 67 = .ok (.aload_n 0, 1) := by decide +kernel
theorem dX2_layExtremes_68 : decode cX2_layExtremes 68 = .ok (.getfield 11, 3) := by decide +kernel
theorem dX2_layExtremes_71 : decode cX2_layExtremes 71 = .ok (.iload 5, 2) := by decide +kernel
theorem dX2_layExtremes_73 : decode cX2_layExtremes 73 = .ok (.iaload, 1) := by decide +kernel
theorem dX2_layExtremes_74 : decode cX2_layExtremes 74 = .ok (.goto 23, 3) := by decide +kernel
theorem dX2_layExtremes_77 : decode cX2_layExtremes 77 = .ok (.aload_n 0, 1) := by decide +kernel
theorem dX2_layExtremes_78 : decode cX2_layExtremes 78 = .ok (.getfield 11, 3) := by decide +kernel
theorem dX2_layExtremes_81 : decode cX2_layExtremes 81 = .ok (.iload 5, 2) := by decide +kernel
theorem dX2_layExtremes_83 : decode cX2_layExtremes 83 = .ok (.iaload, 1) := by decide +kernel
theorem dX2_layExtremes_84 : decode cX2_layExtremes 84 = .ok (.aload_n 0, 1) := by decide +kernel
theorem dX2_layExtremes_85 : decode cX2_layExtremes 85 = .ok (.getfield 15, 3) := by decide +kernel
theorem dX2_layExtremes_88 : decode cX2_layExtremes 88 = .ok (.iload 5, 2) := by decide +kernel
theorem dX2_layExtremes_90 : decode cX2_layExtremes 90 = .ok (.bipush 24, 2) := by decide +kernel
theorem dX2_layExtremes_92 : decode cX2_layExtremes 92 = .ok (.iadd, 1) := by decide +kernel
theorem dX2_layExtremes_93 : decode cX2_layExtremes 93 = .ok (.iaload, 1) := by decide +kernel
theorem dX2_layExtremes_94 : decode cX2_layExtremes 94 = .ok (.invokestatic 101, 3) := by decide +kernel
theorem dX2_layExtremes_97 : decode cX2_layExtremes 97 = .ok (.iastore, 1) := by decide +kernel
theorem dX2_layExtremes_98 : decode cX2_layExtremes 98 = .ok (.aload_n 0, 1) := by decide +kernel
theorem dX2_layExtremes_99 : decode cX2_layExtremes 99 = .ok (.getfield 18, 3) := by decide +kernel
theorem dX2_layExtremes_102 : decode cX2_layExtremes 102 = .ok (.iload 5, 2) := by decide +kernel
theorem dX2_layExtremes_104 : decode cX2_layExtremes 104 = .ok (.iload_n 3, 1) := by decide +kernel
theorem dX2_layExtremes_105 : decode cX2_layExtremes 105 = .ok (.ifCond .eq 13, 3) := by decide +kernel
theorem dX2_layExtremes_108 : decode cX2_layExtremes 108 = .ok (.aload_n 0, 1) := by decide +kernel
theorem dX2_layExtremes_109 : decode cX2_layExtremes 109 = .ok (.getfield 11, 3) := by decide +kernel
theorem dX2_layExtremes_112 : decode cX2_layExtremes 112 = .ok (.iload 5, 2) := by decide +kernel
theorem dX2_layExtremes_114 : decode cX2_layExtremes 114 = .ok (.iaload, 1) := by decide +kernel
theorem dX2_layExtremes_115 : decode cX2_layExtremes 115 = .ok (.goto 23, 3) := by decide +kernel
theorem dX2_layExtremes_118 : decode cX2_layExtremes 118 = .ok (.aload_n 0, 1) := by decide +kernel
theorem dX2_layExtremes_119 : decode cX2_layExtremes 119 = .ok (.getfield 11, 3) := by decide +kernel
theorem dX2_layExtremes_122 : decode cX2_layExtremes 122 = .ok (.iload 5, 2) := by decide +kernel
theorem dX2_layExtremes_124 : decode cX2_layExtremes 124 = .ok (.iaload, 1) := by decide +kernel
theorem dX2_layExtremes_125 : decode cX2_layExtremes 125 = .ok (.aload_n 0, 1) := by decide +kernel
theorem dX2_layExtremes_126 : decode cX2_layExtremes 126 = .ok (.getfield 18, 3) := by decide +kernel
theorem dX2_layExtremes_129 : decode cX2_layExtremes 129 = .ok (.iload 5, 2) := by decide +kernel
theorem dX2_layExtremes_131 : decode cX2_layExtremes 131 = .ok (.bipush 24, 2) := by decide +kernel
theorem dX2_layExtremes_133 : decode cX2_layExtremes 133 = .ok (.iadd, 1) := by decide +kernel
theorem dX2_layExtremes_134 : decode cX2_layExtremes 134 = .ok (.iaload, 1) := by decide +kernel
theorem dX2_layExtremes_135 : decode cX2_layExtremes 135 = .ok (.invokestatic 107, 3) := by decide +kernel
theorem dX2_layExtremes_138 : decode cX2_layExtremes 138 = .ok (.iastore, 1) := by decide +kernel
theorem dX2_layExtremes_139 : decode cX2_layExtremes 139 = .ok (.aload_n 0, 1) := by decide +kernel
theorem dX2_layExtremes_140 : decode cX2_layExtremes 140 = .ok (.getfield 21, 3) := by decide +kernel
theorem dX2_layExtremes_143 : decode cX2_layExtremes 143 = .ok (.iload_n 2, 1) := by decide +kernel
theorem dX2_layExtremes_144 : decode cX2_layExtremes 144 = .ok (.dup2, 1) := by decide +kernel
theorem dX2_layExtremes_145 : decode cX2_layExtremes 145 = .ok (.iaload, 1) := by decide +kernel
theorem dX2_layExtremes_146 : decode cX2_layExtremes 146 = .ok (.aload_n 0, 1) := by decide +kernel
theorem dX2_layExtremes_147 : decode cX2_layExtremes 147 = .ok (.iload 5, 2) := by decide +kernel
theorem dX2_layExtremes_149 : decode cX2_layExtremes 149 = .ok (.invokevirtual 110, 3) := by decide +kernel
theorem dX2_layExtremes_152 : decode cX2_layExtremes 152 = .ok (.ifCond .eq 7, 3) := by decide +kernel
theorem dX2_layExtremes_155 : decode cX2_layExtremes 155 = .ok (.iconst 1, 1) := by decide +kernel
theorem dX2_layExtremes_156 : decode cX2_layExtremes 156 = .ok (.goto 4, 3) := by decide +kernel
theorem dX2_layExtremes_159 : decode cX2_layExtremes 159 = .ok (.iconst 0, 1) := by decide +kernel
theorem dX2_layExtremes_160 : decode cX2_layExtremes 160 = .ok (.iadd, 1) := by decide +kernel
theorem dX2_layExtremes_161 : decode cX2_layExtremes 161 = .ok (.iastore, 1) := by decide +kernel
theorem dX2_layExtremes_162 : decode cX2_layExtremes 162 = .ok (.iinc 5 1, 3) := by decide +kernel
theorem dX2_layExtremes_165 : decode cX2_layExtremes 165 = .ok (.goto (-115), 3) := by decide +kernel
theorem dX2_layExtremes_168 : decode cX2_layExtremes 168 = .ok (.iinc 2 (-1), 3) := by decide +kernel
theorem dX2_layExtremes_171 : decode cX2_layExtremes 171 = .ok (.goto (-166), 3) := by decide +kernel
theorem dX2_layExtremes_174 : decode cX2_layExtremes 174 = .ok (.return_, 1) := by decide +kernel
theorem dX2_isStrained_0 : decode cX2_isStrained 0 = .ok (.aload_n 0, 1) := by decide +kernel
theorem dX2_isStrained_1 : decode cX2_isStrained 1 = .ok (.getfield 15, 3) := by decide +kernel
theorem dX2_isStrained_4 : decode cX2_isStrained 4 = .ok (.iload_n 1, 1) := by decide +kernel
theorem dX2_isStrained_5 : decode cX2_isStrained 5 = .ok (.iaload, 1) := by decide +kernel
theorem dX2_isStrained_6 : decode cX2_isStrained 6 = .ok (.ifCond .lt 14, 3) := by decide +kernel
theorem dX2_isStrained_9 : decode cX2_isStrained 9 = .ok (.aload_n 0, 1) := by decide +kernel
theorem dX2_isStrained_10 : decode cX2_isStrained 10 = .ok (.getfield 18, 3) := by decide +kernel
theorem dX2_isStrained_13 : decode cX2_isStrained 13 = .ok (.iload_n 1, 1) := by decide +kernel
theorem dX2_isStrained_14 : decode cX2_isStrained 14 = .ok (.iaload, 1) := by decide +kernel
theorem dX2_isStrained_15 : decode cX2_isStrained 15 = .ok (.bipush 99, 2) := by decide +kernel
theorem dX2_isStrained_17 : decode cX2_isStrained 17 = .ok (.if_icmp .le 7, 3) := by decide +kernel
theorem dX2_isStrained_20 : decode cX2_isStrained 20 = .ok (.iconst 1, 1) := by decide +kernel
theorem dX2_isStrained_21 : decode cX2_isStrained 21 = .ok (.goto 4, 3) := by decide +kernel
theorem dX2_isStrained_24 : decode cX2_isStrained 24 = .ok (.iconst 0, 1) := by decide +kernel
theorem dX2_isStrained_25 : decode cX2_isStrained 25 = .ok (.ireturn, 1) := by decide +kernel
theorem dX2_findSound_0 : decode cX2_findSound 0 = .ok (.aload_n 0, 1) := by decide +kernel
theorem dX2_findSound_1 : decode cX2_findSound 1 = .ok (.iconst 0, 1) := by decide +kernel
theorem dX2_findSound_2 : decode cX2_findSound 2 = .ok (.putfield 114, 3) := by decide +kernel
theorem dX2_findSound_5 : decode cX2_findSound 5 = .ok (.aload_n 0, 1) := by decide +kernel
theorem dX2_findSound_6 : decode cX2_findSound 6 = .ok (.getfield 114, 3) := by decide +kernel
theorem dX2_findSound_9 : decode cX2_findSound 9 = .ok (.aload_n 1, 1) := by decide +kernel
theorem dX2_findSound_10 : decode cX2_findSound 10 = .ok (.getfield 61, 3) := by decide +kernel
theorem dX2_findSound_13 : decode cX2_findSound 13 = .ok (.if_icmp .ge 30, 3) := by decide +kernel
theorem dX2_findSound_16 : decode cX2_findSound 16 = .ok (.aload_n 0, 1) := by decide +kernel
theorem dX2_findSound_17 : decode cX2_findSound 17 = .ok (.aload_n 1, 1) := by decide +kernel
theorem dX2_findSound_18 : decode cX2_findSound 18 = .ok (.aload_n 0, 1) := by decide +kernel
theorem dX2_findSound_19 : decode cX2_findSound 19 = .ok (.getfield 114, 3) := by decide +kernel
theorem dX2_findSound_22 : decode cX2_findSound 22 = .ok (.iconst 1, 1) := by decide +kernel
theorem dX2_findSound_23 : decode cX2_findSound 23 = .ok (.iadd, 1) := by decide +kernel
theorem dX2_findSound_24 : decode cX2_findSound 24 = .ok (.invokevirtual 117, 3) := by decide +kernel
theorem dX2_findSound_27 : decode cX2_findSound 27 = .ok (.ifCond .eq 16, 3) := by decide +kernel
theorem dX2_findSound_30 : decode cX2_findSound 30 = .ok (.aload_n 0, 1) := by decide +kernel
theorem dX2_findSound_31 : decode cX2_findSound 31 = .ok (.dup, 1) := by decide +kernel
theorem dX2_findSound_32 : decode cX2_findSound 32 = .ok (.getfield 114, 3) := by decide +kernel
theorem dX2_findSound_35 : decode cX2_findSound 35 = .ok (.iconst 1, 1) := by decide +kernel
theorem dX2_findSound_36 : decode cX2_findSound 36 = .ok (.iadd, 1) := by decide +kernel
theorem dX2_findSound_37 : decode cX2_findSound 37 = .ok (.putfield 114, 3) := by decide +kernel
theorem dX2_findSound_40 : decode cX2_findSound 40 = .ok (.goto (-35), 3) := by decide +kernel
theorem dX2_findSound_43 : decode cX2_findSound 43 = .ok (.return_, 1) := by decide +kernel
theorem dX2_isSound_0 : decode cX2_isSound 0 = .ok (.iload_n 2, 1) := by decide +kernel
theorem dX2_isSound_1 : decode cX2_isSound 1 = .ok (.bipush 24, 2) := by decide +kernel
theorem dX2_isSound_3 : decode cX2_isSound 3 = .ok (.imul, 1) := by decide +kernel
theorem dX2_isSound_4 : decode cX2_isSound 4 = .ok (.aload_n 1, 1) := by decide +kernel
theorem dX2_isSound_5 : decode cX2_isSound 5 = .ok (.getfield 98, 3) := by decide +kernel
theorem dX2_isSound_8 : decode cX2_isSound 8 = .ok (.bipush 6, 2) := by decide +kernel
theorem dX2_isSound_10 : decode cX2_isSound 10 = .ok (.imul, 1) := by decide +kernel
theorem dX2_isSound_11 : decode cX2_isSound 11 = .ok (.iadd, 1) := by decide +kernel
theorem dX2_isSound_12 : decode cX2_isSound 12 = .ok (.istore_n 3, 1) := by decide +kernel
theorem dX2_isSound_13 : decode cX2_isSound 13 = .ok (.iload_n 2, 1) := by decide +kernel
theorem dX2_isSound_14 : decode cX2_isSound 14 = .ok (.bipush 24, 2) := by decide +kernel
theorem dX2_isSound_16 : decode cX2_isSound 16 = .ok (.imul, 1) := by decide +kernel
theorem dX2_isSound_17 : decode cX2_isSound 17 = .ok (.istore 4, 2) := by decide +kernel
theorem dX2_isSound_19 : decode cX2_isSound 19 = .ok (.iload 4, 2) := by decide +kernel
theorem dX2_isSound_21 : decode cX2_isSound 21 = .ok (.iload_n 3, 1) := by decide +kernel
theorem dX2_isSound_22 : decode cX2_isSound 22 = .ok (.if_icmp .ge 33, 3) := by decide +kernel
theorem dX2_isSound_25 : decode cX2_isSound 25 = .ok (.aload_n 0, 1) := by decide +kernel
theorem dX2_isSound_26 : decode cX2_isSound 26 = .ok (.getfield 11, 3) := by decide +kernel
theorem dX2_isSound_29 : decode cX2_isSound 29 = .ok (.iload 4, 2) := by decide +kernel
theorem dX2_isSound_31 : decode cX2_isSound 31 = .ok (.iaload, 1) := by decide +kernel
theorem dX2_isSound_32 : decode cX2_isSound 32 = .ok (.ifCond .lt 15, 3) := by decide +kernel
theorem dX2_isSound_35 : decode cX2_isSound 35 = .ok (.aload_n 0, 1) := by decide +kernel
theorem dX2_isSound_36 : decode cX2_isSound 36 = .ok (.getfield 11, 3) := by decide +kernel
theorem dX2_isSound_39 : decode cX2_isSound 39 = .ok (.iload 4, 2) := by decide +kernel
theorem dX2_isSound_41 : decode cX2_isSound 41 = .ok (.iaload, 1) := by decide +kernel
theorem dX2_isSound_42 : decode cX2_isSound 42 = .ok (.bipush 99, 2) := by decide +kernel
theorem dX2_isSound_44 : decode cX2_isSound 44 = .ok (.if_icmp .le 5, 3) := by decide +kernel
theorem dX2_isSound_47 : decode cX2_isSound 47 = .ok (.iconst 0, 1) := by decide +kernel
theorem dX2_isSound_48 : decode cX2_isSound 48 = .ok (.ireturn, 1) := by decide +kernel
theorem dX2_isSound_49 : decode cX2_isSound 49 = .ok (.iinc 4 1, 3) := by decide +kernel
theorem dX2_isSound_52 : decode cX2_isSound 52 = .ok (.goto (-33), 3) := by decide +kernel
theorem dX2_isSound_55 : decode cX2_isSound 55 = .ok (.iconst 1, 1) := by decide +kernel
theorem dX2_isSound_56 : decode cX2_isSound 56 = .ok (.ireturn, 1) := by decide +kernel
theorem dX2_cellsApart_0 : decode cX2_cellsApart 0 = .ok (.aload_n 0, 1) := by decide +kernel
theorem dX2_cellsApart_1 : decode cX2_cellsApart 1 = .ok (.aload_n 1, 1) := by decide +kernel
theorem dX2_cellsApart_2 : decode cX2_cellsApart 2 = .ok (.invokevirtual 121, 3) := by decide +kernel
theorem dX2_cellsApart_5 : decode cX2_cellsApart 5 = .ok (.iconst 0, 1) := by decide +kernel
theorem dX2_cellsApart_6 : decode cX2_cellsApart 6 = .ok (.istore_n 2, 1) := by decide +kernel
theorem dX2_cellsApart_7 : decode cX2_cellsApart 7 = .ok (.iconst 0, 1) := by decide +kernel
theorem dX2_cellsApart_8 : decode cX2_cellsApart 8 = .ok (.istore_n 3, 1) := by decide +kernel
theorem dX2_cellsApart_9 : decode cX2_cellsApart 9 = .ok (.iload_n 3, 1) := by decide +kernel
theorem dX2_cellsApart_10 : decode cX2_cellsApart 10 = .ok (.bipush 24, 2) := by decide +kernel
theorem dX2_cellsApart_12 : decode cX2_cellsApart 12 = .ok (.if_icmp .ge 40, 3) := by decide +kernel
theorem dX2_cellsApart_15 : decode cX2_cellsApart 15 = .ok (.iload_n 2, 1) := by decide +kernel
theorem dX2_cellsApart_16 : decode cX2_cellsApart 16 = .ok (.aload_n 1, 1) := by decide +kernel
theorem dX2_cellsApart_17 : decode cX2_cellsApart 17 = .ok (.getfield 124, 3) := by decide +kernel
theorem dX2_cellsApart_20 : decode cX2_cellsApart 20 = .ok (.iload_n 3, 1) := by decide +kernel
theorem dX2_cellsApart_21 : decode cX2_cellsApart 21 = .ok (.iaload, 1) := by decide +kernel
theorem dX2_cellsApart_22 : decode cX2_cellsApart 22 = .ok (.aload_n 0, 1) := by decide +kernel
theorem dX2_cellsApart_23 : decode cX2_cellsApart 23 = .ok (.getfield 11, 3) := by decide +kernel
theorem dX2_cellsApart_26 : decode cX2_cellsApart 26 = .ok (.aload_n 1, 1) := by decide +kernel
theorem dX2_cellsApart_27 : decode cX2_cellsApart 27 = .ok (.getfield 61, 3) := by decide +kernel
theorem dX2_cellsApart_30 : decode cX2_cellsApart 30 = .ok (.bipush 24, 2) := by decide +kernel
theorem dX2_cellsApart_32 : decode cX2_cellsApart 32 = .ok (.imul, 1) := by decide +kernel
theorem dX2_cellsApart_33 : decode cX2_cellsApart 33 = .ok (.iload_n 3, 1) := by decide +kernel
theorem dX2_cellsApart_34 : decode cX2_cellsApart 34 = .ok (.iadd, 1) := by decide +kernel
theorem dX2_cellsApart_35 : decode cX2_cellsApart 35 = .ok (.iaload, 1) := by decide +kernel
theorem dX2_cellsApart_36 : decode cX2_cellsApart 36 = .ok (.if_icmp .eq 7, 3) := by decide +kernel
theorem dX2_cellsApart_39 : decode cX2_cellsApart 39 = .ok (.iconst 1, 1) := by decide +kernel
theorem dX2_cellsApart_40 : decode cX2_cellsApart 40 = .ok (.goto 4, 3) := by decide +kernel
theorem dX2_cellsApart_43 : decode cX2_cellsApart 43 = .ok (.iconst 0, 1) := by decide +kernel
theorem dX2_cellsApart_44 : decode cX2_cellsApart 44 = .ok (.iadd, 1) := by decide +kernel
theorem dX2_cellsApart_45 : decode cX2_cellsApart 45 = .ok (.istore_n 2, 1) := by decide +kernel
theorem dX2_cellsApart_46 : decode cX2_cellsApart 46 = .ok (.iinc 3 1, 3) := by decide +kernel
theorem dX2_cellsApart_49 : decode cX2_cellsApart 49 = .ok (.goto (-40), 3) := by decide +kernel
theorem dX2_cellsApart_52 : decode cX2_cellsApart 52 = .ok (.iload_n 2, 1) := by decide +kernel
theorem dX2_cellsApart_53 : decode cX2_cellsApart 53 = .ok (.ireturn, 1) := by decide +kernel
theorem dX2_sumBehind_0 : decode cX2_sumBehind 0 = .ok (.aload_n 0, 1) := by decide +kernel
theorem dX2_sumBehind_1 : decode cX2_sumBehind 1 = .ok (.aload_n 1, 1) := by decide +kernel
theorem dX2_sumBehind_2 : decode cX2_sumBehind 2 = .ok (.invokevirtual 121, 3) := by decide +kernel
theorem dX2_sumBehind_5 : decode cX2_sumBehind 5 = .ok (.iconst 0, 1) := by decide +kernel
theorem dX2_sumBehind_6 : decode cX2_sumBehind 6 = .ok (.istore_n 3, 1) := by decide +kernel
theorem dX2_sumBehind_7 : decode cX2_sumBehind 7 = .ok (.iconst 0, 1) := by decide +kernel
theorem dX2_sumBehind_8 : decode cX2_sumBehind 8 = .ok (.istore 4, 2) := by decide +kernel
theorem dX2_sumBehind_10 : decode cX2_sumBehind 10 = .ok (.iload 4, 2) := by decide +kernel
theorem dX2_sumBehind_12 : decode cX2_sumBehind 12 = .ok (.aload_n 1, 1) := by decide +kernel
theorem dX2_sumBehind_13 : decode cX2_sumBehind 13 = .ok (.getfield 98, 3) := by decide +kernel
theorem dX2_sumBehind_16 : decode cX2_sumBehind 16 = .ok (.if_icmp .ge 56, 3) := by decide +kernel
theorem dX2_sumBehind_19 : decode cX2_sumBehind 19 = .ok (.iconst 0, 1) := by decide +kernel
theorem dX2_sumBehind_20 : decode cX2_sumBehind 20 = .ok (.istore 5, 2) := by decide +kernel
theorem dX2_sumBehind_22 : decode cX2_sumBehind 22 = .ok (.iload 5, 2) := by decide +kernel
theorem dX2_sumBehind_24 : decode cX2_sumBehind 24 = .ok (.aload_n 1, 1) := by decide +kernel
theorem dX2_sumBehind_25 : decode cX2_sumBehind 25 = .ok (.getfield 126, 3) := by decide +kernel
theorem dX2_sumBehind_28 : decode cX2_sumBehind 28 = .ok (.if_icmp .ge 38, 3) := by decide +kernel
theorem dX2_sumBehind_31 : decode cX2_sumBehind 31 = .ok (.iload_n 3, 1) := by decide +kernel
theorem dX2_sumBehind_32 : decode cX2_sumBehind 32 = .ok (.aload_n 0, 1) := by decide +kernel
theorem dX2_sumBehind_33 : decode cX2_sumBehind 33 = .ok (.getfield 11, 3) := by decide +kernel
theorem dX2_sumBehind_36 : decode cX2_sumBehind 36 = .ok (.iload_n 2, 1) := by decide +kernel
theorem dX2_sumBehind_37 : decode cX2_sumBehind 37 = .ok (.bipush 24, 2) := by decide +kernel
theorem dX2_sumBehind_39 : decode cX2_sumBehind 39 = .ok (.imul, 1) := by decide +kernel
theorem dX2_sumBehind_40 : decode cX2_sumBehind 40 = .ok (.iload 4, 2) := by decide +kernel
theorem dX2_sumBehind_42 : decode cX2_sumBehind 42 = .ok (.bipush 6, 2) := by decide +kernel
theorem dX2_sumBehind_44 : decode cX2_sumBehind 44 = .ok (.imul, 1) := by decide +kernel
theorem dX2_sumBehind_45 : decode cX2_sumBehind 45 = .ok (.iadd, 1) := by decide +kernel
theorem dX2_sumBehind_46 : decode cX2_sumBehind 46 = .ok (.iload 5, 2) := by decide +kernel
theorem dX2_sumBehind_48 : decode cX2_sumBehind 48 = .ok (.iadd, 1) := by decide +kernel
theorem dX2_sumBehind_49 : decode cX2_sumBehind 49 = .ok (.iaload, 1) := by decide +kernel
theorem dX2_sumBehind_50 : decode cX2_sumBehind 50 = .ok (.aload_n 1, 1) := by decide +kernel
theorem dX2_sumBehind_51 : decode cX2_sumBehind 51 = .ok (.getfield 129, 3) := by decide +kernel
theorem dX2_sumBehind_54 : decode cX2_sumBehind 54 = .ok (.iload 5, 2) := by decide +kernel
theorem dX2_sumBehind_56 : decode cX2_sumBehind 56 = .ok (.iaload, 1) := by decide +kernel
theorem dX2_sumBehind_57 : decode cX2_sumBehind 57 = .ok (.imul, 1) := by decide +kernel
theorem dX2_sumBehind_58 : decode cX2_sumBehind 58 = .ok (.iadd, 1) := by decide +kernel
theorem dX2_sumBehind_59 : decode cX2_sumBehind 59 = .ok (.istore_n 3, 1) := by decide +kernel
theorem dX2_sumBehind_60 : decode cX2_sumBehind 60 = .ok (.iinc 5 1, 3) := by decide +kernel
theorem dX2_sumBehind_63 : decode cX2_sumBehind 63 = .ok (.goto (-41), 3) := by decide +kernel
theorem dX2_sumBehind_66 : decode cX2_sumBehind 66 = .ok (.iinc 4 1, 3) := by decide +kernel
theorem dX2_sumBehind_69 : decode cX2_sumBehind 69 = .ok (.goto (-59), 3) := by decide +kernel
theorem dX2_sumBehind_72 : decode cX2_sumBehind 72 = .ok (.iload_n 3, 1) := by decide +kernel
theorem dX2_sumBehind_73 : decode cX2_sumBehind 73 = .ok (.ireturn, 1) := by decide +kernel
theorem dX2_firstWrong_0 : decode cX2_firstWrong 0 = .ok (.aload_n 0, 1) := by decide +kernel
theorem dX2_firstWrong_1 : decode cX2_firstWrong 1 = .ok (.aload_n 1, 1) := by decide +kernel
theorem dX2_firstWrong_2 : decode cX2_firstWrong 2 = .ok (.invokevirtual 121, 3) := by decide +kernel
theorem dX2_firstWrong_5 : decode cX2_firstWrong 5 = .ok (.iconst 0, 1) := by decide +kernel
theorem dX2_firstWrong_6 : decode cX2_firstWrong 6 = .ok (.istore_n 2, 1) := by decide +kernel
theorem dX2_firstWrong_7 : decode cX2_firstWrong 7 = .ok (.iload_n 2, 1) := by decide +kernel
theorem dX2_firstWrong_8 : decode cX2_firstWrong 8 = .ok (.aload_n 1, 1) := by decide +kernel
theorem dX2_firstWrong_9 : decode cX2_firstWrong 9 = .ok (.getfield 88, 3) := by decide +kernel
theorem dX2_firstWrong_12 : decode cX2_firstWrong 12 = .ok (.if_icmp .ge 20, 3) := by decide +kernel
theorem dX2_firstWrong_15 : decode cX2_firstWrong 15 = .ok (.aload_n 0, 1) := by decide +kernel
theorem dX2_firstWrong_16 : decode cX2_firstWrong 16 = .ok (.getfield 24, 3) := by decide +kernel
theorem dX2_firstWrong_19 : decode cX2_firstWrong 19 = .ok (.iload_n 2, 1) := by decide +kernel
theorem dX2_firstWrong_20 : decode cX2_firstWrong 20 = .ok (.iaload, 1) := by decide +kernel
theorem dX2_firstWrong_21 : decode cX2_firstWrong 21 = .ok (.ifCond .eq 5, 3) := by decide +kernel
theorem dX2_firstWrong_24 : decode cX2_firstWrong 24 = .ok (.iload_n 2, 1) := by decide +kernel
theorem dX2_firstWrong_25 : decode cX2_firstWrong 25 = .ok (.ireturn, 1) := by decide +kernel
theorem dX2_firstWrong_26 : decode cX2_firstWrong 26 = .ok (.iinc 2 1, 3) := by decide +kernel
theorem dX2_firstWrong_29 : decode cX2_firstWrong 29 = .ok (.goto (-22), 3) := by decide +kernel
theorem dX2_firstWrong_32 : decode cX2_firstWrong 32 = .ok (.bipush (-2), 2) := by decide +kernel
theorem dX2_firstWrong_34 : decode cX2_firstWrong 34 = .ok (.ireturn, 1) := by decide +kernel
theorem dX2_explains_0 : decode cX2_explains 0 = .ok (.iconst 0, 1) := by decide +kernel
theorem dX2_explains_1 : decode cX2_explains 1 = .ok (.istore_n 3, 1) := by decide +kernel
theorem dX2_explains_2 : decode cX2_explains 2 = .ok (.iload_n 3, 1) := by decide +kernel
theorem dX2_explains_3 : decode cX2_explains 3 = .ok (.aload_n 1, 1) := by decide +kernel
theorem dX2_explains_4 : decode cX2_explains 4 = .ok (.getfield 88, 3) := by decide +kernel
theorem dX2_explains_7 : decode cX2_explains 7 = .ok (.if_icmp .ge 61, 3) := by decide +kernel
theorem dX2_explains_10 : decode cX2_explains 10 = .ok (.aload_n 1, 1) := by decide +kernel
theorem dX2_explains_11 : decode cX2_explains 11 = .ok (.getfield 91, 3) := by decide +kernel
theorem dX2_explains_14 : decode cX2_explains 14 = .ok (.iload_n 3, 1) := by decide +kernel
theorem dX2_explains_15 : decode cX2_explains 15 = .ok (.iconst 4, 1) := by decide +kernel
theorem dX2_explains_16 : decode cX2_explains 16 = .ok (.imul, 1) := by decide +kernel
theorem dX2_explains_17 : decode cX2_explains 17 = .ok (.iaload, 1) := by decide +kernel
theorem dX2_explains_18 : decode cX2_explains 18 = .ok (.iload_n 2, 1) := by decide +kernel
theorem dX2_explains_19 : decode cX2_explains 19 = .ok (.if_icmp .lt 7, 3) := by decide +kernel
theorem dX2_explains_22 : decode cX2_explains 22 = .ok (.iconst 1, 1) := by decide +kernel
theorem dX2_explains_23 : decode cX2_explains 23 = .ok (.goto 4, 3) := by decide +kernel
theorem dX2_explains_26 : decode cX2_explains 26 = .ok (.iconst 0, 1) := by decide +kernel
theorem dX2_explains_27 : decode cX2_explains 27 = .ok (.istore 4, 2) := by decide +kernel
theorem dX2_explains_29 : decode cX2_explains 29 = .ok (.aload_n 0, 1) := by decide +kernel
theorem dX2_explains_30 : decode cX2_explains 30 = .ok (.getfield 24, 3) := by decide +kernel
theorem dX2_explains_33 : decode cX2_explains 33 = .ok (.iload_n 3, 1) := by decide +kernel
theorem dX2_explains_34 : decode cX2_explains 34 = .ok (.iaload, 1) := by decide +kernel
theorem dX2_explains_35 : decode cX2_explains 35 = .ok (.iload 4, 2) := by decide +kernel
theorem dX2_explains_37 : decode cX2_explains 37 = .ok (.ifCond .eq 19, 3) := by decide +kernel
theorem dX2_explains_40 : decode cX2_explains 40 = .ok (.aload_n 0, 1) := by decide +kernel
theorem dX2_explains_41 : decode cX2_explains 41 = .ok (.getfield 42, 3) := by decide +kernel
theorem dX2_explains_44 : decode cX2_explains 44 = .ok (.aload_n 0, 1) := by decide +kernel
theorem dX2_explains_45 : decode cX2_explains 45 = .ok (.aload_n 1, 1) := by decide +kernel
theorem dX2_explains_46 : decode cX2_explains 46 = .ok (.iload_n 3, 1) := by decide +kernel
theorem dX2_explains_47 : decode cX2_explains 47 = .ok (.invokevirtual 94, 3) := by decide +kernel
theorem dX2_explains_50 : decode cX2_explains 50 = .ok (.invokevirtual 132, 3) := by decide +kernel
theorem dX2_explains_53 : decode cX2_explains 53 = .ok (.goto 4, 3) := by decide +kernel
theorem dX2_explains_56 : decode cX2_explains 56 = .ok (.iconst 0, 1) := by decide +kernel
theorem dX2_explains_57 : decode cX2_explains 57 = .ok (.if_icmp .eq 5, 3) := by decide +kernel
theorem dX2_explains_60 : decode cX2_explains 60 = .ok (.iconst 0, 1) := by decide +kernel
theorem dX2_explains_61 : decode cX2_explains 61 = .ok (.ireturn, 1) := by decide +kernel
theorem dX2_explains_62 : decode cX2_explains 62 = .ok (.iinc 3 1, 3) := by decide +kernel
theorem dX2_explains_65 : decode cX2_explains 65 = .ok (.goto (-63), 3) := by decide +kernel
theorem dX2_explains_68 : decode cX2_explains 68 = .ok (.aload_n 0, 1) := by decide +kernel
theorem dX2_explains_69 : decode cX2_explains 69 = .ok (.iload_n 2, 1) := by decide +kernel
theorem dX2_explains_70 : decode cX2_explains 70 = .ok (.invokevirtual 136, 3) := by decide +kernel
theorem dX2_explains_73 : decode cX2_explains 73 = .ok (.ireturn, 1) := by decide +kernel
theorem dX2_staysInBounds_0 : decode cX2_staysInBounds 0 = .ok (.iload_n 1, 1) := by decide +kernel
theorem dX2_staysInBounds_1 : decode cX2_staysInBounds 1 = .ok (.bipush 24, 2) := by decide +kernel
theorem dX2_staysInBounds_3 : decode cX2_staysInBounds 3 = .ok (.imul, 1) := by decide +kernel
theorem dX2_staysInBounds_4 : decode cX2_staysInBounds 4 = .ok (.aload_n 0, 1) := by decide +kernel
theorem dX2_staysInBounds_5 : decode cX2_staysInBounds 5 = .ok (.getfield 42, 3) := by decide +kernel
theorem dX2_staysInBounds_8 : decode cX2_staysInBounds 8 = .ok (.getfield 69, 3) := by decide +kernel
theorem dX2_staysInBounds_11 : decode cX2_staysInBounds 11 = .ok (.iadd, 1) := by decide +kernel
theorem dX2_staysInBounds_12 : decode cX2_staysInBounds 12 = .ok (.istore_n 2, 1) := by decide +kernel
theorem dX2_staysInBounds_13 : decode cX2_staysInBounds 13 = .ok (.iload_n 1, 1) := by decide +kernel
theorem dX2_staysInBounds_14 : decode cX2_staysInBounds 14 = .ok (.bipush 24, 2) := by decide +kernel
theorem dX2_staysInBounds_16 : decode cX2_staysInBounds 16 = .ok (.imul, 1) := by decide +kernel
theorem dX2_staysInBounds_17 : decode cX2_staysInBounds 17 = .ok (.aload_n 0, 1) := by decide +kernel
theorem dX2_staysInBounds_18 : decode cX2_staysInBounds 18 = .ok (.getfield 42, 3) := by decide +kernel
theorem dX2_staysInBounds_21 : decode cX2_staysInBounds 21 = .ok (.getfield 75, 3) := by decide +kernel
theorem dX2_staysInBounds_24 : decode cX2_staysInBounds 24 = .ok (.iadd, 1) := by decide +kernel
theorem dX2_staysInBounds_25 : decode cX2_staysInBounds 25 = .ok (.istore_n 3, 1) := by decide +kernel
theorem dX2_staysInBounds_26 : decode cX2_staysInBounds 26 = .ok (.aload_n 0, 1) := by decide +kernel
theorem dX2_staysInBounds_27 : decode cX2_staysInBounds 27 = .ok (.getfield 21, 3) := by decide +kernel
theorem dX2_staysInBounds_30 : decode cX2_staysInBounds 30 = .ok (.iload_n 1, 1) := by decide +kernel
theorem dX2_staysInBounds_31 : decode cX2_staysInBounds 31 = .ok (.iaload, 1) := by decide +kernel
theorem dX2_staysInBounds_32 : decode cX2_staysInBounds 32 = .ok (.aload_n 0, 1) := by decide +kernel
theorem dX2_staysInBounds_33 : decode cX2_staysInBounds 33 = .ok (.iload_n 2, 1) := by decide +kernel
theorem dX2_staysInBounds_34 : decode cX2_staysInBounds 34 = .ok (.invokevirtual 110, 3) := by decide +kernel
theorem dX2_staysInBounds_37 : decode cX2_staysInBounds 37 = .ok (.ifCond .eq 7, 3) := by decide +kernel
theorem dX2_staysInBounds_40 : decode cX2_staysInBounds 40 = .ok (.iconst 1, 1) := by decide +kernel
theorem dX2_staysInBounds_41 : decode cX2_staysInBounds 41 = .ok (.goto 4, 3) := by decide +kernel
theorem dX2_staysInBounds_44 : decode cX2_staysInBounds 44 = .ok (.iconst 0, 1) := by decide +kernel
theorem dX2_staysInBounds_45 : decode cX2_staysInBounds 45 = .ok (.isub, 1) := by decide +kernel
theorem dX2_staysInBounds_46 : decode cX2_staysInBounds 46 = .ok (.istore 4, 2) := by decide +kernel
theorem dX2_staysInBounds_48 : decode cX2_staysInBounds 48 = .ok (.iload 4, 2) := by decide +kernel
theorem dX2_staysInBounds_50 : decode cX2_staysInBounds 50 = .ok (.iload_n 3, 1) := by decide +kernel
theorem dX2_staysInBounds_51 : decode cX2_staysInBounds 51 = .ok (.iload_n 2, 1) := by decide +kernel
theorem dX2_staysInBounds_52 : decode cX2_staysInBounds 52 = .ok (.if_icmp .eq 15, 3) := by decide +kernel
theorem dX2_staysInBounds_55 : decode cX2_staysInBounds 55 = .ok (.aload_n 0, 1) := by decide +kernel
theorem dX2_staysInBounds_56 : decode cX2_staysInBounds 56 = .ok (.iload_n 3, 1) := by decide +kernel
theorem dX2_staysInBounds_57 : decode cX2_staysInBounds 57 = .ok (.invokevirtual 110, 3) := by decide +kernel
theorem dX2_staysInBounds_60 : decode cX2_staysInBounds 60 = .ok (.ifCond .eq 7, 3) := by decide +kernel
theorem dX2_staysInBounds_63 : decode cX2_staysInBounds 63 = .ok (.iconst 1, 1) := by decide +kernel
theorem dX2_staysInBounds_64 : decode cX2_staysInBounds 64 = .ok (.goto 4, 3) := by decide +kernel
theorem dX2_staysInBounds_67 : decode cX2_staysInBounds 67 = .ok (.iconst 0, 1) := by decide +kernel
theorem dX2_staysInBounds_68 : decode cX2_staysInBounds 68 = .ok (.isub, 1) := by decide +kernel
theorem dX2_staysInBounds_69 : decode cX2_staysInBounds 69 = .ok (.istore 4, 2) := by decide +kernel
theorem dX2_staysInBounds_71 : decode cX2_staysInBounds 71 = .ok (.iload 4, 2) := by decide +kernel
theorem dX2_staysInBounds_73 : decode cX2_staysInBounds 73 = .ok (.ifCond .ne 51, 3) := by decide +kernel
theorem dX2_staysInBounds_76 : decode cX2_staysInBounds 76 = .ok (.aload_n 0, 1) := by decide +kernel
theorem dX2_staysInBounds_77 : decode cX2_staysInBounds 77 = .ok (.iload_n 2, 1) := by decide +kernel
theorem dX2_staysInBounds_78 : decode cX2_staysInBounds 78 = .ok (.aload_n 0, 1) := by decide +kernel
theorem dX2_staysInBounds_79 : decode cX2_staysInBounds 79 = .ok (.getfield 42, 3) := by decide +kernel
theorem dX2_staysInBounds_82 : decode cX2_staysInBounds 82 = .ok (.aload_n 0, 1) := by decide +kernel
theorem dX2_staysInBounds_83 : decode cX2_staysInBounds 83 = .ok (.getfield 42, 3) := by decide +kernel
theorem dX2_staysInBounds_86 : decode cX2_staysInBounds 86 = .ok (.getfield 69, 3) := by decide +kernel
theorem dX2_staysInBounds_89 : decode cX2_staysInBounds 89 = .ok (.invokevirtual 132, 3) := by decide +kernel
theorem dX2_staysInBounds_92 : decode cX2_staysInBounds 92 = .ok (.invokevirtual 139, 3) := by decide +kernel
theorem dX2_staysInBounds_95 : decode cX2_staysInBounds 95 = .ok (.ifCond .eq 29, 3) := by decide +kernel
theorem dX2_staysInBounds_98 : decode cX2_staysInBounds 98 = .ok (.aload_n 0, 1) := by decide +kernel
theorem dX2_staysInBounds_99 : decode cX2_staysInBounds 99 = .ok (.iload_n 3, 1) := by decide +kernel
theorem dX2_staysInBounds_100 : decode cX2_staysInBounds 100 = .ok (.aload_n 0, 1) := by decide +kernel
theorem dX2_staysInBounds_101 : decode cX2_staysInBounds 101 = .ok (.getfield 42, 3) := by decide +kernel
theorem dX2_staysInBounds_104 : decode cX2_staysInBounds 104 = .ok (.aload_n 0, 1) := by decide +kernel
theorem dX2_staysInBounds_105 : decode cX2_staysInBounds 105 = .ok (.getfield 42, 3) := by decide +kernel
theorem dX2_staysInBounds_108 : decode cX2_staysInBounds 108 = .ok (.getfield 75, 3) := by decide +kernel
theorem dX2_staysInBounds_111 : decode cX2_staysInBounds 111 = .ok (.invokevirtual 132, 3) := by decide +kernel
theorem dX2_staysInBounds_114 : decode cX2_staysInBounds 114 = .ok (.invokevirtual 139, 3) := by decide +kernel
theorem dX2_staysInBounds_117 : decode cX2_staysInBounds 117 = .ok (.ifCond .eq 7, 3) := by decide +kernel
theorem dX2_staysInBounds_120 : decode cX2_staysInBounds 120 = .ok (.iconst 1, 1) := by decide +kernel
theorem dX2_staysInBounds_121 : decode cX2_staysInBounds 121 = .ok (.goto 4, 3) := by decide +kernel
theorem dX2_staysInBounds_124 : decode cX2_staysInBounds 124 = .ok (.iconst 0, 1) := by decide +kernel
theorem dX2_staysInBounds_125 : decode cX2_staysInBounds 125 = .ok (.ireturn, 1) := by decide +kernel
theorem dX2_fits_0 : decode cX2_fits 0 = .ok (.aload_n 0, 1) := by decide +kernel
theorem dX2_fits_1 : decode cX2_fits 1 = .ok (.getfield 15, 3) := by decide +kernel
theorem dX2_fits_4 : decode cX2_fits 4 = .ok (.iload_n 1, 1) := by decide +kernel
theorem dX2_fits_5 : decode cX2_fits 5 = .ok (.iaload, 1) := by decide +kernel
theorem dX2_fits_6 : decode cX2_fits 6 = .ok (.iload_n 2, 1) := by decide +kernel
theorem dX2_fits_7 : decode cX2_fits 7 = .ok (.iadd, 1) := by decide +kernel
theorem dX2_fits_8 : decode cX2_fits 8 = .ok (.ifCond .lt 20, 3) := by decide +kernel
theorem dX2_fits_11 : decode cX2_fits 11 = .ok (.aload_n 0, 1) := by decide +kernel
theorem dX2_fits_12 : decode cX2_fits 12 = .ok (.getfield 18, 3) := by decide +kernel
theorem dX2_fits_15 : decode cX2_fits 15 = .ok (.iload_n 1, 1) := by decide +kernel
theorem dX2_fits_16 : decode cX2_fits 16 = .ok (.iaload, 1) := by decide +kernel
theorem dX2_fits_17 : decode cX2_fits 17 = .ok (.iload_n 2, 1) := by decide +kernel
theorem dX2_fits_18 : decode cX2_fits 18 = .ok (.iadd, 1) := by decide +kernel
theorem dX2_fits_19 : decode cX2_fits 19 = .ok (.bipush 99, 2) := by decide +kernel
theorem dX2_fits_21 : decode cX2_fits 21 = .ok (.if_icmp .gt 7, 3) := by decide +kernel
theorem dX2_fits_24 : decode cX2_fits 24 = .ok (.iconst 1, 1) := by decide +kernel
theorem dX2_fits_25 : decode cX2_fits 25 = .ok (.goto 4, 3) := by decide +kernel
theorem dX2_fits_28 : decode cX2_fits 28 = .ok (.iconst 0, 1) := by decide +kernel
theorem dX2_fits_29 : decode cX2_fits 29 = .ok (.ireturn, 1) := by decide +kernel
theorem dX2_findSlides_0 : decode cX2_findSlides 0 = .ok (.aload_n 0, 1) := by decide +kernel
theorem dX2_findSlides_1 : decode cX2_findSlides 1 = .ok (.aload_n 1, 1) := by decide +kernel
theorem dX2_findSlides_2 : decode cX2_findSlides 2 = .ok (.invokevirtual 121, 3) := by decide +kernel
theorem dX2_findSlides_5 : decode cX2_findSlides 5 = .ok (.aload_n 0, 1) := by decide +kernel
theorem dX2_findSlides_6 : decode cX2_findSlides 6 = .ok (.getfield 143, 3) := by decide +kernel
theorem dX2_findSlides_9 : decode cX2_findSlides 9 = .ok (.ifCond .eq 4, 3) := by decide +kernel
theorem dX2_findSlides_12 : decode cX2_findSlides 12 = .ok (.return_, 1) := by decide +kernel
theorem dX2_findSlides_13 : decode cX2_findSlides 13 = .ok (.aload_n 0, 1) := by decide +kernel
theorem dX2_findSlides_14 : decode cX2_findSlides 14 = .ok (.iconst 1, 1) := by decide +kernel
theorem dX2_findSlides_15 : decode cX2_findSlides 15 = .ok (.putfield 143, 3) := by decide +kernel
theorem dX2_findSlides_18 : decode cX2_findSlides 18 = .ok (.aload_n 0, 1) := by decide +kernel
theorem dX2_findSlides_19 : decode cX2_findSlides 19 = .ok (.iconst 0, 1) := by decide +kernel
theorem dX2_findSlides_20 : decode cX2_findSlides 20 = .ok (.putfield 146, 3) := by decide +kernel
theorem dX2_findSlides_23 : decode cX2_findSlides 23 = .ok (.iconst 0, 1) := by decide +kernel
theorem dX2_findSlides_24 : decode cX2_findSlides 24 = .ok (.istore_n 2, 1) := by decide +kernel
