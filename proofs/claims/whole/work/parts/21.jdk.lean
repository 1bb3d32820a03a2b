/-! words of the tables, by segment and place -/
theorem tb_in1 {w : Cond} (j : Nat) (h : tables_1_1[j]? = some w) : w ∈ lw_tbl := List.mem_append_right _ (show w ∈ tables_1 from List.mem_append_left _ (List.mem_of_getElem? h))
theorem tb_g1 {w : Cond} (j : Nat) (h : tables_1_1[j]? = some w) (g : goodWord w = true) : w ∈ tb_good := List.mem_filter.mpr ⟨tb_in1 j h, g⟩
theorem tb_n1 {w : Cond} (j : Nat) (h : tables_1_1[j]? = some w) (g : tb_isN w = true) : w ∈ tb_nest := List.mem_filter.mpr ⟨tb_in1 j h, g⟩
theorem tb_in2 {w : Cond} (j : Nat) (h : tables_1_2[j]? = some w) : w ∈ lw_tbl := List.mem_append_right _ (show w ∈ tables_1 from List.mem_append_right _ (List.mem_append_left _ (List.mem_of_getElem? h)))
theorem tb_g2 {w : Cond} (j : Nat) (h : tables_1_2[j]? = some w) (g : goodWord w = true) : w ∈ tb_good := List.mem_filter.mpr ⟨tb_in2 j h, g⟩
theorem tb_n2 {w : Cond} (j : Nat) (h : tables_1_2[j]? = some w) (g : tb_isN w = true) : w ∈ tb_nest := List.mem_filter.mpr ⟨tb_in2 j h, g⟩
theorem tb_in3 {w : Cond} (j : Nat) (h : tables_1_3[j]? = some w) : w ∈ lw_tbl := List.mem_append_right _ (show w ∈ tables_1 from List.mem_append_right _ (List.mem_append_right _ (List.mem_append_left _ (List.mem_of_getElem? h))))
theorem tb_g3 {w : Cond} (j : Nat) (h : tables_1_3[j]? = some w) (g : goodWord w = true) : w ∈ tb_good := List.mem_filter.mpr ⟨tb_in3 j h, g⟩
theorem tb_n3 {w : Cond} (j : Nat) (h : tables_1_3[j]? = some w) (g : tb_isN w = true) : w ∈ tb_nest := List.mem_filter.mpr ⟨tb_in3 j h, g⟩
theorem tb_in4 {w : Cond} (j : Nat) (h : tables_1_4[j]? = some w) : w ∈ lw_tbl := List.mem_append_right _ (show w ∈ tables_1 from List.mem_append_right _ (List.mem_append_right _ (List.mem_append_right _ (List.mem_append_left _ (List.mem_of_getElem? h)))))
theorem tb_g4 {w : Cond} (j : Nat) (h : tables_1_4[j]? = some w) (g : goodWord w = true) : w ∈ tb_good := List.mem_filter.mpr ⟨tb_in4 j h, g⟩
theorem tb_n4 {w : Cond} (j : Nat) (h : tables_1_4[j]? = some w) (g : tb_isN w = true) : w ∈ tb_nest := List.mem_filter.mpr ⟨tb_in4 j h, g⟩
theorem tb_in5 {w : Cond} (j : Nat) (h : tables_1_5[j]? = some w) : w ∈ lw_tbl := List.mem_append_right _ (show w ∈ tables_1 from List.mem_append_right _ (List.mem_append_right _ (List.mem_append_right _ (List.mem_append_right _ (List.mem_append_left _ (List.mem_of_getElem? h))))))
theorem tb_g5 {w : Cond} (j : Nat) (h : tables_1_5[j]? = some w) (g : goodWord w = true) : w ∈ tb_good := List.mem_filter.mpr ⟨tb_in5 j h, g⟩
theorem tb_n5 {w : Cond} (j : Nat) (h : tables_1_5[j]? = some w) (g : tb_isN w = true) : w ∈ tb_nest := List.mem_filter.mpr ⟨tb_in5 j h, g⟩
theorem tb_in6 {w : Cond} (j : Nat) (h : tables_1_6[j]? = some w) : w ∈ lw_tbl := List.mem_append_right _ (show w ∈ tables_1 from List.mem_append_right _ (List.mem_append_right _ (List.mem_append_right _ (List.mem_append_right _ (List.mem_append_right _ (List.mem_append_left _ (List.mem_of_getElem? h)))))))
theorem tb_g6 {w : Cond} (j : Nat) (h : tables_1_6[j]? = some w) (g : goodWord w = true) : w ∈ tb_good := List.mem_filter.mpr ⟨tb_in6 j h, g⟩
theorem tb_n6 {w : Cond} (j : Nat) (h : tables_1_6[j]? = some w) (g : tb_isN w = true) : w ∈ tb_nest := List.mem_filter.mpr ⟨tb_in6 j h, g⟩
theorem tb_in7 {w : Cond} (j : Nat) (h : tables_1_7[j]? = some w) : w ∈ lw_tbl := List.mem_append_right _ (show w ∈ tables_1 from List.mem_append_right _ (List.mem_append_right _ (List.mem_append_right _ (List.mem_append_right _ (List.mem_append_right _ (List.mem_append_right _ (List.mem_append_left _ (List.mem_of_getElem? h))))))))
theorem tb_g7 {w : Cond} (j : Nat) (h : tables_1_7[j]? = some w) (g : goodWord w = true) : w ∈ tb_good := List.mem_filter.mpr ⟨tb_in7 j h, g⟩
theorem tb_n7 {w : Cond} (j : Nat) (h : tables_1_7[j]? = some w) (g : tb_isN w = true) : w ∈ tb_nest := List.mem_filter.mpr ⟨tb_in7 j h, g⟩
theorem tb_in8 {w : Cond} (j : Nat) (h : tables_1_8[j]? = some w) : w ∈ lw_tbl := List.mem_append_right _ (show w ∈ tables_1 from List.mem_append_right _ (List.mem_append_right _ (List.mem_append_right _ (List.mem_append_right _ (List.mem_append_right _ (List.mem_append_right _ (List.mem_append_right _ (List.mem_of_getElem? h))))))))
theorem tb_g8 {w : Cond} (j : Nat) (h : tables_1_8[j]? = some w) (g : goodWord w = true) : w ∈ tb_good := List.mem_filter.mpr ⟨tb_in8 j h, g⟩
theorem tb_n8 {w : Cond} (j : Nat) (h : tables_1_8[j]? = some w) (g : tb_isN w = true) : w ∈ tb_nest := List.mem_filter.mpr ⟨tb_in8 j h, g⟩
theorem tb_p1 {y : MethodName} {c : Nat} (j : Nat) (h : lw_privs_1[j]? = some (y, c)) : Cond.selects y.cls y y ∈ tb_good := List.mem_filter.mpr ⟨List.mem_append_left _ (List.mem_map.mpr ⟨(y, c), (show (y, c) ∈ lw_privs from List.mem_append_left _ (List.mem_of_getElem? h)), rfl⟩), rfl⟩
theorem tb_p2 {y : MethodName} {c : Nat} (j : Nat) (h : lw_privs_2[j]? = some (y, c)) : Cond.selects y.cls y y ∈ tb_good := List.mem_filter.mpr ⟨List.mem_append_left _ (List.mem_map.mpr ⟨(y, c), (show (y, c) ∈ lw_privs from List.mem_append_right _ (List.mem_append_left _ (List.mem_of_getElem? h))), rfl⟩), rfl⟩
theorem tb_p3 {y : MethodName} {c : Nat} (j : Nat) (h : lw_privs_3[j]? = some (y, c)) : Cond.selects y.cls y y ∈ tb_good := List.mem_filter.mpr ⟨List.mem_append_left _ (List.mem_map.mpr ⟨(y, c), (show (y, c) ∈ lw_privs from List.mem_append_right _ (List.mem_append_right _ (List.mem_append_left _ (List.mem_of_getElem? h)))), rfl⟩), rfl⟩
theorem tb_p4 {y : MethodName} {c : Nat} (j : Nat) (h : lw_privs_4[j]? = some (y, c)) : Cond.selects y.cls y y ∈ tb_good := List.mem_filter.mpr ⟨List.mem_append_left _ (List.mem_map.mpr ⟨(y, c), (show (y, c) ∈ lw_privs from List.mem_append_right _ (List.mem_append_right _ (List.mem_append_right _ (List.mem_append_left _ (List.mem_of_getElem? h))))), rfl⟩), rfl⟩
theorem tb_p5 {y : MethodName} {c : Nat} (j : Nat) (h : lw_privs_5[j]? = some (y, c)) : Cond.selects y.cls y y ∈ tb_good := List.mem_filter.mpr ⟨List.mem_append_left _ (List.mem_map.mpr ⟨(y, c), (show (y, c) ∈ lw_privs from List.mem_append_right _ (List.mem_append_right _ (List.mem_append_right _ (List.mem_append_right _ (List.mem_append_left _ (List.mem_of_getElem? h)))))), rfl⟩), rfl⟩
theorem tb_p6 {y : MethodName} {c : Nat} (j : Nat) (h : lw_privs_6[j]? = some (y, c)) : Cond.selects y.cls y y ∈ tb_good := List.mem_filter.mpr ⟨List.mem_append_left _ (List.mem_map.mpr ⟨(y, c), (show (y, c) ∈ lw_privs from List.mem_append_right _ (List.mem_append_right _ (List.mem_append_right _ (List.mem_append_right _ (List.mem_append_right _ (List.mem_append_left _ (List.mem_of_getElem? h))))))), rfl⟩), rfl⟩
theorem tb_p7 {y : MethodName} {c : Nat} (j : Nat) (h : lw_privs_7[j]? = some (y, c)) : Cond.selects y.cls y y ∈ tb_good := List.mem_filter.mpr ⟨List.mem_append_left _ (List.mem_map.mpr ⟨(y, c), (show (y, c) ∈ lw_privs from List.mem_append_right _ (List.mem_append_right _ (List.mem_append_right _ (List.mem_append_right _ (List.mem_append_right _ (List.mem_append_right _ (List.mem_append_left _ (List.mem_of_getElem? h)))))))), rfl⟩), rfl⟩
theorem tb_p8 {y : MethodName} {c : Nat} (j : Nat) (h : lw_privs_8[j]? = some (y, c)) : Cond.selects y.cls y y ∈ tb_good := List.mem_filter.mpr ⟨List.mem_append_left _ (List.mem_map.mpr ⟨(y, c), (show (y, c) ∈ lw_privs from List.mem_append_right _ (List.mem_append_right _ (List.mem_append_right _ (List.mem_append_right _ (List.mem_append_right _ (List.mem_append_right _ (List.mem_append_right _ (List.mem_append_left _ (List.mem_of_getElem? h))))))))), rfl⟩), rfl⟩
theorem tb_p9 {y : MethodName} {c : Nat} (j : Nat) (h : lw_privs_9[j]? = some (y, c)) : Cond.selects y.cls y y ∈ tb_good := List.mem_filter.mpr ⟨List.mem_append_left _ (List.mem_map.mpr ⟨(y, c), (show (y, c) ∈ lw_privs from List.mem_append_right _ (List.mem_append_right _ (List.mem_append_right _ (List.mem_append_right _ (List.mem_append_right _ (List.mem_append_right _ (List.mem_append_right _ (List.mem_append_right _ (List.mem_append_left _ (List.mem_of_getElem? h)))))))))), rfl⟩), rfl⟩
theorem tb_p10 {y : MethodName} {c : Nat} (j : Nat) (h : lw_privs_10[j]? = some (y, c)) : Cond.selects y.cls y y ∈ tb_good := List.mem_filter.mpr ⟨List.mem_append_left _ (List.mem_map.mpr ⟨(y, c), (show (y, c) ∈ lw_privs from List.mem_append_right _ (List.mem_append_right _ (List.mem_append_right _ (List.mem_append_right _ (List.mem_append_right _ (List.mem_append_right _ (List.mem_append_right _ (List.mem_append_right _ (List.mem_append_right _ (List.mem_append_left _ (List.mem_of_getElem? h))))))))))), rfl⟩), rfl⟩
theorem tb_p11 {y : MethodName} {c : Nat} (j : Nat) (h : lw_privs_11[j]? = some (y, c)) : Cond.selects y.cls y y ∈ tb_good := List.mem_filter.mpr ⟨List.mem_append_left _ (List.mem_map.mpr ⟨(y, c), (show (y, c) ∈ lw_privs from List.mem_append_right _ (List.mem_append_right _ (List.mem_append_right _ (List.mem_append_right _ (List.mem_append_right _ (List.mem_append_right _ (List.mem_append_right _ (List.mem_append_right _ (List.mem_append_right _ (List.mem_append_right _ (List.mem_append_left _ (List.mem_of_getElem? h)))))))))))), rfl⟩), rfl⟩
theorem tb_p12 {y : MethodName} {c : Nat} (j : Nat) (h : lw_privs_12[j]? = some (y, c)) : Cond.selects y.cls y y ∈ tb_good := List.mem_filter.mpr ⟨List.mem_append_left _ (List.mem_map.mpr ⟨(y, c), (show (y, c) ∈ lw_privs from List.mem_append_right _ (List.mem_append_right _ (List.mem_append_right _ (List.mem_append_right _ (List.mem_append_right _ (List.mem_append_right _ (List.mem_append_right _ (List.mem_append_right _ (List.mem_append_right _ (List.mem_append_right _ (List.mem_append_right _ (List.mem_of_getElem? h)))))))))))), rfl⟩), rfl⟩
/-! three methods of the JDK, walked as ours -/
def RJM : String := "java/lang/Math"
def RJI : String := "java/lang/Integer"
abbrev cJM_floorDiv : ByteArray := prog_14_method_47_code
def yJM_floorDiv : MethodName := ⟨RJM, "floorDiv", "(II)I"⟩
theorem dJM_floorDiv_0 : decode cJM_floorDiv 0 = .ok (.iload_n 0, 1) := by decide +kernel
theorem dJM_floorDiv_1 : decode cJM_floorDiv 1 = .ok (.iload_n 1, 1) := by decide +kernel
theorem dJM_floorDiv_2 : decode cJM_floorDiv 2 = .ok (.idiv, 1) := by decide +kernel
theorem dJM_floorDiv_3 : decode cJM_floorDiv 3 = .ok (.istore_n 2, 1) := by decide +kernel
theorem dJM_floorDiv_4 : decode cJM_floorDiv 4 = .ok (.iload_n 0, 1) := by decide +kernel
theorem dJM_floorDiv_5 : decode cJM_floorDiv 5 = .ok (.iload_n 1, 1) := by decide +kernel
theorem dJM_floorDiv_6 : decode cJM_floorDiv 6 = .ok (.ixor, 1) := by decide +kernel
theorem dJM_floorDiv_7 : decode cJM_floorDiv 7 = .ok (.ifCond .ge 14, 3) := by decide +kernel
theorem dJM_floorDiv_10 : decode cJM_floorDiv 10 = .ok (.iload_n 2, 1) := by decide +kernel
theorem dJM_floorDiv_11 : decode cJM_floorDiv 11 = .ok (.iload_n 1, 1) := by decide +kernel
theorem dJM_floorDiv_12 : decode cJM_floorDiv 12 = .ok (.imul, 1) := by decide +kernel
theorem dJM_floorDiv_13 : decode cJM_floorDiv 13 = .ok (.iload_n 0, 1) := by decide +kernel
theorem dJM_floorDiv_14 : decode cJM_floorDiv 14 = .ok (.if_icmp .eq 7, 3) := by decide +kernel
theorem dJM_floorDiv_17 : decode cJM_floorDiv 17 = .ok (.iload_n 2, 1) := by decide +kernel
theorem dJM_floorDiv_18 : decode cJM_floorDiv 18 = .ok (.iconst 1, 1) := by decide +kernel
theorem dJM_floorDiv_19 : decode cJM_floorDiv 19 = .ok (.isub, 1) := by decide +kernel
theorem dJM_floorDiv_20 : decode cJM_floorDiv 20 = .ok (.ireturn, 1) := by decide +kernel
theorem dJM_floorDiv_21 : decode cJM_floorDiv 21 = .ok (.iload_n 2, 1) := by decide +kernel
theorem dJM_floorDiv_22 : decode cJM_floorDiv 22 = .ok (.ireturn, 1) := by decide +kernel
abbrev cJM_floorMod : ByteArray := prog_14_method_50_code
def yJM_floorMod : MethodName := ⟨RJM, "floorMod", "(II)I"⟩
theorem dJM_floorMod_0 : decode cJM_floorMod 0 = .ok (.iload_n 0, 1) := by decide +kernel
theorem dJM_floorMod_1 : decode cJM_floorMod 1 = .ok (.iload_n 1, 1) := by decide +kernel
theorem dJM_floorMod_2 : decode cJM_floorMod 2 = .ok (.irem, 1) := by decide +kernel
theorem dJM_floorMod_3 : decode cJM_floorMod 3 = .ok (.istore_n 2, 1) := by decide +kernel
theorem dJM_floorMod_4 : decode cJM_floorMod 4 = .ok (.iload_n 0, 1) := by decide +kernel
theorem dJM_floorMod_5 : decode cJM_floorMod 5 = .ok (.iload_n 1, 1) := by decide +kernel
theorem dJM_floorMod_6 : decode cJM_floorMod 6 = .ok (.ixor, 1) := by decide +kernel
theorem dJM_floorMod_7 : decode cJM_floorMod 7 = .ok (.ifCond .ge 11, 3) := by decide +kernel
theorem dJM_floorMod_10 : decode cJM_floorMod 10 = .ok (.iload_n 2, 1) := by decide +kernel
theorem dJM_floorMod_11 : decode cJM_floorMod 11 = .ok (.ifCond .eq 7, 3) := by decide +kernel
theorem dJM_floorMod_14 : decode cJM_floorMod 14 = .ok (.iload_n 2, 1) := by decide +kernel
theorem dJM_floorMod_15 : decode cJM_floorMod 15 = .ok (.iload_n 1, 1) := by decide +kernel
theorem dJM_floorMod_16 : decode cJM_floorMod 16 = .ok (.iadd, 1) := by decide +kernel
theorem dJM_floorMod_17 : decode cJM_floorMod 17 = .ok (.ireturn, 1) := by decide +kernel
theorem dJM_floorMod_18 : decode cJM_floorMod 18 = .ok (.iload_n 2, 1) := by decide +kernel
theorem dJM_floorMod_19 : decode cJM_floorMod 19 = .ok (.ireturn, 1) := by decide +kernel
abbrev cJI_bitCount : ByteArray := prog_13_method_49_code
def yJI_bitCount : MethodName := ⟨RJI, "bitCount", "(I)I"⟩
theorem dJI_bitCount_0 : decode cJI_bitCount 0 = .ok (.iload_n 0, 1) := by decide +kernel
theorem dJI_bitCount_1 : decode cJI_bitCount 1 = .ok (.iload_n 0, 1) := by decide +kernel
theorem dJI_bitCount_2 : decode cJI_bitCount 2 = .ok (.iconst 1, 1) := by decide +kernel
theorem dJI_bitCount_3 : decode cJI_bitCount 3 = .ok (.iushr, 1) := by decide +kernel
theorem dJI_bitCount_4 : decode cJI_bitCount 4 = .ok (.ldc_w 265, 3) := by decide +kernel
theorem dJI_bitCount_7 : decode cJI_bitCount 7 = .ok (.iand, 1) := by decide +kernel
theorem dJI_bitCount_8 : decode cJI_bitCount 8 = .ok (.isub, 1) := by decide +kernel
theorem dJI_bitCount_9 : decode cJI_bitCount 9 = .ok (.istore_n 0, 1) := by decide +kernel
theorem dJI_bitCount_10 : decode cJI_bitCount 10 = .ok (.iload_n 0, 1) := by decide +kernel
theorem dJI_bitCount_11 : decode cJI_bitCount 11 = .ok (.ldc_w 266, 3) := by decide +kernel
theorem dJI_bitCount_14 : decode cJI_bitCount 14 = .ok (.iand, 1) := by decide +kernel
theorem dJI_bitCount_15 : decode cJI_bitCount 15 = .ok (.iload_n 0, 1) := by decide +kernel
theorem dJI_bitCount_16 : decode cJI_bitCount 16 = .ok (.iconst 2, 1) := by decide +kernel
theorem dJI_bitCount_17 : decode cJI_bitCount 17 = .ok (.iushr, 1) := by decide +kernel
theorem dJI_bitCount_18 : decode cJI_bitCount 18 = .ok (.ldc_w 266, 3) := by decide +kernel
theorem dJI_bitCount_21 : decode cJI_bitCount 21 = .ok (.iand, 1) := by decide +kernel
theorem dJI_bitCount_22 : decode cJI_bitCount 22 = .ok (.iadd, 1) := by decide +kernel
theorem dJI_bitCount_23 : decode cJI_bitCount 23 = .ok (.istore_n 0, 1) := by decide +kernel
theorem dJI_bitCount_24 : decode cJI_bitCount 24 = .ok (.iload_n 0, 1) := by decide +kernel
theorem dJI_bitCount_25 : decode cJI_bitCount 25 = .ok (.iload_n 0, 1) := by decide +kernel
theorem dJI_bitCount_26 : decode cJI_bitCount 26 = .ok (.iconst 4, 1) := by decide +kernel
theorem dJI_bitCount_27 : decode cJI_bitCount 27 = .ok (.iushr, 1) := by decide +kernel
theorem dJI_bitCount_28 : decode cJI_bitCount 28 = .ok (.iadd, 1) := by decide +kernel
theorem dJI_bitCount_29 : decode cJI_bitCount 29 = .ok (.ldc_w 267, 3) := by decide +kernel
theorem dJI_bitCount_32 : decode cJI_bitCount 32 = .ok (.iand, 1) := by decide +kernel
theorem dJI_bitCount_33 : decode cJI_bitCount 33 = .ok (.istore_n 0, 1) := by decide +kernel
theorem dJI_bitCount_34 : decode cJI_bitCount 34 = .ok (.iload_n 0, 1) := by decide +kernel
theorem dJI_bitCount_35 : decode cJI_bitCount 35 = .ok (.iload_n 0, 1) := by decide +kernel
theorem dJI_bitCount_36 : decode cJI_bitCount 36 = .ok (.bipush 8, 2) := by decide +kernel
theorem dJI_bitCount_38 : decode cJI_bitCount 38 = .ok (.iushr, 1) := by decide +kernel
theorem dJI_bitCount_39 : decode cJI_bitCount 39 = .ok (.iadd, 1) := by decide +kernel
theorem dJI_bitCount_40 : decode cJI_bitCount 40 = .ok (.istore_n 0, 1) := by decide +kernel
theorem dJI_bitCount_41 : decode cJI_bitCount 41 = .ok (.iload_n 0, 1) := by decide +kernel
theorem dJI_bitCount_42 : decode cJI_bitCount 42 = .ok (.iload_n 0, 1) := by decide +kernel
theorem dJI_bitCount_43 : decode cJI_bitCount 43 = .ok (.bipush 16, 2) := by decide +kernel
theorem dJI_bitCount_45 : decode cJI_bitCount 45 = .ok (.iushr, 1) := by decide +kernel
theorem dJI_bitCount_46 : decode cJI_bitCount 46 = .ok (.iadd, 1) := by decide +kernel
theorem dJI_bitCount_47 : decode cJI_bitCount 47 = .ok (.istore_n 0, 1) := by decide +kernel
theorem dJI_bitCount_48 : decode cJI_bitCount 48 = .ok (.iload_n 0, 1) := by decide +kernel
theorem dJI_bitCount_49 : decode cJI_bitCount 49 = .ok (.bipush 63, 2) := by decide +kernel
theorem dJI_bitCount_51 : decode cJI_bitCount 51 = .ok (.iand, 1) := by decide +kernel
theorem dJI_bitCount_52 : decode cJI_bitCount 52 = .ok (.ireturn, 1) := by decide +kernel
