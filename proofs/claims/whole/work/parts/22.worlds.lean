/-! worlds of the components: an object and its arrays -/
abbrev Mem : Type := Nat → Nat → Int32
abbrev MemL : Type := Nat → Nat → Int64
def hp0 (n : Nat) : Nat := n
def hp1 (n : Nat) : Nat := hp0 n
def hp2 (n : Nat) : Nat := hp1 n
def hp3 (n : Nat) : Nat := hp2 n
def hp4 (n : Nat) : Nat := hp3 n
def hp5 (n : Nat) : Nat := hp4 n
def hp6 (n : Nat) : Nat := hp5 n
def hp7 (n : Nat) : Nat := hp6 n
def hp8 (n : Nat) : Nat := hp7 n
def hp9 (n : Nat) : Nat := hp8 n
def hp10 (n : Nat) : Nat := hp9 n
def hp11 (n : Nat) : Nat := hp10 n
def hp12 (n : Nat) : Nat := hp11 n
def hp13 (n : Nat) : Nat := hp12 n
def hp14 (n : Nat) : Nat := hp13 n
def hp15 (n : Nat) : Nat := hp14 n
def hp16 (n : Nat) : Nat := hp15 n
def hp17 (n : Nat) : Nat := hp16 n
def hp18 (n : Nat) : Nat := hp17 n
def hp19 (n : Nat) : Nat := hp18 n
def hp20 (n : Nat) : Nat := hp19 n
def hp21 (n : Nat) : Nat := hp20 n
def hp22 (n : Nat) : Nat := hp21 n
def hp23 (n : Nat) : Nat := hp22 n
def hp24 (n : Nat) : Nat := hp23 n
def hp25 (n : Nat) : Nat := hp24 n
def hp26 (n : Nat) : Nat := hp25 n
def hp27 (n : Nat) : Nat := hp26 n
def hp28 (n : Nat) : Nat := hp27 n
def hp29 (n : Nat) : Nat := hp28 n
def hp30 (n : Nat) : Nat := hp29 n
def hp31 (n : Nat) : Nat := hp30 n
def hp32 (n : Nat) : Nat := hp31 n
def hp33 (n : Nat) : Nat := hp32 n
def hp34 (n : Nat) : Nat := hp33 n
def hp35 (n : Nat) : Nat := hp34 n
def hp36 (n : Nat) : Nat := hp35 n
def hp37 (n : Nat) : Nat := hp36 n
def hp38 (n : Nat) : Nat := hp37 n
def hp39 (n : Nat) : Nat := hp38 n
def hp40 (n : Nat) : Nat := hp39 n
/-- one place anew (made so that it is unfolded ahead of what it holds) -/
noncomputable def at1 {β : Type} (f : Nat → β) (k : Nat) (x : β) : Nat → β := fun j => (fun (_ : Nat) => @Bool.rec (fun _ => β) (f j) x (Nat.beq j k)) (hp40 0)
noncomputable abbrev mr {β : Type} (M : Nat → Nat → β) (k : Nat) (r : Nat → β) : Nat → Nat → β := at1 M k r
noncomputable abbrev fu (f : Nat → Int32) (k : Nat) (x : Int32) : Nat → Int32 := at1 f k x
noncomputable abbrev mk3 (Ms : Nat → Mem) (k : Nat) (m : Mem) : Nat → Mem := at1 Ms k m
theorem i32_ne {x k : Int32} {z : Int} (h : ¬ x = k) (hz : k.toInt = z) : x.toInt ≠ z := fun q => h (Int32.toInt_inj.mp (q.trans hz.symm))
def w_Cloth (ct : im_ct) (a : Nat → Nat) (M : Mem) : va_W := [(a 0, .inr (0, [.ref (a 1), .ref (a 2), .ref (a 3), .ref (a 4), .ref (a 5), .ref (a 6), .int (M 0 6), .int (M 0 7), .int (M 0 8), .int (M 0 9)])), (a 1, .inl (ct 0, 6, .inl (M 1))), (a 2, .inl (ct 0, 6, .inl (M 2))), (a 3, .inl (ct 0, 24, .inl (M 3))), (a 4, .inl (ct 0, 24, .inl (M 4))), (a 5, .inl (ct 0, 120, .inl (M 5))), (a 6, .inl (ct 0, 48, .inl (M 6)))]
def w_Effect (ct : im_ct) (a : Nat → Nat) (M : Mem) : va_W := [(a 0, .inr (1, [.int (M 0 0), .int (M 0 1), .int (M 0 2), .int (M 0 3)]))]
def w_Inquest (ct : im_ct) (a : Nat → Nat) (a_eff : Nat → Nat) (M : Mem) : va_W := [(a 0, .inr (2, [.ref (a 1), .ref (a 2), .ref (a 3), .ref (a 4), .ref (a 5), .ref (a 6), .ref (a 7), .ref (a 8), .ref (a 9), .ref (a_eff 0), .int (M 0 10), .int (M 0 11), .int (M 0 12), .int (M 0 13)])), (a 1, .inl (ct 0, 600, .inl (M 1))), (a 2, .inl (ct 0, 600, .inl (M 2))), (a 3, .inl (ct 0, 600, .inl (M 3))), (a 4, .inl (ct 0, 25, .inl (M 4))), (a 5, .inl (ct 0, 12, .inl (M 5))), (a 6, .inl (ct 0, 1000, .inl (M 6))), (a 7, .inl (ct 0, 24, .inl (M 7))), (a 8, .inl (ct 0, 24, .inl (M 8))), (a 9, .inl (ct 0, 4, .inl (M 9)))]
def w_Past (ct : im_ct) (a : Nat → Nat) (ak : Nat → Nat → Nat) (M : Mem) : va_W := [(a 0, .inr (3, [.ref (a 1), .int (M 0 1), .int (M 0 2)])), (a 1, .inl (ct 4, 12, .inr (.inr (.inr (.inr (fun i => some (ak i 0)))))))]
def w_Payment (ct : im_ct) (a : Nat → Nat) (M : Mem) : va_W := [(a 0, .inr (4, [.ref (a 1), .ref (a 2), .ref (a 3), .ref (a 4), .ref (a 5), .ref (a 6), .ref (a 7), .int (M 0 7), .int (M 0 8), .int (M 0 9), .int (M 0 10), .int (M 0 11), .int (M 0 12)])), (a 1, .inl (ct 0, 6, .inl (M 1))), (a 2, .inl (ct 0, 6, .inl (M 2))), (a 3, .inl (ct 0, 6, .inl (M 3))), (a 4, .inl (ct 0, 6, .inl (M 4))), (a 5, .inl (ct 0, 6, .inl (M 5))), (a 6, .inl (ct 0, 6, .inl (M 6))), (a 7, .inl (ct 0, 1206, .inl (M 7)))]
def w_Purse (ct : im_ct) (a : Nat → Nat) (M : Mem) (L : MemL) (sw sv : Bool) : va_W := [(a 0, .inr (5, [.ref (a 1), .ref (a 2), .ref (cond sw (a 4) (a 3)), .ref (cond sv (a 3) (a 4))])), (a 1, .inl (ct 0, 6, .inl (M 1))), (a 2, .inl (ct 0, 6, .inl (M 2))), (a 3, .inl (ct 1, 100, .inr (.inl (L 3)))), (a 4, .inl (ct 1, 100, .inr (.inl (L 4))))]
def w_Reader (ct : im_ct) (a : Nat → Nat) (a_dr : Nat → Nat) (a_ef : Nat → Nat) (a_tp : Nat → Nat) (M : Mem) : va_W := [(a 0, .inr (6, [.ref (a_dr 0), .ref (a_ef 0), .ref (a 1), .ref (a_tp 1), .ref (a_tp 0), .int (M 0 5), .int (M 0 6), .int (M 0 7), .int (M 0 8)])), (a 1, .inl (ct 0, 4, .inl (M 1)))]
def w_Scribe (ct : im_ct) (a : Nat → Nat) (M : Mem) : va_W := [(a 0, .inr (7, [.ref (a 1), .int (M 0 1), .int (M 0 2)])), (a 1, .inl (ct 2, 700, .inl (M 1)))]
def w_Tape (ct : im_ct) (a : Nat → Nat) (M : Mem) : va_W := [(a 0, .inr (8, [.ref (a 1), .int (M 0 1)])), (a 1, .inl (ct 0, 400, .inl (M 1)))]
def w_X (ct : im_ct) (a : Nat → Nat) (a_tp : Nat → Nat) (a_cl : Nat → Nat) (a_pa : Nat → Nat) (a_re : Nat → Nat) (a_pu : Nat → Nat) (a_py : Nat → Nat) (a_iq : Nat → Nat) (a_sc : Nat → Nat) (a_ef : Nat → Nat) (M : Mem) : va_W := [(a 0, .inr (9, [.ref (a_tp 0), .ref (a_cl 0), .ref (a_pa 0), .ref (a_re 0), .ref (a_pu 0), .ref (a_py 0), .ref (a_iq 0), .ref (a_sc 0), .ref (a_ef 0)]))]
def w_Model (ct : im_ct) (a : Nat → Nat) (M : Mem) (L : MemL) : va_W := [(a 0, .inr (10, [.int (M 0 0), .ref (a 1), .ref (a 2), .ref (a 3), .int (M 0 4), .ref (a 4), .int (M 0 6), .int (M 0 7), .int (M 0 8), .int (M 0 9), .ref (a 5), .ref (a 6), .ref (a 7), .ref (a 8), .ref (a 9), .ref (a 10), .ref (a 11), .ref (a 12), .ref (a 13), .ref (a 14), .ref (a 15), .ref (a 16), .ref (a 17), .ref (a 18), .int (M 0 24), .ref (a 19), .ref (a 20), .int (M 0 27), .ref (a 21), .int (M 0 29), .ref (a 22), .int (M 0 31), .int (M 0 32), .int (M 0 33), .int (M 0 34), .int (M 0 35)])), (a 1, .inl (ct 0, 226, .inl (M 1))), (a 2, .inl (ct 0, 226, .inl (M 2))), (a 3, .inl (ct 0, 2712, .inl (M 3))), (a 4, .inl (ct 0, 24, .inl (M 4))), (a 5, .inl (ct 0, 6, .inl (M 5))), (a 6, .inl (ct 1, 7, .inr (.inl (L 6)))), (a 7, .inl (ct 1, 420, .inr (.inl (L 7)))), (a 8, .inl (ct 1, 420, .inr (.inl (L 8)))), (a 9, .inl (ct 0, 6, .inl (M 9))), (a 10, .inl (ct 0, 6, .inl (M 10))), (a 11, .inl (ct 0, 6, .inl (M 11))), (a 12, .inl (ct 0, 2520, .inl (M 12))), (a 13, .inl (ct 0, 840, .inl (M 13))), (a 14, .inl (ct 0, 840, .inl (M 14))), (a 15, .inl (ct 0, 1300, .inl (M 15))), (a 16, .inl (ct 0, 1300, .inl (M 16))), (a 17, .inl (ct 0, 1300, .inl (M 17))), (a 18, .inl (ct 3, 1300, .inl (M 18))), (a 19, .inl (ct 0, 3, .inl (M 19))), (a 20, .inl (ct 0, 2000, .inl (M 20))), (a 21, .inl (ct 0, 400, .inl (M 21))), (a 22, .inl (ct 2, 50, .inl (M 22)))]
def w_K12 (ct : im_ct) (ak : Nat → Nat → Nat) (Ks : Nat → Mem) : va_W := w_Cloth ct (ak 0) (Ks 0) ++ (w_Cloth ct (ak 1) (Ks 1) ++ (w_Cloth ct (ak 2) (Ks 2) ++ (w_Cloth ct (ak 3) (Ks 3) ++ (w_Cloth ct (ak 4) (Ks 4) ++ (w_Cloth ct (ak 5) (Ks 5) ++ (w_Cloth ct (ak 6) (Ks 6) ++ (w_Cloth ct (ak 7) (Ks 7) ++ (w_Cloth ct (ak 8) (Ks 8) ++ (w_Cloth ct (ak 9) (Ks 9) ++ (w_Cloth ct (ak 10) (Ks 10) ++ (w_Cloth ct (ak 11) (Ks 11))))))))))))
def w_LArr (ct : im_ct) (a : Nat → Nat) (L : MemL) : va_W := [(a 0, .inl (ct 1, 100, .inr (.inl (L 0))))]
def w_IArr (ct : im_ct) (n : Nat) (a : Nat → Nat) (M : Mem) : va_W := [(a 0, .inl (ct 0, n, .inl (M 0)))]
/-! three methods of the JDK, walked as ours -/
def RJM : String := "java/lang/Math"
def RJI : String := "java/lang/Integer"
abbrev cJM_floorDiv : ByteArray := prog_14_method_47_code
def yJM_floorDiv : MethodName := ⟨RJM, "floorDiv", "(II)I"⟩
theorem dJM_floorDiv_0 : decode cJM_floorDiv 0 = .ok (.iload_n 0, 1) := by decide +kernel
theorem dJM_floorDiv_1 : decode cJM_floorDiv 1 = .ok (.iload_n 1, 1) := by decide +kernel
theorem dJM_floorDiv_2 : decode cJM_floorDiv 2 = .ok (.idiv, 1) := by decide +kernel
theorem dJM_floorDiv_3 : decode cJM_floorDiv 3 = .ok (.istore_n 2, 1) := by decide +kernel
theorem dJM_floorDiv_4 : decode cJM_floorDiv 4 = .ok (.iload_n 0, 1) := by decide +kernel
theorem dJM_floorDiv_5 : decode cJM_floorDiv 5 = .ok (.iload_n 1, 1) := by decide +kernel
theorem dJM_floorDiv_6 : decode cJM_floorDiv 6 = .ok (.ixor, 1) := by decide +kernel
theorem dJM_floorDiv_7 : decode cJM_floorDiv 7 = .ok (.ifCond .ge 14, 3) := by decide +kernel
theorem dJM_floorDiv_10 : decode cJM_floorDiv 10 = .ok (.iload_n 2, 1) := by decide +kernel
theorem dJM_floorDiv_11 : decode cJM_floorDiv 11 = .ok (.iload_n 1, 1) := by decide +kernel
theorem dJM_floorDiv_12 : decode cJM_floorDiv 12 = .ok (.imul, 1) := by decide +kernel
theorem dJM_floorDiv_13 : decode cJM_floorDiv 13 = .ok (.iload_n 0, 1) := by decide +kernel
theorem dJM_floorDiv_14 : decode cJM_floorDiv 14 = .ok (.if_icmp .eq 7, 3) := by decide +kernel
theorem dJM_floorDiv_17 : decode cJM_floorDiv 17 = .ok (.iload_n 2, 1) := by decide +kernel
theorem dJM_floorDiv_18 : decode cJM_floorDiv 18 = .ok (.iconst 1, 1) := by decide +kernel
theorem dJM_floorDiv_19 : decode cJM_floorDiv 19 = .ok (.isub, 1) := by decide +kernel
theorem dJM_floorDiv_20 : decode cJM_floorDiv 20 = .ok (.ireturn, 1) := by decide +kernel
theorem dJM_floorDiv_21 : decode cJM_floorDiv 21 = .ok (.iload_n 2, 1) := by decide +kernel
theorem dJM_floorDiv_22 : decode cJM_floorDiv 22 = .ok (.ireturn, 1) := by decide +kernel
abbrev cJM_floorMod : ByteArray := prog_14_method_50_code
def yJM_floorMod : MethodName := ⟨RJM, "floorMod", "(II)I"⟩
theorem dJM_floorMod_0 : decode cJM_floorMod 0 = .ok (.iload_n 0, 1) := by decide +kernel
theorem dJM_floorMod_1 : decode cJM_floorMod 1 = .ok (.iload_n 1, 1) := by decide +kernel
theorem dJM_floorMod_2 : decode cJM_floorMod 2 = .ok (.irem, 1) := by decide +kernel
theorem dJM_floorMod_3 : decode cJM_floorMod 3 = .ok (.istore_n 2, 1) := by decide +kernel
theorem dJM_floorMod_4 : decode cJM_floorMod 4 = .ok (.iload_n 0, 1) := by decide +kernel
theorem dJM_floorMod_5 : decode cJM_floorMod 5 = .ok (.iload_n 1, 1) := by decide +kernel
theorem dJM_floorMod_6 : decode cJM_floorMod 6 = .ok (.ixor, 1) := by decide +kernel
theorem dJM_floorMod_7 : decode cJM_floorMod 7 = .ok (.ifCond .ge 11, 3) := by decide +kernel
theorem dJM_floorMod_10 : decode cJM_floorMod 10 = .ok (.iload_n 2, 1) := by decide +kernel
theorem dJM_floorMod_11 : decode cJM_floorMod 11 = .ok (.ifCond .eq 7, 3) := by decide +kernel
theorem dJM_floorMod_14 : decode cJM_floorMod 14 = .ok (.iload_n 2, 1) := by decide +kernel
theorem dJM_floorMod_15 : decode cJM_floorMod 15 = .ok (.iload_n 1, 1) := by decide +kernel
theorem dJM_floorMod_16 : decode cJM_floorMod 16 = .ok (.iadd, 1) := by decide +kernel
theorem dJM_floorMod_17 : decode cJM_floorMod 17 = .ok (.ireturn, 1) := by decide +kernel
theorem dJM_floorMod_18 : decode cJM_floorMod 18 = .ok (.iload_n 2, 1) := by decide +kernel
theorem dJM_floorMod_19 : decode cJM_floorMod 19 = .ok (.ireturn, 1) := by decide +kernel
abbrev cJI_bitCount : ByteArray := prog_13_method_49_code
def yJI_bitCount : MethodName := ⟨RJI, "bitCount", "(I)I"⟩
theorem dJI_bitCount_0 : decode cJI_bitCount 0 = .ok (.iload_n 0, 1) := by decide +kernel
theorem dJI_bitCount_1 : decode cJI_bitCount 1 = .ok (.iload_n 0, 1) := by decide +kernel
theorem dJI_bitCount_2 : decode cJI_bitCount 2 = .ok (.iconst 1, 1) := by decide +kernel
theorem dJI_bitCount_3 : decode cJI_bitCount 3 = .ok (.iushr, 1) := by decide +kernel
theorem dJI_bitCount_4 : decode cJI_bitCount 4 = .ok (.ldc_w 265, 3) := by decide +kernel
theorem dJI_bitCount_7 : decode cJI_bitCount 7 = .ok (.iand, 1) := by decide +kernel
theorem dJI_bitCount_8 : decode cJI_bitCount 8 = .ok (.isub, 1) := by decide +kernel
theorem dJI_bitCount_9 : decode cJI_bitCount 9 = .ok (.istore_n 0, 1) := by decide +kernel
theorem dJI_bitCount_10 : decode cJI_bitCount 10 = .ok (.iload_n 0, 1) := by decide +kernel
theorem dJI_bitCount_11 : decode cJI_bitCount 11 = .ok (.ldc_w 266, 3) := by decide +kernel
theorem dJI_bitCount_14 : decode cJI_bitCount 14 = .ok (.iand, 1) := by decide +kernel
theorem dJI_bitCount_15 : decode cJI_bitCount 15 = .ok (.iload_n 0, 1) := by decide +kernel
theorem dJI_bitCount_16 : decode cJI_bitCount 16 = .ok (.iconst 2, 1) := by decide +kernel
theorem dJI_bitCount_17 : decode cJI_bitCount 17 = .ok (.iushr, 1) := by decide +kernel
theorem dJI_bitCount_18 : decode cJI_bitCount 18 = .ok (.ldc_w 266, 3) := by decide +kernel
theorem dJI_bitCount_21 : decode cJI_bitCount 21 = .ok (.iand, 1) := by decide +kernel
theorem dJI_bitCount_22 : decode cJI_bitCount 22 = .ok (.iadd, 1) := by decide +kernel
theorem dJI_bitCount_23 : decode cJI_bitCount 23 = .ok (.istore_n 0, 1) := by decide +kernel
theorem dJI_bitCount_24 : decode cJI_bitCount 24 = .ok (.iload_n 0, 1) := by decide +kernel
theorem dJI_bitCount_25 : decode cJI_bitCount 25 = .ok (.iload_n 0, 1) := by decide +kernel
theorem dJI_bitCount_26 : decode cJI_bitCount 26 = .ok (.iconst 4, 1) := by decide +kernel
theorem dJI_bitCount_27 : decode cJI_bitCount 27 = .ok (.iushr, 1) := by decide +kernel
theorem dJI_bitCount_28 : decode cJI_bitCount 28 = .ok (.iadd, 1) := by decide +kernel
theorem dJI_bitCount_29 : decode cJI_bitCount 29 = .ok (.ldc_w 267, 3) := by decide +kernel
theorem dJI_bitCount_32 : decode cJI_bitCount 32 = .ok (.iand, 1) := by decide +kernel
theorem dJI_bitCount_33 : decode cJI_bitCount 33 = .ok (.istore_n 0, 1) := by decide +kernel
theorem dJI_bitCount_34 : decode cJI_bitCount 34 = .ok (.iload_n 0, 1) := by decide +kernel
theorem dJI_bitCount_35 : decode cJI_bitCount 35 = .ok (.iload_n 0, 1) := by decide +kernel
theorem dJI_bitCount_36 : decode cJI_bitCount 36 = .ok (.bipush 8, 2) := by decide +kernel
theorem dJI_bitCount_38 : decode cJI_bitCount 38 = .ok (.iushr, 1) := by decide +kernel
theorem dJI_bitCount_39 : decode cJI_bitCount 39 = .ok (.iadd, 1) := by decide +kernel
theorem dJI_bitCount_40 : decode cJI_bitCount 40 = .ok (.istore_n 0, 1) := by decide +kernel
theorem dJI_bitCount_41 : decode cJI_bitCount 41 = .ok (.iload_n 0, 1) := by decide +kernel
theorem dJI_bitCount_42 : decode cJI_bitCount 42 = .ok (.iload_n 0, 1) := by decide +kernel
theorem dJI_bitCount_43 : decode cJI_bitCount 43 = .ok (.bipush 16, 2) := by decide +kernel
theorem dJI_bitCount_45 : decode cJI_bitCount 45 = .ok (.iushr, 1) := by decide +kernel
theorem dJI_bitCount_46 : decode cJI_bitCount 46 = .ok (.iadd, 1) := by decide +kernel
theorem dJI_bitCount_47 : decode cJI_bitCount 47 = .ok (.istore_n 0, 1) := by decide +kernel
theorem dJI_bitCount_48 : decode cJI_bitCount 48 = .ok (.iload_n 0, 1) := by decide +kernel
theorem dJI_bitCount_49 : decode cJI_bitCount 49 = .ok (.bipush 63, 2) := by decide +kernel
theorem dJI_bitCount_51 : decode cJI_bitCount 51 = .ok (.iand, 1) := by decide +kernel
theorem dJI_bitCount_52 : decode cJI_bitCount 52 = .ok (.ireturn, 1) := by decide +kernel
