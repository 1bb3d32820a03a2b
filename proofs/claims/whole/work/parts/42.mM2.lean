noncomputable def f_X10_canPay (F : Nat) (M : Mem) (LM : MemL) (x1 : Int32) (x2 : Int32) (x3 : Int32) : Option (Int32) :=
  (f_X10_isRow F M LM x1).bind (fun z2 => (if z2 = 0 then (some 0) else (f_X10_isRow F M LM x2).bind (fun z10 => (if z10 = 0 then (some 0) else (if x1 = x2 then (some 0) else (if x3 < 1 then (some 0) else (some 1)))))))
set_option maxRecDepth 100000 in
set_option maxHeartbeats 4000000 in
theorem i_X10_canPay {p : Program} {l : Launch} {e : Env} {s : State} {m : MethodId} {args : Array Value} {below : List Frame} {meth : Method} {c : Code} {D : va_G} {ct : im_ct} {A : Nat → Prop} (X : im_X p (im_rm 2) s m args meth c D ct A RX10 cX10_canPay 4 (some .boolean)) (F : Nat) (aM : Nat → Nat) (M : Mem) (LM : MemL) (x1 : Int32) (x2 : Int32) (x3 : Int32) : Im p l e (im_rm 2) s m args below meth c D A 4 (QI D A (fun z : Int32 => z) (fun z : Int32 => (cat [w_Model ct aM M LM]))) 0 [(0, .ref (aM 0)), (1, .int x1), (2, .int x2), (3, .int x3)] [] (cat [w_Model ct aM M LM]) (f_X10_canPay F M LM x1 x2 x3) := by
  unfold f_X10_canPay
  refine im_aload_n X 0 dX10_canPay_0 rfl rfl ?_
  refine im_iload_n X 1 dX10_canPay_1 rfl rfl ?_
  refine im_cciV X [.int x1] [] [w_Model ct aM M LM] [w_Model ct aM M LM] [0] (fun z2 => [w_Model ct aM M LM]) 0 0 10 rfl rfl rfl cl_X10_90 (c_X10_isRow l D ct F aM M LM x1) rfl (by decide) (fun _ => lc rfl (rfl)) rfl ⟨by decide, by decide⟩ (Nat.le_of_ble_eq_true rfl) rfl dX10_canPay_2 (fun z2 => ?_)
  refine im_ws (cat [w_Model ct aM M LM]) rfl ?_
  refine im_if_eq (tgt := 30) X dX10_canPay_5 rfl ?_ ?_
  · refine im_iconst X 0 dX10_canPay_30 (by decide) ?_
    exact im_zreturn X 0 rfl rfl rfl dX10_canPay_31
  · refine im_aload_n X 0 dX10_canPay_8 rfl rfl ?_
    refine im_iload_n X 2 dX10_canPay_9 rfl rfl ?_
    refine im_cciV X [.int x2] [] [w_Model ct aM M LM] [w_Model ct aM M LM] [0] (fun z10 => [w_Model ct aM M LM]) 0 0 10 rfl rfl rfl cl_X10_90 (c_X10_isRow l D ct F aM M LM x2) rfl (by decide) (fun _ => lc rfl (rfl)) rfl ⟨by decide, by decide⟩ (Nat.le_of_ble_eq_true rfl) rfl dX10_canPay_10 (fun z10 => ?_)
    refine im_ws (cat [w_Model ct aM M LM]) rfl ?_
    refine im_if_eq (tgt := 30) X dX10_canPay_13 rfl ?_ ?_
    · refine im_iconst X 0 dX10_canPay_30 (by decide) ?_
      exact im_zreturn X 0 rfl rfl rfl dX10_canPay_31
    · refine im_iload_n X 1 dX10_canPay_16 rfl rfl ?_
      refine im_iload_n X 2 dX10_canPay_17 rfl rfl ?_
      refine im_icmp_eq (tgt := 30) X dX10_canPay_18 rfl ?_ ?_
      · refine im_iconst X 0 dX10_canPay_30 (by decide) ?_
        exact im_zreturn X 0 rfl rfl rfl dX10_canPay_31
      · refine im_iload_n X 3 dX10_canPay_21 rfl rfl ?_
        refine im_iconst X 1 dX10_canPay_22 (by decide) ?_
        refine im_icmp_lt (tgt := 30) X dX10_canPay_23 rfl ?_ ?_
        · refine im_iconst X 0 dX10_canPay_30 (by decide) ?_
          exact im_zreturn X 0 rfl rfl rfl dX10_canPay_31
        · refine im_iconst X 1 dX10_canPay_26 (by decide) ?_
          refine im_goto (tgt := 31) X dX10_canPay_27 rfl ?_
          exact im_zreturn X 1 rfl rfl rfl dX10_canPay_31
theorem c_X10_canPay (l : Launch) (D : va_G) (ct : im_ct) (F : Nat) (aM : Nat → Nat) (M : Mem) (LM : MemL) (x1 : Int32) (x2 : Int32) (x3 : Int32) : CMi l D ct yX10_canPay cX10_canPay 4 (some .boolean) 2 [.ref (aM 0), .int x1, .int x2, .int x3] (cat [w_Model ct aM M LM]) (f_X10_canPay F M LM x1 x2 x3) (fun z : Int32 => z) (fun z : Int32 => (cat [w_Model ct aM M LM])) :=
  im_met (Qb := fun A => QI D A (fun z : Int32 => z) (fun z : Int32 => (cat [w_Model ct aM M LM]))) (by decide +kernel) (Nat.le_of_ble_eq_true rfl) (fun p e s m args below meth c A X => i_X10_canPay X F aM M LM x1 x2 x3)

noncomputable def f_X10_lesser (F : Nat) (x0 : Int32) (x1 : Int32) : Option (Int32) :=
  (if x1 ≤ x0 then (some x1) else (some x0))
set_option maxRecDepth 100000 in
set_option maxHeartbeats 4000000 in
theorem i_X10_lesser {p : Program} {l : Launch} {e : Env} {s : State} {m : MethodId} {args : Array Value} {below : List Frame} {meth : Method} {c : Code} {D : va_G} {ct : im_ct} {A : Nat → Prop} (X : im_X p (im_rm 0) s m args meth c D ct A RX10 cX10_lesser 2 (some .int)) (F : Nat) (x0 : Int32) (x1 : Int32) : Im p l e (im_rm 0) s m args below meth c D A 2 (QI D A (fun z : Int32 => z) (fun z : Int32 => (cat []))) 0 [(0, .int x0), (1, .int x1)] [] (cat []) (f_X10_lesser F x0 x1) := by
  unfold f_X10_lesser
  refine im_iload_n X 0 dX10_lesser_0 rfl rfl ?_
  refine im_iload_n X 1 dX10_lesser_1 rfl rfl ?_
  refine im_icmp_ge (tgt := 9) X dX10_lesser_2 rfl ?_ ?_
  · refine im_iload_n X 1 dX10_lesser_9 rfl rfl ?_
    exact im_ireturn X x1 rfl rfl dX10_lesser_10
  · refine im_iload_n X 0 dX10_lesser_5 rfl rfl ?_
    refine im_goto (tgt := 10) X dX10_lesser_6 rfl ?_
    exact im_ireturn X x0 rfl rfl dX10_lesser_10
theorem c_X10_lesser (l : Launch) (D : va_G) (ct : im_ct) (F : Nat) (x0 : Int32) (x1 : Int32) : CMi l D ct yX10_lesser cX10_lesser 2 (some .int) 0 [.int x0, .int x1] (cat []) (f_X10_lesser F x0 x1) (fun z : Int32 => z) (fun z : Int32 => (cat [])) :=
  im_met (Qb := fun A => QI D A (fun z : Int32 => z) (fun z : Int32 => (cat []))) (by decide +kernel) (Nat.le_of_ble_eq_true rfl) (fun p e s m args below meth c A X => i_X10_lesser X F x0 x1)

noncomputable def f_X10_floor (F : Nat) (x0 : Int64) (x2 : Int64) : Option (Int64) :=
  dvL x2 (dvL x2 ((if 0 ≤ (lg_cmp (x0 - x0 / x2 * x2) 0) then (some (x0 / x2)) else (some ((x0 / x2) - 1)))))
set_option maxRecDepth 100000 in
set_option maxHeartbeats 4000000 in
theorem i_X10_floor {p : Program} {l : Launch} {e : Env} {s : State} {m : MethodId} {args : Array Value} {below : List Frame} {meth : Method} {c : Code} {D : va_G} {ct : im_ct} {A : Nat → Prop} (X : im_X p (im_rm 0) s m args meth c D ct A RX10 cX10_floor 6 (some .long)) (F : Nat) (x0 : Int64) (x2 : Int64) : Im p l e (im_rm 0) s m args below meth c D A 6 (QL D A (fun z : Int64 => z) (fun z : Int64 => (cat []))) 0 [(0, .long x0), (2, .long x2)] [] (cat []) (f_X10_floor F x0 x2) := by
  unfold f_X10_floor
  refine im_lload_n X 0 dX10_floor_0 rfl rfl ?_
  refine im_lload_n X 1 dX10_floor_1 rfl rfl ?_
  refine im_ldiv X dX10_floor_2 ?_
  refine im_lstore X [1, 2, 0] [(0, .long x0), (2, .long x2), (4, .long (x0 / x2))] dX10_floor_3 (by decide) rfl ?_
  refine im_lload_n X 0 dX10_floor_5 rfl rfl ?_
  refine im_lload_n X 1 dX10_floor_6 rfl rfl ?_
  refine im_lrem X dX10_floor_7 ?_
  refine im_lconst X 0 dX10_floor_8 (by decide) ?_
  refine im_lcmp X dX10_floor_9 ?_
  refine im_if_ge (tgt := 20) X dX10_floor_10 rfl ?_ ?_
  · refine im_lload X 2 dX10_floor_20 rfl ?_
    exact im_lreturn X (x0 / x2) rfl rfl dX10_floor_22
  · refine im_lload X 2 dX10_floor_13 rfl ?_
    refine im_lconst X 1 dX10_floor_15 (by decide) ?_
    refine im_lsub X dX10_floor_16 ?_
    refine im_goto (tgt := 22) X dX10_floor_17 rfl ?_
    exact im_lreturn X ((x0 / x2) - 1) rfl rfl dX10_floor_22
theorem c_X10_floor (l : Launch) (D : va_G) (ct : im_ct) (F : Nat) (x0 : Int64) (x2 : Int64) : CMl l D ct yX10_floor cX10_floor 6 (some .long) 0 [.long x0, .long x2] (cat []) (f_X10_floor F x0 x2) (fun z : Int64 => z) (fun z : Int64 => (cat [])) :=
  im_met (Qb := fun A => QL D A (fun z : Int64 => z) (fun z : Int64 => (cat []))) (by decide +kernel) (Nat.le_of_ble_eq_true rfl) (fun p e s m args below meth c A X => i_X10_floor X F x0 x2)

noncomputable def f_X10_widthAt_4 (F : Nat) (M : Mem) (LM : MemL) (x1 : Int32) (k41 : Int32 → Option (Int32)) : Nat → Int32 → Int32 → Option (Int32)
  | 0, _, _ => none
  | n + 1, x2, x3 =>
  (if x1 ≤ x3 then k41 x2 else ck x3 6 (ck x3 6 ((f_X10_ratio F M LM (x3 + 1)).bind (fun z28 => dv z28 (f_X10_widthAt_4 F M LM x1 k41 n ((((x2 + ((M 10) x3.toNatClampNeg)) - ((M 9) x3.toNatClampNeg)) / z28) + 2) (x3 + 1))))))
set_option maxRecDepth 100000 in
set_option maxHeartbeats 4000000 in
theorem i_X10_widthAt_4 {p : Program} {l : Launch} {e : Env} {s : State} {m : MethodId} {args : Array Value} {below : List Frame} {meth : Method} {c : Code} {D : va_G} {ct : im_ct} {A : Nat → Prop} (X : im_X p (im_rm 1) s m args meth c D ct A RX10 cX10_widthAt 4 (some .int)) (F : Nat) (aM : Nat → Nat) (M : Mem) (LM : MemL) (x1 : Int32) (k41 : Int32 → Option (Int32)) (hk41 : ∀ (x2 : Int32), Im p l e (im_rm 1) s m args below meth c D A 4 (QI D A (fun z : Int32 => z) (fun z : Int32 => (cat [w_Model ct aM M LM]))) 41 [(2, .int x2)] [] (cat [w_Model ct aM M LM]) (k41 x2)) : ∀ (n : Nat) (x2 : Int32) (x3 : Int32), Im p l e (im_rm 1) s m args below meth c D A 4 (QI D A (fun z : Int32 => z) (fun z : Int32 => (cat [w_Model ct aM M LM]))) 4 [(0, .ref (aM 0)), (1, .int x1), (2, .int x2), (3, .int x3)] [] (cat [w_Model ct aM M LM]) (f_X10_widthAt_4 F M LM x1 k41 n x2 x3) := by
  intro n
  induction n with
  | zero => intros; exact im_none
  | succ n ih =>
    intro x2 x3
    unfold f_X10_widthAt_4
    refine im_iload_n X 3 dX10_widthAt_4 rfl rfl ?_
    refine im_iload_n X 1 dX10_widthAt_5 rfl rfl ?_
    refine im_icmp_ge (tgt := 41) X dX10_widthAt_6 rfl ?_ ?_
    · refine im_lv [2] [(2, .int x2)] rfl ?_
      exact hk41 x2
    · refine im_iload_n X 2 dX10_widthAt_9 rfl rfl ?_
      refine im_aload_n X 0 dX10_widthAt_10 rfl rfl ?_
      refine im_cget X 0 0 (v := .ref (aM 10)) fl_X10_42 rfl rfl rfl dX10_widthAt_11 ?_
      refine im_iload_n X 3 dX10_widthAt_14 rfl rfl ?_
      refine im_ciald X 0 10 0 (f := (M 10)) rfl rfl rfl dX10_widthAt_15 ?_
      refine im_iadd X dX10_widthAt_16 ?_
      refine im_aload_n X 0 dX10_widthAt_17 rfl rfl ?_
      refine im_cget X 0 0 (v := .ref (aM 9)) fl_X10_39 rfl rfl rfl dX10_widthAt_18 ?_
      refine im_iload_n X 3 dX10_widthAt_21 rfl rfl ?_
      refine im_ciald X 0 9 0 (f := (M 9)) rfl rfl rfl dX10_widthAt_22 ?_
      refine im_isub X dX10_widthAt_23 ?_
      refine im_aload_n X 0 dX10_widthAt_24 rfl rfl ?_
      refine im_iload_n X 3 dX10_widthAt_25 rfl rfl ?_
      refine im_iconst X 1 dX10_widthAt_26 (by decide) ?_
      refine im_iadd X dX10_widthAt_27 ?_
      refine im_cciV X [.int (x3 + 1)] [.int ((x2 + ((M 10) x3.toNatClampNeg)) - ((M 9) x3.toNatClampNeg))] [w_Model ct aM M LM] [w_Model ct aM M LM] [0] (fun z28 => [w_Model ct aM M LM]) 0 0 10 rfl rfl rfl cl_X10_97 (c_X10_ratio l D ct F aM M LM (x3 + 1)) rfl (by decide) (fun _ => lc rfl (rfl)) rfl ⟨by decide, by decide⟩ (Nat.le_of_ble_eq_true rfl) rfl dX10_widthAt_28 (fun z28 => ?_)
      refine im_ws (cat [w_Model ct aM M LM]) rfl ?_
      refine im_idiv X dX10_widthAt_31 ?_
      refine im_iconst X 2 dX10_widthAt_32 (by decide) ?_
      refine im_iadd X dX10_widthAt_33 ?_
      refine im_istore_n X [1, 2, 0, 3] [(0, .ref (aM 0)), (1, .int x1), (2, .int ((((x2 + ((M 10) x3.toNatClampNeg)) - ((M 9) x3.toNatClampNeg)) / z28) + 2)), (3, .int x3)] dX10_widthAt_34 rfl (by decide) rfl ?_
      refine im_iinc X 3 1 [1, 2, 3, 0] [(0, .ref (aM 0)), (1, .int x1), (2, .int ((((x2 + ((M 10) x3.toNatClampNeg)) - ((M 9) x3.toNatClampNeg)) / z28) + 2)), (3, .int (x3 + 1))] dX10_widthAt_35 (by decide) rfl (by decide) rfl ?_
      refine im_goto (tgt := 4) X dX10_widthAt_38 rfl ?_
      exact ih ((((x2 + ((M 10) x3.toNatClampNeg)) - ((M 9) x3.toNatClampNeg)) / z28) + 2) (x3 + 1)
noncomputable def f_X10_widthAt (F : Nat) (M : Mem) (LM : MemL) (x1 : Int32) : Option (Int32) :=
  f_X10_widthAt_4 F M LM x1 (fun x2_41 => (some x2_41)) F 1 0
set_option maxRecDepth 100000 in
set_option maxHeartbeats 4000000 in
theorem i_X10_widthAt {p : Program} {l : Launch} {e : Env} {s : State} {m : MethodId} {args : Array Value} {below : List Frame} {meth : Method} {c : Code} {D : va_G} {ct : im_ct} {A : Nat → Prop} (X : im_X p (im_rm 1) s m args meth c D ct A RX10 cX10_widthAt 4 (some .int)) (F : Nat) (aM : Nat → Nat) (M : Mem) (LM : MemL) (x1 : Int32) : Im p l e (im_rm 1) s m args below meth c D A 4 (QI D A (fun z : Int32 => z) (fun z : Int32 => (cat [w_Model ct aM M LM]))) 0 [(0, .ref (aM 0)), (1, .int x1)] [] (cat [w_Model ct aM M LM]) (f_X10_widthAt F M LM x1) := by
  unfold f_X10_widthAt
  refine im_iconst X 1 dX10_widthAt_0 (by decide) ?_
  refine im_istore_n X [1, 2, 0] [(0, .ref (aM 0)), (1, .int x1), (2, .int 1)] dX10_widthAt_1 rfl (by decide) rfl ?_
  refine im_iconst X 0 dX10_widthAt_2 (by decide) ?_
  refine im_istore_n X [1, 2, 3, 0] [(0, .ref (aM 0)), (1, .int x1), (2, .int 1), (3, .int 0)] dX10_widthAt_3 rfl (by decide) rfl ?_
  refine i_X10_widthAt_4 X F aM M LM x1 _ (fun x2_41 => ?_) F 1 0
  refine im_iload_n X 0 dX10_widthAt_41 rfl rfl ?_
  exact im_ireturn X x2_41 rfl rfl dX10_widthAt_42
theorem c_X10_widthAt (l : Launch) (D : va_G) (ct : im_ct) (F : Nat) (aM : Nat → Nat) (M : Mem) (LM : MemL) (x1 : Int32) : CMi l D ct yX10_widthAt cX10_widthAt 4 (some .int) 1 [.ref (aM 0), .int x1] (cat [w_Model ct aM M LM]) (f_X10_widthAt F M LM x1) (fun z : Int32 => z) (fun z : Int32 => (cat [w_Model ct aM M LM])) :=
  im_met (Qb := fun A => QI D A (fun z : Int32 => z) (fun z : Int32 => (cat [w_Model ct aM M LM]))) (by decide +kernel) (Nat.le_of_ble_eq_true rfl) (fun p e s m args below meth c A X => i_X10_widthAt X F aM M LM x1)

noncomputable def f_X10_costAt_159 (F : Nat) (M : Mem) (LM : MemL) (x1 : Int32) (x3 : Int64) (x5 : Int32) (x6 : Int32) (x7 : Int32) (s0 : Int32) (k74 : Int32 → Int32 → Option (Int32)) : Option (Int32) :=
  (if 1000000 ≤ x7 then k74 x5 (x6 + 1) else (if x5 ≤ (s0 + x7) then k74 x5 (x6 + 1) else k74 (s0 + x7) (x6 + 1)))
set_option maxRecDepth 100000 in
set_option maxHeartbeats 4000000 in
theorem i_X10_costAt_159 {p : Program} {l : Launch} {e : Env} {s : State} {m : MethodId} {args : Array Value} {below : List Frame} {meth : Method} {c : Code} {D : va_G} {ct : im_ct} {A : Nat → Prop} (X : im_X p (im_rm 1) s m args meth c D ct A RX10 cX10_costAt 9 (some .int)) (F : Nat) (aM : Nat → Nat) (M : Mem) (LM : MemL) (x1 : Int32) (x3 : Int64) (x5 : Int32) (x6 : Int32) (x7 : Int32) (s0 : Int32) (k74 : Int32 → Int32 → Option (Int32)) (hk74 : ∀ (x5 : Int32) (x6 : Int32), Im p l e (im_rm 1) s m args below meth c D A 9 (QI D A (fun z : Int32 => z) (fun z : Int32 => (cat [w_Model ct aM M LM]))) 74 [(0, .ref (aM 0)), (1, .int x1), (3, .long x3), (5, .int x5), (6, .int x6)] [] (cat [w_Model ct aM M LM]) (k74 x5 x6)) : Im p l e (im_rm 1) s m args below meth c D A 9 (QI D A (fun z : Int32 => z) (fun z : Int32 => (cat [w_Model ct aM M LM]))) 159 [(0, .ref (aM 0)), (1, .int x1), (3, .long x3), (5, .int x5), (6, .int x6), (7, .int x7)] [.int s0] (cat [w_Model ct aM M LM]) (f_X10_costAt_159 F M LM x1 x3 x5 x6 x7 s0 k74) := by
  unfold f_X10_costAt_159
  refine im_iload X 5 dX10_costAt_159 rfl ?_
  refine im_iadd X dX10_costAt_161 ?_
  refine im_istore X [1, 2, 3, 4, 5, 6, 0] [(0, .ref (aM 0)), (1, .int x1), (3, .long x3), (5, .int x5), (6, .int x6), (7, .int x7), (8, .int (s0 + x7))] dX10_costAt_162 (by decide) rfl ?_
  refine im_iload X 5 dX10_costAt_164 rfl ?_
  refine im_ldc X kc_X10_221 dX10_costAt_166 ?_
  refine im_icmp_ge (tgt := 182) X dX10_costAt_168 rfl ?_ ?_
  · refine im_iinc X 4 1 [1, 2, 3, 4, 0, 5, 6] [(0, .ref (aM 0)), (1, .int x1), (3, .long x3), (5, .int x5), (6, .int (x6 + 1)), (7, .int x7), (8, .int (s0 + x7))] dX10_costAt_182 (by decide) rfl (by decide) rfl ?_
    refine im_goto (tgt := 74) X dX10_costAt_185 rfl ?_
    refine im_lv [0, 1, 2, 3, 4] [(0, .ref (aM 0)), (1, .int x1), (3, .long x3), (5, .int x5), (6, .int (x6 + 1))] rfl ?_
    exact hk74 x5 (x6 + 1)
  · refine im_iload X 6 dX10_costAt_171 rfl ?_
    refine im_iload X 3 dX10_costAt_173 rfl ?_
    refine im_icmp_ge (tgt := 182) X dX10_costAt_175 rfl ?_ ?_
    · refine im_iinc X 4 1 [1, 2, 3, 4, 0, 5, 6] [(0, .ref (aM 0)), (1, .int x1), (3, .long x3), (5, .int x5), (6, .int (x6 + 1)), (7, .int x7), (8, .int (s0 + x7))] dX10_costAt_182 (by decide) rfl (by decide) rfl ?_
      refine im_goto (tgt := 74) X dX10_costAt_185 rfl ?_
      refine im_lv [0, 1, 2, 3, 4] [(0, .ref (aM 0)), (1, .int x1), (3, .long x3), (5, .int x5), (6, .int (x6 + 1))] rfl ?_
      exact hk74 x5 (x6 + 1)
    · refine im_iload X 6 dX10_costAt_178 rfl ?_
      refine im_istore X [1, 2, 3, 0, 4, 5, 6] [(0, .ref (aM 0)), (1, .int x1), (3, .long x3), (5, .int (s0 + x7)), (6, .int x6), (7, .int x7), (8, .int (s0 + x7))] dX10_costAt_180 (by decide) rfl ?_
      refine im_iinc X 4 1 [1, 2, 3, 4, 0, 5, 6] [(0, .ref (aM 0)), (1, .int x1), (3, .long x3), (5, .int (s0 + x7)), (6, .int (x6 + 1)), (7, .int x7), (8, .int (s0 + x7))] dX10_costAt_182 (by decide) rfl (by decide) rfl ?_
      refine im_goto (tgt := 74) X dX10_costAt_185 rfl ?_
      refine im_lv [0, 1, 2, 3, 4] [(0, .ref (aM 0)), (1, .int x1), (3, .long x3), (5, .int (s0 + x7)), (6, .int (x6 + 1))] rfl ?_
      exact hk74 (s0 + x7) (x6 + 1)
noncomputable def f_X10_costAt_74 (F : Nat) (M : Mem) (LM : MemL) (x1 : Int32) (x3 : Int64) (k188 : Int32 → Option (Int32)) : Nat → Int32 → Int32 → Option (Int32)
  | 0, _, _ => none
  | n + 1, x5, x6 =>
  ck x1 6 ((if ((M 10) x1.toNatClampNeg) < x6 then k188 x5 else (f_X10_ratio F M LM (x1 + 1)).bind (fun z94 => dvL (z94).toInt64 ((if (lg_cmp ((x3 - (x6).toInt64) - (x3 - (x6).toInt64) / (z94).toInt64 * (z94).toInt64) 0) = 0 then ck (x1 + 1) 7 ((f_X10_ratio F M LM (x1 + 1)).bind (fun z135 => dvL (z135).toInt64 (ck ((420 * (x1 + 1)) + ((((LM 6) ((x1 + 1)).toNatClampNeg) - ((x3 - (x6).toInt64) / (z135).toInt64))).toInt32) 2520 ((if 0 ≤ x6 then f_X10_costAt_159 F M LM x1 x3 x5 x6 ((M 12) (((420 * (x1 + 1)) + ((((LM 6) ((x1 + 1)).toNatClampNeg) - ((x3 - (x6).toInt64) / (z135).toInt64))).toInt32)).toNatClampNeg) x6 (f_X10_costAt_74 F M LM x1 x3 k188 n) else f_X10_costAt_159 F M LM x1 x3 x5 x6 ((M 12) (((420 * (x1 + 1)) + ((((LM 6) ((x1 + 1)).toNatClampNeg) - ((x3 - (x6).toInt64) / (z135).toInt64))).toInt32)).toNatClampNeg) (-x6) (f_X10_costAt_74 F M LM x1 x3 k188 n)))))) else f_X10_costAt_74 F M LM x1 x3 k188 n x5 (x6 + 1))))))
set_option maxRecDepth 100000 in
set_option maxHeartbeats 4000000 in
theorem i_X10_costAt_74 {p : Program} {l : Launch} {e : Env} {s : State} {m : MethodId} {args : Array Value} {below : List Frame} {meth : Method} {c : Code} {D : va_G} {ct : im_ct} {A : Nat → Prop} (X : im_X p (im_rm 1) s m args meth c D ct A RX10 cX10_costAt 9 (some .int)) (F : Nat) (aM : Nat → Nat) (M : Mem) (LM : MemL) (x1 : Int32) (x3 : Int64) (k188 : Int32 → Option (Int32)) (hk188 : ∀ (x5 : Int32), Im p l e (im_rm 1) s m args below meth c D A 9 (QI D A (fun z : Int32 => z) (fun z : Int32 => (cat [w_Model ct aM M LM]))) 188 [(5, .int x5)] [] (cat [w_Model ct aM M LM]) (k188 x5)) : ∀ (n : Nat) (x5 : Int32) (x6 : Int32), Im p l e (im_rm 1) s m args below meth c D A 9 (QI D A (fun z : Int32 => z) (fun z : Int32 => (cat [w_Model ct aM M LM]))) 74 [(0, .ref (aM 0)), (1, .int x1), (3, .long x3), (5, .int x5), (6, .int x6)] [] (cat [w_Model ct aM M LM]) (f_X10_costAt_74 F M LM x1 x3 k188 n x5 x6) := by
  intro n
  induction n with
  | zero => intros; exact im_none
  | succ n ih =>
    intro x5 x6
    unfold f_X10_costAt_74
    refine im_iload X 4 dX10_costAt_74 rfl ?_
    refine im_aload_n X 0 dX10_costAt_76 rfl rfl ?_
    refine im_cget X 0 0 (v := .ref (aM 10)) fl_X10_42 rfl rfl rfl dX10_costAt_77 ?_
    refine im_iload_n X 1 dX10_costAt_80 rfl rfl ?_
    refine im_ciald X 0 10 0 (f := (M 10)) rfl rfl rfl dX10_costAt_81 ?_
    refine im_icmp_gt (tgt := 188) X dX10_costAt_82 rfl ?_ ?_
    · refine im_lv [3] [(5, .int x5)] rfl ?_
      exact hk188 x5
    · refine im_lload_n X 2 dX10_costAt_85 rfl rfl ?_
      refine im_iload X 4 dX10_costAt_86 rfl ?_
      refine im_i2l X dX10_costAt_88 ?_
      refine im_lsub X dX10_costAt_89 ?_
      refine im_aload_n X 0 dX10_costAt_90 rfl rfl ?_
      refine im_iload_n X 1 dX10_costAt_91 rfl rfl ?_
      refine im_iconst X 1 dX10_costAt_92 (by decide) ?_
      refine im_iadd X dX10_costAt_93 ?_
      refine im_cciV X [.int (x1 + 1)] [.long (x3 - (x6).toInt64)] [w_Model ct aM M LM] [w_Model ct aM M LM] [0] (fun z94 => [w_Model ct aM M LM]) 0 0 10 rfl rfl rfl cl_X10_97 (c_X10_ratio l D ct F aM M LM (x1 + 1)) rfl (by decide) (fun _ => lc rfl (rfl)) rfl ⟨by decide, by decide⟩ (Nat.le_of_ble_eq_true rfl) rfl dX10_costAt_94 (fun z94 => ?_)
      refine im_ws (cat [w_Model ct aM M LM]) rfl ?_
      refine im_i2l X dX10_costAt_97 ?_
      refine im_lrem X dX10_costAt_98 ?_
      refine im_lconst X 0 dX10_costAt_99 (by decide) ?_
      refine im_lcmp X dX10_costAt_100 ?_
      refine im_if_eq (tgt := 107) X dX10_costAt_101 rfl ?_ ?_
      · refine im_aload_n X 0 dX10_costAt_107 rfl rfl ?_
        refine im_cget X 0 0 (v := .ref (aM 12)) fl_X10_48 rfl rfl rfl dX10_costAt_108 ?_
        refine im_sipush X 420 dX10_costAt_111 (by decide) ?_
        refine im_iload_n X 1 dX10_costAt_114 rfl rfl ?_
        refine im_iconst X 1 dX10_costAt_115 (by decide) ?_
        refine im_iadd X dX10_costAt_116 ?_
        refine im_imul X dX10_costAt_117 ?_
        refine im_aload_n X 0 dX10_costAt_118 rfl rfl ?_
        refine im_cget X 0 0 (v := .ref (aM 6)) fl_X10_29 rfl rfl rfl dX10_costAt_119 ?_
        refine im_iload_n X 1 dX10_costAt_122 rfl rfl ?_
        refine im_iconst X 1 dX10_costAt_123 (by decide) ?_
        refine im_iadd X dX10_costAt_124 ?_
        refine im_clald X 0 6 1 (f := (LM 6)) rfl rfl rfl dX10_costAt_125 ?_
        refine im_lload_n X 2 dX10_costAt_126 rfl rfl ?_
        refine im_iload X 4 dX10_costAt_127 rfl ?_
        refine im_i2l X dX10_costAt_129 ?_
        refine im_lsub X dX10_costAt_130 ?_
        refine im_aload_n X 0 dX10_costAt_131 rfl rfl ?_
        refine im_iload_n X 1 dX10_costAt_132 rfl rfl ?_
        refine im_iconst X 1 dX10_costAt_133 (by decide) ?_
        refine im_iadd X dX10_costAt_134 ?_
        refine im_cciV X [.int (x1 + 1)] [.long (x3 - (x6).toInt64), .long ((LM 6) ((x1 + 1)).toNatClampNeg), .int (420 * (x1 + 1)), .ref (aM 12)] [w_Model ct aM M LM] [w_Model ct aM M LM] [0] (fun z135 => [w_Model ct aM M LM]) 0 0 10 rfl rfl rfl cl_X10_97 (c_X10_ratio l D ct F aM M LM (x1 + 1)) rfl (by decide) (fun _ => lc rfl (rfl)) rfl ⟨by decide, by decide⟩ (Nat.le_of_ble_eq_true rfl) rfl dX10_costAt_135 (fun z135 => ?_)
        refine im_ws (cat [w_Model ct aM M LM]) rfl ?_
        refine im_i2l X dX10_costAt_138 ?_
        refine im_ldiv X dX10_costAt_139 ?_
        refine im_lsub X dX10_costAt_140 ?_
        refine im_l2i X dX10_costAt_141 ?_
        refine im_iadd X dX10_costAt_142 ?_
        refine im_ciald X 0 12 0 (f := (M 12)) rfl rfl rfl dX10_costAt_143 ?_
        refine im_istore X [1, 2, 3, 4, 5, 0] [(0, .ref (aM 0)), (1, .int x1), (3, .long x3), (5, .int x5), (6, .int x6), (7, .int ((M 12) (((420 * (x1 + 1)) + ((((LM 6) ((x1 + 1)).toNatClampNeg) - ((x3 - (x6).toInt64) / (z135).toInt64))).toInt32)).toNatClampNeg))] dX10_costAt_144 (by decide) rfl ?_
        refine im_iload X 4 dX10_costAt_146 rfl ?_
        refine im_if_ge (tgt := 157) X dX10_costAt_148 rfl ?_ ?_
        · refine im_iload X 4 dX10_costAt_157 rfl ?_
          exact i_X10_costAt_159 X F aM M LM x1 x3 x5 x6 ((M 12) (((420 * (x1 + 1)) + ((((LM 6) ((x1 + 1)).toNatClampNeg) - ((x3 - (x6).toInt64) / (z135).toInt64))).toInt32)).toNatClampNeg) x6 _ ih
        · refine im_iload X 4 dX10_costAt_151 rfl ?_
          refine im_ineg X dX10_costAt_153 ?_
          refine im_goto (tgt := 159) X dX10_costAt_154 rfl ?_
          exact i_X10_costAt_159 X F aM M LM x1 x3 x5 x6 ((M 12) (((420 * (x1 + 1)) + ((((LM 6) ((x1 + 1)).toNatClampNeg) - ((x3 - (x6).toInt64) / (z135).toInt64))).toInt32)).toNatClampNeg) (-x6) _ ih
      · refine im_goto (tgt := 182) X dX10_costAt_104 rfl ?_
        refine im_iinc X 4 1 [1, 2, 3, 4, 0] [(0, .ref (aM 0)), (1, .int x1), (3, .long x3), (5, .int x5), (6, .int (x6 + 1))] dX10_costAt_182 (by decide) rfl (by decide) rfl ?_
        refine im_goto (tgt := 74) X dX10_costAt_185 rfl ?_
        exact ih x5 (x6 + 1)
noncomputable def f_X10_costAt (F : Nat) (M : Mem) (LM : MemL) (x1 : Int32) (x2 : Int32) : Option (Int32) :=
  ck x1 7 (ck 0 226 ((if x1 = (((M 1) (0 : Int32).toNatClampNeg) - 1) then ck x1 6 (ck x1 6 ((f_X10_in F (((LM 6) x1.toNatClampNeg) - (x2).toInt64) (((M 9) x1.toNatClampNeg)).toInt64 (((M 10) x1.toNatClampNeg)).toInt64).bind (fun z37 => (if z37 = 0 then (some 1000000) else (if 0 ≤ (lg_cmp (((LM 6) x1.toNatClampNeg) - (x2).toInt64) 0) then (some ((((LM 6) x1.toNatClampNeg) - (x2).toInt64)).toInt32) else (some ((-(((LM 6) x1.toNatClampNeg) - (x2).toInt64))).toInt32)))))) else ck x1 6 (f_X10_costAt_74 F M LM x1 (((LM 6) x1.toNatClampNeg) - (x2).toInt64) (fun x5_188 => (some x5_188)) F 1000000 ((M 9) x1.toNatClampNeg)))))
set_option maxRecDepth 100000 in
set_option maxHeartbeats 4000000 in
theorem i_X10_costAt {p : Program} {l : Launch} {e : Env} {s : State} {m : MethodId} {args : Array Value} {below : List Frame} {meth : Method} {c : Code} {D : va_G} {ct : im_ct} {A : Nat → Prop} (X : im_X p (im_rm 1) s m args meth c D ct A RX10 cX10_costAt 9 (some .int)) (F : Nat) (aM : Nat → Nat) (M : Mem) (LM : MemL) (x1 : Int32) (x2 : Int32) : Im p l e (im_rm 1) s m args below meth c D A 9 (QI D A (fun z : Int32 => z) (fun z : Int32 => (cat [w_Model ct aM M LM]))) 0 [(0, .ref (aM 0)), (1, .int x1), (2, .int x2)] [] (cat [w_Model ct aM M LM]) (f_X10_costAt F M LM x1 x2) := by
  unfold f_X10_costAt
  refine im_aload_n X 0 dX10_costAt_0 rfl rfl ?_
  refine im_cget X 0 0 (v := .ref (aM 6)) fl_X10_29 rfl rfl rfl dX10_costAt_1 ?_
  refine im_iload_n X 1 dX10_costAt_4 rfl rfl ?_
  refine im_clald X 0 6 1 (f := (LM 6)) rfl rfl rfl dX10_costAt_5 ?_
  refine im_iload_n X 2 dX10_costAt_6 rfl rfl ?_
  refine im_i2l X dX10_costAt_7 ?_
  refine im_lsub X dX10_costAt_8 ?_
  refine im_lstore_n X [1, 2, 3, 0] [(0, .ref (aM 0)), (1, .int x1), (2, .int x2), (3, .long (((LM 6) x1.toNatClampNeg) - (x2).toInt64))] dX10_costAt_9 rfl (by decide) rfl ?_
  refine im_iload_n X 1 dX10_costAt_10 rfl rfl ?_
  refine im_aload_n X 0 dX10_costAt_11 rfl rfl ?_
  refine im_cget X 0 0 (v := .ref (aM 1)) fl_X10_13 rfl rfl rfl dX10_costAt_12 ?_
  refine im_iconst X 0 dX10_costAt_15 (by decide) ?_
  refine im_ciald X 0 1 0 (f := (M 1)) rfl rfl rfl dX10_costAt_16 ?_
  refine im_iconst X 1 dX10_costAt_17 (by decide) ?_
  refine im_isub X dX10_costAt_18 ?_
  refine im_icmp_ne (tgt := 62) X dX10_costAt_19 rfl ?_ ?_
  · refine im_ldc X kc_X10_221 dX10_costAt_62 ?_
    refine im_istore X [1, 2, 3, 4, 0] [(0, .ref (aM 0)), (1, .int x1), (2, .int x2), (3, .long (((LM 6) x1.toNatClampNeg) - (x2).toInt64)), (5, .int 1000000)] dX10_costAt_64 (by decide) rfl ?_
    refine im_aload_n X 0 dX10_costAt_66 rfl rfl ?_
    refine im_cget X 0 0 (v := .ref (aM 9)) fl_X10_39 rfl rfl rfl dX10_costAt_67 ?_
    refine im_iload_n X 1 dX10_costAt_70 rfl rfl ?_
    refine im_ciald X 0 9 0 (f := (M 9)) rfl rfl rfl dX10_costAt_71 ?_
    refine im_istore X [1, 2, 3, 4, 5, 0] [(0, .ref (aM 0)), (1, .int x1), (2, .int x2), (3, .long (((LM 6) x1.toNatClampNeg) - (x2).toInt64)), (5, .int 1000000), (6, .int ((M 9) x1.toNatClampNeg))] dX10_costAt_72 (by decide) rfl ?_
    refine im_lv [0, 1, 3, 4, 5] [(0, .ref (aM 0)), (1, .int x1), (3, .long (((LM 6) x1.toNatClampNeg) - (x2).toInt64)), (5, .int 1000000), (6, .int ((M 9) x1.toNatClampNeg))] rfl ?_
    refine i_X10_costAt_74 X F aM M LM x1 (((LM 6) x1.toNatClampNeg) - (x2).toInt64) _ (fun x5_188 => ?_) F 1000000 ((M 9) x1.toNatClampNeg)
    refine im_iload X 0 dX10_costAt_188 rfl ?_
    exact im_ireturn X x5_188 rfl rfl dX10_costAt_190
  · refine im_lload_n X 3 dX10_costAt_22 rfl rfl ?_
    refine im_aload_n X 0 dX10_costAt_23 rfl rfl ?_
    refine im_cget X 0 0 (v := .ref (aM 9)) fl_X10_39 rfl rfl rfl dX10_costAt_24 ?_
    refine im_iload_n X 1 dX10_costAt_27 rfl rfl ?_
    refine im_ciald X 0 9 0 (f := (M 9)) rfl rfl rfl dX10_costAt_28 ?_
    refine im_i2l X dX10_costAt_29 ?_
    refine im_aload_n X 0 dX10_costAt_30 rfl rfl ?_
    refine im_cget X 0 0 (v := .ref (aM 10)) fl_X10_42 rfl rfl rfl dX10_costAt_31 ?_
    refine im_iload_n X 1 dX10_costAt_34 rfl rfl ?_
    refine im_ciald X 0 10 0 (f := (M 10)) rfl rfl rfl dX10_costAt_35 ?_
    refine im_i2l X dX10_costAt_36 ?_
    refine im_cciS X [.long (((LM 6) x1.toNatClampNeg) - (x2).toInt64), .long (((M 9) x1.toNatClampNeg)).toInt64, .long (((M 10) x1.toNatClampNeg)).toInt64] [] [w_Model ct aM M LM] [] [] (fun z37 => []) cl_X10_86 (c_X10_in l D ct F (((LM 6) x1.toNatClampNeg) - (x2).toInt64) (((M 9) x1.toNatClampNeg)).toInt64 (((M 10) x1.toNatClampNeg)).toInt64) rfl (by decide) (fun _ => rfl) rfl ⟨by decide, by decide⟩ (Nat.le_of_ble_eq_true rfl) rfl dX10_costAt_37 (fun z37 => ?_)
    refine im_ws (cat [w_Model ct aM M LM]) rfl ?_
    refine im_if_eq (tgt := 59) X dX10_costAt_40 rfl ?_ ?_
    · refine im_ldc X kc_X10_221 dX10_costAt_59 ?_
      exact im_ireturn X 1000000 rfl rfl dX10_costAt_61
    · refine im_lload_n X 3 dX10_costAt_43 rfl rfl ?_
      refine im_lconst X 0 dX10_costAt_44 (by decide) ?_
      refine im_lcmp X dX10_costAt_45 ?_
      refine im_if_ge (tgt := 54) X dX10_costAt_46 rfl ?_ ?_
      · refine im_lload_n X 3 dX10_costAt_54 rfl rfl ?_
        refine im_l2i X dX10_costAt_55 ?_
        refine im_goto (tgt := 61) X dX10_costAt_56 rfl ?_
        exact im_ireturn X ((((LM 6) x1.toNatClampNeg) - (x2).toInt64)).toInt32 rfl rfl dX10_costAt_61
      · refine im_lload_n X 3 dX10_costAt_49 rfl rfl ?_
        refine im_lneg X dX10_costAt_50 ?_
        refine im_goto (tgt := 55) X dX10_costAt_51 rfl ?_
        refine im_l2i X dX10_costAt_55 ?_
        refine im_goto (tgt := 61) X dX10_costAt_56 rfl ?_
        exact im_ireturn X ((-(((LM 6) x1.toNatClampNeg) - (x2).toInt64))).toInt32 rfl rfl dX10_costAt_61
theorem c_X10_costAt (l : Launch) (D : va_G) (ct : im_ct) (F : Nat) (aM : Nat → Nat) (M : Mem) (LM : MemL) (x1 : Int32) (x2 : Int32) : CMi l D ct yX10_costAt cX10_costAt 9 (some .int) 1 [.ref (aM 0), .int x1, .int x2] (cat [w_Model ct aM M LM]) (f_X10_costAt F M LM x1 x2) (fun z : Int32 => z) (fun z : Int32 => (cat [w_Model ct aM M LM])) :=
  im_met (Qb := fun A => QI D A (fun z : Int32 => z) (fun z : Int32 => (cat [w_Model ct aM M LM]))) (by decide +kernel) (Nat.le_of_ble_eq_true rfl) (fun p e s m args below meth c A X => i_X10_costAt X F aM M LM x1 x2)

noncomputable def f_X10_firstOf_102 (F : Nat) (M : Mem) (LM : MemL) (x1 : Int32) (x2 : Int64) (x4 : Int32) (x5 : Int32) (x6 : Int32) (s0 : Int32) (k30 : Int32 → Option (Int32)) (k123 : Int32 → Option (Int32)) : Option (Int32) :=
  ck ((420 * (x1 + 1)) + x6) 2520 ((if (s0 + ((M 12) (((420 * (x1 + 1)) + x6)).toNatClampNeg)) = x4 then k123 x5 else k30 (x5 + 1)))
set_option maxRecDepth 100000 in
set_option maxHeartbeats 4000000 in
theorem i_X10_firstOf_102 {p : Program} {l : Launch} {e : Env} {s : State} {m : MethodId} {args : Array Value} {below : List Frame} {meth : Method} {c : Code} {D : va_G} {ct : im_ct} {A : Nat → Prop} (X : im_X p (im_rm 1) s m args meth c D ct A RX10 cX10_firstOf 7 (some .int)) (F : Nat) (aM : Nat → Nat) (M : Mem) (LM : MemL) (x1 : Int32) (x2 : Int64) (x4 : Int32) (x5 : Int32) (x6 : Int32) (s0 : Int32) (k30 : Int32 → Option (Int32)) (hk30 : ∀ (x5 : Int32), Im p l e (im_rm 1) s m args below meth c D A 7 (QI D A (fun z : Int32 => z) (fun z : Int32 => (cat [w_Model ct aM M LM]))) 30 [(0, .ref (aM 0)), (1, .int x1), (2, .long x2), (4, .int x4), (5, .int x5)] [] (cat [w_Model ct aM M LM]) (k30 x5)) (k123 : Int32 → Option (Int32)) (hk123 : ∀ (x5 : Int32), Im p l e (im_rm 1) s m args below meth c D A 7 (QI D A (fun z : Int32 => z) (fun z : Int32 => (cat [w_Model ct aM M LM]))) 123 [(5, .int x5)] [] (cat [w_Model ct aM M LM]) (k123 x5)) : Im p l e (im_rm 1) s m args below meth c D A 7 (QI D A (fun z : Int32 => z) (fun z : Int32 => (cat [w_Model ct aM M LM]))) 102 [(0, .ref (aM 0)), (1, .int x1), (2, .long x2), (4, .int x4), (5, .int x5), (6, .int x6)] [.int s0] (cat [w_Model ct aM M LM]) (f_X10_firstOf_102 F M LM x1 x2 x4 x5 x6 s0 k30 k123) := by
  unfold f_X10_firstOf_102
  refine im_aload_n X 0 dX10_firstOf_102 rfl rfl ?_
  refine im_cget X 0 0 (v := .ref (aM 12)) fl_X10_48 rfl rfl rfl dX10_firstOf_103 ?_
  refine im_sipush X 420 dX10_firstOf_106 (by decide) ?_
  refine im_iload_n X 1 dX10_firstOf_109 rfl rfl ?_
  refine im_iconst X 1 dX10_firstOf_110 (by decide) ?_
  refine im_iadd X dX10_firstOf_111 ?_
  refine im_imul X dX10_firstOf_112 ?_
  refine im_iload X 5 dX10_firstOf_113 rfl ?_
  refine im_iadd X dX10_firstOf_115 ?_
  refine im_ciald X 0 12 0 (f := (M 12)) rfl rfl rfl dX10_firstOf_116 ?_
  refine im_iadd X dX10_firstOf_117 ?_
  refine im_iload X 3 dX10_firstOf_118 rfl ?_
  refine im_icmp_ne (tgt := 126) X dX10_firstOf_120 rfl ?_ ?_
  · refine im_iinc X 4 1 [1, 2, 3, 4, 0, 5] [(0, .ref (aM 0)), (1, .int x1), (2, .long x2), (4, .int x4), (5, .int (x5 + 1)), (6, .int x6)] dX10_firstOf_126 (by decide) rfl (by decide) rfl ?_
    refine im_goto (tgt := 30) X dX10_firstOf_129 rfl ?_
    refine im_lv [0, 1, 2, 3, 4] [(0, .ref (aM 0)), (1, .int x1), (2, .long x2), (4, .int x4), (5, .int (x5 + 1))] rfl ?_
    exact hk30 (x5 + 1)
  · refine im_lv [4] [(5, .int x5)] rfl ?_
    exact hk123 x5
noncomputable def f_X10_firstOf_30 (F : Nat) (M : Mem) (LM : MemL) (x1 : Int32) (x2 : Int64) (x4 : Int32) (k123 : Int32 → Option (Int32)) (k132 : Option (Int32)) : Nat → Int32 → Option (Int32)
  | 0, _ => none
  | n + 1, x5 =>
  ck x1 6 ((if ((M 10) x1.toNatClampNeg) < x5 then k132 else (f_X10_ratio F M LM (x1 + 1)).bind (fun z50 => dvL (z50).toInt64 ((if (lg_cmp ((x2 - (x5).toInt64) - (x2 - (x5).toInt64) / (z50).toInt64 * (z50).toInt64) 0) = 0 then ck (x1 + 1) 7 ((f_X10_ratio F M LM (x1 + 1)).bind (fun z80 => dvL (z80).toInt64 ((if 0 ≤ x5 then f_X10_firstOf_102 F M LM x1 x2 x4 x5 ((((LM 6) ((x1 + 1)).toNatClampNeg) - ((x2 - (x5).toInt64) / (z80).toInt64))).toInt32 x5 (f_X10_firstOf_30 F M LM x1 x2 x4 k123 k132 n) k123 else f_X10_firstOf_102 F M LM x1 x2 x4 x5 ((((LM 6) ((x1 + 1)).toNatClampNeg) - ((x2 - (x5).toInt64) / (z80).toInt64))).toInt32 (-x5) (f_X10_firstOf_30 F M LM x1 x2 x4 k123 k132 n) k123)))) else f_X10_firstOf_30 F M LM x1 x2 x4 k123 k132 n (x5 + 1))))))
set_option maxRecDepth 100000 in
set_option maxHeartbeats 4000000 in
theorem i_X10_firstOf_30 {p : Program} {l : Launch} {e : Env} {s : State} {m : MethodId} {args : Array Value} {below : List Frame} {meth : Method} {c : Code} {D : va_G} {ct : im_ct} {A : Nat → Prop} (X : im_X p (im_rm 1) s m args meth c D ct A RX10 cX10_firstOf 7 (some .int)) (F : Nat) (aM : Nat → Nat) (M : Mem) (LM : MemL) (x1 : Int32) (x2 : Int64) (x4 : Int32) (k123 : Int32 → Option (Int32)) (hk123 : ∀ (x5 : Int32), Im p l e (im_rm 1) s m args below meth c D A 7 (QI D A (fun z : Int32 => z) (fun z : Int32 => (cat [w_Model ct aM M LM]))) 123 [(5, .int x5)] [] (cat [w_Model ct aM M LM]) (k123 x5)) (k132 : Option (Int32)) (hk132 : Im p l e (im_rm 1) s m args below meth c D A 7 (QI D A (fun z : Int32 => z) (fun z : Int32 => (cat [w_Model ct aM M LM]))) 132 [] [] (cat [w_Model ct aM M LM]) (k132)) : ∀ (n : Nat) (x5 : Int32), Im p l e (im_rm 1) s m args below meth c D A 7 (QI D A (fun z : Int32 => z) (fun z : Int32 => (cat [w_Model ct aM M LM]))) 30 [(0, .ref (aM 0)), (1, .int x1), (2, .long x2), (4, .int x4), (5, .int x5)] [] (cat [w_Model ct aM M LM]) (f_X10_firstOf_30 F M LM x1 x2 x4 k123 k132 n x5) := by
  intro n
  induction n with
  | zero => intros; exact im_none
  | succ n ih =>
    intro x5
    unfold f_X10_firstOf_30
    refine im_iload X 4 dX10_firstOf_30 rfl ?_
    refine im_aload_n X 0 dX10_firstOf_32 rfl rfl ?_
    refine im_cget X 0 0 (v := .ref (aM 10)) fl_X10_42 rfl rfl rfl dX10_firstOf_33 ?_
    refine im_iload_n X 1 dX10_firstOf_36 rfl rfl ?_
    refine im_ciald X 0 10 0 (f := (M 10)) rfl rfl rfl dX10_firstOf_37 ?_
    refine im_icmp_gt (tgt := 132) X dX10_firstOf_38 rfl ?_ ?_
    · refine im_lv [] [] rfl ?_
      exact hk132
    · refine im_lload_n X 2 dX10_firstOf_41 rfl rfl ?_
      refine im_iload X 4 dX10_firstOf_42 rfl ?_
      refine im_i2l X dX10_firstOf_44 ?_
      refine im_lsub X dX10_firstOf_45 ?_
      refine im_aload_n X 0 dX10_firstOf_46 rfl rfl ?_
      refine im_iload_n X 1 dX10_firstOf_47 rfl rfl ?_
      refine im_iconst X 1 dX10_firstOf_48 (by decide) ?_
      refine im_iadd X dX10_firstOf_49 ?_
      refine im_cciV X [.int (x1 + 1)] [.long (x2 - (x5).toInt64)] [w_Model ct aM M LM] [w_Model ct aM M LM] [0] (fun z50 => [w_Model ct aM M LM]) 0 0 10 rfl rfl rfl cl_X10_97 (c_X10_ratio l D ct F aM M LM (x1 + 1)) rfl (by decide) (fun _ => lc rfl (rfl)) rfl ⟨by decide, by decide⟩ (Nat.le_of_ble_eq_true rfl) rfl dX10_firstOf_50 (fun z50 => ?_)
      refine im_ws (cat [w_Model ct aM M LM]) rfl ?_
      refine im_i2l X dX10_firstOf_53 ?_
      refine im_lrem X dX10_firstOf_54 ?_
      refine im_lconst X 0 dX10_firstOf_55 (by decide) ?_
      refine im_lcmp X dX10_firstOf_56 ?_
      refine im_if_eq (tgt := 63) X dX10_firstOf_57 rfl ?_ ?_
      · refine im_aload_n X 0 dX10_firstOf_63 rfl rfl ?_
        refine im_cget X 0 0 (v := .ref (aM 6)) fl_X10_29 rfl rfl rfl dX10_firstOf_64 ?_
        refine im_iload_n X 1 dX10_firstOf_67 rfl rfl ?_
        refine im_iconst X 1 dX10_firstOf_68 (by decide) ?_
        refine im_iadd X dX10_firstOf_69 ?_
        refine im_clald X 0 6 1 (f := (LM 6)) rfl rfl rfl dX10_firstOf_70 ?_
        refine im_lload_n X 2 dX10_firstOf_71 rfl rfl ?_
        refine im_iload X 4 dX10_firstOf_72 rfl ?_
        refine im_i2l X dX10_firstOf_74 ?_
        refine im_lsub X dX10_firstOf_75 ?_
        refine im_aload_n X 0 dX10_firstOf_76 rfl rfl ?_
        refine im_iload_n X 1 dX10_firstOf_77 rfl rfl ?_
        refine im_iconst X 1 dX10_firstOf_78 (by decide) ?_
        refine im_iadd X dX10_firstOf_79 ?_
        refine im_cciV X [.int (x1 + 1)] [.long (x2 - (x5).toInt64), .long ((LM 6) ((x1 + 1)).toNatClampNeg)] [w_Model ct aM M LM] [w_Model ct aM M LM] [0] (fun z80 => [w_Model ct aM M LM]) 0 0 10 rfl rfl rfl cl_X10_97 (c_X10_ratio l D ct F aM M LM (x1 + 1)) rfl (by decide) (fun _ => lc rfl (rfl)) rfl ⟨by decide, by decide⟩ (Nat.le_of_ble_eq_true rfl) rfl dX10_firstOf_80 (fun z80 => ?_)
        refine im_ws (cat [w_Model ct aM M LM]) rfl ?_
        refine im_i2l X dX10_firstOf_83 ?_
        refine im_ldiv X dX10_firstOf_84 ?_
        refine im_lsub X dX10_firstOf_85 ?_
        refine im_l2i X dX10_firstOf_86 ?_
        refine im_istore X [1, 2, 3, 4, 5, 0] [(0, .ref (aM 0)), (1, .int x1), (2, .long x2), (4, .int x4), (5, .int x5), (6, .int ((((LM 6) ((x1 + 1)).toNatClampNeg) - ((x2 - (x5).toInt64) / (z80).toInt64))).toInt32)] dX10_firstOf_87 (by decide) rfl ?_
        refine im_iload X 4 dX10_firstOf_89 rfl ?_
        refine im_if_ge (tgt := 100) X dX10_firstOf_91 rfl ?_ ?_
        · refine im_iload X 4 dX10_firstOf_100 rfl ?_
          exact i_X10_firstOf_102 X F aM M LM x1 x2 x4 x5 ((((LM 6) ((x1 + 1)).toNatClampNeg) - ((x2 - (x5).toInt64) / (z80).toInt64))).toInt32 x5 _ ih _ hk123
        · refine im_iload X 4 dX10_firstOf_94 rfl ?_
          refine im_ineg X dX10_firstOf_96 ?_
          refine im_goto (tgt := 102) X dX10_firstOf_97 rfl ?_
          exact i_X10_firstOf_102 X F aM M LM x1 x2 x4 x5 ((((LM 6) ((x1 + 1)).toNatClampNeg) - ((x2 - (x5).toInt64) / (z80).toInt64))).toInt32 (-x5) _ ih _ hk123
      · refine im_goto (tgt := 126) X dX10_firstOf_60 rfl ?_
        refine im_iinc X 4 1 [1, 2, 3, 4, 0] [(0, .ref (aM 0)), (1, .int x1), (2, .long x2), (4, .int x4), (5, .int (x5 + 1))] dX10_firstOf_126 (by decide) rfl (by decide) rfl ?_
        refine im_goto (tgt := 30) X dX10_firstOf_129 rfl ?_
        exact ih (x5 + 1)
noncomputable def f_X10_firstOf (F : Nat) (M : Mem) (LM : MemL) (x1 : Int32) (x2 : Int64) : Option (Int32) :=
  ck x1 7 (ck ((420 * x1) + ((((LM 6) x1.toNatClampNeg) - x2)).toInt32) 2520 (ck x1 6 (f_X10_firstOf_30 F M LM x1 x2 ((M 12) (((420 * x1) + ((((LM 6) x1.toNatClampNeg) - x2)).toInt32)).toNatClampNeg) (fun x5_123 => (some x5_123)) ((some 0)) F ((M 9) x1.toNatClampNeg))))
set_option maxRecDepth 100000 in
set_option maxHeartbeats 4000000 in
theorem i_X10_firstOf {p : Program} {l : Launch} {e : Env} {s : State} {m : MethodId} {args : Array Value} {below : List Frame} {meth : Method} {c : Code} {D : va_G} {ct : im_ct} {A : Nat → Prop} (X : im_X p (im_rm 1) s m args meth c D ct A RX10 cX10_firstOf 7 (some .int)) (F : Nat) (aM : Nat → Nat) (M : Mem) (LM : MemL) (x1 : Int32) (x2 : Int64) : Im p l e (im_rm 1) s m args below meth c D A 7 (QI D A (fun z : Int32 => z) (fun z : Int32 => (cat [w_Model ct aM M LM]))) 0 [(0, .ref (aM 0)), (1, .int x1), (2, .long x2)] [] (cat [w_Model ct aM M LM]) (f_X10_firstOf F M LM x1 x2) := by
  unfold f_X10_firstOf
  refine im_aload_n X 0 dX10_firstOf_0 rfl rfl ?_
  refine im_cget X 0 0 (v := .ref (aM 12)) fl_X10_48 rfl rfl rfl dX10_firstOf_1 ?_
  refine im_sipush X 420 dX10_firstOf_4 (by decide) ?_
  refine im_iload_n X 1 dX10_firstOf_7 rfl rfl ?_
  refine im_imul X dX10_firstOf_8 ?_
  refine im_aload_n X 0 dX10_firstOf_9 rfl rfl ?_
  refine im_cget X 0 0 (v := .ref (aM 6)) fl_X10_29 rfl rfl rfl dX10_firstOf_10 ?_
  refine im_iload_n X 1 dX10_firstOf_13 rfl rfl ?_
  refine im_clald X 0 6 1 (f := (LM 6)) rfl rfl rfl dX10_firstOf_14 ?_
  refine im_lload_n X 2 dX10_firstOf_15 rfl rfl ?_
  refine im_lsub X dX10_firstOf_16 ?_
  refine im_l2i X dX10_firstOf_17 ?_
  refine im_iadd X dX10_firstOf_18 ?_
  refine im_ciald X 0 12 0 (f := (M 12)) rfl rfl rfl dX10_firstOf_19 ?_
  refine im_istore X [1, 2, 3, 0] [(0, .ref (aM 0)), (1, .int x1), (2, .long x2), (4, .int ((M 12) (((420 * x1) + ((((LM 6) x1.toNatClampNeg) - x2)).toInt32)).toNatClampNeg))] dX10_firstOf_20 (by decide) rfl ?_
  refine im_aload_n X 0 dX10_firstOf_22 rfl rfl ?_
  refine im_cget X 0 0 (v := .ref (aM 9)) fl_X10_39 rfl rfl rfl dX10_firstOf_23 ?_
  refine im_iload_n X 1 dX10_firstOf_26 rfl rfl ?_
  refine im_ciald X 0 9 0 (f := (M 9)) rfl rfl rfl dX10_firstOf_27 ?_
  refine im_istore X [1, 2, 3, 4, 0] [(0, .ref (aM 0)), (1, .int x1), (2, .long x2), (4, .int ((M 12) (((420 * x1) + ((((LM 6) x1.toNatClampNeg) - x2)).toInt32)).toNatClampNeg)), (5, .int ((M 9) x1.toNatClampNeg))] dX10_firstOf_28 (by decide) rfl ?_
  refine i_X10_firstOf_30 X F aM M LM x1 x2 ((M 12) (((420 * x1) + ((((LM 6) x1.toNatClampNeg) - x2)).toInt32)).toNatClampNeg) _ (fun x5_123 => ?_) _ ?_ F ((M 9) x1.toNatClampNeg)
  · refine im_iload X 0 dX10_firstOf_123 rfl ?_
    exact im_ireturn X x5_123 rfl rfl dX10_firstOf_125
  · refine im_iconst X 0 dX10_firstOf_132 (by decide) ?_
    exact im_ireturn X 0 rfl rfl dX10_firstOf_133
theorem c_X10_firstOf (l : Launch) (D : va_G) (ct : im_ct) (F : Nat) (aM : Nat → Nat) (M : Mem) (LM : MemL) (x1 : Int32) (x2 : Int64) : CMi l D ct yX10_firstOf cX10_firstOf 7 (some .int) 1 [.ref (aM 0), .int x1, .long x2] (cat [w_Model ct aM M LM]) (f_X10_firstOf F M LM x1 x2) (fun z : Int32 => z) (fun z : Int32 => (cat [w_Model ct aM M LM])) :=
  im_met (Qb := fun A => QI D A (fun z : Int32 => z) (fun z : Int32 => (cat [w_Model ct aM M LM]))) (by decide +kernel) (Nat.le_of_ble_eq_true rfl) (fun p e s m args below meth c A X => i_X10_firstOf X F aM M LM x1 x2)

noncomputable def f_X10_fewest_9 (F : Nat) (M : Mem) (x1 : Int64) (k60 : MemL → Option (Int32 × Mem × MemL)) : Nat → MemL → Int32 → Option (Int32 × Mem × MemL)
  | 0, _, _ => none
  | n + 1, LM, x3 =>
  ck 0 226 ((if ((M 1) (0 : Int32).toNatClampNeg) ≤ (x3 + 1) then k60 LM else ck x3 7 (ck x3 6 ((f_X10_ratio F M LM (x3 + 1)).bind (fun z46 => (f_X10_floor F (((LM 6) x3.toNatClampNeg) - (((M 9) x3.toNatClampNeg)).toInt64) (z46).toInt64).bind (fun z50 => ck (x3 + 1) 7 (f_X10_fewest_9 F M x1 k60 n (mr LM 6 (vp_updL (LM 6) ((x3 + 1)).toNatClampNeg z50)) (x3 + 1))))))))
set_option maxRecDepth 100000 in
set_option maxHeartbeats 4000000 in
theorem i_X10_fewest_9 {p : Program} {l : Launch} {e : Env} {s : State} {m : MethodId} {args : Array Value} {below : List Frame} {meth : Method} {c : Code} {D : va_G} {ct : im_ct} {A : Nat → Prop} (X : im_X p (im_rm 2) s m args meth c D ct A RX10 cX10_fewest 7 (some .int)) (F : Nat) (aM : Nat → Nat) (M : Mem) (x1 : Int64) (k60 : MemL → Option (Int32 × Mem × MemL)) (hk60 : ∀ (LM : MemL), Im p l e (im_rm 2) s m args below meth c D A 7 (QI D A (fun z : Int32 × Mem × MemL => z.1) (fun z : Int32 × Mem × MemL => (cat [w_Model ct aM z.2.1 z.2.2]))) 60 [(0, .ref (aM 0)), (1, .long x1)] [] (cat [w_Model ct aM M LM]) (k60 LM)) : ∀ (n : Nat) (LM : MemL) (x3 : Int32), Im p l e (im_rm 2) s m args below meth c D A 7 (QI D A (fun z : Int32 × Mem × MemL => z.1) (fun z : Int32 × Mem × MemL => (cat [w_Model ct aM z.2.1 z.2.2]))) 9 [(0, .ref (aM 0)), (1, .long x1), (3, .int x3)] [] (cat [w_Model ct aM M LM]) (f_X10_fewest_9 F M x1 k60 n LM x3) := by
  intro n
  induction n with
  | zero => intros; exact im_none
  | succ n ih =>
    intro LM x3
    unfold f_X10_fewest_9
    refine im_iload_n X 2 dX10_fewest_9 rfl rfl ?_
    refine im_iconst X 1 dX10_fewest_10 (by decide) ?_
    refine im_iadd X dX10_fewest_11 ?_
    refine im_aload_n X 0 dX10_fewest_12 rfl rfl ?_
    refine im_cget X 0 0 (v := .ref (aM 1)) fl_X10_13 rfl rfl rfl dX10_fewest_13 ?_
    refine im_iconst X 0 dX10_fewest_16 (by decide) ?_
    refine im_ciald X 0 1 0 (f := (M 1)) rfl rfl rfl dX10_fewest_17 ?_
    refine im_icmp_ge (tgt := 60) X dX10_fewest_18 rfl ?_ ?_
    · refine im_lv [0, 1] [(0, .ref (aM 0)), (1, .long x1)] rfl ?_
      exact hk60 LM
    · refine im_aload_n X 0 dX10_fewest_21 rfl rfl ?_
      refine im_cget X 0 0 (v := .ref (aM 6)) fl_X10_29 rfl rfl rfl dX10_fewest_22 ?_
      refine im_iload_n X 2 dX10_fewest_25 rfl rfl ?_
      refine im_iconst X 1 dX10_fewest_26 (by decide) ?_
      refine im_iadd X dX10_fewest_27 ?_
      refine im_aload_n X 0 dX10_fewest_28 rfl rfl ?_
      refine im_cget X 0 0 (v := .ref (aM 6)) fl_X10_29 rfl rfl rfl dX10_fewest_29 ?_
      refine im_iload_n X 2 dX10_fewest_32 rfl rfl ?_
      refine im_clald X 0 6 1 (f := (LM 6)) rfl rfl rfl dX10_fewest_33 ?_
      refine im_aload_n X 0 dX10_fewest_34 rfl rfl ?_
      refine im_cget X 0 0 (v := .ref (aM 9)) fl_X10_39 rfl rfl rfl dX10_fewest_35 ?_
      refine im_iload_n X 2 dX10_fewest_38 rfl rfl ?_
      refine im_ciald X 0 9 0 (f := (M 9)) rfl rfl rfl dX10_fewest_39 ?_
      refine im_i2l X dX10_fewest_40 ?_
      refine im_lsub X dX10_fewest_41 ?_
      refine im_aload_n X 0 dX10_fewest_42 rfl rfl ?_
      refine im_iload_n X 2 dX10_fewest_43 rfl rfl ?_
      refine im_iconst X 1 dX10_fewest_44 (by decide) ?_
      refine im_iadd X dX10_fewest_45 ?_
      refine im_cciV X [.int (x3 + 1)] [.long (((LM 6) x3.toNatClampNeg) - (((M 9) x3.toNatClampNeg)).toInt64), .int (x3 + 1), .ref (aM 6)] [w_Model ct aM M LM] [w_Model ct aM M LM] [0] (fun z46 => [w_Model ct aM M LM]) 0 0 10 rfl rfl rfl cl_X10_97 (c_X10_ratio l D ct F aM M LM (x3 + 1)) rfl (by decide) (fun _ => lc rfl (rfl)) rfl ⟨by decide, by decide⟩ (Nat.le_of_ble_eq_true rfl) rfl dX10_fewest_46 (fun z46 => ?_)
      refine im_ws (cat [w_Model ct aM M LM]) rfl ?_
      refine im_i2l X dX10_fewest_49 ?_
      refine im_cclS X [.long (((LM 6) x3.toNatClampNeg) - (((M 9) x3.toNatClampNeg)).toInt64), .long (z46).toInt64] [.int (x3 + 1), .ref (aM 6)] [w_Model ct aM M LM] [] [] (fun z50 => []) cl_X10_222 (c_X10_floor l D ct F (((LM 6) x3.toNatClampNeg) - (((M 9) x3.toNatClampNeg)).toInt64) (z46).toInt64) rfl (by decide) (fun _ => rfl) rfl ⟨by decide, by decide⟩ (Nat.le_of_ble_eq_true rfl) rfl dX10_fewest_50 (fun z50 => ?_)
      refine im_ws (cat [w_Model ct aM M LM]) rfl ?_
      refine im_clast X 0 6 1 (wx_Model ct aM (M 0 0) (M 0 4) (M 0 6) (M 0 7) (M 0 8) (M 0 9) (M 0 24) (M 0 27) (M 0 29) (M 0 31) (M 0 32) (M 0 33) (M 0 34) (M 0 35) (M 1) (M 2) (M 3) (M 4) (M 5) (M 9) (M 10) (M 11) (M 12) (M 13) (M 14) (M 15) (M 16) (M 17) (M 18) (M 19) (M 20) (M 21) (M 22) (vp_updL (LM 6) ((x3 + 1)).toNatClampNeg z50) (LM 7) (LM 8)) [wx_Model ct aM (M 0 0) (M 0 4) (M 0 6) (M 0 7) (M 0 8) (M 0 9) (M 0 24) (M 0 27) (M 0 29) (M 0 31) (M 0 32) (M 0 33) (M 0 34) (M 0 35) (M 1) (M 2) (M 3) (M 4) (M 5) (M 9) (M 10) (M 11) (M 12) (M 13) (M 14) (M 15) (M 16) (M 17) (M 18) (M 19) (M 20) (M 21) (M 22) (vp_updL (LM 6) ((x3 + 1)).toNatClampNeg z50) (LM 7) (LM 8)] (f := (LM 6)) rfl rfl rfl rfl rfl dX10_fewest_53 ?_
      refine im_iinc X 2 1 [1, 2, 0] [(0, .ref (aM 0)), (1, .long x1), (3, .int (x3 + 1))] dX10_fewest_54 (by decide) rfl (by decide) rfl ?_
      refine im_goto (tgt := 9) X dX10_fewest_57 rfl ?_
      exact ih (mr LM 6 (vp_updL (LM 6) ((x3 + 1)).toNatClampNeg z50)) (x3 + 1)
noncomputable def f_X10_fewest_76 (F : Nat) (LM : MemL) (x1 : Int64) (x3 : Int32) (k105 : Mem → Option (Int32 × Mem × MemL)) : Nat → Mem → Int32 → Option (Int32 × Mem × MemL)
  | 0, _, _ => none
  | n + 1, M, x4 =>
  (if 420 ≤ x4 then k105 M else ck ((420 * x3) + x4) 2520 (f_X10_fewest_76 F LM x1 x3 k105 n (mr M 12 (upd (M 12) (((420 * x3) + x4)).toNatClampNeg 1000000)) (x4 + 1)))
set_option maxRecDepth 100000 in
set_option maxHeartbeats 4000000 in
theorem i_X10_fewest_76 {p : Program} {l : Launch} {e : Env} {s : State} {m : MethodId} {args : Array Value} {below : List Frame} {meth : Method} {c : Code} {D : va_G} {ct : im_ct} {A : Nat → Prop} (X : im_X p (im_rm 2) s m args meth c D ct A RX10 cX10_fewest 7 (some .int)) (F : Nat) (aM : Nat → Nat) (LM : MemL) (x1 : Int64) (x3 : Int32) (k105 : Mem → Option (Int32 × Mem × MemL)) (hk105 : ∀ (M : Mem), Im p l e (im_rm 2) s m args below meth c D A 7 (QI D A (fun z : Int32 × Mem × MemL => z.1) (fun z : Int32 × Mem × MemL => (cat [w_Model ct aM z.2.1 z.2.2]))) 105 [(0, .ref (aM 0)), (1, .long x1), (3, .int x3)] [] (cat [w_Model ct aM M LM]) (k105 M)) : ∀ (n : Nat) (M : Mem) (x4 : Int32), Im p l e (im_rm 2) s m args below meth c D A 7 (QI D A (fun z : Int32 × Mem × MemL => z.1) (fun z : Int32 × Mem × MemL => (cat [w_Model ct aM z.2.1 z.2.2]))) 76 [(0, .ref (aM 0)), (1, .long x1), (3, .int x3), (4, .int x4)] [] (cat [w_Model ct aM M LM]) (f_X10_fewest_76 F LM x1 x3 k105 n M x4) := by
  intro n
  induction n with
  | zero => intros; exact im_none
  | succ n ih =>
    intro M x4
    unfold f_X10_fewest_76
    refine im_iload X 3 dX10_fewest_76 rfl ?_
    refine im_sipush X 420 dX10_fewest_78 (by decide) ?_
    refine im_icmp_ge (tgt := 105) X dX10_fewest_81 rfl ?_ ?_
    · refine im_lv [0, 1, 2] [(0, .ref (aM 0)), (1, .long x1), (3, .int x3)] rfl ?_
      exact hk105 M
    · refine im_aload_n X 0 dX10_fewest_84 rfl rfl ?_
      refine im_cget X 0 0 (v := .ref (aM 12)) fl_X10_48 rfl rfl rfl dX10_fewest_85 ?_
      refine im_sipush X 420 dX10_fewest_88 (by decide) ?_
      refine im_iload_n X 2 dX10_fewest_91 rfl rfl ?_
      refine im_imul X dX10_fewest_92 ?_
      refine im_iload X 3 dX10_fewest_93 rfl ?_
      refine im_iadd X dX10_fewest_95 ?_
      refine im_ldc X kc_X10_221 dX10_fewest_96 ?_
      refine im_ciast X 0 12 0 (wx_Model ct aM (M 0 0) (M 0 4) (M 0 6) (M 0 7) (M 0 8) (M 0 9) (M 0 24) (M 0 27) (M 0 29) (M 0 31) (M 0 32) (M 0 33) (M 0 34) (M 0 35) (M 1) (M 2) (M 3) (M 4) (M 5) (M 9) (M 10) (M 11) (upd (M 12) (((420 * x3) + x4)).toNatClampNeg 1000000) (M 13) (M 14) (M 15) (M 16) (M 17) (M 18) (M 19) (M 20) (M 21) (M 22) (LM 6) (LM 7) (LM 8)) [wx_Model ct aM (M 0 0) (M 0 4) (M 0 6) (M 0 7) (M 0 8) (M 0 9) (M 0 24) (M 0 27) (M 0 29) (M 0 31) (M 0 32) (M 0 33) (M 0 34) (M 0 35) (M 1) (M 2) (M 3) (M 4) (M 5) (M 9) (M 10) (M 11) (upd (M 12) (((420 * x3) + x4)).toNatClampNeg 1000000) (M 13) (M 14) (M 15) (M 16) (M 17) (M 18) (M 19) (M 20) (M 21) (M 22) (LM 6) (LM 7) (LM 8)] (f := (M 12)) rfl rfl rfl rfl rfl dX10_fewest_98 ?_
      refine im_iinc X 3 1 [1, 2, 3, 0] [(0, .ref (aM 0)), (1, .long x1), (3, .int x3), (4, .int (x4 + 1))] dX10_fewest_99 (by decide) rfl (by decide) rfl ?_
      refine im_goto (tgt := 76) X dX10_fewest_102 rfl ?_
      exact ih (mr M 12 (upd (M 12) (((420 * x3) + x4)).toNatClampNeg 1000000)) (x4 + 1)
noncomputable def f_X10_fewest_69 (F : Nat) (LM : MemL) (x1 : Int64) (k111 : Mem → Option (Int32 × Mem × MemL)) : Nat → Mem → Int32 → Option (Int32 × Mem × MemL)
  | 0, _, _ => none
  | n + 1, M, x3 =>
  (if x3 < 0 then k111 M else f_X10_fewest_76 F LM x1 x3 (fun M_105 => f_X10_fewest_69 F LM x1 k111 n M_105 (x3 + (-1))) F M 0)
set_option maxRecDepth 100000 in
set_option maxHeartbeats 4000000 in
theorem i_X10_fewest_69 {p : Program} {l : Launch} {e : Env} {s : State} {m : MethodId} {args : Array Value} {below : List Frame} {meth : Method} {c : Code} {D : va_G} {ct : im_ct} {A : Nat → Prop} (X : im_X p (im_rm 2) s m args meth c D ct A RX10 cX10_fewest 7 (some .int)) (F : Nat) (aM : Nat → Nat) (LM : MemL) (x1 : Int64) (k111 : Mem → Option (Int32 × Mem × MemL)) (hk111 : ∀ (M : Mem), Im p l e (im_rm 2) s m args below meth c D A 7 (QI D A (fun z : Int32 × Mem × MemL => z.1) (fun z : Int32 × Mem × MemL => (cat [w_Model ct aM z.2.1 z.2.2]))) 111 [(0, .ref (aM 0)), (1, .long x1)] [] (cat [w_Model ct aM M LM]) (k111 M)) : ∀ (n : Nat) (M : Mem) (x3 : Int32), Im p l e (im_rm 2) s m args below meth c D A 7 (QI D A (fun z : Int32 × Mem × MemL => z.1) (fun z : Int32 × Mem × MemL => (cat [w_Model ct aM z.2.1 z.2.2]))) 69 [(0, .ref (aM 0)), (1, .long x1), (3, .int x3)] [] (cat [w_Model ct aM M LM]) (f_X10_fewest_69 F LM x1 k111 n M x3) := by
  intro n
  induction n with
  | zero => intros; exact im_none
  | succ n ih =>
    intro M x3
    unfold f_X10_fewest_69
    refine im_iload_n X 2 dX10_fewest_69 rfl rfl ?_
    refine im_if_lt (tgt := 111) X dX10_fewest_70 rfl ?_ ?_
    · refine im_lv [0, 1] [(0, .ref (aM 0)), (1, .long x1)] rfl ?_
      exact hk111 M
    · refine im_iconst X 0 dX10_fewest_73 (by decide) ?_
      refine im_istore X [1, 2, 3, 0] [(0, .ref (aM 0)), (1, .long x1), (3, .int x3), (4, .int 0)] dX10_fewest_74 (by decide) rfl ?_
      refine i_X10_fewest_76 X F aM LM x1 x3 _ (fun M_105 => ?_) F M 0
      refine im_iinc X 2 (-1) [1, 2, 0] [(0, .ref (aM 0)), (1, .long x1), (3, .int (x3 + (-1)))] dX10_fewest_105 (by decide) rfl (by decide) rfl ?_
      refine im_goto (tgt := 69) X dX10_fewest_108 rfl ?_
      exact ih M_105 (x3 + (-1))
noncomputable def f_X10_fewest_127 (F : Nat) (LM : MemL) (x1 : Int64) (x3 : Int32) (k163 : Mem → Option (Int32 × Mem × MemL)) : Nat → Mem → Int32 → Option (Int32 × Mem × MemL)
  | 0, _, _ => none
  | n + 1, M, x4 =>
  (f_X10_widthAt F M LM x3).bind (fun z131 => (if z131 ≤ x4 then k163 M else (f_X10_costAt F M LM x3 x4).bind (fun z153 => ck ((420 * x3) + x4) 2520 (f_X10_fewest_127 F LM x1 x3 k163 n (mr M 12 (upd (M 12) (((420 * x3) + x4)).toNatClampNeg z153)) (x4 + 1)))))
set_option maxRecDepth 100000 in
set_option maxHeartbeats 4000000 in
theorem i_X10_fewest_127 {p : Program} {l : Launch} {e : Env} {s : State} {m : MethodId} {args : Array Value} {below : List Frame} {meth : Method} {c : Code} {D : va_G} {ct : im_ct} {A : Nat → Prop} (X : im_X p (im_rm 2) s m args meth c D ct A RX10 cX10_fewest 7 (some .int)) (F : Nat) (aM : Nat → Nat) (LM : MemL) (x1 : Int64) (x3 : Int32) (k163 : Mem → Option (Int32 × Mem × MemL)) (hk163 : ∀ (M : Mem), Im p l e (im_rm 2) s m args below meth c D A 7 (QI D A (fun z : Int32 × Mem × MemL => z.1) (fun z : Int32 × Mem × MemL => (cat [w_Model ct aM z.2.1 z.2.2]))) 163 [(0, .ref (aM 0)), (1, .long x1), (3, .int x3)] [] (cat [w_Model ct aM M LM]) (k163 M)) : ∀ (n : Nat) (M : Mem) (x4 : Int32), Im p l e (im_rm 2) s m args below meth c D A 7 (QI D A (fun z : Int32 × Mem × MemL => z.1) (fun z : Int32 × Mem × MemL => (cat [w_Model ct aM z.2.1 z.2.2]))) 127 [(0, .ref (aM 0)), (1, .long x1), (3, .int x3), (4, .int x4)] [] (cat [w_Model ct aM M LM]) (f_X10_fewest_127 F LM x1 x3 k163 n M x4) := by
  intro n
  induction n with
  | zero => intros; exact im_none
  | succ n ih =>
    intro M x4
    unfold f_X10_fewest_127
    refine im_iload X 3 dX10_fewest_127 rfl ?_
    refine im_aload_n X 0 dX10_fewest_129 rfl rfl ?_
    refine im_iload_n X 2 dX10_fewest_130 rfl rfl ?_
    refine im_cciV X [.int x3] [.int x4] [w_Model ct aM M LM] [w_Model ct aM M LM] [0] (fun z131 => [w_Model ct aM M LM]) 0 0 10 rfl rfl rfl cl_X10_226 (c_X10_widthAt l D ct F aM M LM x3) rfl (by decide) (fun _ => lc rfl (rfl)) rfl ⟨by decide, by decide⟩ (Nat.le_of_ble_eq_true rfl) rfl dX10_fewest_131 (fun z131 => ?_)
    refine im_ws (cat [w_Model ct aM M LM]) rfl ?_
    refine im_icmp_ge (tgt := 163) X dX10_fewest_134 rfl ?_ ?_
    · refine im_lv [0, 1, 2] [(0, .ref (aM 0)), (1, .long x1), (3, .int x3)] rfl ?_
      exact hk163 M
    · refine im_aload_n X 0 dX10_fewest_137 rfl rfl ?_
      refine im_cget X 0 0 (v := .ref (aM 12)) fl_X10_48 rfl rfl rfl dX10_fewest_138 ?_
      refine im_sipush X 420 dX10_fewest_141 (by decide) ?_
      refine im_iload_n X 2 dX10_fewest_144 rfl rfl ?_
      refine im_imul X dX10_fewest_145 ?_
      refine im_iload X 3 dX10_fewest_146 rfl ?_
      refine im_iadd X dX10_fewest_148 ?_
      refine im_aload_n X 0 dX10_fewest_149 rfl rfl ?_
      refine im_iload_n X 2 dX10_fewest_150 rfl rfl ?_
      refine im_iload X 3 dX10_fewest_151 rfl ?_
      refine im_cciV X [.int x3, .int x4] [.int ((420 * x3) + x4), .ref (aM 12)] [w_Model ct aM M LM] [w_Model ct aM M LM] [0] (fun z153 => [w_Model ct aM M LM]) 0 0 10 rfl rfl rfl cl_X10_229 (c_X10_costAt l D ct F aM M LM x3 x4) rfl (by decide) (fun _ => lc rfl (rfl)) rfl ⟨by decide, by decide⟩ (Nat.le_of_ble_eq_true rfl) rfl dX10_fewest_153 (fun z153 => ?_)
      refine im_ws (cat [w_Model ct aM M LM]) rfl ?_
      refine im_ciast X 0 12 0 (wx_Model ct aM (M 0 0) (M 0 4) (M 0 6) (M 0 7) (M 0 8) (M 0 9) (M 0 24) (M 0 27) (M 0 29) (M 0 31) (M 0 32) (M 0 33) (M 0 34) (M 0 35) (M 1) (M 2) (M 3) (M 4) (M 5) (M 9) (M 10) (M 11) (upd (M 12) (((420 * x3) + x4)).toNatClampNeg z153) (M 13) (M 14) (M 15) (M 16) (M 17) (M 18) (M 19) (M 20) (M 21) (M 22) (LM 6) (LM 7) (LM 8)) [wx_Model ct aM (M 0 0) (M 0 4) (M 0 6) (M 0 7) (M 0 8) (M 0 9) (M 0 24) (M 0 27) (M 0 29) (M 0 31) (M 0 32) (M 0 33) (M 0 34) (M 0 35) (M 1) (M 2) (M 3) (M 4) (M 5) (M 9) (M 10) (M 11) (upd (M 12) (((420 * x3) + x4)).toNatClampNeg z153) (M 13) (M 14) (M 15) (M 16) (M 17) (M 18) (M 19) (M 20) (M 21) (M 22) (LM 6) (LM 7) (LM 8)] (f := (M 12)) rfl rfl rfl rfl rfl dX10_fewest_156 ?_
      refine im_iinc X 3 1 [1, 2, 3, 0] [(0, .ref (aM 0)), (1, .long x1), (3, .int x3), (4, .int (x4 + 1))] dX10_fewest_157 (by decide) rfl (by decide) rfl ?_
      refine im_goto (tgt := 127) X dX10_fewest_160 rfl ?_
      exact ih (mr M 12 (upd (M 12) (((420 * x3) + x4)).toNatClampNeg z153)) (x4 + 1)
noncomputable def f_X10_fewest_120 (F : Nat) (LM : MemL) (x1 : Int64) (k169 : Mem → Option (Int32 × Mem × MemL)) : Nat → Mem → Int32 → Option (Int32 × Mem × MemL)
  | 0, _, _ => none
  | n + 1, M, x3 =>
  (if x3 < 0 then k169 M else f_X10_fewest_127 F LM x1 x3 (fun M_163 => f_X10_fewest_120 F LM x1 k169 n M_163 (x3 + (-1))) F M 0)
set_option maxRecDepth 100000 in
set_option maxHeartbeats 4000000 in
theorem i_X10_fewest_120 {p : Program} {l : Launch} {e : Env} {s : State} {m : MethodId} {args : Array Value} {below : List Frame} {meth : Method} {c : Code} {D : va_G} {ct : im_ct} {A : Nat → Prop} (X : im_X p (im_rm 2) s m args meth c D ct A RX10 cX10_fewest 7 (some .int)) (F : Nat) (aM : Nat → Nat) (LM : MemL) (x1 : Int64) (k169 : Mem → Option (Int32 × Mem × MemL)) (hk169 : ∀ (M : Mem), Im p l e (im_rm 2) s m args below meth c D A 7 (QI D A (fun z : Int32 × Mem × MemL => z.1) (fun z : Int32 × Mem × MemL => (cat [w_Model ct aM z.2.1 z.2.2]))) 169 [(0, .ref (aM 0)), (1, .long x1)] [] (cat [w_Model ct aM M LM]) (k169 M)) : ∀ (n : Nat) (M : Mem) (x3 : Int32), Im p l e (im_rm 2) s m args below meth c D A 7 (QI D A (fun z : Int32 × Mem × MemL => z.1) (fun z : Int32 × Mem × MemL => (cat [w_Model ct aM z.2.1 z.2.2]))) 120 [(0, .ref (aM 0)), (1, .long x1), (3, .int x3)] [] (cat [w_Model ct aM M LM]) (f_X10_fewest_120 F LM x1 k169 n M x3) := by
  intro n
  induction n with
  | zero => intros; exact im_none
  | succ n ih =>
    intro M x3
    unfold f_X10_fewest_120
    refine im_iload_n X 2 dX10_fewest_120 rfl rfl ?_
    refine im_if_lt (tgt := 169) X dX10_fewest_121 rfl ?_ ?_
    · refine im_lv [0, 1] [(0, .ref (aM 0)), (1, .long x1)] rfl ?_
      exact hk169 M
    · refine im_iconst X 0 dX10_fewest_124 (by decide) ?_
      refine im_istore X [1, 2, 3, 0] [(0, .ref (aM 0)), (1, .long x1), (3, .int x3), (4, .int 0)] dX10_fewest_125 (by decide) rfl ?_
      refine i_X10_fewest_127 X F aM LM x1 x3 _ (fun M_163 => ?_) F M 0
      refine im_iinc X 2 (-1) [1, 2, 0] [(0, .ref (aM 0)), (1, .long x1), (3, .int (x3 + (-1)))] dX10_fewest_163 (by decide) rfl (by decide) rfl ?_
      refine im_goto (tgt := 120) X dX10_fewest_166 rfl ?_
      exact ih M_163 (x3 + (-1))
noncomputable def f_X10_fewest_191 (F : Nat) (LM : MemL) (x3 : Int32) (k225 : Mem → Option (Int32 × Mem × MemL)) (k271 : Mem → Option (Int32 × Mem × MemL)) : Nat → Mem → Int64 → Int32 → Option (Int32 × Mem × MemL)
  | 0, _, _, _ => none
  | n + 1, M, x4, x6 =>
  ck 0 226 ((if ((M 1) (0 : Int32).toNatClampNeg) ≤ x6 then k271 M else ck x6 6 (ck 0 226 ((if (x6 + 1) = ((M 1) (0 : Int32).toNatClampNeg) then k225 (mr M 11 (upd (M 11) x6.toNatClampNeg (x4).toInt32)) else (f_X10_firstOf F (mr M 11 (upd (M 11) x6.toNatClampNeg (x4).toInt32)) LM x6 x4).bind (fun z238 => ck x6 6 (ck x6 6 ((f_X10_ratio F (mr M 11 (upd (upd (M 11) x6.toNatClampNeg (x4).toInt32) x6.toNatClampNeg z238)) LM (x6 + 1)).bind (fun z258 => dvL (z258).toInt64 (f_X10_fewest_191 F LM x3 k225 k271 n (mr M 11 (upd (upd (M 11) x6.toNatClampNeg (x4).toInt32) x6.toNatClampNeg z238)) ((x4 - (((upd (upd (M 11) x6.toNatClampNeg (x4).toInt32) x6.toNatClampNeg z238) x6.toNatClampNeg)).toInt64) / (z258).toInt64) (x6 + 1)))))))))))
set_option maxRecDepth 100000 in
set_option maxHeartbeats 4000000 in
theorem i_X10_fewest_191 {p : Program} {l : Launch} {e : Env} {s : State} {m : MethodId} {args : Array Value} {below : List Frame} {meth : Method} {c : Code} {D : va_G} {ct : im_ct} {A : Nat → Prop} (X : im_X p (im_rm 2) s m args meth c D ct A RX10 cX10_fewest 7 (some .int)) (F : Nat) (aM : Nat → Nat) (LM : MemL) (x3 : Int32) (k225 : Mem → Option (Int32 × Mem × MemL)) (hk225 : ∀ (M : Mem), Im p l e (im_rm 2) s m args below meth c D A 7 (QI D A (fun z : Int32 × Mem × MemL => z.1) (fun z : Int32 × Mem × MemL => (cat [w_Model ct aM z.2.1 z.2.2]))) 225 [(3, .int x3)] [] (cat [w_Model ct aM M LM]) (k225 M)) (k271 : Mem → Option (Int32 × Mem × MemL)) (hk271 : ∀ (M : Mem), Im p l e (im_rm 2) s m args below meth c D A 7 (QI D A (fun z : Int32 × Mem × MemL => z.1) (fun z : Int32 × Mem × MemL => (cat [w_Model ct aM z.2.1 z.2.2]))) 271 [(3, .int x3)] [] (cat [w_Model ct aM M LM]) (k271 M)) : ∀ (n : Nat) (M : Mem) (x4 : Int64) (x6 : Int32), Im p l e (im_rm 2) s m args below meth c D A 7 (QI D A (fun z : Int32 × Mem × MemL => z.1) (fun z : Int32 × Mem × MemL => (cat [w_Model ct aM z.2.1 z.2.2]))) 191 [(0, .ref (aM 0)), (3, .int x3), (4, .long x4), (6, .int x6)] [] (cat [w_Model ct aM M LM]) (f_X10_fewest_191 F LM x3 k225 k271 n M x4 x6) := by
  intro n
  induction n with
  | zero => intros; exact im_none
  | succ n ih =>
    intro M x4 x6
    unfold f_X10_fewest_191
    refine im_iload X 3 dX10_fewest_191 rfl ?_
    refine im_aload_n X 0 dX10_fewest_193 rfl rfl ?_
    refine im_cget X 0 0 (v := .ref (aM 1)) fl_X10_13 rfl rfl rfl dX10_fewest_194 ?_
    refine im_iconst X 0 dX10_fewest_197 (by decide) ?_
    refine im_ciald X 0 1 0 (f := (M 1)) rfl rfl rfl dX10_fewest_198 ?_
    refine im_icmp_ge (tgt := 271) X dX10_fewest_199 rfl ?_ ?_
    · refine im_lv [1] [(3, .int x3)] rfl ?_
      exact hk271 M
    · refine im_aload_n X 0 dX10_fewest_202 rfl rfl ?_
      refine im_cget X 0 0 (v := .ref (aM 11)) fl_X10_45 rfl rfl rfl dX10_fewest_203 ?_
      refine im_iload X 3 dX10_fewest_206 rfl ?_
      refine im_lload X 2 dX10_fewest_208 rfl ?_
      refine im_l2i X dX10_fewest_210 ?_
      refine im_ciast X 0 11 0 (wx_Model ct aM (M 0 0) (M 0 4) (M 0 6) (M 0 7) (M 0 8) (M 0 9) (M 0 24) (M 0 27) (M 0 29) (M 0 31) (M 0 32) (M 0 33) (M 0 34) (M 0 35) (M 1) (M 2) (M 3) (M 4) (M 5) (M 9) (M 10) (upd (M 11) x6.toNatClampNeg (x4).toInt32) (M 12) (M 13) (M 14) (M 15) (M 16) (M 17) (M 18) (M 19) (M 20) (M 21) (M 22) (LM 6) (LM 7) (LM 8)) [wx_Model ct aM (M 0 0) (M 0 4) (M 0 6) (M 0 7) (M 0 8) (M 0 9) (M 0 24) (M 0 27) (M 0 29) (M 0 31) (M 0 32) (M 0 33) (M 0 34) (M 0 35) (M 1) (M 2) (M 3) (M 4) (M 5) (M 9) (M 10) (upd (M 11) x6.toNatClampNeg (x4).toInt32) (M 12) (M 13) (M 14) (M 15) (M 16) (M 17) (M 18) (M 19) (M 20) (M 21) (M 22) (LM 6) (LM 7) (LM 8)] (f := (M 11)) rfl rfl rfl rfl rfl dX10_fewest_211 ?_
      refine im_iload X 3 dX10_fewest_212 rfl ?_
      refine im_iconst X 1 dX10_fewest_214 (by decide) ?_
      refine im_iadd X dX10_fewest_215 ?_
      refine im_aload_n X 0 dX10_fewest_216 rfl rfl ?_
      refine im_cget X 0 0 (v := .ref (aM 1)) fl_X10_13 rfl rfl rfl dX10_fewest_217 ?_
      refine im_iconst X 0 dX10_fewest_220 (by decide) ?_
      refine im_ciald X 0 1 0 (f := (M 1)) rfl rfl rfl dX10_fewest_221 ?_
      refine im_icmp_ne (tgt := 227) X dX10_fewest_222 rfl ?_ ?_
      · refine im_aload_n X 0 dX10_fewest_227 rfl rfl ?_
        refine im_cget X 0 0 (v := .ref (aM 11)) fl_X10_45 rfl rfl rfl dX10_fewest_228 ?_
        refine im_iload X 3 dX10_fewest_231 rfl ?_
        refine im_aload_n X 0 dX10_fewest_233 rfl rfl ?_
        refine im_iload X 3 dX10_fewest_234 rfl ?_
        refine im_lload X 2 dX10_fewest_236 rfl ?_
        refine im_cciV X [.int x6, .long x4] [.int x6, .ref (aM 11)] [wx_Model ct aM (M 0 0) (M 0 4) (M 0 6) (M 0 7) (M 0 8) (M 0 9) (M 0 24) (M 0 27) (M 0 29) (M 0 31) (M 0 32) (M 0 33) (M 0 34) (M 0 35) (M 1) (M 2) (M 3) (M 4) (M 5) (M 9) (M 10) (upd (M 11) x6.toNatClampNeg (x4).toInt32) (M 12) (M 13) (M 14) (M 15) (M 16) (M 17) (M 18) (M 19) (M 20) (M 21) (M 22) (LM 6) (LM 7) (LM 8)] [w_Model ct aM (mr M 11 (upd (M 11) x6.toNatClampNeg (x4).toInt32)) LM] [0] (fun z238 => [w_Model ct aM (mr M 11 (upd (M 11) x6.toNatClampNeg (x4).toInt32)) LM]) 0 0 10 rfl rfl rfl cl_X10_232 (c_X10_firstOf l D ct F aM (mr M 11 (upd (M 11) x6.toNatClampNeg (x4).toInt32)) LM x6 x4) rfl (by decide) (fun _ => lc rfl (rfl)) rfl ⟨by decide, by decide⟩ (Nat.le_of_ble_eq_true rfl) rfl dX10_fewest_238 (fun z238 => ?_)
        refine im_ws (cat [wx_Model ct aM (M 0 0) (M 0 4) (M 0 6) (M 0 7) (M 0 8) (M 0 9) (M 0 24) (M 0 27) (M 0 29) (M 0 31) (M 0 32) (M 0 33) (M 0 34) (M 0 35) (M 1) (M 2) (M 3) (M 4) (M 5) (M 9) (M 10) (upd (M 11) x6.toNatClampNeg (x4).toInt32) (M 12) (M 13) (M 14) (M 15) (M 16) (M 17) (M 18) (M 19) (M 20) (M 21) (M 22) (LM 6) (LM 7) (LM 8)]) rfl ?_
        refine im_ciast X 0 11 0 (wx_Model ct aM (M 0 0) (M 0 4) (M 0 6) (M 0 7) (M 0 8) (M 0 9) (M 0 24) (M 0 27) (M 0 29) (M 0 31) (M 0 32) (M 0 33) (M 0 34) (M 0 35) (M 1) (M 2) (M 3) (M 4) (M 5) (M 9) (M 10) (upd (upd (M 11) x6.toNatClampNeg (x4).toInt32) x6.toNatClampNeg z238) (M 12) (M 13) (M 14) (M 15) (M 16) (M 17) (M 18) (M 19) (M 20) (M 21) (M 22) (LM 6) (LM 7) (LM 8)) [wx_Model ct aM (M 0 0) (M 0 4) (M 0 6) (M 0 7) (M 0 8) (M 0 9) (M 0 24) (M 0 27) (M 0 29) (M 0 31) (M 0 32) (M 0 33) (M 0 34) (M 0 35) (M 1) (M 2) (M 3) (M 4) (M 5) (M 9) (M 10) (upd (upd (M 11) x6.toNatClampNeg (x4).toInt32) x6.toNatClampNeg z238) (M 12) (M 13) (M 14) (M 15) (M 16) (M 17) (M 18) (M 19) (M 20) (M 21) (M 22) (LM 6) (LM 7) (LM 8)] (f := (upd (M 11) x6.toNatClampNeg (x4).toInt32)) rfl rfl rfl rfl rfl dX10_fewest_241 ?_
        refine im_lload X 2 dX10_fewest_242 rfl ?_
        refine im_aload_n X 0 dX10_fewest_244 rfl rfl ?_
        refine im_cget X 0 0 (v := .ref (aM 11)) fl_X10_45 rfl rfl rfl dX10_fewest_245 ?_
        refine im_iload X 3 dX10_fewest_248 rfl ?_
        refine im_ciald X 0 11 0 (f := (upd (upd (M 11) x6.toNatClampNeg (x4).toInt32) x6.toNatClampNeg z238)) rfl rfl rfl dX10_fewest_250 ?_
        refine im_i2l X dX10_fewest_251 ?_
        refine im_lsub X dX10_fewest_252 ?_
        refine im_aload_n X 0 dX10_fewest_253 rfl rfl ?_
        refine im_iload X 3 dX10_fewest_254 rfl ?_
        refine im_iconst X 1 dX10_fewest_256 (by decide) ?_
        refine im_iadd X dX10_fewest_257 ?_
        refine im_cciV X [.int (x6 + 1)] [.long (x4 - (((upd (upd (M 11) x6.toNatClampNeg (x4).toInt32) x6.toNatClampNeg z238) x6.toNatClampNeg)).toInt64)] [wx_Model ct aM (M 0 0) (M 0 4) (M 0 6) (M 0 7) (M 0 8) (M 0 9) (M 0 24) (M 0 27) (M 0 29) (M 0 31) (M 0 32) (M 0 33) (M 0 34) (M 0 35) (M 1) (M 2) (M 3) (M 4) (M 5) (M 9) (M 10) (upd (upd (M 11) x6.toNatClampNeg (x4).toInt32) x6.toNatClampNeg z238) (M 12) (M 13) (M 14) (M 15) (M 16) (M 17) (M 18) (M 19) (M 20) (M 21) (M 22) (LM 6) (LM 7) (LM 8)] [w_Model ct aM (mr M 11 (upd (upd (M 11) x6.toNatClampNeg (x4).toInt32) x6.toNatClampNeg z238)) LM] [0] (fun z258 => [w_Model ct aM (mr M 11 (upd (upd (M 11) x6.toNatClampNeg (x4).toInt32) x6.toNatClampNeg z238)) LM]) 0 0 10 rfl rfl rfl cl_X10_97 (c_X10_ratio l D ct F aM (mr M 11 (upd (upd (M 11) x6.toNatClampNeg (x4).toInt32) x6.toNatClampNeg z238)) LM (x6 + 1)) rfl (by decide) (fun _ => lc rfl (rfl)) rfl ⟨by decide, by decide⟩ (Nat.le_of_ble_eq_true rfl) rfl dX10_fewest_258 (fun z258 => ?_)
        refine im_ws (cat [wx_Model ct aM (M 0 0) (M 0 4) (M 0 6) (M 0 7) (M 0 8) (M 0 9) (M 0 24) (M 0 27) (M 0 29) (M 0 31) (M 0 32) (M 0 33) (M 0 34) (M 0 35) (M 1) (M 2) (M 3) (M 4) (M 5) (M 9) (M 10) (upd (upd (M 11) x6.toNatClampNeg (x4).toInt32) x6.toNatClampNeg z238) (M 12) (M 13) (M 14) (M 15) (M 16) (M 17) (M 18) (M 19) (M 20) (M 21) (M 22) (LM 6) (LM 7) (LM 8)]) rfl ?_
        refine im_i2l X dX10_fewest_261 ?_
        refine im_ldiv X dX10_fewest_262 ?_
        refine im_lstore X [1, 2, 0, 3] [(0, .ref (aM 0)), (3, .int x3), (4, .long ((x4 - (((upd (upd (M 11) x6.toNatClampNeg (x4).toInt32) x6.toNatClampNeg z238) x6.toNatClampNeg)).toInt64) / (z258).toInt64)), (6, .int x6)] dX10_fewest_263 (by decide) rfl ?_
        refine im_iinc X 3 1 [1, 2, 3, 0] [(0, .ref (aM 0)), (3, .int x3), (4, .long ((x4 - (((upd (upd (M 11) x6.toNatClampNeg (x4).toInt32) x6.toNatClampNeg z238) x6.toNatClampNeg)).toInt64) / (z258).toInt64)), (6, .int (x6 + 1))] dX10_fewest_265 (by decide) rfl (by decide) rfl ?_
        refine im_goto (tgt := 191) X dX10_fewest_268 rfl ?_
        exact ih (mr M 11 (upd (upd (M 11) x6.toNatClampNeg (x4).toInt32) x6.toNatClampNeg z238)) ((x4 - (((upd (upd (M 11) x6.toNatClampNeg (x4).toInt32) x6.toNatClampNeg z238) x6.toNatClampNeg)).toInt64) / (z258).toInt64) (x6 + 1)
      · refine im_lv [1] [(3, .int x3)] rfl ?_
        exact hk225 (mr M 11 (upd (M 11) x6.toNatClampNeg (x4).toInt32))
noncomputable def f_X10_fewest (F : Nat) (M : Mem) (LM : MemL) (x1 : Int64) : Option (Int32 × Mem × MemL) :=
  ck 0 7 (f_X10_fewest_9 F M x1 (fun LM_60 => ck 0 226 (f_X10_fewest_69 F LM_60 x1 (fun M_111 => ck 0 226 (f_X10_fewest_120 F LM_60 x1 (fun M_169 => ck 0 2520 ((if ((M_169 12) (0 : Int32).toNatClampNeg) < 1000000 then f_X10_fewest_191 F LM_60 ((M_169 12) (0 : Int32).toNatClampNeg) (fun M_225 => (some (((M_169 12) (0 : Int32).toNatClampNeg), M_225, LM_60))) (fun M_271 => (some (((M_169 12) (0 : Int32).toNatClampNeg), M_271, LM_60))) F M_169 x1 0 else (some ((-2), M_169, LM_60))))) F M_111 (((M_111 1) (0 : Int32).toNatClampNeg) - 1))) F M (((M 1) (0 : Int32).toNatClampNeg) - 1))) F (mr LM 6 (vp_updL (LM 6) (0 : Int32).toNatClampNeg x1)) 0)
set_option maxRecDepth 100000 in
set_option maxHeartbeats 4000000 in
theorem i_X10_fewest {p : Program} {l : Launch} {e : Env} {s : State} {m : MethodId} {args : Array Value} {below : List Frame} {meth : Method} {c : Code} {D : va_G} {ct : im_ct} {A : Nat → Prop} (X : im_X p (im_rm 2) s m args meth c D ct A RX10 cX10_fewest 7 (some .int)) (F : Nat) (aM : Nat → Nat) (M : Mem) (LM : MemL) (x1 : Int64) : Im p l e (im_rm 2) s m args below meth c D A 7 (QI D A (fun z : Int32 × Mem × MemL => z.1) (fun z : Int32 × Mem × MemL => (cat [w_Model ct aM z.2.1 z.2.2]))) 0 [(0, .ref (aM 0)), (1, .long x1)] [] (cat [w_Model ct aM M LM]) (f_X10_fewest F M LM x1) := by
  unfold f_X10_fewest
  refine im_aload_n X 0 dX10_fewest_0 rfl rfl ?_
  refine im_cget X 0 0 (v := .ref (aM 6)) fl_X10_29 rfl rfl rfl dX10_fewest_1 ?_
  refine im_iconst X 0 dX10_fewest_4 (by decide) ?_
  refine im_lload_n X 1 dX10_fewest_5 rfl rfl ?_
  refine im_clast X 0 6 1 (wx_Model ct aM (M 0 0) (M 0 4) (M 0 6) (M 0 7) (M 0 8) (M 0 9) (M 0 24) (M 0 27) (M 0 29) (M 0 31) (M 0 32) (M 0 33) (M 0 34) (M 0 35) (M 1) (M 2) (M 3) (M 4) (M 5) (M 9) (M 10) (M 11) (M 12) (M 13) (M 14) (M 15) (M 16) (M 17) (M 18) (M 19) (M 20) (M 21) (M 22) (vp_updL (LM 6) (0 : Int32).toNatClampNeg x1) (LM 7) (LM 8)) [wx_Model ct aM (M 0 0) (M 0 4) (M 0 6) (M 0 7) (M 0 8) (M 0 9) (M 0 24) (M 0 27) (M 0 29) (M 0 31) (M 0 32) (M 0 33) (M 0 34) (M 0 35) (M 1) (M 2) (M 3) (M 4) (M 5) (M 9) (M 10) (M 11) (M 12) (M 13) (M 14) (M 15) (M 16) (M 17) (M 18) (M 19) (M 20) (M 21) (M 22) (vp_updL (LM 6) (0 : Int32).toNatClampNeg x1) (LM 7) (LM 8)] (f := (LM 6)) rfl rfl rfl rfl rfl dX10_fewest_6 ?_
  refine im_iconst X 0 dX10_fewest_7 (by decide) ?_
  refine im_istore_n X [1, 2, 0] [(0, .ref (aM 0)), (1, .long x1), (3, .int 0)] dX10_fewest_8 rfl (by decide) rfl ?_
  refine i_X10_fewest_9 X F aM M x1 _ (fun LM_60 => ?_) F (mr LM 6 (vp_updL (LM 6) (0 : Int32).toNatClampNeg x1)) 0
  refine im_aload_n X 0 dX10_fewest_60 rfl rfl ?_
  refine im_cget X 0 0 (v := .ref (aM 1)) fl_X10_13 rfl rfl rfl dX10_fewest_61 ?_
  refine im_iconst X 0 dX10_fewest_64 (by decide) ?_
  refine im_ciald X 0 1 0 (f := (M 1)) rfl rfl rfl dX10_fewest_65 ?_
  refine im_iconst X 1 dX10_fewest_66 (by decide) ?_
  refine im_isub X dX10_fewest_67 ?_
  refine im_istore_n X [1, 2, 0] [(0, .ref (aM 0)), (1, .long x1), (3, .int (((M 1) (0 : Int32).toNatClampNeg) - 1))] dX10_fewest_68 rfl (by decide) rfl ?_
  refine i_X10_fewest_69 X F aM LM_60 x1 _ (fun M_111 => ?_) F M (((M 1) (0 : Int32).toNatClampNeg) - 1)
  refine im_aload_n X 0 dX10_fewest_111 rfl rfl ?_
  refine im_cget X 0 0 (v := .ref (aM 1)) fl_X10_13 rfl rfl rfl dX10_fewest_112 ?_
  refine im_iconst X 0 dX10_fewest_115 (by decide) ?_
  refine im_ciald X 0 1 0 (f := (M_111 1)) rfl rfl rfl dX10_fewest_116 ?_
  refine im_iconst X 1 dX10_fewest_117 (by decide) ?_
  refine im_isub X dX10_fewest_118 ?_
  refine im_istore_n X [1, 2, 0] [(0, .ref (aM 0)), (1, .long x1), (3, .int (((M_111 1) (0 : Int32).toNatClampNeg) - 1))] dX10_fewest_119 rfl (by decide) rfl ?_
  refine i_X10_fewest_120 X F aM LM_60 x1 _ (fun M_169 => ?_) F M_111 (((M_111 1) (0 : Int32).toNatClampNeg) - 1)
  refine im_aload_n X 0 dX10_fewest_169 rfl rfl ?_
  refine im_cget X 0 0 (v := .ref (aM 12)) fl_X10_48 rfl rfl rfl dX10_fewest_170 ?_
  refine im_iconst X 0 dX10_fewest_173 (by decide) ?_
  refine im_ciald X 0 12 0 (f := (M_169 12)) rfl rfl rfl dX10_fewest_174 ?_
  refine im_istore_n X [1, 2, 0] [(0, .ref (aM 0)), (1, .long x1), (3, .int ((M_169 12) (0 : Int32).toNatClampNeg))] dX10_fewest_175 rfl (by decide) rfl ?_
  refine im_iload_n X 2 dX10_fewest_176 rfl rfl ?_
  refine im_ldc X kc_X10_221 dX10_fewest_177 ?_
  refine im_icmp_lt (tgt := 185) X dX10_fewest_179 rfl ?_ ?_
  · refine im_lload_n X 1 dX10_fewest_185 rfl rfl ?_
    refine im_lstore X [1, 2, 3, 0] [(0, .ref (aM 0)), (1, .long x1), (3, .int ((M_169 12) (0 : Int32).toNatClampNeg)), (4, .long x1)] dX10_fewest_186 (by decide) rfl ?_
    refine im_iconst X 0 dX10_fewest_188 (by decide) ?_
    refine im_istore X [1, 2, 3, 4, 0] [(0, .ref (aM 0)), (1, .long x1), (3, .int ((M_169 12) (0 : Int32).toNatClampNeg)), (4, .long x1), (6, .int 0)] dX10_fewest_189 (by decide) rfl ?_
    refine im_lv [0, 2, 3, 4] [(0, .ref (aM 0)), (3, .int ((M_169 12) (0 : Int32).toNatClampNeg)), (4, .long x1), (6, .int 0)] rfl ?_
    refine i_X10_fewest_191 X F aM LM_60 ((M_169 12) (0 : Int32).toNatClampNeg) _ (fun M_225 => ?_) _ (fun M_271 => ?_) F M_169 x1 0
    · refine im_iload_n X 0 dX10_fewest_225 rfl rfl ?_
      exact im_ireturn X (((M_169 12) (0 : Int32).toNatClampNeg), M_225, LM_60) rfl rfl dX10_fewest_226
    · refine im_iload_n X 0 dX10_fewest_271 rfl rfl ?_
      exact im_ireturn X (((M_169 12) (0 : Int32).toNatClampNeg), M_271, LM_60) rfl rfl dX10_fewest_272
  · refine im_bipush X (-2) dX10_fewest_182 (by decide) ?_
    exact im_ireturn X ((-2), M_169, LM_60) rfl rfl dX10_fewest_184
theorem c_X10_fewest (l : Launch) (D : va_G) (ct : im_ct) (F : Nat) (aM : Nat → Nat) (M : Mem) (LM : MemL) (x1 : Int64) : CMi l D ct yX10_fewest cX10_fewest 7 (some .int) 2 [.ref (aM 0), .long x1] (cat [w_Model ct aM M LM]) (f_X10_fewest F M LM x1) (fun z : Int32 × Mem × MemL => z.1) (fun z : Int32 × Mem × MemL => (cat [w_Model ct aM z.2.1 z.2.2])) :=
  im_met (Qb := fun A => QI D A (fun z : Int32 × Mem × MemL => z.1) (fun z : Int32 × Mem × MemL => (cat [w_Model ct aM z.2.1 z.2.2]))) (by decide +kernel) (Nat.le_of_ble_eq_true rfl) (fun p e s m args below meth c A X => i_X10_fewest X F aM M LM x1)

noncomputable def f_X10_payment_3 (F : Nat) (LM : MemL) (x1 : Int32) (x2 : Int32) (x3 : Int32) (k75 : Mem → Option (Int32 × Mem × MemL)) : Nat → Mem → Int32 → Option (Int32 × Mem × MemL)
  | 0, _, _ => none
  | n + 1, M, x4 =>
  ck 0 226 ((if ((M 1) (0 : Int32).toNatClampNeg) ≤ x4 then k75 M else (f_X10_now F M LM x2 x4).bind (fun z24 => (f_X10_now F M LM x1 x4).bind (fun z33 => (f_X10_lesser F z24 (99 - z33)).bind (fun z37 => ck x4 6 ((f_X10_now F (mr M 9 (upd (M 9) x4.toNatClampNeg (-z37))) LM x1 x4).bind (fun z52 => (f_X10_now F (mr M 9 (upd (M 9) x4.toNatClampNeg (-z37))) LM x2 x4).bind (fun z61 => (f_X10_lesser F z52 (99 - z61)).bind (fun z65 => ck x4 6 (f_X10_payment_3 F LM x1 x2 x3 k75 n (mr (mr M 9 (upd (M 9) x4.toNatClampNeg (-z37))) 10 (upd (M 10) x4.toNatClampNeg z65)) (x4 + 1)))))))))))
set_option maxRecDepth 100000 in
set_option maxHeartbeats 4000000 in
theorem i_X10_payment_3 {p : Program} {l : Launch} {e : Env} {s : State} {m : MethodId} {args : Array Value} {below : List Frame} {meth : Method} {c : Code} {D : va_G} {ct : im_ct} {A : Nat → Prop} (X : im_X p (im_rm 3) s m args meth c D ct A RX10 cX10_payment 5 (some .int)) (F : Nat) (aM : Nat → Nat) (LM : MemL) (x1 : Int32) (x2 : Int32) (x3 : Int32) (k75 : Mem → Option (Int32 × Mem × MemL)) (hk75 : ∀ (M : Mem), Im p l e (im_rm 3) s m args below meth c D A 5 (QI D A (fun z : Int32 × Mem × MemL => z.1) (fun z : Int32 × Mem × MemL => (cat [w_Model ct aM z.2.1 z.2.2]))) 75 [(0, .ref (aM 0)), (3, .int x3)] [] (cat [w_Model ct aM M LM]) (k75 M)) : ∀ (n : Nat) (M : Mem) (x4 : Int32), Im p l e (im_rm 3) s m args below meth c D A 5 (QI D A (fun z : Int32 × Mem × MemL => z.1) (fun z : Int32 × Mem × MemL => (cat [w_Model ct aM z.2.1 z.2.2]))) 3 [(0, .ref (aM 0)), (1, .int x1), (2, .int x2), (3, .int x3), (4, .int x4)] [] (cat [w_Model ct aM M LM]) (f_X10_payment_3 F LM x1 x2 x3 k75 n M x4) := by
  intro n
  induction n with
  | zero => intros; exact im_none
  | succ n ih =>
    intro M x4
    unfold f_X10_payment_3
    refine im_iload X 4 dX10_payment_3 rfl ?_
    refine im_aload_n X 0 dX10_payment_5 rfl rfl ?_
    refine im_cget X 0 0 (v := .ref (aM 1)) fl_X10_13 rfl rfl rfl dX10_payment_6 ?_
    refine im_iconst X 0 dX10_payment_9 (by decide) ?_
    refine im_ciald X 0 1 0 (f := (M 1)) rfl rfl rfl dX10_payment_10 ?_
    refine im_icmp_ge (tgt := 75) X dX10_payment_11 rfl ?_ ?_
    · refine im_lv [0, 3] [(0, .ref (aM 0)), (3, .int x3)] rfl ?_
      exact hk75 M
    · refine im_aload_n X 0 dX10_payment_14 rfl rfl ?_
      refine im_cget X 0 0 (v := .ref (aM 9)) fl_X10_39 rfl rfl rfl dX10_payment_15 ?_
      refine im_iload X 4 dX10_payment_18 rfl ?_
      refine im_aload_n X 0 dX10_payment_20 rfl rfl ?_
      refine im_iload_n X 2 dX10_payment_21 rfl rfl ?_
      refine im_iload X 4 dX10_payment_22 rfl ?_
      refine im_cciV X [.int x2, .int x4] [.int x4, .ref (aM 9)] [w_Model ct aM M LM] [w_Model ct aM M LM] [0] (fun z24 => [w_Model ct aM M LM]) 0 0 10 rfl rfl rfl cl_X10_105 (c_X10_now l D ct F aM M LM x2 x4) rfl (by decide) (fun _ => lc rfl (rfl)) rfl ⟨by decide, by decide⟩ (Nat.le_of_ble_eq_true rfl) rfl dX10_payment_24 (fun z24 => ?_)
      refine im_ws (cat [w_Model ct aM M LM]) rfl ?_
      refine im_bipush X 99 dX10_payment_27 (by decide) ?_
      refine im_aload_n X 0 dX10_payment_29 rfl rfl ?_
      refine im_iload_n X 1 dX10_payment_30 rfl rfl ?_
      refine im_iload X 4 dX10_payment_31 rfl ?_
      refine im_cciV X [.int x1, .int x4] [.int 99, .int z24, .int x4, .ref (aM 9)] [w_Model ct aM M LM] [w_Model ct aM M LM] [0] (fun z33 => [w_Model ct aM M LM]) 0 0 10 rfl rfl rfl cl_X10_105 (c_X10_now l D ct F aM M LM x1 x4) rfl (by decide) (fun _ => lc rfl (rfl)) rfl ⟨by decide, by decide⟩ (Nat.le_of_ble_eq_true rfl) rfl dX10_payment_33 (fun z33 => ?_)
      refine im_ws (cat [w_Model ct aM M LM]) rfl ?_
      refine im_isub X dX10_payment_36 ?_
      refine im_cciS X [.int z24, .int (99 - z33)] [.int x4, .ref (aM 9)] [w_Model ct aM M LM] [] [] (fun z37 => []) cl_X10_240 (c_X10_lesser l D ct F z24 (99 - z33)) rfl (by decide) (fun _ => rfl) rfl ⟨by decide, by decide⟩ (Nat.le_of_ble_eq_true rfl) rfl dX10_payment_37 (fun z37 => ?_)
      refine im_ws (cat [w_Model ct aM M LM]) rfl ?_
      refine im_ineg X dX10_payment_40 ?_
      refine im_ciast X 0 9 0 (wx_Model ct aM (M 0 0) (M 0 4) (M 0 6) (M 0 7) (M 0 8) (M 0 9) (M 0 24) (M 0 27) (M 0 29) (M 0 31) (M 0 32) (M 0 33) (M 0 34) (M 0 35) (M 1) (M 2) (M 3) (M 4) (M 5) (upd (M 9) x4.toNatClampNeg (-z37)) (M 10) (M 11) (M 12) (M 13) (M 14) (M 15) (M 16) (M 17) (M 18) (M 19) (M 20) (M 21) (M 22) (LM 6) (LM 7) (LM 8)) [wx_Model ct aM (M 0 0) (M 0 4) (M 0 6) (M 0 7) (M 0 8) (M 0 9) (M 0 24) (M 0 27) (M 0 29) (M 0 31) (M 0 32) (M 0 33) (M 0 34) (M 0 35) (M 1) (M 2) (M 3) (M 4) (M 5) (upd (M 9) x4.toNatClampNeg (-z37)) (M 10) (M 11) (M 12) (M 13) (M 14) (M 15) (M 16) (M 17) (M 18) (M 19) (M 20) (M 21) (M 22) (LM 6) (LM 7) (LM 8)] (f := (M 9)) rfl rfl rfl rfl rfl dX10_payment_41 ?_
      refine im_aload_n X 0 dX10_payment_42 rfl rfl ?_
      refine im_cget X 0 0 (v := .ref (aM 10)) fl_X10_42 rfl rfl rfl dX10_payment_43 ?_
      refine im_iload X 4 dX10_payment_46 rfl ?_
      refine im_aload_n X 0 dX10_payment_48 rfl rfl ?_
      refine im_iload_n X 1 dX10_payment_49 rfl rfl ?_
      refine im_iload X 4 dX10_payment_50 rfl ?_
      refine im_cciV X [.int x1, .int x4] [.int x4, .ref (aM 10)] [wx_Model ct aM (M 0 0) (M 0 4) (M 0 6) (M 0 7) (M 0 8) (M 0 9) (M 0 24) (M 0 27) (M 0 29) (M 0 31) (M 0 32) (M 0 33) (M 0 34) (M 0 35) (M 1) (M 2) (M 3) (M 4) (M 5) (upd (M 9) x4.toNatClampNeg (-z37)) (M 10) (M 11) (M 12) (M 13) (M 14) (M 15) (M 16) (M 17) (M 18) (M 19) (M 20) (M 21) (M 22) (LM 6) (LM 7) (LM 8)] [w_Model ct aM (mr M 9 (upd (M 9) x4.toNatClampNeg (-z37))) LM] [0] (fun z52 => [w_Model ct aM (mr M 9 (upd (M 9) x4.toNatClampNeg (-z37))) LM]) 0 0 10 rfl rfl rfl cl_X10_105 (c_X10_now l D ct F aM (mr M 9 (upd (M 9) x4.toNatClampNeg (-z37))) LM x1 x4) rfl (by decide) (fun _ => lc rfl (rfl)) rfl ⟨by decide, by decide⟩ (Nat.le_of_ble_eq_true rfl) rfl dX10_payment_52 (fun z52 => ?_)
      refine im_ws (cat [wx_Model ct aM (M 0 0) (M 0 4) (M 0 6) (M 0 7) (M 0 8) (M 0 9) (M 0 24) (M 0 27) (M 0 29) (M 0 31) (M 0 32) (M 0 33) (M 0 34) (M 0 35) (M 1) (M 2) (M 3) (M 4) (M 5) (upd (M 9) x4.toNatClampNeg (-z37)) (M 10) (M 11) (M 12) (M 13) (M 14) (M 15) (M 16) (M 17) (M 18) (M 19) (M 20) (M 21) (M 22) (LM 6) (LM 7) (LM 8)]) rfl ?_
      refine im_bipush X 99 dX10_payment_55 (by decide) ?_
      refine im_aload_n X 0 dX10_payment_57 rfl rfl ?_
      refine im_iload_n X 2 dX10_payment_58 rfl rfl ?_
      refine im_iload X 4 dX10_payment_59 rfl ?_
      refine im_cciV X [.int x2, .int x4] [.int 99, .int z52, .int x4, .ref (aM 10)] [wx_Model ct aM (M 0 0) (M 0 4) (M 0 6) (M 0 7) (M 0 8) (M 0 9) (M 0 24) (M 0 27) (M 0 29) (M 0 31) (M 0 32) (M 0 33) (M 0 34) (M 0 35) (M 1) (M 2) (M 3) (M 4) (M 5) (upd (M 9) x4.toNatClampNeg (-z37)) (M 10) (M 11) (M 12) (M 13) (M 14) (M 15) (M 16) (M 17) (M 18) (M 19) (M 20) (M 21) (M 22) (LM 6) (LM 7) (LM 8)] [w_Model ct aM (mr M 9 (upd (M 9) x4.toNatClampNeg (-z37))) LM] [0] (fun z61 => [w_Model ct aM (mr M 9 (upd (M 9) x4.toNatClampNeg (-z37))) LM]) 0 0 10 rfl rfl rfl cl_X10_105 (c_X10_now l D ct F aM (mr M 9 (upd (M 9) x4.toNatClampNeg (-z37))) LM x2 x4) rfl (by decide) (fun _ => lc rfl (rfl)) rfl ⟨by decide, by decide⟩ (Nat.le_of_ble_eq_true rfl) rfl dX10_payment_61 (fun z61 => ?_)
      refine im_ws (cat [wx_Model ct aM (M 0 0) (M 0 4) (M 0 6) (M 0 7) (M 0 8) (M 0 9) (M 0 24) (M 0 27) (M 0 29) (M 0 31) (M 0 32) (M 0 33) (M 0 34) (M 0 35) (M 1) (M 2) (M 3) (M 4) (M 5) (upd (M 9) x4.toNatClampNeg (-z37)) (M 10) (M 11) (M 12) (M 13) (M 14) (M 15) (M 16) (M 17) (M 18) (M 19) (M 20) (M 21) (M 22) (LM 6) (LM 7) (LM 8)]) rfl ?_
      refine im_isub X dX10_payment_64 ?_
      refine im_cciS X [.int z52, .int (99 - z61)] [.int x4, .ref (aM 10)] [wx_Model ct aM (M 0 0) (M 0 4) (M 0 6) (M 0 7) (M 0 8) (M 0 9) (M 0 24) (M 0 27) (M 0 29) (M 0 31) (M 0 32) (M 0 33) (M 0 34) (M 0 35) (M 1) (M 2) (M 3) (M 4) (M 5) (upd (M 9) x4.toNatClampNeg (-z37)) (M 10) (M 11) (M 12) (M 13) (M 14) (M 15) (M 16) (M 17) (M 18) (M 19) (M 20) (M 21) (M 22) (LM 6) (LM 7) (LM 8)] [] [] (fun z65 => []) cl_X10_240 (c_X10_lesser l D ct F z52 (99 - z61)) rfl (by decide) (fun _ => rfl) rfl ⟨by decide, by decide⟩ (Nat.le_of_ble_eq_true rfl) rfl dX10_payment_65 (fun z65 => ?_)
      refine im_ws (cat [wx_Model ct aM (M 0 0) (M 0 4) (M 0 6) (M 0 7) (M 0 8) (M 0 9) (M 0 24) (M 0 27) (M 0 29) (M 0 31) (M 0 32) (M 0 33) (M 0 34) (M 0 35) (M 1) (M 2) (M 3) (M 4) (M 5) (upd (M 9) x4.toNatClampNeg (-z37)) (M 10) (M 11) (M 12) (M 13) (M 14) (M 15) (M 16) (M 17) (M 18) (M 19) (M 20) (M 21) (M 22) (LM 6) (LM 7) (LM 8)]) rfl ?_
      refine im_ciast X 0 10 0 (wx_Model ct aM (M 0 0) (M 0 4) (M 0 6) (M 0 7) (M 0 8) (M 0 9) (M 0 24) (M 0 27) (M 0 29) (M 0 31) (M 0 32) (M 0 33) (M 0 34) (M 0 35) (M 1) (M 2) (M 3) (M 4) (M 5) (upd (M 9) x4.toNatClampNeg (-z37)) (upd (M 10) x4.toNatClampNeg z65) (M 11) (M 12) (M 13) (M 14) (M 15) (M 16) (M 17) (M 18) (M 19) (M 20) (M 21) (M 22) (LM 6) (LM 7) (LM 8)) [wx_Model ct aM (M 0 0) (M 0 4) (M 0 6) (M 0 7) (M 0 8) (M 0 9) (M 0 24) (M 0 27) (M 0 29) (M 0 31) (M 0 32) (M 0 33) (M 0 34) (M 0 35) (M 1) (M 2) (M 3) (M 4) (M 5) (upd (M 9) x4.toNatClampNeg (-z37)) (upd (M 10) x4.toNatClampNeg z65) (M 11) (M 12) (M 13) (M 14) (M 15) (M 16) (M 17) (M 18) (M 19) (M 20) (M 21) (M 22) (LM 6) (LM 7) (LM 8)] (f := (M 10)) rfl rfl rfl rfl rfl dX10_payment_68 ?_
      refine im_iinc X 4 1 [1, 2, 3, 4, 0] [(0, .ref (aM 0)), (1, .int x1), (2, .int x2), (3, .int x3), (4, .int (x4 + 1))] dX10_payment_69 (by decide) rfl (by decide) rfl ?_
      refine im_goto (tgt := 3) X dX10_payment_72 rfl ?_
      exact ih (mr (mr M 9 (upd (M 9) x4.toNatClampNeg (-z37))) 10 (upd (M 10) x4.toNatClampNeg z65)) (x4 + 1)
noncomputable def f_X10_payment (F : Nat) (M : Mem) (LM : MemL) (x1 : Int32) (x2 : Int32) (x3 : Int32) : Option (Int32 × Mem × MemL) :=
  f_X10_payment_3 F LM x1 x2 x3 (fun M_75 => (f_X10_fewest F M_75 LM (x3).toInt64).bind (fun z78 => (some (z78.1, z78.2.1, z78.2.2)))) F M 0
set_option maxRecDepth 100000 in
set_option maxHeartbeats 4000000 in
theorem i_X10_payment {p : Program} {l : Launch} {e : Env} {s : State} {m : MethodId} {args : Array Value} {below : List Frame} {meth : Method} {c : Code} {D : va_G} {ct : im_ct} {A : Nat → Prop} (X : im_X p (im_rm 3) s m args meth c D ct A RX10 cX10_payment 5 (some .int)) (F : Nat) (aM : Nat → Nat) (M : Mem) (LM : MemL) (x1 : Int32) (x2 : Int32) (x3 : Int32) : Im p l e (im_rm 3) s m args below meth c D A 5 (QI D A (fun z : Int32 × Mem × MemL => z.1) (fun z : Int32 × Mem × MemL => (cat [w_Model ct aM z.2.1 z.2.2]))) 0 [(0, .ref (aM 0)), (1, .int x1), (2, .int x2), (3, .int x3)] [] (cat [w_Model ct aM M LM]) (f_X10_payment F M LM x1 x2 x3) := by
  unfold f_X10_payment
  refine im_iconst X 0 dX10_payment_0 (by decide) ?_
  refine im_istore X [1, 2, 3, 4, 0] [(0, .ref (aM 0)), (1, .int x1), (2, .int x2), (3, .int x3), (4, .int 0)] dX10_payment_1 (by decide) rfl ?_
  refine i_X10_payment_3 X F aM LM x1 x2 x3 _ (fun M_75 => ?_) F M 0
  refine im_aload_n X 0 dX10_payment_75 rfl rfl ?_
  refine im_iload_n X 1 dX10_payment_76 rfl rfl ?_
  refine im_i2l X dX10_payment_77 ?_
  refine im_cciV X [.long (x3).toInt64] [] [w_Model ct aM M_75 LM] [w_Model ct aM M_75 LM] [0] (fun z78 => [w_Model ct aM z78.2.1 z78.2.2]) 0 0 10 rfl rfl rfl cl_X10_236 (c_X10_fewest l D ct F aM M_75 LM (x3).toInt64) rfl (by decide) (fun _ => lc fa_Model (rfl)) rfl ⟨by decide, by decide⟩ (Nat.le_of_ble_eq_true rfl) rfl dX10_payment_78 (fun z78 => ?_)
  refine im_ws (cat [w_Model ct aM z78.2.1 z78.2.2]) rfl ?_
  exact im_ireturn X (z78.1, z78.2.1, z78.2.2) rfl rfl dX10_payment_81
theorem c_X10_payment (l : Launch) (D : va_G) (ct : im_ct) (F : Nat) (aM : Nat → Nat) (M : Mem) (LM : MemL) (x1 : Int32) (x2 : Int32) (x3 : Int32) : CMi l D ct yX10_payment cX10_payment 5 (some .int) 3 [.ref (aM 0), .int x1, .int x2, .int x3] (cat [w_Model ct aM M LM]) (f_X10_payment F M LM x1 x2 x3) (fun z : Int32 × Mem × MemL => z.1) (fun z : Int32 × Mem × MemL => (cat [w_Model ct aM z.2.1 z.2.2])) :=
  im_met (Qb := fun A => QI D A (fun z : Int32 × Mem × MemL => z.1) (fun z : Int32 × Mem × MemL => (cat [w_Model ct aM z.2.1 z.2.2]))) (by decide +kernel) (Nat.le_of_ble_eq_true rfl) (fun p e s m args below meth c A X => i_X10_payment X F aM M LM x1 x2 x3)

noncomputable def f_X10_pay_38 (F : Nat) (LM : MemL) (x1 : Int32) (x2 : Int32) (x4 : Int32) (k99 : Mem → Option (Int32 × Mem × MemL)) : Nat → Mem → Int32 → Option (Int32 × Mem × MemL)
  | 0, _, _ => none
  | n + 1, M, x5 =>
  ck 0 226 ((if ((M 1) (0 : Int32).toNatClampNeg) ≤ x5 then k99 M else (f_X10_now F M LM x1 x5).bind (fun z57 => ck x5 6 ((f_X10_sets F M LM x1 x5 (z57 - ((M 11) x5.toNatClampNeg))).bind (fun z68 => (f_X10_now F z68 LM x2 x5).bind (fun z79 => ck x5 6 ((f_X10_sets F z68 LM x2 x5 (z79 + ((z68 11) x5.toNatClampNeg))).bind (fun z90 => f_X10_pay_38 F LM x1 x2 x4 k99 n z90 (x5 + 1)))))))))
set_option maxRecDepth 100000 in
set_option maxHeartbeats 4000000 in
theorem i_X10_pay_38 {p : Program} {l : Launch} {e : Env} {s : State} {m : MethodId} {args : Array Value} {below : List Frame} {meth : Method} {c : Code} {D : va_G} {ct : im_ct} {A : Nat → Prop} (X : im_X p (im_rm 4) s m args meth c D ct A RX10 cX10_pay 6 (some .int)) (F : Nat) (aM : Nat → Nat) (LM : MemL) (x1 : Int32) (x2 : Int32) (x4 : Int32) (k99 : Mem → Option (Int32 × Mem × MemL)) (hk99 : ∀ (M : Mem), Im p l e (im_rm 4) s m args below meth c D A 6 (QI D A (fun z : Int32 × Mem × MemL => z.1) (fun z : Int32 × Mem × MemL => (cat [w_Model ct aM z.2.1 z.2.2]))) 99 [(0, .ref (aM 0)), (4, .int x4)] [] (cat [w_Model ct aM M LM]) (k99 M)) : ∀ (n : Nat) (M : Mem) (x5 : Int32), Im p l e (im_rm 4) s m args below meth c D A 6 (QI D A (fun z : Int32 × Mem × MemL => z.1) (fun z : Int32 × Mem × MemL => (cat [w_Model ct aM z.2.1 z.2.2]))) 38 [(0, .ref (aM 0)), (1, .int x1), (2, .int x2), (4, .int x4), (5, .int x5)] [] (cat [w_Model ct aM M LM]) (f_X10_pay_38 F LM x1 x2 x4 k99 n M x5) := by
  intro n
  induction n with
  | zero => intros; exact im_none
  | succ n ih =>
    intro M x5
    unfold f_X10_pay_38
    refine im_iload X 4 dX10_pay_38 rfl ?_
    refine im_aload_n X 0 dX10_pay_40 rfl rfl ?_
    refine im_cget X 0 0 (v := .ref (aM 1)) fl_X10_13 rfl rfl rfl dX10_pay_41 ?_
    refine im_iconst X 0 dX10_pay_44 (by decide) ?_
    refine im_ciald X 0 1 0 (f := (M 1)) rfl rfl rfl dX10_pay_45 ?_
    refine im_icmp_ge (tgt := 99) X dX10_pay_46 rfl ?_ ?_
    · refine im_lv [0, 3] [(0, .ref (aM 0)), (4, .int x4)] rfl ?_
      exact hk99 M
    · refine im_aload_n X 0 dX10_pay_49 rfl rfl ?_
      refine im_iload_n X 1 dX10_pay_50 rfl rfl ?_
      refine im_iload X 4 dX10_pay_51 rfl ?_
      refine im_aload_n X 0 dX10_pay_53 rfl rfl ?_
      refine im_iload_n X 1 dX10_pay_54 rfl rfl ?_
      refine im_iload X 4 dX10_pay_55 rfl ?_
      refine im_cciV X [.int x1, .int x5] [.int x5, .int x1, .ref (aM 0)] [w_Model ct aM M LM] [w_Model ct aM M LM] [0] (fun z57 => [w_Model ct aM M LM]) 0 0 10 rfl rfl rfl cl_X10_105 (c_X10_now l D ct F aM M LM x1 x5) rfl (by decide) (fun _ => lc rfl (rfl)) rfl ⟨by decide, by decide⟩ (Nat.le_of_ble_eq_true rfl) rfl dX10_pay_57 (fun z57 => ?_)
      refine im_ws (cat [w_Model ct aM M LM]) rfl ?_
      refine im_aload_n X 0 dX10_pay_60 rfl rfl ?_
      refine im_cget X 0 0 (v := .ref (aM 11)) fl_X10_45 rfl rfl rfl dX10_pay_61 ?_
      refine im_iload X 4 dX10_pay_64 rfl ?_
      refine im_ciald X 0 11 0 (f := (M 11)) rfl rfl rfl dX10_pay_66 ?_
      refine im_isub X dX10_pay_67 ?_
      refine im_ccvV X [.int x1, .int x5, .int (z57 - ((M 11) x5.toNatClampNeg))] [] [w_Model ct aM M LM] [w_Model ct aM M LM] [0] (fun z68 => [w_Model ct aM z68 LM]) 0 0 10 rfl rfl rfl cl_X10_182 (c_X10_sets l D ct F aM M LM x1 x5 (z57 - ((M 11) x5.toNatClampNeg))) rfl (by decide) (fun _ => lc fa_Model (rfl)) rfl ⟨by decide, by decide⟩ (Nat.le_of_ble_eq_true rfl) rfl dX10_pay_68 (fun z68 => ?_)
      refine im_ws (cat [w_Model ct aM z68 LM]) rfl ?_
      refine im_aload_n X 0 dX10_pay_71 rfl rfl ?_
      refine im_iload_n X 2 dX10_pay_72 rfl rfl ?_
      refine im_iload X 4 dX10_pay_73 rfl ?_
      refine im_aload_n X 0 dX10_pay_75 rfl rfl ?_
      refine im_iload_n X 2 dX10_pay_76 rfl rfl ?_
      refine im_iload X 4 dX10_pay_77 rfl ?_
      refine im_cciV X [.int x2, .int x5] [.int x5, .int x2, .ref (aM 0)] [w_Model ct aM z68 LM] [w_Model ct aM z68 LM] [0] (fun z79 => [w_Model ct aM z68 LM]) 0 0 10 rfl rfl rfl cl_X10_105 (c_X10_now l D ct F aM z68 LM x2 x5) rfl (by decide) (fun _ => lc rfl (rfl)) rfl ⟨by decide, by decide⟩ (Nat.le_of_ble_eq_true rfl) rfl dX10_pay_79 (fun z79 => ?_)
      refine im_ws (cat [w_Model ct aM z68 LM]) rfl ?_
      refine im_aload_n X 0 dX10_pay_82 rfl rfl ?_
      refine im_cget X 0 0 (v := .ref (aM 11)) fl_X10_45 rfl rfl rfl dX10_pay_83 ?_
      refine im_iload X 4 dX10_pay_86 rfl ?_
      refine im_ciald X 0 11 0 (f := (z68 11)) rfl rfl rfl dX10_pay_88 ?_
      refine im_iadd X dX10_pay_89 ?_
      refine im_ccvV X [.int x2, .int x5, .int (z79 + ((z68 11) x5.toNatClampNeg))] [] [w_Model ct aM z68 LM] [w_Model ct aM z68 LM] [0] (fun z90 => [w_Model ct aM z90 LM]) 0 0 10 rfl rfl rfl cl_X10_182 (c_X10_sets l D ct F aM z68 LM x2 x5 (z79 + ((z68 11) x5.toNatClampNeg))) rfl (by decide) (fun _ => lc fa_Model (rfl)) rfl ⟨by decide, by decide⟩ (Nat.le_of_ble_eq_true rfl) rfl dX10_pay_90 (fun z90 => ?_)
      refine im_ws (cat [w_Model ct aM z90 LM]) rfl ?_
      refine im_iinc X 4 1 [1, 2, 3, 4, 0] [(0, .ref (aM 0)), (1, .int x1), (2, .int x2), (4, .int x4), (5, .int (x5 + 1))] dX10_pay_93 (by decide) rfl (by decide) rfl ?_
      refine im_goto (tgt := 38) X dX10_pay_96 rfl ?_
      exact ih z90 (x5 + 1)
noncomputable def f_X10_pay (F : Nat) (M : Mem) (LM : MemL) (x1 : Int32) (x2 : Int32) (x3 : Int32) : Option (Int32 × Mem × MemL) :=
  (f_X10_canPay F M LM x1 x2 x3).bind (fun z4 => (if z4 = 0 then (some ((-1), M, LM)) else (f_X10_payment F M LM x1 x2 x3).bind (fun z16 => (if z16.1 = (-2) then (some ((-2), z16.2.1, z16.2.2)) else (f_X10_keeps F z16.2.1 z16.2.2).bind (fun z32 => f_X10_pay_38 F z16.2.2 x1 x2 z16.1 (fun M_99 => (f_X10_anew F M_99 z16.2.2).bind (fun z100 => (some (z16.1, z100, z16.2.2)))) F z32 0)))))
set_option maxRecDepth 100000 in
set_option maxHeartbeats 4000000 in
theorem i_X10_pay {p : Program} {l : Launch} {e : Env} {s : State} {m : MethodId} {args : Array Value} {below : List Frame} {meth : Method} {c : Code} {D : va_G} {ct : im_ct} {A : Nat → Prop} (X : im_X p (im_rm 4) s m args meth c D ct A RX10 cX10_pay 6 (some .int)) (F : Nat) (aM : Nat → Nat) (M : Mem) (LM : MemL) (x1 : Int32) (x2 : Int32) (x3 : Int32) : Im p l e (im_rm 4) s m args below meth c D A 6 (QI D A (fun z : Int32 × Mem × MemL => z.1) (fun z : Int32 × Mem × MemL => (cat [w_Model ct aM z.2.1 z.2.2]))) 0 [(0, .ref (aM 0)), (1, .int x1), (2, .int x2), (3, .int x3)] [] (cat [w_Model ct aM M LM]) (f_X10_pay F M LM x1 x2 x3) := by
  unfold f_X10_pay
  refine im_aload_n X 0 dX10_pay_0 rfl rfl ?_
  refine im_iload_n X 1 dX10_pay_1 rfl rfl ?_
  refine im_iload_n X 2 dX10_pay_2 rfl rfl ?_
  refine im_iload_n X 3 dX10_pay_3 rfl rfl ?_
  refine im_cciV X [.int x1, .int x2, .int x3] [] [w_Model ct aM M LM] [w_Model ct aM M LM] [0] (fun z4 => [w_Model ct aM M LM]) 0 0 10 rfl rfl rfl cl_X10_205 (c_X10_canPay l D ct F aM M LM x1 x2 x3) rfl (by decide) (fun _ => lc rfl (rfl)) rfl ⟨by decide, by decide⟩ (Nat.le_of_ble_eq_true rfl) rfl dX10_pay_4 (fun z4 => ?_)
  refine im_ws (cat [w_Model ct aM M LM]) rfl ?_
  refine im_if_ne (tgt := 12) X dX10_pay_7 rfl ?_ ?_
  · refine im_aload_n X 0 dX10_pay_12 rfl rfl ?_
    refine im_iload_n X 1 dX10_pay_13 rfl rfl ?_
    refine im_iload_n X 2 dX10_pay_14 rfl rfl ?_
    refine im_iload_n X 3 dX10_pay_15 rfl rfl ?_
    refine im_cciV X [.int x1, .int x2, .int x3] [] [w_Model ct aM M LM] [w_Model ct aM M LM] [0] (fun z16 => [w_Model ct aM z16.2.1 z16.2.2]) 0 0 10 rfl rfl rfl cl_X10_209 (c_X10_payment l D ct F aM M LM x1 x2 x3) rfl (by decide) (fun _ => lc fa_Model (rfl)) rfl ⟨by decide, by decide⟩ (Nat.le_of_ble_eq_true rfl) rfl dX10_pay_16 (fun z16 => ?_)
    refine im_ws (cat [w_Model ct aM z16.2.1 z16.2.2]) rfl ?_
    refine im_istore X [1, 2, 3, 4, 0] [(0, .ref (aM 0)), (1, .int x1), (2, .int x2), (3, .int x3), (4, .int z16.1)] dX10_pay_19 (by decide) rfl ?_
    refine im_iload X 4 dX10_pay_21 rfl ?_
    refine im_bipush X (-2) dX10_pay_23 (by decide) ?_
    refine im_icmp_ne (tgt := 31) X dX10_pay_25 rfl ?_ ?_
    · refine im_aload_n X 0 dX10_pay_31 rfl rfl ?_
      refine im_ccvV X [] [] [w_Model ct aM z16.2.1 z16.2.2] [w_Model ct aM z16.2.1 z16.2.2] [0] (fun z32 => [w_Model ct aM z32 z16.2.2]) 0 0 10 rfl rfl rfl cl_X10_115 (c_X10_keeps l D ct F aM z16.2.1 z16.2.2) rfl (by decide) (fun _ => lc fa_Model (rfl)) rfl ⟨by decide, by decide⟩ (Nat.le_of_ble_eq_true rfl) rfl dX10_pay_32 (fun z32 => ?_)
      refine im_ws (cat [w_Model ct aM z32 z16.2.2]) rfl ?_
      refine im_iconst X 0 dX10_pay_35 (by decide) ?_
      refine im_istore X [1, 2, 3, 4, 5, 0] [(0, .ref (aM 0)), (1, .int x1), (2, .int x2), (3, .int x3), (4, .int z16.1), (5, .int 0)] dX10_pay_36 (by decide) rfl ?_
      refine im_lv [0, 1, 2, 4, 5] [(0, .ref (aM 0)), (1, .int x1), (2, .int x2), (4, .int z16.1), (5, .int 0)] rfl ?_
      refine i_X10_pay_38 X F aM z16.2.2 x1 x2 z16.1 _ (fun M_99 => ?_) F z32 0
      refine im_aload_n X 0 dX10_pay_99 rfl rfl ?_
      refine im_ccvV X [] [] [w_Model ct aM M_99 z16.2.2] [w_Model ct aM M_99 z16.2.2] [0] (fun z100 => [w_Model ct aM z100 z16.2.2]) 0 0 10 rfl rfl rfl cl_X10_118 (c_X10_anew l D ct F aM M_99 z16.2.2) rfl (by decide) (fun _ => lc fa_Model (rfl)) rfl ⟨by decide, by decide⟩ (Nat.le_of_ble_eq_true rfl) rfl dX10_pay_100 (fun z100 => ?_)
      refine im_ws (cat [w_Model ct aM z100 z16.2.2]) rfl ?_
      refine im_iload X 1 dX10_pay_103 rfl ?_
      exact im_ireturn X (z16.1, z100, z16.2.2) rfl rfl dX10_pay_105
    · refine im_bipush X (-2) dX10_pay_28 (by decide) ?_
      exact im_ireturn X ((-2), z16.2.1, z16.2.2) rfl rfl dX10_pay_30
  · refine im_iconst X (-1) dX10_pay_10 (by decide) ?_
    exact im_ireturn X ((-1), M, LM) rfl rfl dX10_pay_11
theorem c_X10_pay (l : Launch) (D : va_G) (ct : im_ct) (F : Nat) (aM : Nat → Nat) (M : Mem) (LM : MemL) (x1 : Int32) (x2 : Int32) (x3 : Int32) : CMi l D ct yX10_pay cX10_pay 6 (some .int) 4 [.ref (aM 0), .int x1, .int x2, .int x3] (cat [w_Model ct aM M LM]) (f_X10_pay F M LM x1 x2 x3) (fun z : Int32 × Mem × MemL => z.1) (fun z : Int32 × Mem × MemL => (cat [w_Model ct aM z.2.1 z.2.2])) :=
  im_met (Qb := fun A => QI D A (fun z : Int32 × Mem × MemL => z.1) (fun z : Int32 × Mem × MemL => (cat [w_Model ct aM z.2.1 z.2.2]))) (by decide +kernel) (Nat.le_of_ble_eq_true rfl) (fun p e s m args below meth c A X => i_X10_pay X F aM M LM x1 x2 x3)

noncomputable def f_X10_isAsBegan_2 (F : Nat) (M : Mem) (LM : MemL) (k29 : Option (Int32)) (k37 : Option (Int32)) : Nat → Int32 → Option (Int32)
  | 0, _ => none
  | n + 1, x1 =>
  (if 24 ≤ x1 then k37 else ck (8 + x1) 226 (ck (32 + x1) 226 ((if ((M 1) ((8 + x1)).toNatClampNeg) = ((M 1) ((32 + x1)).toNatClampNeg) then f_X10_isAsBegan_2 F M LM k29 k37 n (x1 + 1) else k29))))
set_option maxRecDepth 100000 in
set_option maxHeartbeats 4000000 in
theorem i_X10_isAsBegan_2 {p : Program} {l : Launch} {e : Env} {s : State} {m : MethodId} {args : Array Value} {below : List Frame} {meth : Method} {c : Code} {D : va_G} {ct : im_ct} {A : Nat → Prop} (X : im_X p (im_rm 0) s m args meth c D ct A RX10 cX10_isAsBegan 2 (some .boolean)) (F : Nat) (aM : Nat → Nat) (M : Mem) (LM : MemL) (k29 : Option (Int32)) (hk29 : Im p l e (im_rm 0) s m args below meth c D A 2 (QI D A (fun z : Int32 => z) (fun z : Int32 => (cat [w_Model ct aM M LM]))) 29 [] [] (cat [w_Model ct aM M LM]) (k29)) (k37 : Option (Int32)) (hk37 : Im p l e (im_rm 0) s m args below meth c D A 2 (QI D A (fun z : Int32 => z) (fun z : Int32 => (cat [w_Model ct aM M LM]))) 37 [] [] (cat [w_Model ct aM M LM]) (k37)) : ∀ (n : Nat) (x1 : Int32), Im p l e (im_rm 0) s m args below meth c D A 2 (QI D A (fun z : Int32 => z) (fun z : Int32 => (cat [w_Model ct aM M LM]))) 2 [(0, .ref (aM 0)), (1, .int x1)] [] (cat [w_Model ct aM M LM]) (f_X10_isAsBegan_2 F M LM k29 k37 n x1) := by
  intro n
  induction n with
  | zero => intros; exact im_none
  | succ n ih =>
    intro x1
    unfold f_X10_isAsBegan_2
    refine im_iload_n X 1 dX10_isAsBegan_2 rfl rfl ?_
    refine im_bipush X 24 dX10_isAsBegan_3 (by decide) ?_
    refine im_icmp_ge (tgt := 37) X dX10_isAsBegan_5 rfl ?_ ?_
    · refine im_lv [] [] rfl ?_
      exact hk37
    · refine im_aload_n X 0 dX10_isAsBegan_8 rfl rfl ?_
      refine im_cget X 0 0 (v := .ref (aM 1)) fl_X10_13 rfl rfl rfl dX10_isAsBegan_9 ?_
      refine im_bipush X 8 dX10_isAsBegan_12 (by decide) ?_
      refine im_iload_n X 1 dX10_isAsBegan_14 rfl rfl ?_
      refine im_iadd X dX10_isAsBegan_15 ?_
      refine im_ciald X 0 1 0 (f := (M 1)) rfl rfl rfl dX10_isAsBegan_16 ?_
      refine im_aload_n X 0 dX10_isAsBegan_17 rfl rfl ?_
      refine im_cget X 0 0 (v := .ref (aM 1)) fl_X10_13 rfl rfl rfl dX10_isAsBegan_18 ?_
      refine im_bipush X 32 dX10_isAsBegan_21 (by decide) ?_
      refine im_iload_n X 1 dX10_isAsBegan_23 rfl rfl ?_
      refine im_iadd X dX10_isAsBegan_24 ?_
      refine im_ciald X 0 1 0 (f := (M 1)) rfl rfl rfl dX10_isAsBegan_25 ?_
      refine im_icmp_eq (tgt := 31) X dX10_isAsBegan_26 rfl ?_ ?_
      · refine im_iinc X 1 1 [1, 0] [(0, .ref (aM 0)), (1, .int (x1 + 1))] dX10_isAsBegan_31 (by decide) rfl (by decide) rfl ?_
        refine im_goto (tgt := 2) X dX10_isAsBegan_34 rfl ?_
        exact ih (x1 + 1)
      · refine im_lv [] [] rfl ?_
        exact hk29
noncomputable def f_X10_isAsBegan (F : Nat) (M : Mem) (LM : MemL) : Option (Int32) :=
  f_X10_isAsBegan_2 F M LM ((some 0)) ((some 1)) F 0
set_option maxRecDepth 100000 in
set_option maxHeartbeats 4000000 in
theorem i_X10_isAsBegan {p : Program} {l : Launch} {e : Env} {s : State} {m : MethodId} {args : Array Value} {below : List Frame} {meth : Method} {c : Code} {D : va_G} {ct : im_ct} {A : Nat → Prop} (X : im_X p (im_rm 0) s m args meth c D ct A RX10 cX10_isAsBegan 2 (some .boolean)) (F : Nat) (aM : Nat → Nat) (M : Mem) (LM : MemL) : Im p l e (im_rm 0) s m args below meth c D A 2 (QI D A (fun z : Int32 => z) (fun z : Int32 => (cat [w_Model ct aM M LM]))) 0 [(0, .ref (aM 0))] [] (cat [w_Model ct aM M LM]) (f_X10_isAsBegan F M LM) := by
  unfold f_X10_isAsBegan
  refine im_iconst X 0 dX10_isAsBegan_0 (by decide) ?_
  refine im_istore_n X [1, 0] [(0, .ref (aM 0)), (1, .int 0)] dX10_isAsBegan_1 rfl (by decide) rfl ?_
  refine i_X10_isAsBegan_2 X F aM M LM  _ ?_ _ ?_ F 0
  · refine im_iconst X 0 dX10_isAsBegan_29 (by decide) ?_
    exact im_zreturn X 0 rfl rfl rfl dX10_isAsBegan_30
  · refine im_iconst X 1 dX10_isAsBegan_37 (by decide) ?_
    exact im_zreturn X 1 rfl rfl rfl dX10_isAsBegan_38
theorem c_X10_isAsBegan (l : Launch) (D : va_G) (ct : im_ct) (F : Nat) (aM : Nat → Nat) (M : Mem) (LM : MemL) : CMi l D ct yX10_isAsBegan cX10_isAsBegan 2 (some .boolean) 0 [.ref (aM 0)] (cat [w_Model ct aM M LM]) (f_X10_isAsBegan F M LM) (fun z : Int32 => z) (fun z : Int32 => (cat [w_Model ct aM M LM])) :=
  im_met (Qb := fun A => QI D A (fun z : Int32 => z) (fun z : Int32 => (cat [w_Model ct aM M LM]))) (by decide +kernel) (Nat.le_of_ble_eq_true rfl) (fun p e s m args below meth c A X => i_X10_isAsBegan X F aM M LM)

noncomputable def f_X10_start_30 (F : Nat) (M : Mem) (LM : MemL) : Option (Int32 × Mem) :=
  (f_X10_keeps F M LM).bind (fun z31 => ck 56 226 ((f_X10_anew F z31 LM).bind (fun z43 => (some (((z31 1) (56 : Int32).toNatClampNeg), z43)))))
set_option maxRecDepth 100000 in
set_option maxHeartbeats 4000000 in
theorem i_X10_start_30 {p : Program} {l : Launch} {e : Env} {s : State} {m : MethodId} {args : Array Value} {below : List Frame} {meth : Method} {c : Code} {D : va_G} {ct : im_ct} {A : Nat → Prop} (X : im_X p (im_rm 1) s m args meth c D ct A RX10 cX10_start 2 (some .int)) (F : Nat) (aM : Nat → Nat) (M : Mem) (LM : MemL) : Im p l e (im_rm 1) s m args below meth c D A 2 (QI D A (fun z : Int32 × Mem => z.1) (fun z : Int32 × Mem => (cat [w_Model ct aM z.2 LM]))) 30 [(0, .ref (aM 0))] [] (cat [w_Model ct aM M LM]) (f_X10_start_30 F M LM) := by
  unfold f_X10_start_30
  refine im_aload_n X 0 dX10_start_30 rfl rfl ?_
  refine im_ccvV X [] [] [w_Model ct aM M LM] [w_Model ct aM M LM] [0] (fun z31 => [w_Model ct aM z31 LM]) 0 0 10 rfl rfl rfl cl_X10_115 (c_X10_keeps l D ct F aM M LM) rfl (by decide) (fun _ => lc fa_Model (rfl)) rfl ⟨by decide, by decide⟩ (Nat.le_of_ble_eq_true rfl) rfl dX10_start_31 (fun z31 => ?_)
  refine im_ws (cat [w_Model ct aM z31 LM]) rfl ?_
  refine im_aload_n X 0 dX10_start_34 rfl rfl ?_
  refine im_cget X 0 0 (v := .ref (aM 1)) fl_X10_13 rfl rfl rfl dX10_start_35 ?_
  refine im_bipush X 56 dX10_start_38 (by decide) ?_
  refine im_ciald X 0 1 0 (f := (z31 1)) rfl rfl rfl dX10_start_40 ?_
  refine im_istore_n X [1, 0] [(0, .ref (aM 0)), (1, .int ((z31 1) (56 : Int32).toNatClampNeg))] dX10_start_41 rfl (by decide) rfl ?_
  refine im_aload_n X 0 dX10_start_42 rfl rfl ?_
  refine im_ccvV X [] [] [w_Model ct aM z31 LM] [w_Model ct aM z31 LM] [0] (fun z43 => [w_Model ct aM z43 LM]) 0 0 10 rfl rfl rfl cl_X10_118 (c_X10_anew l D ct F aM z31 LM) rfl (by decide) (fun _ => lc fa_Model (rfl)) rfl ⟨by decide, by decide⟩ (Nat.le_of_ble_eq_true rfl) rfl dX10_start_43 (fun z43 => ?_)
  refine im_ws (cat [w_Model ct aM z43 LM]) rfl ?_
  refine im_iload_n X 1 dX10_start_46 rfl rfl ?_
  exact im_ireturn X (((z31 1) (56 : Int32).toNatClampNeg), z43) rfl rfl dX10_start_47
noncomputable def f_X10_start (F : Nat) (M : Mem) (LM : MemL) : Option (Int32 × Mem) :=
  ck 56 226 ((if ((M 1) (56 : Int32).toNatClampNeg) = 0 then ck 177 226 ((if ((M 1) (177 : Int32).toNatClampNeg) = 0 then (f_X10_isAsBegan F M LM).bind (fun z22 => (if z22 = 0 then f_X10_start_30 F M LM else (some ((-1), M)))) else f_X10_start_30 F M LM)) else f_X10_start_30 F M LM))
set_option maxRecDepth 100000 in
set_option maxHeartbeats 4000000 in
theorem i_X10_start {p : Program} {l : Launch} {e : Env} {s : State} {m : MethodId} {args : Array Value} {below : List Frame} {meth : Method} {c : Code} {D : va_G} {ct : im_ct} {A : Nat → Prop} (X : im_X p (im_rm 1) s m args meth c D ct A RX10 cX10_start 2 (some .int)) (F : Nat) (aM : Nat → Nat) (M : Mem) (LM : MemL) : Im p l e (im_rm 1) s m args below meth c D A 2 (QI D A (fun z : Int32 × Mem => z.1) (fun z : Int32 × Mem => (cat [w_Model ct aM z.2 LM]))) 0 [(0, .ref (aM 0))] [] (cat [w_Model ct aM M LM]) (f_X10_start F M LM) := by
  unfold f_X10_start
  refine im_aload_n X 0 dX10_start_0 rfl rfl ?_
  refine im_cget X 0 0 (v := .ref (aM 1)) fl_X10_13 rfl rfl rfl dX10_start_1 ?_
  refine im_bipush X 56 dX10_start_4 (by decide) ?_
  refine im_ciald X 0 1 0 (f := (M 1)) rfl rfl rfl dX10_start_6 ?_
  refine im_if_ne (tgt := 30) X dX10_start_7 rfl ?_ ?_
  · exact i_X10_start_30 X F aM M LM  
  · refine im_aload_n X 0 dX10_start_10 rfl rfl ?_
    refine im_cget X 0 0 (v := .ref (aM 1)) fl_X10_13 rfl rfl rfl dX10_start_11 ?_
    refine im_sipush X 177 dX10_start_14 (by decide) ?_
    refine im_ciald X 0 1 0 (f := (M 1)) rfl rfl rfl dX10_start_17 ?_
    refine im_if_ne (tgt := 30) X dX10_start_18 rfl ?_ ?_
    · exact i_X10_start_30 X F aM M LM  
    · refine im_aload_n X 0 dX10_start_21 rfl rfl ?_
      refine im_cciV X [] [] [w_Model ct aM M LM] [w_Model ct aM M LM] [0] (fun z22 => [w_Model ct aM M LM]) 0 0 10 rfl rfl rfl cl_X10_213 (c_X10_isAsBegan l D ct F aM M LM) rfl (by decide) (fun _ => lc rfl (rfl)) rfl ⟨by decide, by decide⟩ (Nat.le_of_ble_eq_true rfl) rfl dX10_start_22 (fun z22 => ?_)
      refine im_ws (cat [w_Model ct aM M LM]) rfl ?_
      refine im_if_eq (tgt := 30) X dX10_start_25 rfl ?_ ?_
      · exact i_X10_start_30 X F aM M LM  
      · refine im_iconst X (-1) dX10_start_28 (by decide) ?_
        exact im_ireturn X ((-1), M) rfl rfl dX10_start_29
theorem c_X10_start (l : Launch) (D : va_G) (ct : im_ct) (F : Nat) (aM : Nat → Nat) (M : Mem) (LM : MemL) : CMi l D ct yX10_start cX10_start 2 (some .int) 1 [.ref (aM 0)] (cat [w_Model ct aM M LM]) (f_X10_start F M LM) (fun z : Int32 × Mem => z.1) (fun z : Int32 × Mem => (cat [w_Model ct aM z.2 LM])) :=
  im_met (Qb := fun A => QI D A (fun z : Int32 × Mem => z.1) (fun z : Int32 × Mem => (cat [w_Model ct aM z.2 LM]))) (by decide +kernel) (Nat.le_of_ble_eq_true rfl) (fun p e s m args below meth c A X => i_X10_start X F aM M LM)

noncomputable def f_X10_see (F : Nat) (M : Mem) (LM : MemL) (x1 : Int32) (x2 : Int32) (x3 : Int32) (x4 : Int32) : Option (Int32 × Mem) :=
  ck 56 226 ((f_X10_in F (x1).toInt64 0 (((M 1) (56 : Int32).toNatClampNeg)).toInt64).bind (fun z11 => (if z11 = 0 then (some ((-1), M)) else (f_X10_isCell F M LM x2 x3).bind (fun z20 => (if z20 = 0 then (some ((-1), M)) else (f_X10_holds F x4).bind (fun z28 => (if z28 = 0 then (some ((-1), M)) else ck 177 226 ((if ((M 1) (177 : Int32).toNatClampNeg) = 12 then (some ((-1), M)) else (f_X10_keeps F M LM).bind (fun z50 => ck 177 226 (ck (178 + (4 * ((z50 1) (177 : Int32).toNatClampNeg))) 226 (ck ((178 + (4 * ((z50 1) (177 : Int32).toNatClampNeg))) + 1) 226 (ck ((178 + (4 * ((z50 1) (177 : Int32).toNatClampNeg))) + 2) 226 (ck ((178 + (4 * ((z50 1) (177 : Int32).toNatClampNeg))) + 3) 226 (ck 177 226 (ck 177 226 (ck 177 226 ((some (((upd (upd (upd (upd (upd (z50 1) ((178 + (4 * ((z50 1) (177 : Int32).toNatClampNeg)))).toNatClampNeg x1) (((178 + (4 * ((z50 1) (177 : Int32).toNatClampNeg))) + 1)).toNatClampNeg x2) (((178 + (4 * ((z50 1) (177 : Int32).toNatClampNeg))) + 2)).toNatClampNeg x3) (((178 + (4 * ((z50 1) (177 : Int32).toNatClampNeg))) + 3)).toNatClampNeg x4) (177 : Int32).toNatClampNeg (((upd (upd (upd (upd (z50 1) ((178 + (4 * ((z50 1) (177 : Int32).toNatClampNeg)))).toNatClampNeg x1) (((178 + (4 * ((z50 1) (177 : Int32).toNatClampNeg))) + 1)).toNatClampNeg x2) (((178 + (4 * ((z50 1) (177 : Int32).toNatClampNeg))) + 2)).toNatClampNeg x3) (((178 + (4 * ((z50 1) (177 : Int32).toNatClampNeg))) + 3)).toNatClampNeg x4) (177 : Int32).toNatClampNeg) + 1)) (177 : Int32).toNatClampNeg), (mr z50 1 (upd (upd (upd (upd (upd (z50 1) ((178 + (4 * ((z50 1) (177 : Int32).toNatClampNeg)))).toNatClampNeg x1) (((178 + (4 * ((z50 1) (177 : Int32).toNatClampNeg))) + 1)).toNatClampNeg x2) (((178 + (4 * ((z50 1) (177 : Int32).toNatClampNeg))) + 2)).toNatClampNeg x3) (((178 + (4 * ((z50 1) (177 : Int32).toNatClampNeg))) + 3)).toNatClampNeg x4) (177 : Int32).toNatClampNeg (((upd (upd (upd (upd (z50 1) ((178 + (4 * ((z50 1) (177 : Int32).toNatClampNeg)))).toNatClampNeg x1) (((178 + (4 * ((z50 1) (177 : Int32).toNatClampNeg))) + 1)).toNatClampNeg x2) (((178 + (4 * ((z50 1) (177 : Int32).toNatClampNeg))) + 2)).toNatClampNeg x3) (((178 + (4 * ((z50 1) (177 : Int32).toNatClampNeg))) + 3)).toNatClampNeg x4) (177 : Int32).toNatClampNeg) + 1)))))))))))))))))))))))
set_option maxRecDepth 100000 in
set_option maxHeartbeats 4000000 in
theorem i_X10_see {p : Program} {l : Launch} {e : Env} {s : State} {m : MethodId} {args : Array Value} {below : List Frame} {meth : Method} {c : Code} {D : va_G} {ct : im_ct} {A : Nat → Prop} (X : im_X p (im_rm 3) s m args meth c D ct A RX10 cX10_see 6 (some .int)) (F : Nat) (aM : Nat → Nat) (M : Mem) (LM : MemL) (x1 : Int32) (x2 : Int32) (x3 : Int32) (x4 : Int32) : Im p l e (im_rm 3) s m args below meth c D A 6 (QI D A (fun z : Int32 × Mem => z.1) (fun z : Int32 × Mem => (cat [w_Model ct aM z.2 LM]))) 0 [(0, .ref (aM 0)), (1, .int x1), (2, .int x2), (3, .int x3), (4, .int x4)] [] (cat [w_Model ct aM M LM]) (f_X10_see F M LM x1 x2 x3 x4) := by
  unfold f_X10_see
  refine im_iload_n X 1 dX10_see_0 rfl rfl ?_
  refine im_i2l X dX10_see_1 ?_
  refine im_lconst X 0 dX10_see_2 (by decide) ?_
  refine im_aload_n X 0 dX10_see_3 rfl rfl ?_
  refine im_cget X 0 0 (v := .ref (aM 1)) fl_X10_13 rfl rfl rfl dX10_see_4 ?_
  refine im_bipush X 56 dX10_see_7 (by decide) ?_
  refine im_ciald X 0 1 0 (f := (M 1)) rfl rfl rfl dX10_see_9 ?_
  refine im_i2l X dX10_see_10 ?_
  refine im_cciS X [.long (x1).toInt64, .long 0, .long (((M 1) (56 : Int32).toNatClampNeg)).toInt64] [] [w_Model ct aM M LM] [] [] (fun z11 => []) cl_X10_86 (c_X10_in l D ct F (x1).toInt64 0 (((M 1) (56 : Int32).toNatClampNeg)).toInt64) rfl (by decide) (fun _ => rfl) rfl ⟨by decide, by decide⟩ (Nat.le_of_ble_eq_true rfl) rfl dX10_see_11 (fun z11 => ?_)
  refine im_ws (cat [w_Model ct aM M LM]) rfl ?_
  refine im_if_eq (tgt := 47) X dX10_see_14 rfl ?_ ?_
  · refine im_iconst X (-1) dX10_see_47 (by decide) ?_
    exact im_ireturn X ((-1), M) rfl rfl dX10_see_48
  · refine im_aload_n X 0 dX10_see_17 rfl rfl ?_
    refine im_iload_n X 2 dX10_see_18 rfl rfl ?_
    refine im_iload_n X 3 dX10_see_19 rfl rfl ?_
    refine im_cciV X [.int x2, .int x3] [] [w_Model ct aM M LM] [w_Model ct aM M LM] [0] (fun z20 => [w_Model ct aM M LM]) 0 0 10 rfl rfl rfl cl_X10_132 (c_X10_isCell l D ct F aM M LM x2 x3) rfl (by decide) (fun _ => lc rfl (rfl)) rfl ⟨by decide, by decide⟩ (Nat.le_of_ble_eq_true rfl) rfl dX10_see_20 (fun z20 => ?_)
    refine im_ws (cat [w_Model ct aM M LM]) rfl ?_
    refine im_if_eq (tgt := 47) X dX10_see_23 rfl ?_ ?_
    · refine im_iconst X (-1) dX10_see_47 (by decide) ?_
      exact im_ireturn X ((-1), M) rfl rfl dX10_see_48
    · refine im_iload X 4 dX10_see_26 rfl ?_
      refine im_cciS X [.int x4] [] [w_Model ct aM M LM] [] [] (fun z28 => []) cl_X10_148 (c_X10_holds l D ct F x4) rfl (by decide) (fun _ => rfl) rfl ⟨by decide, by decide⟩ (Nat.le_of_ble_eq_true rfl) rfl dX10_see_28 (fun z28 => ?_)
      refine im_ws (cat [w_Model ct aM M LM]) rfl ?_
      refine im_if_eq (tgt := 47) X dX10_see_31 rfl ?_ ?_
      · refine im_iconst X (-1) dX10_see_47 (by decide) ?_
        exact im_ireturn X ((-1), M) rfl rfl dX10_see_48
      · refine im_aload_n X 0 dX10_see_34 rfl rfl ?_
        refine im_cget X 0 0 (v := .ref (aM 1)) fl_X10_13 rfl rfl rfl dX10_see_35 ?_
        refine im_sipush X 177 dX10_see_38 (by decide) ?_
        refine im_ciald X 0 1 0 (f := (M 1)) rfl rfl rfl dX10_see_41 ?_
        refine im_bipush X 12 dX10_see_42 (by decide) ?_
        refine im_icmp_ne (tgt := 49) X dX10_see_44 rfl ?_ ?_
        · refine im_aload_n X 0 dX10_see_49 rfl rfl ?_
          refine im_ccvV X [] [] [w_Model ct aM M LM] [w_Model ct aM M LM] [0] (fun z50 => [w_Model ct aM z50 LM]) 0 0 10 rfl rfl rfl cl_X10_115 (c_X10_keeps l D ct F aM M LM) rfl (by decide) (fun _ => lc fa_Model (rfl)) rfl ⟨by decide, by decide⟩ (Nat.le_of_ble_eq_true rfl) rfl dX10_see_50 (fun z50 => ?_)
          refine im_ws (cat [w_Model ct aM z50 LM]) rfl ?_
          refine im_sipush X 178 dX10_see_53 (by decide) ?_
          refine im_iconst X 4 dX10_see_56 (by decide) ?_
          refine im_aload_n X 0 dX10_see_57 rfl rfl ?_
          refine im_cget X 0 0 (v := .ref (aM 1)) fl_X10_13 rfl rfl rfl dX10_see_58 ?_
          refine im_sipush X 177 dX10_see_61 (by decide) ?_
          refine im_ciald X 0 1 0 (f := (z50 1)) rfl rfl rfl dX10_see_64 ?_
          refine im_imul X dX10_see_65 ?_
          refine im_iadd X dX10_see_66 ?_
          refine im_istore X [1, 2, 3, 4, 5, 0] [(0, .ref (aM 0)), (1, .int x1), (2, .int x2), (3, .int x3), (4, .int x4), (5, .int (178 + (4 * ((z50 1) (177 : Int32).toNatClampNeg))))] dX10_see_67 (by decide) rfl ?_
          refine im_aload_n X 0 dX10_see_69 rfl rfl ?_
          refine im_cget X 0 0 (v := .ref (aM 1)) fl_X10_13 rfl rfl rfl dX10_see_70 ?_
          refine im_iload X 5 dX10_see_73 rfl ?_
          refine im_iload_n X 1 dX10_see_75 rfl rfl ?_
          refine im_ciast X 0 1 0 (wx_Model ct aM (z50 0 0) (z50 0 4) (z50 0 6) (z50 0 7) (z50 0 8) (z50 0 9) (z50 0 24) (z50 0 27) (z50 0 29) (z50 0 31) (z50 0 32) (z50 0 33) (z50 0 34) (z50 0 35) (upd (z50 1) ((178 + (4 * ((z50 1) (177 : Int32).toNatClampNeg)))).toNatClampNeg x1) (z50 2) (z50 3) (z50 4) (z50 5) (z50 9) (z50 10) (z50 11) (z50 12) (z50 13) (z50 14) (z50 15) (z50 16) (z50 17) (z50 18) (z50 19) (z50 20) (z50 21) (z50 22) (LM 6) (LM 7) (LM 8)) [wx_Model ct aM (z50 0 0) (z50 0 4) (z50 0 6) (z50 0 7) (z50 0 8) (z50 0 9) (z50 0 24) (z50 0 27) (z50 0 29) (z50 0 31) (z50 0 32) (z50 0 33) (z50 0 34) (z50 0 35) (upd (z50 1) ((178 + (4 * ((z50 1) (177 : Int32).toNatClampNeg)))).toNatClampNeg x1) (z50 2) (z50 3) (z50 4) (z50 5) (z50 9) (z50 10) (z50 11) (z50 12) (z50 13) (z50 14) (z50 15) (z50 16) (z50 17) (z50 18) (z50 19) (z50 20) (z50 21) (z50 22) (LM 6) (LM 7) (LM 8)] (f := (z50 1)) rfl rfl rfl rfl rfl dX10_see_76 ?_
          refine im_aload_n X 0 dX10_see_77 rfl rfl ?_
          refine im_cget X 0 0 (v := .ref (aM 1)) fl_X10_13 rfl rfl rfl dX10_see_78 ?_
          refine im_iload X 5 dX10_see_81 rfl ?_
          refine im_iconst X 1 dX10_see_83 (by decide) ?_
          refine im_iadd X dX10_see_84 ?_
          refine im_iload_n X 2 dX10_see_85 rfl rfl ?_
          refine im_ciast X 0 1 0 (wx_Model ct aM (z50 0 0) (z50 0 4) (z50 0 6) (z50 0 7) (z50 0 8) (z50 0 9) (z50 0 24) (z50 0 27) (z50 0 29) (z50 0 31) (z50 0 32) (z50 0 33) (z50 0 34) (z50 0 35) (upd (upd (z50 1) ((178 + (4 * ((z50 1) (177 : Int32).toNatClampNeg)))).toNatClampNeg x1) (((178 + (4 * ((z50 1) (177 : Int32).toNatClampNeg))) + 1)).toNatClampNeg x2) (z50 2) (z50 3) (z50 4) (z50 5) (z50 9) (z50 10) (z50 11) (z50 12) (z50 13) (z50 14) (z50 15) (z50 16) (z50 17) (z50 18) (z50 19) (z50 20) (z50 21) (z50 22) (LM 6) (LM 7) (LM 8)) [wx_Model ct aM (z50 0 0) (z50 0 4) (z50 0 6) (z50 0 7) (z50 0 8) (z50 0 9) (z50 0 24) (z50 0 27) (z50 0 29) (z50 0 31) (z50 0 32) (z50 0 33) (z50 0 34) (z50 0 35) (upd (upd (z50 1) ((178 + (4 * ((z50 1) (177 : Int32).toNatClampNeg)))).toNatClampNeg x1) (((178 + (4 * ((z50 1) (177 : Int32).toNatClampNeg))) + 1)).toNatClampNeg x2) (z50 2) (z50 3) (z50 4) (z50 5) (z50 9) (z50 10) (z50 11) (z50 12) (z50 13) (z50 14) (z50 15) (z50 16) (z50 17) (z50 18) (z50 19) (z50 20) (z50 21) (z50 22) (LM 6) (LM 7) (LM 8)] (f := (upd (z50 1) ((178 + (4 * ((z50 1) (177 : Int32).toNatClampNeg)))).toNatClampNeg x1)) rfl rfl rfl rfl rfl dX10_see_86 ?_
          refine im_aload_n X 0 dX10_see_87 rfl rfl ?_
          refine im_cget X 0 0 (v := .ref (aM 1)) fl_X10_13 rfl rfl rfl dX10_see_88 ?_
          refine im_iload X 5 dX10_see_91 rfl ?_
          refine im_iconst X 2 dX10_see_93 (by decide) ?_
          refine im_iadd X dX10_see_94 ?_
          refine im_iload_n X 3 dX10_see_95 rfl rfl ?_
          refine im_ciast X 0 1 0 (wx_Model ct aM (z50 0 0) (z50 0 4) (z50 0 6) (z50 0 7) (z50 0 8) (z50 0 9) (z50 0 24) (z50 0 27) (z50 0 29) (z50 0 31) (z50 0 32) (z50 0 33) (z50 0 34) (z50 0 35) (upd (upd (upd (z50 1) ((178 + (4 * ((z50 1) (177 : Int32).toNatClampNeg)))).toNatClampNeg x1) (((178 + (4 * ((z50 1) (177 : Int32).toNatClampNeg))) + 1)).toNatClampNeg x2) (((178 + (4 * ((z50 1) (177 : Int32).toNatClampNeg))) + 2)).toNatClampNeg x3) (z50 2) (z50 3) (z50 4) (z50 5) (z50 9) (z50 10) (z50 11) (z50 12) (z50 13) (z50 14) (z50 15) (z50 16) (z50 17) (z50 18) (z50 19) (z50 20) (z50 21) (z50 22) (LM 6) (LM 7) (LM 8)) [wx_Model ct aM (z50 0 0) (z50 0 4) (z50 0 6) (z50 0 7) (z50 0 8) (z50 0 9) (z50 0 24) (z50 0 27) (z50 0 29) (z50 0 31) (z50 0 32) (z50 0 33) (z50 0 34) (z50 0 35) (upd (upd (upd (z50 1) ((178 + (4 * ((z50 1) (177 : Int32).toNatClampNeg)))).toNatClampNeg x1) (((178 + (4 * ((z50 1) (177 : Int32).toNatClampNeg))) + 1)).toNatClampNeg x2) (((178 + (4 * ((z50 1) (177 : Int32).toNatClampNeg))) + 2)).toNatClampNeg x3) (z50 2) (z50 3) (z50 4) (z50 5) (z50 9) (z50 10) (z50 11) (z50 12) (z50 13) (z50 14) (z50 15) (z50 16) (z50 17) (z50 18) (z50 19) (z50 20) (z50 21) (z50 22) (LM 6) (LM 7) (LM 8)] (f := (upd (upd (z50 1) ((178 + (4 * ((z50 1) (177 : Int32).toNatClampNeg)))).toNatClampNeg x1) (((178 + (4 * ((z50 1) (177 : Int32).toNatClampNeg))) + 1)).toNatClampNeg x2)) rfl rfl rfl rfl rfl dX10_see_96 ?_
          refine im_aload_n X 0 dX10_see_97 rfl rfl ?_
          refine im_cget X 0 0 (v := .ref (aM 1)) fl_X10_13 rfl rfl rfl dX10_see_98 ?_
          refine im_iload X 5 dX10_see_101 rfl ?_
          refine im_iconst X 3 dX10_see_103 (by decide) ?_
          refine im_iadd X dX10_see_104 ?_
          refine im_iload X 4 dX10_see_105 rfl ?_
          refine im_ciast X 0 1 0 (wx_Model ct aM (z50 0 0) (z50 0 4) (z50 0 6) (z50 0 7) (z50 0 8) (z50 0 9) (z50 0 24) (z50 0 27) (z50 0 29) (z50 0 31) (z50 0 32) (z50 0 33) (z50 0 34) (z50 0 35) (upd (upd (upd (upd (z50 1) ((178 + (4 * ((z50 1) (177 : Int32).toNatClampNeg)))).toNatClampNeg x1) (((178 + (4 * ((z50 1) (177 : Int32).toNatClampNeg))) + 1)).toNatClampNeg x2) (((178 + (4 * ((z50 1) (177 : Int32).toNatClampNeg))) + 2)).toNatClampNeg x3) (((178 + (4 * ((z50 1) (177 : Int32).toNatClampNeg))) + 3)).toNatClampNeg x4) (z50 2) (z50 3) (z50 4) (z50 5) (z50 9) (z50 10) (z50 11) (z50 12) (z50 13) (z50 14) (z50 15) (z50 16) (z50 17) (z50 18) (z50 19) (z50 20) (z50 21) (z50 22) (LM 6) (LM 7) (LM 8)) [wx_Model ct aM (z50 0 0) (z50 0 4) (z50 0 6) (z50 0 7) (z50 0 8) (z50 0 9) (z50 0 24) (z50 0 27) (z50 0 29) (z50 0 31) (z50 0 32) (z50 0 33) (z50 0 34) (z50 0 35) (upd (upd (upd (upd (z50 1) ((178 + (4 * ((z50 1) (177 : Int32).toNatClampNeg)))).toNatClampNeg x1) (((178 + (4 * ((z50 1) (177 : Int32).toNatClampNeg))) + 1)).toNatClampNeg x2) (((178 + (4 * ((z50 1) (177 : Int32).toNatClampNeg))) + 2)).toNatClampNeg x3) (((178 + (4 * ((z50 1) (177 : Int32).toNatClampNeg))) + 3)).toNatClampNeg x4) (z50 2) (z50 3) (z50 4) (z50 5) (z50 9) (z50 10) (z50 11) (z50 12) (z50 13) (z50 14) (z50 15) (z50 16) (z50 17) (z50 18) (z50 19) (z50 20) (z50 21) (z50 22) (LM 6) (LM 7) (LM 8)] (f := (upd (upd (upd (z50 1) ((178 + (4 * ((z50 1) (177 : Int32).toNatClampNeg)))).toNatClampNeg x1) (((178 + (4 * ((z50 1) (177 : Int32).toNatClampNeg))) + 1)).toNatClampNeg x2) (((178 + (4 * ((z50 1) (177 : Int32).toNatClampNeg))) + 2)).toNatClampNeg x3)) rfl rfl rfl rfl rfl dX10_see_107 ?_
          refine im_aload_n X 0 dX10_see_108 rfl rfl ?_
          refine im_cget X 0 0 (v := .ref (aM 1)) fl_X10_13 rfl rfl rfl dX10_see_109 ?_
          refine im_sipush X 177 dX10_see_112 (by decide) ?_
          refine im_dup2_11 X rfl rfl dX10_see_115 ?_
          refine im_ciald X 0 1 0 (f := (upd (upd (upd (upd (z50 1) ((178 + (4 * ((z50 1) (177 : Int32).toNatClampNeg)))).toNatClampNeg x1) (((178 + (4 * ((z50 1) (177 : Int32).toNatClampNeg))) + 1)).toNatClampNeg x2) (((178 + (4 * ((z50 1) (177 : Int32).toNatClampNeg))) + 2)).toNatClampNeg x3) (((178 + (4 * ((z50 1) (177 : Int32).toNatClampNeg))) + 3)).toNatClampNeg x4)) rfl rfl rfl dX10_see_116 ?_
          refine im_iconst X 1 dX10_see_117 (by decide) ?_
          refine im_iadd X dX10_see_118 ?_
          refine im_ciast X 0 1 0 (wx_Model ct aM (z50 0 0) (z50 0 4) (z50 0 6) (z50 0 7) (z50 0 8) (z50 0 9) (z50 0 24) (z50 0 27) (z50 0 29) (z50 0 31) (z50 0 32) (z50 0 33) (z50 0 34) (z50 0 35) (upd (upd (upd (upd (upd (z50 1) ((178 + (4 * ((z50 1) (177 : Int32).toNatClampNeg)))).toNatClampNeg x1) (((178 + (4 * ((z50 1) (177 : Int32).toNatClampNeg))) + 1)).toNatClampNeg x2) (((178 + (4 * ((z50 1) (177 : Int32).toNatClampNeg))) + 2)).toNatClampNeg x3) (((178 + (4 * ((z50 1) (177 : Int32).toNatClampNeg))) + 3)).toNatClampNeg x4) (177 : Int32).toNatClampNeg (((upd (upd (upd (upd (z50 1) ((178 + (4 * ((z50 1) (177 : Int32).toNatClampNeg)))).toNatClampNeg x1) (((178 + (4 * ((z50 1) (177 : Int32).toNatClampNeg))) + 1)).toNatClampNeg x2) (((178 + (4 * ((z50 1) (177 : Int32).toNatClampNeg))) + 2)).toNatClampNeg x3) (((178 + (4 * ((z50 1) (177 : Int32).toNatClampNeg))) + 3)).toNatClampNeg x4) (177 : Int32).toNatClampNeg) + 1)) (z50 2) (z50 3) (z50 4) (z50 5) (z50 9) (z50 10) (z50 11) (z50 12) (z50 13) (z50 14) (z50 15) (z50 16) (z50 17) (z50 18) (z50 19) (z50 20) (z50 21) (z50 22) (LM 6) (LM 7) (LM 8)) [wx_Model ct aM (z50 0 0) (z50 0 4) (z50 0 6) (z50 0 7) (z50 0 8) (z50 0 9) (z50 0 24) (z50 0 27) (z50 0 29) (z50 0 31) (z50 0 32) (z50 0 33) (z50 0 34) (z50 0 35) (upd (upd (upd (upd (upd (z50 1) ((178 + (4 * ((z50 1) (177 : Int32).toNatClampNeg)))).toNatClampNeg x1) (((178 + (4 * ((z50 1) (177 : Int32).toNatClampNeg))) + 1)).toNatClampNeg x2) (((178 + (4 * ((z50 1) (177 : Int32).toNatClampNeg))) + 2)).toNatClampNeg x3) (((178 + (4 * ((z50 1) (177 : Int32).toNatClampNeg))) + 3)).toNatClampNeg x4) (177 : Int32).toNatClampNeg (((upd (upd (upd (upd (z50 1) ((178 + (4 * ((z50 1) (177 : Int32).toNatClampNeg)))).toNatClampNeg x1) (((178 + (4 * ((z50 1) (177 : Int32).toNatClampNeg))) + 1)).toNatClampNeg x2) (((178 + (4 * ((z50 1) (177 : Int32).toNatClampNeg))) + 2)).toNatClampNeg x3) (((178 + (4 * ((z50 1) (177 : Int32).toNatClampNeg))) + 3)).toNatClampNeg x4) (177 : Int32).toNatClampNeg) + 1)) (z50 2) (z50 3) (z50 4) (z50 5) (z50 9) (z50 10) (z50 11) (z50 12) (z50 13) (z50 14) (z50 15) (z50 16) (z50 17) (z50 18) (z50 19) (z50 20) (z50 21) (z50 22) (LM 6) (LM 7) (LM 8)] (f := (upd (upd (upd (upd (z50 1) ((178 + (4 * ((z50 1) (177 : Int32).toNatClampNeg)))).toNatClampNeg x1) (((178 + (4 * ((z50 1) (177 : Int32).toNatClampNeg))) + 1)).toNatClampNeg x2) (((178 + (4 * ((z50 1) (177 : Int32).toNatClampNeg))) + 2)).toNatClampNeg x3) (((178 + (4 * ((z50 1) (177 : Int32).toNatClampNeg))) + 3)).toNatClampNeg x4)) rfl rfl rfl rfl rfl dX10_see_119 ?_
          refine im_aload_n X 0 dX10_see_120 rfl rfl ?_
          refine im_cget X 0 0 (v := .ref (aM 1)) fl_X10_13 rfl rfl rfl dX10_see_121 ?_
          refine im_sipush X 177 dX10_see_124 (by decide) ?_
          refine im_ciald X 0 1 0 (f := (upd (upd (upd (upd (upd (z50 1) ((178 + (4 * ((z50 1) (177 : Int32).toNatClampNeg)))).toNatClampNeg x1) (((178 + (4 * ((z50 1) (177 : Int32).toNatClampNeg))) + 1)).toNatClampNeg x2) (((178 + (4 * ((z50 1) (177 : Int32).toNatClampNeg))) + 2)).toNatClampNeg x3) (((178 + (4 * ((z50 1) (177 : Int32).toNatClampNeg))) + 3)).toNatClampNeg x4) (177 : Int32).toNatClampNeg (((upd (upd (upd (upd (z50 1) ((178 + (4 * ((z50 1) (177 : Int32).toNatClampNeg)))).toNatClampNeg x1) (((178 + (4 * ((z50 1) (177 : Int32).toNatClampNeg))) + 1)).toNatClampNeg x2) (((178 + (4 * ((z50 1) (177 : Int32).toNatClampNeg))) + 2)).toNatClampNeg x3) (((178 + (4 * ((z50 1) (177 : Int32).toNatClampNeg))) + 3)).toNatClampNeg x4) (177 : Int32).toNatClampNeg) + 1))) rfl rfl rfl dX10_see_127 ?_
          exact im_ireturn X (((upd (upd (upd (upd (upd (z50 1) ((178 + (4 * ((z50 1) (177 : Int32).toNatClampNeg)))).toNatClampNeg x1) (((178 + (4 * ((z50 1) (177 : Int32).toNatClampNeg))) + 1)).toNatClampNeg x2) (((178 + (4 * ((z50 1) (177 : Int32).toNatClampNeg))) + 2)).toNatClampNeg x3) (((178 + (4 * ((z50 1) (177 : Int32).toNatClampNeg))) + 3)).toNatClampNeg x4) (177 : Int32).toNatClampNeg (((upd (upd (upd (upd (z50 1) ((178 + (4 * ((z50 1) (177 : Int32).toNatClampNeg)))).toNatClampNeg x1) (((178 + (4 * ((z50 1) (177 : Int32).toNatClampNeg))) + 1)).toNatClampNeg x2) (((178 + (4 * ((z50 1) (177 : Int32).toNatClampNeg))) + 2)).toNatClampNeg x3) (((178 + (4 * ((z50 1) (177 : Int32).toNatClampNeg))) + 3)).toNatClampNeg x4) (177 : Int32).toNatClampNeg) + 1)) (177 : Int32).toNatClampNeg), (mr z50 1 (upd (upd (upd (upd (upd (z50 1) ((178 + (4 * ((z50 1) (177 : Int32).toNatClampNeg)))).toNatClampNeg x1) (((178 + (4 * ((z50 1) (177 : Int32).toNatClampNeg))) + 1)).toNatClampNeg x2) (((178 + (4 * ((z50 1) (177 : Int32).toNatClampNeg))) + 2)).toNatClampNeg x3) (((178 + (4 * ((z50 1) (177 : Int32).toNatClampNeg))) + 3)).toNatClampNeg x4) (177 : Int32).toNatClampNeg (((upd (upd (upd (upd (z50 1) ((178 + (4 * ((z50 1) (177 : Int32).toNatClampNeg)))).toNatClampNeg x1) (((178 + (4 * ((z50 1) (177 : Int32).toNatClampNeg))) + 1)).toNatClampNeg x2) (((178 + (4 * ((z50 1) (177 : Int32).toNatClampNeg))) + 2)).toNatClampNeg x3) (((178 + (4 * ((z50 1) (177 : Int32).toNatClampNeg))) + 3)).toNatClampNeg x4) (177 : Int32).toNatClampNeg) + 1)))) rfl rfl dX10_see_128
        · refine im_iconst X (-1) dX10_see_47 (by decide) ?_
          exact im_ireturn X ((-1), M) rfl rfl dX10_see_48
theorem c_X10_see (l : Launch) (D : va_G) (ct : im_ct) (F : Nat) (aM : Nat → Nat) (M : Mem) (LM : MemL) (x1 : Int32) (x2 : Int32) (x3 : Int32) (x4 : Int32) : CMi l D ct yX10_see cX10_see 6 (some .int) 3 [.ref (aM 0), .int x1, .int x2, .int x3, .int x4] (cat [w_Model ct aM M LM]) (f_X10_see F M LM x1 x2 x3 x4) (fun z : Int32 × Mem => z.1) (fun z : Int32 × Mem => (cat [w_Model ct aM z.2 LM])) :=
  im_met (Qb := fun A => QI D A (fun z : Int32 × Mem => z.1) (fun z : Int32 × Mem => (cat [w_Model ct aM z.2 LM]))) (by decide +kernel) (Nat.le_of_ble_eq_true rfl) (fun p e s m args below meth c A X => i_X10_see X F aM M LM x1 x2 x3 x4)

noncomputable def f_X10_unsee (F : Nat) (M : Mem) (LM : MemL) (x1 : Int32) : Option (Int32 × Mem) :=
  ck 177 226 ((f_X10_in F (x1).toInt64 0 ((((M 1) (177 : Int32).toNatClampNeg) - 1)).toInt64).bind (fun z14 => (if z14 = 0 then (some ((-1), M)) else (f_X10_keeps F M LM).bind (fun z23 => (f_X10_unsees F z23 LM x1).bind (fun z28 => ck 177 226 ((some (((z28 1) (177 : Int32).toNatClampNeg), z28))))))))
set_option maxRecDepth 100000 in
set_option maxHeartbeats 4000000 in
theorem i_X10_unsee {p : Program} {l : Launch} {e : Env} {s : State} {m : MethodId} {args : Array Value} {below : List Frame} {meth : Method} {c : Code} {D : va_G} {ct : im_ct} {A : Nat → Prop} (X : im_X p (im_rm 1) s m args meth c D ct A RX10 cX10_unsee 2 (some .int)) (F : Nat) (aM : Nat → Nat) (M : Mem) (LM : MemL) (x1 : Int32) : Im p l e (im_rm 1) s m args below meth c D A 2 (QI D A (fun z : Int32 × Mem => z.1) (fun z : Int32 × Mem => (cat [w_Model ct aM z.2 LM]))) 0 [(0, .ref (aM 0)), (1, .int x1)] [] (cat [w_Model ct aM M LM]) (f_X10_unsee F M LM x1) := by
  unfold f_X10_unsee
  refine im_iload_n X 1 dX10_unsee_0 rfl rfl ?_
  refine im_i2l X dX10_unsee_1 ?_
  refine im_lconst X 0 dX10_unsee_2 (by decide) ?_
  refine im_aload_n X 0 dX10_unsee_3 rfl rfl ?_
  refine im_cget X 0 0 (v := .ref (aM 1)) fl_X10_13 rfl rfl rfl dX10_unsee_4 ?_
  refine im_sipush X 177 dX10_unsee_7 (by decide) ?_
  refine im_ciald X 0 1 0 (f := (M 1)) rfl rfl rfl dX10_unsee_10 ?_
  refine im_iconst X 1 dX10_unsee_11 (by decide) ?_
  refine im_isub X dX10_unsee_12 ?_
  refine im_i2l X dX10_unsee_13 ?_
  refine im_cciS X [.long (x1).toInt64, .long 0, .long ((((M 1) (177 : Int32).toNatClampNeg) - 1)).toInt64] [] [w_Model ct aM M LM] [] [] (fun z14 => []) cl_X10_86 (c_X10_in l D ct F (x1).toInt64 0 ((((M 1) (177 : Int32).toNatClampNeg) - 1)).toInt64) rfl (by decide) (fun _ => rfl) rfl ⟨by decide, by decide⟩ (Nat.le_of_ble_eq_true rfl) rfl dX10_unsee_14 (fun z14 => ?_)
  refine im_ws (cat [w_Model ct aM M LM]) rfl ?_
  refine im_if_ne (tgt := 22) X dX10_unsee_17 rfl ?_ ?_
  · refine im_aload_n X 0 dX10_unsee_22 rfl rfl ?_
    refine im_ccvV X [] [] [w_Model ct aM M LM] [w_Model ct aM M LM] [0] (fun z23 => [w_Model ct aM z23 LM]) 0 0 10 rfl rfl rfl cl_X10_115 (c_X10_keeps l D ct F aM M LM) rfl (by decide) (fun _ => lc fa_Model (rfl)) rfl ⟨by decide, by decide⟩ (Nat.le_of_ble_eq_true rfl) rfl dX10_unsee_23 (fun z23 => ?_)
    refine im_ws (cat [w_Model ct aM z23 LM]) rfl ?_
    refine im_aload_n X 0 dX10_unsee_26 rfl rfl ?_
    refine im_iload_n X 1 dX10_unsee_27 rfl rfl ?_
    refine im_ccvV X [.int x1] [] [w_Model ct aM z23 LM] [w_Model ct aM z23 LM] [0] (fun z28 => [w_Model ct aM z28 LM]) 0 0 10 rfl rfl rfl cl_X10_175 (c_X10_unsees l D ct F aM z23 LM x1) rfl (by decide) (fun _ => lc fa_Model (rfl)) rfl ⟨by decide, by decide⟩ (Nat.le_of_ble_eq_true rfl) rfl dX10_unsee_28 (fun z28 => ?_)
    refine im_ws (cat [w_Model ct aM z28 LM]) rfl ?_
    refine im_aload_n X 0 dX10_unsee_31 rfl rfl ?_
    refine im_cget X 0 0 (v := .ref (aM 1)) fl_X10_13 rfl rfl rfl dX10_unsee_32 ?_
    refine im_sipush X 177 dX10_unsee_35 (by decide) ?_
    refine im_ciald X 0 1 0 (f := (z28 1)) rfl rfl rfl dX10_unsee_38 ?_
    exact im_ireturn X (((z28 1) (177 : Int32).toNatClampNeg), z28) rfl rfl dX10_unsee_39
  · refine im_iconst X (-1) dX10_unsee_20 (by decide) ?_
    exact im_ireturn X ((-1), M) rfl rfl dX10_unsee_21
theorem c_X10_unsee (l : Launch) (D : va_G) (ct : im_ct) (F : Nat) (aM : Nat → Nat) (M : Mem) (LM : MemL) (x1 : Int32) : CMi l D ct yX10_unsee cX10_unsee 2 (some .int) 1 [.ref (aM 0), .int x1] (cat [w_Model ct aM M LM]) (f_X10_unsee F M LM x1) (fun z : Int32 × Mem => z.1) (fun z : Int32 × Mem => (cat [w_Model ct aM z.2 LM])) :=
  im_met (Qb := fun A => QI D A (fun z : Int32 × Mem => z.1) (fun z : Int32 × Mem => (cat [w_Model ct aM z.2 LM]))) (by decide +kernel) (Nat.le_of_ble_eq_true rfl) (fun p e s m args below meth c A X => i_X10_unsee X F aM M LM x1)

noncomputable def f_X10_laysAt_2 (F : Nat) (LM : MemL) (x1 : Int32) (k29 : Mem → Option (Mem)) : Nat → Mem → Int32 → Option (Mem)
  | 0, _, _ => none
  | n + 1, M, x2 =>
  (if 24 ≤ x2 then k29 M else ck (32 + x2) 226 (ck x2 24 (f_X10_laysAt_2 F LM x1 k29 n (mr M 4 (upd (M 4) x2.toNatClampNeg ((M 1) ((32 + x2)).toNatClampNeg))) (x2 + 1))))
set_option maxRecDepth 100000 in
set_option maxHeartbeats 4000000 in
theorem i_X10_laysAt_2 {p : Program} {l : Launch} {e : Env} {s : State} {m : MethodId} {args : Array Value} {below : List Frame} {meth : Method} {c : Code} {D : va_G} {ct : im_ct} {A : Nat → Prop} (X : im_X p (im_rm 5) s m args meth c D ct A RX10 cX10_laysAt 3 none) (F : Nat) (aM : Nat → Nat) (LM : MemL) (x1 : Int32) (k29 : Mem → Option (Mem)) (hk29 : ∀ (M : Mem), Im p l e (im_rm 5) s m args below meth c D A 3 (QV D A (fun z : Mem => (cat [w_Model ct aM z LM]))) 29 [(0, .ref (aM 0)), (1, .int x1)] [] (cat [w_Model ct aM M LM]) (k29 M)) : ∀ (n : Nat) (M : Mem) (x2 : Int32), Im p l e (im_rm 5) s m args below meth c D A 3 (QV D A (fun z : Mem => (cat [w_Model ct aM z LM]))) 2 [(0, .ref (aM 0)), (1, .int x1), (2, .int x2)] [] (cat [w_Model ct aM M LM]) (f_X10_laysAt_2 F LM x1 k29 n M x2) := by
  intro n
  induction n with
  | zero => intros; exact im_none
  | succ n ih =>
    intro M x2
    unfold f_X10_laysAt_2
    refine im_iload_n X 2 dX10_laysAt_2 rfl rfl ?_
    refine im_bipush X 24 dX10_laysAt_3 (by decide) ?_
    refine im_icmp_ge (tgt := 29) X dX10_laysAt_5 rfl ?_ ?_
    · refine im_lv [0, 1] [(0, .ref (aM 0)), (1, .int x1)] rfl ?_
      exact hk29 M
    · refine im_aload_n X 0 dX10_laysAt_8 rfl rfl ?_
      refine im_cget X 0 0 (v := .ref (aM 4)) fl_X10_23 rfl rfl rfl dX10_laysAt_9 ?_
      refine im_iload_n X 2 dX10_laysAt_12 rfl rfl ?_
      refine im_aload_n X 0 dX10_laysAt_13 rfl rfl ?_
      refine im_cget X 0 0 (v := .ref (aM 1)) fl_X10_13 rfl rfl rfl dX10_laysAt_14 ?_
      refine im_bipush X 32 dX10_laysAt_17 (by decide) ?_
      refine im_iload_n X 2 dX10_laysAt_19 rfl rfl ?_
      refine im_iadd X dX10_laysAt_20 ?_
      refine im_ciald X 0 1 0 (f := (M 1)) rfl rfl rfl dX10_laysAt_21 ?_
      refine im_ciast X 0 4 0 (wx_Model ct aM (M 0 0) (M 0 4) (M 0 6) (M 0 7) (M 0 8) (M 0 9) (M 0 24) (M 0 27) (M 0 29) (M 0 31) (M 0 32) (M 0 33) (M 0 34) (M 0 35) (M 1) (M 2) (M 3) (upd (M 4) x2.toNatClampNeg ((M 1) ((32 + x2)).toNatClampNeg)) (M 5) (M 9) (M 10) (M 11) (M 12) (M 13) (M 14) (M 15) (M 16) (M 17) (M 18) (M 19) (M 20) (M 21) (M 22) (LM 6) (LM 7) (LM 8)) [wx_Model ct aM (M 0 0) (M 0 4) (M 0 6) (M 0 7) (M 0 8) (M 0 9) (M 0 24) (M 0 27) (M 0 29) (M 0 31) (M 0 32) (M 0 33) (M 0 34) (M 0 35) (M 1) (M 2) (M 3) (upd (M 4) x2.toNatClampNeg ((M 1) ((32 + x2)).toNatClampNeg)) (M 5) (M 9) (M 10) (M 11) (M 12) (M 13) (M 14) (M 15) (M 16) (M 17) (M 18) (M 19) (M 20) (M 21) (M 22) (LM 6) (LM 7) (LM 8)] (f := (M 4)) rfl rfl rfl rfl rfl dX10_laysAt_22 ?_
      refine im_iinc X 2 1 [1, 2, 0] [(0, .ref (aM 0)), (1, .int x1), (2, .int (x2 + 1))] dX10_laysAt_23 (by decide) rfl (by decide) rfl ?_
      refine im_goto (tgt := 2) X dX10_laysAt_26 rfl ?_
      exact ih (mr M 4 (upd (M 4) x2.toNatClampNeg ((M 1) ((32 + x2)).toNatClampNeg))) (x2 + 1)
noncomputable def f_X10_laysAt_31 (F : Nat) (LM : MemL) (x1 : Int32) (k52 : Mem → Option (Mem)) : Nat → Mem → Int32 → Option (Mem)
  | 0, _, _ => none
  | n + 1, M, x2 =>
  (if x1 ≤ x2 then k52 M else (f_X10_laysLogged F M LM x2).bind (fun z38 => (f_X10_goes F z38 LM 1).bind (fun z43 => f_X10_laysAt_31 F LM x1 k52 n z43 (x2 + 1))))
set_option maxRecDepth 100000 in
set_option maxHeartbeats 4000000 in
theorem i_X10_laysAt_31 {p : Program} {l : Launch} {e : Env} {s : State} {m : MethodId} {args : Array Value} {below : List Frame} {meth : Method} {c : Code} {D : va_G} {ct : im_ct} {A : Nat → Prop} (X : im_X p (im_rm 5) s m args meth c D ct A RX10 cX10_laysAt 3 none) (F : Nat) (aM : Nat → Nat) (LM : MemL) (x1 : Int32) (k52 : Mem → Option (Mem)) (hk52 : ∀ (M : Mem), Im p l e (im_rm 5) s m args below meth c D A 3 (QV D A (fun z : Mem => (cat [w_Model ct aM z LM]))) 52 [] [] (cat [w_Model ct aM M LM]) (k52 M)) : ∀ (n : Nat) (M : Mem) (x2 : Int32), Im p l e (im_rm 5) s m args below meth c D A 3 (QV D A (fun z : Mem => (cat [w_Model ct aM z LM]))) 31 [(0, .ref (aM 0)), (1, .int x1), (2, .int x2)] [] (cat [w_Model ct aM M LM]) (f_X10_laysAt_31 F LM x1 k52 n M x2) := by
  intro n
  induction n with
  | zero => intros; exact im_none
  | succ n ih =>
    intro M x2
    unfold f_X10_laysAt_31
    refine im_iload_n X 2 dX10_laysAt_31 rfl rfl ?_
    refine im_iload_n X 1 dX10_laysAt_32 rfl rfl ?_
    refine im_icmp_ge (tgt := 52) X dX10_laysAt_33 rfl ?_ ?_
    · refine im_lv [] [] rfl ?_
      exact hk52 M
    · refine im_aload_n X 0 dX10_laysAt_36 rfl rfl ?_
      refine im_iload_n X 2 dX10_laysAt_37 rfl rfl ?_
      refine im_ccvV X [.int x2] [] [w_Model ct aM M LM] [w_Model ct aM M LM] [0] (fun z38 => [w_Model ct aM z38 LM]) 0 0 10 rfl rfl rfl cl_X10_172 (c_X10_laysLogged l D ct F aM M LM x2) rfl (by decide) (fun _ => lc fa_Model (rfl)) rfl ⟨by decide, by decide⟩ (Nat.le_of_ble_eq_true rfl) rfl dX10_laysAt_38 (fun z38 => ?_)
      refine im_ws (cat [w_Model ct aM z38 LM]) rfl ?_
      refine im_aload_n X 0 dX10_laysAt_41 rfl rfl ?_
      refine im_iconst X 1 dX10_laysAt_42 (by decide) ?_
      refine im_ccvV X [.int 1] [] [w_Model ct aM z38 LM] [w_Model ct aM z38 LM] [0] (fun z43 => [w_Model ct aM z43 LM]) 0 0 10 rfl rfl rfl cl_X10_161 (c_X10_goes l D ct F aM z38 LM 1) rfl (by decide) (fun _ => lc fa_Model (rfl)) rfl ⟨by decide, by decide⟩ (Nat.le_of_ble_eq_true rfl) rfl dX10_laysAt_43 (fun z43 => ?_)
      refine im_ws (cat [w_Model ct aM z43 LM]) rfl ?_
      refine im_iinc X 2 1 [1, 2, 0] [(0, .ref (aM 0)), (1, .int x1), (2, .int (x2 + 1))] dX10_laysAt_46 (by decide) rfl (by decide) rfl ?_
      refine im_goto (tgt := 31) X dX10_laysAt_49 rfl ?_
      exact ih z43 (x2 + 1)
noncomputable def f_X10_laysAt (F : Nat) (M : Mem) (LM : MemL) (x1 : Int32) : Option (Mem) :=
  f_X10_laysAt_2 F LM x1 (fun M_29 => f_X10_laysAt_31 F LM x1 (fun M_52 => (some M_52)) F M_29 0) F M 0
set_option maxRecDepth 100000 in
set_option maxHeartbeats 4000000 in
theorem i_X10_laysAt {p : Program} {l : Launch} {e : Env} {s : State} {m : MethodId} {args : Array Value} {below : List Frame} {meth : Method} {c : Code} {D : va_G} {ct : im_ct} {A : Nat → Prop} (X : im_X p (im_rm 5) s m args meth c D ct A RX10 cX10_laysAt 3 none) (F : Nat) (aM : Nat → Nat) (M : Mem) (LM : MemL) (x1 : Int32) : Im p l e (im_rm 5) s m args below meth c D A 3 (QV D A (fun z : Mem => (cat [w_Model ct aM z LM]))) 0 [(0, .ref (aM 0)), (1, .int x1)] [] (cat [w_Model ct aM M LM]) (f_X10_laysAt F M LM x1) := by
  unfold f_X10_laysAt
  refine im_iconst X 0 dX10_laysAt_0 (by decide) ?_
  refine im_istore_n X [1, 2, 0] [(0, .ref (aM 0)), (1, .int x1), (2, .int 0)] dX10_laysAt_1 rfl (by decide) rfl ?_
  refine i_X10_laysAt_2 X F aM LM x1 _ (fun M_29 => ?_) F M 0
  refine im_iconst X 0 dX10_laysAt_29 (by decide) ?_
  refine im_istore_n X [1, 2, 0] [(0, .ref (aM 0)), (1, .int x1), (2, .int 0)] dX10_laysAt_30 rfl (by decide) rfl ?_
  refine i_X10_laysAt_31 X F aM LM x1 _ (fun M_52 => ?_) F M_29 0
  exact im_return X M_52 rfl dX10_laysAt_52
theorem c_X10_laysAt (l : Launch) (D : va_G) (ct : im_ct) (F : Nat) (aM : Nat → Nat) (M : Mem) (LM : MemL) (x1 : Int32) : CMv l D ct yX10_laysAt cX10_laysAt 3 none 5 [.ref (aM 0), .int x1] (cat [w_Model ct aM M LM]) (f_X10_laysAt F M LM x1) (fun z : Mem => (cat [w_Model ct aM z LM])) :=
  im_met (Qb := fun A => QV D A (fun z : Mem => (cat [w_Model ct aM z LM]))) (by decide +kernel) (Nat.le_of_ble_eq_true rfl) (fun p e s m args below meth c A X => i_X10_laysAt X F aM M LM x1)

noncomputable def f_X10_isSo (F : Nat) (M : Mem) (LM : MemL) (x1 : Int32) : Option (Int32) :=
  ck ((178 + (4 * x1)) + 1) 226 (ck ((178 + (4 * x1)) + 2) 226 ((f_X10_cell F ((M 1) (((178 + (4 * x1)) + 1)).toNatClampNeg) ((M 1) (((178 + (4 * x1)) + 2)).toNatClampNeg)).bind (fun z28 => ck z28 24 (ck ((178 + (4 * x1)) + 3) 226 ((if ((M 4) z28.toNatClampNeg) = ((M 1) (((178 + (4 * x1)) + 3)).toNatClampNeg) then (some 1) else (some 0)))))))
set_option maxRecDepth 100000 in
set_option maxHeartbeats 4000000 in
theorem i_X10_isSo {p : Program} {l : Launch} {e : Env} {s : State} {m : MethodId} {args : Array Value} {below : List Frame} {meth : Method} {c : Code} {D : va_G} {ct : im_ct} {A : Nat → Prop} (X : im_X p (im_rm 1) s m args meth c D ct A RX10 cX10_isSo 3 (some .boolean)) (F : Nat) (aM : Nat → Nat) (M : Mem) (LM : MemL) (x1 : Int32) : Im p l e (im_rm 1) s m args below meth c D A 3 (QI D A (fun z : Int32 => z) (fun z : Int32 => (cat [w_Model ct aM M LM]))) 0 [(0, .ref (aM 0)), (1, .int x1)] [] (cat [w_Model ct aM M LM]) (f_X10_isSo F M LM x1) := by
  unfold f_X10_isSo
  refine im_sipush X 178 dX10_isSo_0 (by decide) ?_
  refine im_iconst X 4 dX10_isSo_3 (by decide) ?_
  refine im_iload_n X 1 dX10_isSo_4 rfl rfl ?_
  refine im_imul X dX10_isSo_5 ?_
  refine im_iadd X dX10_isSo_6 ?_
  refine im_istore_n X [1, 2, 0] [(0, .ref (aM 0)), (1, .int x1), (2, .int (178 + (4 * x1)))] dX10_isSo_7 rfl (by decide) rfl ?_
  refine im_aload_n X 0 dX10_isSo_8 rfl rfl ?_
  refine im_cget X 0 0 (v := .ref (aM 4)) fl_X10_23 rfl rfl rfl dX10_isSo_9 ?_
  refine im_aload_n X 0 dX10_isSo_12 rfl rfl ?_
  refine im_cget X 0 0 (v := .ref (aM 1)) fl_X10_13 rfl rfl rfl dX10_isSo_13 ?_
  refine im_iload_n X 2 dX10_isSo_16 rfl rfl ?_
  refine im_iconst X 1 dX10_isSo_17 (by decide) ?_
  refine im_iadd X dX10_isSo_18 ?_
  refine im_ciald X 0 1 0 (f := (M 1)) rfl rfl rfl dX10_isSo_19 ?_
  refine im_aload_n X 0 dX10_isSo_20 rfl rfl ?_
  refine im_cget X 0 0 (v := .ref (aM 1)) fl_X10_13 rfl rfl rfl dX10_isSo_21 ?_
  refine im_iload_n X 2 dX10_isSo_24 rfl rfl ?_
  refine im_iconst X 2 dX10_isSo_25 (by decide) ?_
  refine im_iadd X dX10_isSo_26 ?_
  refine im_ciald X 0 1 0 (f := (M 1)) rfl rfl rfl dX10_isSo_27 ?_
  refine im_cciS X [.int ((M 1) (((178 + (4 * x1)) + 1)).toNatClampNeg), .int ((M 1) (((178 + (4 * x1)) + 2)).toNatClampNeg)] [.ref (aM 4)] [w_Model ct aM M LM] [] [] (fun z28 => []) cl_X10_101 (c_X10_cell l D ct F ((M 1) (((178 + (4 * x1)) + 1)).toNatClampNeg) ((M 1) (((178 + (4 * x1)) + 2)).toNatClampNeg)) rfl (by decide) (fun _ => rfl) rfl ⟨by decide, by decide⟩ (Nat.le_of_ble_eq_true rfl) rfl dX10_isSo_28 (fun z28 => ?_)
  refine im_ws (cat [w_Model ct aM M LM]) rfl ?_
  refine im_ciald X 0 4 0 (f := (M 4)) rfl rfl rfl dX10_isSo_31 ?_
  refine im_aload_n X 0 dX10_isSo_32 rfl rfl ?_
  refine im_cget X 0 0 (v := .ref (aM 1)) fl_X10_13 rfl rfl rfl dX10_isSo_33 ?_
  refine im_iload_n X 2 dX10_isSo_36 rfl rfl ?_
  refine im_iconst X 3 dX10_isSo_37 (by decide) ?_
  refine im_iadd X dX10_isSo_38 ?_
  refine im_ciald X 0 1 0 (f := (M 1)) rfl rfl rfl dX10_isSo_39 ?_
  refine im_icmp_ne (tgt := 47) X dX10_isSo_40 rfl ?_ ?_
  · refine im_iconst X 0 dX10_isSo_47 (by decide) ?_
    exact im_zreturn X 0 rfl rfl rfl dX10_isSo_48
  · refine im_iconst X 1 dX10_isSo_43 (by decide) ?_
    refine im_goto (tgt := 48) X dX10_isSo_44 rfl ?_
    exact im_zreturn X 1 rfl rfl rfl dX10_isSo_48
theorem c_X10_isSo (l : Launch) (D : va_G) (ct : im_ct) (F : Nat) (aM : Nat → Nat) (M : Mem) (LM : MemL) (x1 : Int32) : CMi l D ct yX10_isSo cX10_isSo 3 (some .boolean) 1 [.ref (aM 0), .int x1] (cat [w_Model ct aM M LM]) (f_X10_isSo F M LM x1) (fun z : Int32 => z) (fun z : Int32 => (cat [w_Model ct aM M LM])) :=
  im_met (Qb := fun A => QI D A (fun z : Int32 => z) (fun z : Int32 => (cat [w_Model ct aM M LM]))) (by decide +kernel) (Nat.le_of_ble_eq_true rfl) (fun p e s m args below meth c A X => i_X10_isSo X F aM M LM x1)

noncomputable def f_X10_isRight (F : Nat) (M : Mem) (LM : MemL) (x1 : Int32) : Option (Int32 × Mem) :=
  ck (178 + (4 * x1)) 226 ((f_X10_laysAt F M LM ((M 1) ((178 + (4 * x1))).toNatClampNeg)).bind (fun z13 => (f_X10_isSo F z13 LM x1).bind (fun z18 => (cb z18 (some (z18, z13))))))
set_option maxRecDepth 100000 in
set_option maxHeartbeats 4000000 in
theorem i_X10_isRight {p : Program} {l : Launch} {e : Env} {s : State} {m : MethodId} {args : Array Value} {below : List Frame} {meth : Method} {c : Code} {D : va_G} {ct : im_ct} {A : Nat → Prop} (X : im_X p (im_rm 6) s m args meth c D ct A RX10 cX10_isRight 2 (some .boolean)) (F : Nat) (aM : Nat → Nat) (M : Mem) (LM : MemL) (x1 : Int32) : Im p l e (im_rm 6) s m args below meth c D A 2 (QI D A (fun z : Int32 × Mem => z.1) (fun z : Int32 × Mem => (cat [w_Model ct aM z.2 LM]))) 0 [(0, .ref (aM 0)), (1, .int x1)] [] (cat [w_Model ct aM M LM]) (f_X10_isRight F M LM x1) := by
  unfold f_X10_isRight
  refine im_aload_n X 0 dX10_isRight_0 rfl rfl ?_
  refine im_aload_n X 0 dX10_isRight_1 rfl rfl ?_
  refine im_cget X 0 0 (v := .ref (aM 1)) fl_X10_13 rfl rfl rfl dX10_isRight_2 ?_
  refine im_sipush X 178 dX10_isRight_5 (by decide) ?_
  refine im_iconst X 4 dX10_isRight_8 (by decide) ?_
  refine im_iload_n X 1 dX10_isRight_9 rfl rfl ?_
  refine im_imul X dX10_isRight_10 ?_
  refine im_iadd X dX10_isRight_11 ?_
  refine im_ciald X 0 1 0 (f := (M 1)) rfl rfl rfl dX10_isRight_12 ?_
  refine im_ccvV X [.int ((M 1) ((178 + (4 * x1))).toNatClampNeg)] [] [w_Model ct aM M LM] [w_Model ct aM M LM] [0] (fun z13 => [w_Model ct aM z13 LM]) 0 0 10 rfl rfl rfl cl_X10_253 (c_X10_laysAt l D ct F aM M LM ((M 1) ((178 + (4 * x1))).toNatClampNeg)) rfl (by decide) (fun _ => lc fa_Model (rfl)) rfl ⟨by decide, by decide⟩ (Nat.le_of_ble_eq_true rfl) rfl dX10_isRight_13 (fun z13 => ?_)
  refine im_ws (cat [w_Model ct aM z13 LM]) rfl ?_
  refine im_aload_n X 0 dX10_isRight_16 rfl rfl ?_
  refine im_iload_n X 1 dX10_isRight_17 rfl rfl ?_
  refine im_cciV X [.int x1] [] [w_Model ct aM z13 LM] [w_Model ct aM z13 LM] [0] (fun z18 => [w_Model ct aM z13 LM]) 0 0 10 rfl rfl rfl cl_X10_257 (c_X10_isSo l D ct F aM z13 LM x1) rfl (by decide) (fun _ => lc rfl (rfl)) rfl ⟨by decide, by decide⟩ (Nat.le_of_ble_eq_true rfl) rfl dX10_isRight_18 (fun z18 => ?_)
  refine im_ws (cat [w_Model ct aM z13 LM]) rfl ?_
  exact im_zreturnc X (z18, z13) rfl rfl dX10_isRight_21
theorem c_X10_isRight (l : Launch) (D : va_G) (ct : im_ct) (F : Nat) (aM : Nat → Nat) (M : Mem) (LM : MemL) (x1 : Int32) : CMi l D ct yX10_isRight cX10_isRight 2 (some .boolean) 6 [.ref (aM 0), .int x1] (cat [w_Model ct aM M LM]) (f_X10_isRight F M LM x1) (fun z : Int32 × Mem => z.1) (fun z : Int32 × Mem => (cat [w_Model ct aM z.2 LM])) :=
  im_met (Qb := fun A => QI D A (fun z : Int32 × Mem => z.1) (fun z : Int32 × Mem => (cat [w_Model ct aM z.2 LM]))) (by decide +kernel) (Nat.le_of_ble_eq_true rfl) (fun p e s m args below meth c A X => i_X10_isRight X F aM M LM x1)

noncomputable def f_X10_sieve_4 (F : Nat) (LM : MemL) (k33 : Mem → Int32 → Option (Int32 × Mem)) : Nat → Mem → Int32 → Int32 → Option (Int32 × Mem)
  | 0, _, _, _ => none
  | n + 1, M, x1, x2 =>
  ck 177 226 ((if ((M 1) (177 : Int32).toNatClampNeg) ≤ x2 then k33 M x1 else (f_X10_isRight F M LM x2).bind (fun z18 => (if z18.1 = 0 then f_X10_sieve_4 F LM k33 n z18.2 (x1 + 1) (x2 + 1) else f_X10_sieve_4 F LM k33 n z18.2 x1 (x2 + 1)))))
set_option maxRecDepth 100000 in
set_option maxHeartbeats 4000000 in
theorem i_X10_sieve_4 {p : Program} {l : Launch} {e : Env} {s : State} {m : MethodId} {args : Array Value} {below : List Frame} {meth : Method} {c : Code} {D : va_G} {ct : im_ct} {A : Nat → Prop} (X : im_X p (im_rm 7) s m args meth c D ct A RX10 cX10_sieve 3 (some .int)) (F : Nat) (aM : Nat → Nat) (LM : MemL) (k33 : Mem → Int32 → Option (Int32 × Mem)) (hk33 : ∀ (M : Mem) (x1 : Int32), Im p l e (im_rm 7) s m args below meth c D A 3 (QI D A (fun z : Int32 × Mem => z.1) (fun z : Int32 × Mem => (cat [w_Model ct aM z.2 LM]))) 33 [(0, .ref (aM 0)), (1, .int x1)] [] (cat [w_Model ct aM M LM]) (k33 M x1)) : ∀ (n : Nat) (M : Mem) (x1 : Int32) (x2 : Int32), Im p l e (im_rm 7) s m args below meth c D A 3 (QI D A (fun z : Int32 × Mem => z.1) (fun z : Int32 × Mem => (cat [w_Model ct aM z.2 LM]))) 4 [(0, .ref (aM 0)), (1, .int x1), (2, .int x2)] [] (cat [w_Model ct aM M LM]) (f_X10_sieve_4 F LM k33 n M x1 x2) := by
  intro n
  induction n with
  | zero => intros; exact im_none
  | succ n ih =>
    intro M x1 x2
    unfold f_X10_sieve_4
    refine im_iload_n X 2 dX10_sieve_4 rfl rfl ?_
    refine im_aload_n X 0 dX10_sieve_5 rfl rfl ?_
    refine im_cget X 0 0 (v := .ref (aM 1)) fl_X10_13 rfl rfl rfl dX10_sieve_6 ?_
    refine im_sipush X 177 dX10_sieve_9 (by decide) ?_
    refine im_ciald X 0 1 0 (f := (M 1)) rfl rfl rfl dX10_sieve_12 ?_
    refine im_icmp_ge (tgt := 33) X dX10_sieve_13 rfl ?_ ?_
    · refine im_lv [0, 1] [(0, .ref (aM 0)), (1, .int x1)] rfl ?_
      exact hk33 M x1
    · refine im_aload_n X 0 dX10_sieve_16 rfl rfl ?_
      refine im_iload_n X 2 dX10_sieve_17 rfl rfl ?_
      refine im_cciV X [.int x2] [] [w_Model ct aM M LM] [w_Model ct aM M LM] [0] (fun z18 => [w_Model ct aM z18.2 LM]) 0 0 10 rfl rfl rfl cl_X10_216 (c_X10_isRight l D ct F aM M LM x2) rfl (by decide) (fun _ => lc fa_Model (rfl)) rfl ⟨by decide, by decide⟩ (Nat.le_of_ble_eq_true rfl) rfl dX10_sieve_18 (fun z18 => ?_)
      refine im_ws (cat [w_Model ct aM z18.2 LM]) rfl ?_
      refine im_if_ne (tgt := 27) X dX10_sieve_21 rfl ?_ ?_
      · refine im_iinc X 2 1 [1, 2, 0] [(0, .ref (aM 0)), (1, .int x1), (2, .int (x2 + 1))] dX10_sieve_27 (by decide) rfl (by decide) rfl ?_
        refine im_goto (tgt := 4) X dX10_sieve_30 rfl ?_
        exact ih z18.2 x1 (x2 + 1)
      · refine im_iinc X 1 1 [1, 0, 2] [(0, .ref (aM 0)), (1, .int (x1 + 1)), (2, .int x2)] dX10_sieve_24 (by decide) rfl (by decide) rfl ?_
        refine im_iinc X 2 1 [1, 2, 0] [(0, .ref (aM 0)), (1, .int (x1 + 1)), (2, .int (x2 + 1))] dX10_sieve_27 (by decide) rfl (by decide) rfl ?_
        refine im_goto (tgt := 4) X dX10_sieve_30 rfl ?_
        exact ih z18.2 (x1 + 1) (x2 + 1)
noncomputable def f_X10_sieve_54 (F : Nat) (LM : MemL) (x1 : Int32) (k77 : Mem → Option (Int32 × Mem)) : Nat → Mem → Int32 → Option (Int32 × Mem)
  | 0, _, _ => none
  | n + 1, M, x2 =>
  (if x2 < 0 then k77 M else (f_X10_isRight F M LM x2).bind (fun z60 => (if z60.1 = 0 then (f_X10_unsees F z60.2 LM x2).bind (fun z68 => f_X10_sieve_54 F LM x1 k77 n z68 (x2 + (-1))) else f_X10_sieve_54 F LM x1 k77 n z60.2 (x2 + (-1)))))
set_option maxRecDepth 100000 in
set_option maxHeartbeats 4000000 in
theorem i_X10_sieve_54 {p : Program} {l : Launch} {e : Env} {s : State} {m : MethodId} {args : Array Value} {below : List Frame} {meth : Method} {c : Code} {D : va_G} {ct : im_ct} {A : Nat → Prop} (X : im_X p (im_rm 7) s m args meth c D ct A RX10 cX10_sieve 3 (some .int)) (F : Nat) (aM : Nat → Nat) (LM : MemL) (x1 : Int32) (k77 : Mem → Option (Int32 × Mem)) (hk77 : ∀ (M : Mem), Im p l e (im_rm 7) s m args below meth c D A 3 (QI D A (fun z : Int32 × Mem => z.1) (fun z : Int32 × Mem => (cat [w_Model ct aM z.2 LM]))) 77 [(1, .int x1)] [] (cat [w_Model ct aM M LM]) (k77 M)) : ∀ (n : Nat) (M : Mem) (x2 : Int32), Im p l e (im_rm 7) s m args below meth c D A 3 (QI D A (fun z : Int32 × Mem => z.1) (fun z : Int32 × Mem => (cat [w_Model ct aM z.2 LM]))) 54 [(0, .ref (aM 0)), (1, .int x1), (2, .int x2)] [] (cat [w_Model ct aM M LM]) (f_X10_sieve_54 F LM x1 k77 n M x2) := by
  intro n
  induction n with
  | zero => intros; exact im_none
  | succ n ih =>
    intro M x2
    unfold f_X10_sieve_54
    refine im_iload_n X 2 dX10_sieve_54 rfl rfl ?_
    refine im_if_lt (tgt := 77) X dX10_sieve_55 rfl ?_ ?_
    · refine im_lv [1] [(1, .int x1)] rfl ?_
      exact hk77 M
    · refine im_aload_n X 0 dX10_sieve_58 rfl rfl ?_
      refine im_iload_n X 2 dX10_sieve_59 rfl rfl ?_
      refine im_cciV X [.int x2] [] [w_Model ct aM M LM] [w_Model ct aM M LM] [0] (fun z60 => [w_Model ct aM z60.2 LM]) 0 0 10 rfl rfl rfl cl_X10_216 (c_X10_isRight l D ct F aM M LM x2) rfl (by decide) (fun _ => lc fa_Model (rfl)) rfl ⟨by decide, by decide⟩ (Nat.le_of_ble_eq_true rfl) rfl dX10_sieve_60 (fun z60 => ?_)
      refine im_ws (cat [w_Model ct aM z60.2 LM]) rfl ?_
      refine im_if_ne (tgt := 71) X dX10_sieve_63 rfl ?_ ?_
      · refine im_iinc X 2 (-1) [1, 2, 0] [(0, .ref (aM 0)), (1, .int x1), (2, .int (x2 + (-1)))] dX10_sieve_71 (by decide) rfl (by decide) rfl ?_
        refine im_goto (tgt := 54) X dX10_sieve_74 rfl ?_
        exact ih z60.2 (x2 + (-1))
      · refine im_aload_n X 0 dX10_sieve_66 rfl rfl ?_
        refine im_iload_n X 2 dX10_sieve_67 rfl rfl ?_
        refine im_ccvV X [.int x2] [] [w_Model ct aM z60.2 LM] [w_Model ct aM z60.2 LM] [0] (fun z68 => [w_Model ct aM z68 LM]) 0 0 10 rfl rfl rfl cl_X10_175 (c_X10_unsees l D ct F aM z60.2 LM x2) rfl (by decide) (fun _ => lc fa_Model (rfl)) rfl ⟨by decide, by decide⟩ (Nat.le_of_ble_eq_true rfl) rfl dX10_sieve_68 (fun z68 => ?_)
        refine im_ws (cat [w_Model ct aM z68 LM]) rfl ?_
        refine im_iinc X 2 (-1) [1, 2, 0] [(0, .ref (aM 0)), (1, .int x1), (2, .int (x2 + (-1)))] dX10_sieve_71 (by decide) rfl (by decide) rfl ?_
        refine im_goto (tgt := 54) X dX10_sieve_74 rfl ?_
        exact ih z68 (x2 + (-1))
noncomputable def f_X10_sieve (F : Nat) (M : Mem) (LM : MemL) : Option (Int32 × Mem) :=
  f_X10_sieve_4 F LM (fun M_33 x1_33 => (if x1_33 = 0 then (some ((-1), M_33)) else (f_X10_keeps F M_33 LM).bind (fun z40 => ck 177 226 (f_X10_sieve_54 F LM x1_33 (fun M_77 => (some (x1_33, M_77))) F z40 (((z40 1) (177 : Int32).toNatClampNeg) - 1))))) F M 0 0
set_option maxRecDepth 100000 in
set_option maxHeartbeats 4000000 in
theorem i_X10_sieve {p : Program} {l : Launch} {e : Env} {s : State} {m : MethodId} {args : Array Value} {below : List Frame} {meth : Method} {c : Code} {D : va_G} {ct : im_ct} {A : Nat → Prop} (X : im_X p (im_rm 7) s m args meth c D ct A RX10 cX10_sieve 3 (some .int)) (F : Nat) (aM : Nat → Nat) (M : Mem) (LM : MemL) : Im p l e (im_rm 7) s m args below meth c D A 3 (QI D A (fun z : Int32 × Mem => z.1) (fun z : Int32 × Mem => (cat [w_Model ct aM z.2 LM]))) 0 [(0, .ref (aM 0))] [] (cat [w_Model ct aM M LM]) (f_X10_sieve F M LM) := by
  unfold f_X10_sieve
  refine im_iconst X 0 dX10_sieve_0 (by decide) ?_
  refine im_istore_n X [1, 0] [(0, .ref (aM 0)), (1, .int 0)] dX10_sieve_1 rfl (by decide) rfl ?_
  refine im_iconst X 0 dX10_sieve_2 (by decide) ?_
  refine im_istore_n X [1, 2, 0] [(0, .ref (aM 0)), (1, .int 0), (2, .int 0)] dX10_sieve_3 rfl (by decide) rfl ?_
  refine i_X10_sieve_4 X F aM LM  _ (fun M_33 x1_33 => ?_) F M 0 0
  refine im_iload_n X 1 dX10_sieve_33 rfl rfl ?_
  refine im_if_ne (tgt := 39) X dX10_sieve_34 rfl ?_ ?_
  · refine im_aload_n X 0 dX10_sieve_39 rfl rfl ?_
    refine im_ccvV X [] [] [w_Model ct aM M_33 LM] [w_Model ct aM M_33 LM] [0] (fun z40 => [w_Model ct aM z40 LM]) 0 0 10 rfl rfl rfl cl_X10_115 (c_X10_keeps l D ct F aM M_33 LM) rfl (by decide) (fun _ => lc fa_Model (rfl)) rfl ⟨by decide, by decide⟩ (Nat.le_of_ble_eq_true rfl) rfl dX10_sieve_40 (fun z40 => ?_)
    refine im_ws (cat [w_Model ct aM z40 LM]) rfl ?_
    refine im_aload_n X 0 dX10_sieve_43 rfl rfl ?_
    refine im_cget X 0 0 (v := .ref (aM 1)) fl_X10_13 rfl rfl rfl dX10_sieve_44 ?_
    refine im_sipush X 177 dX10_sieve_47 (by decide) ?_
    refine im_ciald X 0 1 0 (f := (z40 1)) rfl rfl rfl dX10_sieve_50 ?_
    refine im_iconst X 1 dX10_sieve_51 (by decide) ?_
    refine im_isub X dX10_sieve_52 ?_
    refine im_istore_n X [1, 2, 0] [(0, .ref (aM 0)), (1, .int x1_33), (2, .int (((z40 1) (177 : Int32).toNatClampNeg) - 1))] dX10_sieve_53 rfl (by decide) rfl ?_
    refine i_X10_sieve_54 X F aM LM x1_33 _ (fun M_77 => ?_) F z40 (((z40 1) (177 : Int32).toNatClampNeg) - 1)
    refine im_iload_n X 0 dX10_sieve_77 rfl rfl ?_
    exact im_ireturn X (x1_33, M_77) rfl rfl dX10_sieve_78
  · refine im_iconst X (-1) dX10_sieve_37 (by decide) ?_
    exact im_ireturn X ((-1), M_33) rfl rfl dX10_sieve_38
theorem c_X10_sieve (l : Launch) (D : va_G) (ct : im_ct) (F : Nat) (aM : Nat → Nat) (M : Mem) (LM : MemL) : CMi l D ct yX10_sieve cX10_sieve 3 (some .int) 7 [.ref (aM 0)] (cat [w_Model ct aM M LM]) (f_X10_sieve F M LM) (fun z : Int32 × Mem => z.1) (fun z : Int32 × Mem => (cat [w_Model ct aM z.2 LM])) :=
  im_met (Qb := fun A => QI D A (fun z : Int32 × Mem => z.1) (fun z : Int32 × Mem => (cat [w_Model ct aM z.2 LM]))) (by decide +kernel) (Nat.le_of_ble_eq_true rfl) (fun p e s m args below meth c A X => i_X10_sieve X F aM M LM)

noncomputable def f_X10_of (F : Nat) (M : Mem) (LM : MemL) (x1 : Int32) (x2 : Int32) : Option (Int32) :=
  (f_X10_isCell F M LM x1 x2).bind (fun z3 => (if z3 = 0 then (some (-1)) else (f_X10_now F M LM x1 x2).bind (fun z12 => (some z12))))
set_option maxRecDepth 100000 in
set_option maxHeartbeats 4000000 in
theorem i_X10_of {p : Program} {l : Launch} {e : Env} {s : State} {m : MethodId} {args : Array Value} {below : List Frame} {meth : Method} {c : Code} {D : va_G} {ct : im_ct} {A : Nat → Prop} (X : im_X p (im_rm 3) s m args meth c D ct A RX10 cX10_of 3 (some .int)) (F : Nat) (aM : Nat → Nat) (M : Mem) (LM : MemL) (x1 : Int32) (x2 : Int32) : Im p l e (im_rm 3) s m args below meth c D A 3 (QI D A (fun z : Int32 => z) (fun z : Int32 => (cat [w_Model ct aM M LM]))) 0 [(0, .ref (aM 0)), (1, .int x1), (2, .int x2)] [] (cat [w_Model ct aM M LM]) (f_X10_of F M LM x1 x2) := by
  unfold f_X10_of
  refine im_aload_n X 0 dX10_of_0 rfl rfl ?_
  refine im_iload_n X 1 dX10_of_1 rfl rfl ?_
  refine im_iload_n X 2 dX10_of_2 rfl rfl ?_
  refine im_cciV X [.int x1, .int x2] [] [w_Model ct aM M LM] [w_Model ct aM M LM] [0] (fun z3 => [w_Model ct aM M LM]) 0 0 10 rfl rfl rfl cl_X10_132 (c_X10_isCell l D ct F aM M LM x1 x2) rfl (by decide) (fun _ => lc rfl (rfl)) rfl ⟨by decide, by decide⟩ (Nat.le_of_ble_eq_true rfl) rfl dX10_of_3 (fun z3 => ?_)
  refine im_ws (cat [w_Model ct aM M LM]) rfl ?_
  refine im_if_eq (tgt := 18) X dX10_of_6 rfl ?_ ?_
  · refine im_iconst X (-1) dX10_of_18 (by decide) ?_
    exact im_ireturn X (-1) rfl rfl dX10_of_19
  · refine im_aload_n X 0 dX10_of_9 rfl rfl ?_
    refine im_iload_n X 1 dX10_of_10 rfl rfl ?_
    refine im_iload_n X 2 dX10_of_11 rfl rfl ?_
    refine im_cciV X [.int x1, .int x2] [] [w_Model ct aM M LM] [w_Model ct aM M LM] [0] (fun z12 => [w_Model ct aM M LM]) 0 0 10 rfl rfl rfl cl_X10_105 (c_X10_now l D ct F aM M LM x1 x2) rfl (by decide) (fun _ => lc rfl (rfl)) rfl ⟨by decide, by decide⟩ (Nat.le_of_ble_eq_true rfl) rfl dX10_of_12 (fun z12 => ?_)
    refine im_ws (cat [w_Model ct aM M LM]) rfl ?_
    refine im_goto (tgt := 19) X dX10_of_15 rfl ?_
    exact im_ireturn X z12 rfl rfl dX10_of_19
theorem c_X10_of (l : Launch) (D : va_G) (ct : im_ct) (F : Nat) (aM : Nat → Nat) (M : Mem) (LM : MemL) (x1 : Int32) (x2 : Int32) : CMi l D ct yX10_of cX10_of 3 (some .int) 3 [.ref (aM 0), .int x1, .int x2] (cat [w_Model ct aM M LM]) (f_X10_of F M LM x1 x2) (fun z : Int32 => z) (fun z : Int32 => (cat [w_Model ct aM M LM])) :=
  im_met (Qb := fun A => QI D A (fun z : Int32 => z) (fun z : Int32 => (cat [w_Model ct aM M LM]))) (by decide +kernel) (Nat.le_of_ble_eq_true rfl) (fun p e s m args below meth c A X => i_X10_of X F aM M LM x1 x2)

