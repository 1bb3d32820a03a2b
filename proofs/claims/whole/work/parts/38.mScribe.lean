noncomputable def f_X7_addByte (F : Nat) (S : Mem) (x1 : Int32) : Option (Mem) :=
  (if 700 ≤ (S 0 1) then (some S) else ck (S 0 1) 700 ((some (mr (mr S 1 (upd (S 1) ((S 0 1)).toNatClampNeg (vp_nar .byte (x1).toInt8.toInt32))) 0 (fu (S 0) 1 ((S 0 1) + 1))))))
set_option maxRecDepth 100000 in
set_option maxHeartbeats 4000000 in
theorem i_X7_addByte {p : Program} {l : Launch} {e : Env} {s : State} {m : MethodId} {args : Array Value} {below : List Frame} {meth : Method} {c : Code} {D : va_G} {ct : im_ct} {A : Nat → Prop} (X : im_X p (im_rm 0) s m args meth c D ct A RX7 cX7_addByte 2 none) (F : Nat) (aS : Nat → Nat) (S : Mem) (x1 : Int32) : Im p l e (im_rm 0) s m args below meth c D A 2 (QV D A (fun z : Mem => (cat [w_Scribe ct aS z]))) 0 [(0, .ref (aS 0)), (1, .int x1)] [] (cat [w_Scribe ct aS S]) (f_X7_addByte F S x1) := by
  unfold f_X7_addByte
  refine im_aload_n X 0 dX7_addByte_0 rfl rfl ?_
  refine im_cget X 0 0 (v := .int (S 0 1)) fl_X7_19 rfl rfl rfl dX7_addByte_1 ?_
  refine im_sipush X 700 dX7_addByte_4 (by decide) ?_
  refine im_icmp_ge (tgt := 31) X dX7_addByte_7 rfl ?_ ?_
  · exact im_return X S rfl dX7_addByte_31
  · refine im_aload_n X 0 dX7_addByte_10 rfl rfl ?_
    refine im_cget X 0 0 (v := .ref (aS 1)) fl_X7_11 rfl rfl rfl dX7_addByte_11 ?_
    refine im_aload_n X 0 dX7_addByte_14 rfl rfl ?_
    refine im_cget X 0 0 (v := .int (S 0 1)) fl_X7_19 rfl rfl rfl dX7_addByte_15 ?_
    refine im_iload_n X 1 dX7_addByte_18 rfl rfl ?_
    refine im_i2b X dX7_addByte_19 ?_
    refine im_cbast X 0 1 2 (wx_Scribe ct aS (S 0 1) (S 0 2) (upd (S 1) ((S 0 1)).toNatClampNeg (vp_nar .byte (x1).toInt8.toInt32))) [wx_Scribe ct aS (S 0 1) (S 0 2) (upd (S 1) ((S 0 1)).toNatClampNeg (vp_nar .byte (x1).toInt8.toInt32))] (f := (S 1)) rfl rfl rfl rfl rfl dX7_addByte_20 ?_
    refine im_aload_n X 0 dX7_addByte_21 rfl rfl ?_
    refine im_dup X rfl dX7_addByte_22 ?_
    refine im_cget X 0 0 (v := .int (S 0 1)) fl_X7_19 rfl rfl rfl dX7_addByte_23 ?_
    refine im_iconst X 1 dX7_addByte_26 (by decide) ?_
    refine im_iadd X dX7_addByte_27 ?_
    refine im_cput X 0 0 (wx_Scribe ct aS ((S 0 1) + 1) (S 0 2) (upd (S 1) ((S 0 1)).toNatClampNeg (vp_nar .byte (x1).toInt8.toInt32))) [wx_Scribe ct aS ((S 0 1) + 1) (S 0 2) (upd (S 1) ((S 0 1)).toNatClampNeg (vp_nar .byte (x1).toInt8.toInt32))] fl_X7_19 rfl rfl rfl rfl (Nat.le_of_ble_eq_true rfl) rfl rfl dX7_addByte_28 ?_
    exact im_return X (mr (mr S 1 (upd (S 1) ((S 0 1)).toNatClampNeg (vp_nar .byte (x1).toInt8.toInt32))) 0 (fu (S 0) 1 ((S 0 1) + 1))) rfl dX7_addByte_31
theorem c_X7_addByte (l : Launch) (D : va_G) (ct : im_ct) (F : Nat) (aS : Nat → Nat) (S : Mem) (x1 : Int32) : CMv l D ct yX7_addByte cX7_addByte 2 none 0 [.ref (aS 0), .int x1] (cat [w_Scribe ct aS S]) (f_X7_addByte F S x1) (fun z : Mem => (cat [w_Scribe ct aS z])) :=
  im_met (Qb := fun A => QV D A (fun z : Mem => (cat [w_Scribe ct aS z]))) (by decide +kernel) (Nat.le_of_ble_eq_true rfl) (fun p e s m args below meth c A X => i_X7_addByte X F aS S x1)

noncomputable def f_X7_addWord_2 (F : Nat) (x1 : Nat) (k25 : Mem → Option (Mem)) : Nat → Mem → Int32 → Option (Mem)
  | 0, _, _ => none
  | n + 1, S, x2 =>
  sk x1 ((if (s_len x1) ≤ x2 then k25 S else sk x1 (ck x2 (im_len.getD x1 0) ((f_X7_addByte F S (s_ch x1 x2)).bind (fun z16 => f_X7_addWord_2 F x1 k25 n z16 (x2 + 1))))))
set_option maxRecDepth 100000 in
set_option maxHeartbeats 4000000 in
theorem i_X7_addWord_2 {p : Program} {l : Launch} {e : Env} {s : State} {m : MethodId} {args : Array Value} {below : List Frame} {meth : Method} {c : Code} {D : va_G} {ct : im_ct} {A : Nat → Prop} (X : im_X p (im_rm 4) s m args meth c D ct A RX7 cX7_addWord 3 none) (F : Nat) (aS : Nat → Nat) (x1 : Nat) (k25 : Mem → Option (Mem)) (hk25 : ∀ (S : Mem), Im p l e (im_rm 4) s m args below meth c D A 3 (QV D A (fun z : Mem => (cat [w_Scribe ct aS z]))) 25 [(0, .ref (aS 0))] [] (cat [w_Scribe ct aS S]) (k25 S)) : ∀ (n : Nat) (S : Mem) (x2 : Int32), Im p l e (im_rm 4) s m args below meth c D A 3 (QV D A (fun z : Mem => (cat [w_Scribe ct aS z]))) 2 [(0, .ref (aS 0)), (1, .ref (ct (10 + x1))), (2, .int x2)] [] (cat [w_Scribe ct aS S]) (f_X7_addWord_2 F x1 k25 n S x2) := by
  intro n
  induction n with
  | zero => intros; exact im_none
  | succ n ih =>
    intro S x2
    unfold f_X7_addWord_2
    refine im_iload_n X 2 dX7_addWord_2 rfl rfl ?_
    refine im_aload_n X 1 dX7_addWord_3 rfl rfl ?_
    refine im_sk (fun hi => ?_)
    refine im_slength X cl_X7_94 hi ⟨by decide, by decide⟩ (Nat.le_of_ble_eq_true rfl) dX7_addWord_4 ?_
    refine im_icmp_ge (tgt := 25) X dX7_addWord_7 rfl ?_ ?_
    · refine im_lv [0] [(0, .ref (aS 0))] rfl ?_
      exact hk25 S
    · refine im_aload_n X 0 dX7_addWord_10 rfl rfl ?_
      refine im_aload_n X 1 dX7_addWord_11 rfl rfl ?_
      refine im_iload_n X 2 dX7_addWord_12 rfl rfl ?_
      refine im_sk (fun hi => ?_)
      refine im_scharAt X cl_X7_99 hi ⟨by decide, by decide⟩ (Nat.le_of_ble_eq_true rfl) dX7_addWord_13 ?_
      refine im_ccvV X [.int (s_ch x1 x2)] [] [w_Scribe ct aS S] [w_Scribe ct aS S] [0] (fun z16 => [w_Scribe ct aS z16]) 0 0 7 rfl rfl rfl cl_X7_41 (c_X7_addByte l D ct F aS S (s_ch x1 x2)) rfl (by decide) (fun _ => lc fa_Scribe (rfl)) rfl ⟨by decide, by decide⟩ (Nat.le_of_ble_eq_true rfl) rfl dX7_addWord_16 (fun z16 => ?_)
      refine im_ws (cat [w_Scribe ct aS z16]) rfl ?_
      refine im_iinc X 2 1 [1, 2, 0] [(0, .ref (aS 0)), (1, .ref (ct (10 + x1))), (2, .int (x2 + 1))] dX7_addWord_19 (by decide) rfl (by decide) rfl ?_
      refine im_goto (tgt := 2) X dX7_addWord_22 rfl ?_
      exact ih z16 (x2 + 1)
noncomputable def f_X7_addWord (F : Nat) (S : Mem) (x1 : Nat) : Option (Mem) :=
  f_X7_addWord_2 F x1 (fun S_25 => (f_X7_addByte F S_25 32).bind (fun z28 => (some z28))) F S 0
set_option maxRecDepth 100000 in
set_option maxHeartbeats 4000000 in
theorem i_X7_addWord {p : Program} {l : Launch} {e : Env} {s : State} {m : MethodId} {args : Array Value} {below : List Frame} {meth : Method} {c : Code} {D : va_G} {ct : im_ct} {A : Nat → Prop} (X : im_X p (im_rm 4) s m args meth c D ct A RX7 cX7_addWord 3 none) (F : Nat) (aS : Nat → Nat) (S : Mem) (x1 : Nat) : Im p l e (im_rm 4) s m args below meth c D A 3 (QV D A (fun z : Mem => (cat [w_Scribe ct aS z]))) 0 [(0, .ref (aS 0)), (1, .ref (ct (10 + x1)))] [] (cat [w_Scribe ct aS S]) (f_X7_addWord F S x1) := by
  unfold f_X7_addWord
  refine im_iconst X 0 dX7_addWord_0 (by decide) ?_
  refine im_istore_n X [1, 2, 0] [(0, .ref (aS 0)), (1, .ref (ct (10 + x1))), (2, .int 0)] dX7_addWord_1 rfl (by decide) rfl ?_
  refine i_X7_addWord_2 X F aS  x1 _ (fun S_25 => ?_) F S 0
  refine im_aload_n X 0 dX7_addWord_25 rfl rfl ?_
  refine im_bipush X 32 dX7_addWord_26 (by decide) ?_
  refine im_ccvV X [.int 32] [] [w_Scribe ct aS S_25] [w_Scribe ct aS S_25] [0] (fun z28 => [w_Scribe ct aS z28]) 0 0 7 rfl rfl rfl cl_X7_41 (c_X7_addByte l D ct F aS S_25 32) rfl (by decide) (fun _ => lc fa_Scribe (rfl)) rfl ⟨by decide, by decide⟩ (Nat.le_of_ble_eq_true rfl) rfl dX7_addWord_28 (fun z28 => ?_)
  refine im_ws (cat [w_Scribe ct aS z28]) rfl ?_
  exact im_return X z28 rfl dX7_addWord_31
theorem c_X7_addWord (l : Launch) (D : va_G) (ct : im_ct) (F : Nat) (aS : Nat → Nat) (S : Mem) (x1 : Nat) : CMv l D ct yX7_addWord cX7_addWord 3 none 4 [.ref (aS 0), .ref (ct (10 + x1))] (cat [w_Scribe ct aS S]) (f_X7_addWord F S x1) (fun z : Mem => (cat [w_Scribe ct aS z])) :=
  im_met (Qb := fun A => QV D A (fun z : Mem => (cat [w_Scribe ct aS z]))) (by decide +kernel) (Nat.le_of_ble_eq_true rfl) (fun p e s m args below meth c A X => i_X7_addWord X F aS S x1)

noncomputable def f_X7_addNumber_4 (F : Nat) (S : Mem) (x1 : Int32) (k29 : Int32 → Option (Mem)) : Nat → Int32 → Int32 → Option (Mem)
  | 0, _, _ => none
  | n + 1, x2, x3 =>
  (if 10 ≤ x3 then k29 x2 else dv x2 ((if (x1 / x2) < 10 then k29 x2 else f_X7_addNumber_4 F S x1 k29 n (x2 * 10) (x3 + 1))))
set_option maxRecDepth 100000 in
set_option maxHeartbeats 4000000 in
theorem i_X7_addNumber_4 {p : Program} {l : Launch} {e : Env} {s : State} {m : MethodId} {args : Array Value} {below : List Frame} {meth : Method} {c : Code} {D : va_G} {ct : im_ct} {A : Nat → Prop} (X : im_X p (im_rm 1) s m args meth c D ct A RX7 cX7_addNumber 4 none) (F : Nat) (aS : Nat → Nat) (S : Mem) (x1 : Int32) (k29 : Int32 → Option (Mem)) (hk29 : ∀ (x2 : Int32), Im p l e (im_rm 1) s m args below meth c D A 4 (QV D A (fun z : Mem => (cat [w_Scribe ct aS z]))) 29 [(0, .ref (aS 0)), (1, .int x1), (2, .int x2)] [] (cat [w_Scribe ct aS S]) (k29 x2)) : ∀ (n : Nat) (x2 : Int32) (x3 : Int32), Im p l e (im_rm 1) s m args below meth c D A 4 (QV D A (fun z : Mem => (cat [w_Scribe ct aS z]))) 4 [(0, .ref (aS 0)), (1, .int x1), (2, .int x2), (3, .int x3)] [] (cat [w_Scribe ct aS S]) (f_X7_addNumber_4 F S x1 k29 n x2 x3) := by
  intro n
  induction n with
  | zero => intros; exact im_none
  | succ n ih =>
    intro x2 x3
    unfold f_X7_addNumber_4
    refine im_iload_n X 3 dX7_addNumber_4 rfl rfl ?_
    refine im_bipush X 10 dX7_addNumber_5 (by decide) ?_
    refine im_icmp_ge (tgt := 29) X dX7_addNumber_7 rfl ?_ ?_
    · refine im_lv [0, 1, 2] [(0, .ref (aS 0)), (1, .int x1), (2, .int x2)] rfl ?_
      exact hk29 x2
    · refine im_iload_n X 1 dX7_addNumber_10 rfl rfl ?_
      refine im_iload_n X 2 dX7_addNumber_11 rfl rfl ?_
      refine im_idiv X dX7_addNumber_12 ?_
      refine im_bipush X 10 dX7_addNumber_13 (by decide) ?_
      refine im_icmp_lt (tgt := 29) X dX7_addNumber_15 rfl ?_ ?_
      · refine im_lv [0, 1, 2] [(0, .ref (aS 0)), (1, .int x1), (2, .int x2)] rfl ?_
        exact hk29 x2
      · refine im_iload_n X 2 dX7_addNumber_18 rfl rfl ?_
        refine im_bipush X 10 dX7_addNumber_19 (by decide) ?_
        refine im_imul X dX7_addNumber_21 ?_
        refine im_istore_n X [1, 2, 0, 3] [(0, .ref (aS 0)), (1, .int x1), (2, .int (x2 * 10)), (3, .int x3)] dX7_addNumber_22 rfl (by decide) rfl ?_
        refine im_iinc X 3 1 [1, 2, 3, 0] [(0, .ref (aS 0)), (1, .int x1), (2, .int (x2 * 10)), (3, .int (x3 + 1))] dX7_addNumber_23 (by decide) rfl (by decide) rfl ?_
        refine im_goto (tgt := 4) X dX7_addNumber_26 rfl ?_
        exact ih (x2 * 10) (x3 + 1)
noncomputable def f_X7_addNumber_31 (F : Nat) (x1 : Int32) (k57 : Mem → Option (Mem)) : Nat → Mem → Int32 → Option (Mem)
  | 0, _, _ => none
  | n + 1, S, x3 =>
  (if x3 ≤ 0 then k57 S else dv x3 (dv 10 ((f_X7_addByte F S (((48 + ((x1 / x3) - (x1 / x3) / 10 * 10))).toUInt32 % 65536).toInt32).bind (fun z46 => dv 10 (f_X7_addNumber_31 F x1 k57 n z46 (x3 / 10))))))
set_option maxRecDepth 100000 in
set_option maxHeartbeats 4000000 in
theorem i_X7_addNumber_31 {p : Program} {l : Launch} {e : Env} {s : State} {m : MethodId} {args : Array Value} {below : List Frame} {meth : Method} {c : Code} {D : va_G} {ct : im_ct} {A : Nat → Prop} (X : im_X p (im_rm 1) s m args meth c D ct A RX7 cX7_addNumber 4 none) (F : Nat) (aS : Nat → Nat) (x1 : Int32) (k57 : Mem → Option (Mem)) (hk57 : ∀ (S : Mem), Im p l e (im_rm 1) s m args below meth c D A 4 (QV D A (fun z : Mem => (cat [w_Scribe ct aS z]))) 57 [] [] (cat [w_Scribe ct aS S]) (k57 S)) : ∀ (n : Nat) (S : Mem) (x3 : Int32), Im p l e (im_rm 1) s m args below meth c D A 4 (QV D A (fun z : Mem => (cat [w_Scribe ct aS z]))) 31 [(0, .ref (aS 0)), (1, .int x1), (3, .int x3)] [] (cat [w_Scribe ct aS S]) (f_X7_addNumber_31 F x1 k57 n S x3) := by
  intro n
  induction n with
  | zero => intros; exact im_none
  | succ n ih =>
    intro S x3
    unfold f_X7_addNumber_31
    refine im_iload_n X 2 dX7_addNumber_31 rfl rfl ?_
    refine im_if_le (tgt := 57) X dX7_addNumber_32 rfl ?_ ?_
    · refine im_lv [] [] rfl ?_
      exact hk57 S
    · refine im_aload_n X 0 dX7_addNumber_35 rfl rfl ?_
      refine im_bipush X 48 dX7_addNumber_36 (by decide) ?_
      refine im_iload_n X 1 dX7_addNumber_38 rfl rfl ?_
      refine im_iload_n X 2 dX7_addNumber_39 rfl rfl ?_
      refine im_idiv X dX7_addNumber_40 ?_
      refine im_bipush X 10 dX7_addNumber_41 (by decide) ?_
      refine im_irem X dX7_addNumber_43 ?_
      refine im_iadd X dX7_addNumber_44 ?_
      refine im_i2c X dX7_addNumber_45 ?_
      refine im_ccvV X [.int (((48 + ((x1 / x3) - (x1 / x3) / 10 * 10))).toUInt32 % 65536).toInt32] [] [w_Scribe ct aS S] [w_Scribe ct aS S] [0] (fun z46 => [w_Scribe ct aS z46]) 0 0 7 rfl rfl rfl cl_X7_41 (c_X7_addByte l D ct F aS S (((48 + ((x1 / x3) - (x1 / x3) / 10 * 10))).toUInt32 % 65536).toInt32) rfl (by decide) (fun _ => lc fa_Scribe (rfl)) rfl ⟨by decide, by decide⟩ (Nat.le_of_ble_eq_true rfl) rfl dX7_addNumber_46 (fun z46 => ?_)
      refine im_ws (cat [w_Scribe ct aS z46]) rfl ?_
      refine im_iload_n X 2 dX7_addNumber_49 rfl rfl ?_
      refine im_bipush X 10 dX7_addNumber_50 (by decide) ?_
      refine im_idiv X dX7_addNumber_52 ?_
      refine im_istore_n X [1, 2, 0] [(0, .ref (aS 0)), (1, .int x1), (3, .int (x3 / 10))] dX7_addNumber_53 rfl (by decide) rfl ?_
      refine im_goto (tgt := 31) X dX7_addNumber_54 rfl ?_
      exact ih z46 (x3 / 10)
noncomputable def f_X7_addNumber (F : Nat) (S : Mem) (x1 : Int32) : Option (Mem) :=
  f_X7_addNumber_4 F S x1 (fun x2_29 => f_X7_addNumber_31 F x1 (fun S_57 => (some S_57)) F S x2_29) F 1 1
set_option maxRecDepth 100000 in
set_option maxHeartbeats 4000000 in
theorem i_X7_addNumber {p : Program} {l : Launch} {e : Env} {s : State} {m : MethodId} {args : Array Value} {below : List Frame} {meth : Method} {c : Code} {D : va_G} {ct : im_ct} {A : Nat → Prop} (X : im_X p (im_rm 1) s m args meth c D ct A RX7 cX7_addNumber 4 none) (F : Nat) (aS : Nat → Nat) (S : Mem) (x1 : Int32) : Im p l e (im_rm 1) s m args below meth c D A 4 (QV D A (fun z : Mem => (cat [w_Scribe ct aS z]))) 0 [(0, .ref (aS 0)), (1, .int x1)] [] (cat [w_Scribe ct aS S]) (f_X7_addNumber F S x1) := by
  unfold f_X7_addNumber
  refine im_iconst X 1 dX7_addNumber_0 (by decide) ?_
  refine im_istore_n X [1, 2, 0] [(0, .ref (aS 0)), (1, .int x1), (2, .int 1)] dX7_addNumber_1 rfl (by decide) rfl ?_
  refine im_iconst X 1 dX7_addNumber_2 (by decide) ?_
  refine im_istore_n X [1, 2, 3, 0] [(0, .ref (aS 0)), (1, .int x1), (2, .int 1), (3, .int 1)] dX7_addNumber_3 rfl (by decide) rfl ?_
  refine i_X7_addNumber_4 X F aS S x1 _ (fun x2_29 => ?_) F 1 1
  refine im_iload_n X 2 dX7_addNumber_29 rfl rfl ?_
  refine im_istore_n X [1, 2, 3, 0] [(0, .ref (aS 0)), (1, .int x1), (2, .int x2_29), (3, .int x2_29)] dX7_addNumber_30 rfl (by decide) rfl ?_
  refine im_lv [0, 1, 3] [(0, .ref (aS 0)), (1, .int x1), (3, .int x2_29)] rfl ?_
  refine i_X7_addNumber_31 X F aS  x1 _ (fun S_57 => ?_) F S x2_29
  exact im_return X S_57 rfl dX7_addNumber_57
theorem c_X7_addNumber (l : Launch) (D : va_G) (ct : im_ct) (F : Nat) (aS : Nat → Nat) (S : Mem) (x1 : Int32) : CMv l D ct yX7_addNumber cX7_addNumber 4 none 1 [.ref (aS 0), .int x1] (cat [w_Scribe ct aS S]) (f_X7_addNumber F S x1) (fun z : Mem => (cat [w_Scribe ct aS z])) :=
  im_met (Qb := fun A => QV D A (fun z : Mem => (cat [w_Scribe ct aS z]))) (by decide +kernel) (Nat.le_of_ble_eq_true rfl) (fun p e s m args below meth c A X => i_X7_addNumber X F aS S x1)

noncomputable def f_X7_addNumbers_20 (F : Nat) (nIA : Nat) (S : Mem) (IA : Mem) (x2 : Int32) (x3 : Int32) (x4 : Int32) (k3 : Mem → Int32 → Option (Mem)) : Option (Mem) :=
  ck (x2 + x4) nIA ((f_X7_addNumber F S ((IA 0) ((x2 + x4)).toNatClampNeg)).bind (fun z27 => k3 z27 (x4 + 1)))
set_option maxRecDepth 100000 in
set_option maxHeartbeats 4000000 in
theorem i_X7_addNumbers_20 {p : Program} {l : Launch} {e : Env} {s : State} {m : MethodId} {args : Array Value} {below : List Frame} {meth : Method} {c : Code} {D : va_G} {ct : im_ct} {A : Nat → Prop} (X : im_X p (im_rm 2) s m args meth c D ct A RX7 cX7_addNumbers 5 none) (F : Nat) (nIA : Nat) (aS aIA : Nat → Nat) (S : Mem) (IA : Mem) (x2 : Int32) (x3 : Int32) (x4 : Int32) (k3 : Mem → Int32 → Option (Mem)) (hk3 : ∀ (S : Mem) (x4 : Int32), Im p l e (im_rm 2) s m args below meth c D A 5 (QV D A (fun z : Mem => (cat [w_Scribe ct aS z, w_IArr ct nIA aIA IA]))) 3 [(0, .ref (aS 0)), (1, .ref (aIA 0)), (2, .int x2), (3, .int x3), (4, .int x4)] [] (cat [w_Scribe ct aS S, w_IArr ct nIA aIA IA]) (k3 S x4)) : Im p l e (im_rm 2) s m args below meth c D A 5 (QV D A (fun z : Mem => (cat [w_Scribe ct aS z, w_IArr ct nIA aIA IA]))) 20 [(0, .ref (aS 0)), (1, .ref (aIA 0)), (2, .int x2), (3, .int x3), (4, .int x4)] [] (cat [w_Scribe ct aS S, w_IArr ct nIA aIA IA]) (f_X7_addNumbers_20 F nIA S IA x2 x3 x4 k3) := by
  unfold f_X7_addNumbers_20
  refine im_aload_n X 0 dX7_addNumbers_20 rfl rfl ?_
  refine im_aload_n X 1 dX7_addNumbers_21 rfl rfl ?_
  refine im_iload_n X 2 dX7_addNumbers_22 rfl rfl ?_
  refine im_iload X 4 dX7_addNumbers_23 rfl ?_
  refine im_iadd X dX7_addNumbers_25 ?_
  refine im_ciald X 1 0 0 (f := (IA 0)) rfl rfl rfl dX7_addNumbers_26 ?_
  refine im_ccvV X [.int ((IA 0) ((x2 + x4)).toNatClampNeg)] [] [w_Scribe ct aS S, w_IArr ct nIA aIA IA] [w_Scribe ct aS S] [0] (fun z27 => [w_Scribe ct aS z27]) 0 0 7 rfl rfl rfl cl_X7_37 (c_X7_addNumber l D ct F aS S ((IA 0) ((x2 + x4)).toNatClampNeg)) rfl (by decide) (fun _ => lc fa_Scribe (rfl)) rfl ⟨by decide, by decide⟩ (Nat.le_of_ble_eq_true rfl) rfl dX7_addNumbers_27 (fun z27 => ?_)
  refine im_ws (cat [w_Scribe ct aS z27, w_IArr ct nIA aIA IA]) rfl ?_
  refine im_iinc X 4 1 [1, 2, 3, 4, 0] [(0, .ref (aS 0)), (1, .ref (aIA 0)), (2, .int x2), (3, .int x3), (4, .int (x4 + 1))] dX7_addNumbers_30 (by decide) rfl (by decide) rfl ?_
  refine im_goto (tgt := 3) X dX7_addNumbers_33 rfl ?_
  exact hk3 z27 (x4 + 1)
noncomputable def f_X7_addNumbers_3 (F : Nat) (nIA : Nat) (IA : Mem) (x2 : Int32) (x3 : Int32) (k36 : Mem → Option (Mem)) : Nat → Mem → Int32 → Option (Mem)
  | 0, _, _ => none
  | n + 1, S, x4 =>
  (if x3 ≤ x4 then k36 S else (if x4 ≤ 0 then f_X7_addNumbers_20 F nIA S IA x2 x3 x4 (f_X7_addNumbers_3 F nIA IA x2 x3 k36 n) else (f_X7_addByte F S 32).bind (fun z17 => f_X7_addNumbers_20 F nIA z17 IA x2 x3 x4 (f_X7_addNumbers_3 F nIA IA x2 x3 k36 n))))
set_option maxRecDepth 100000 in
set_option maxHeartbeats 4000000 in
theorem i_X7_addNumbers_3 {p : Program} {l : Launch} {e : Env} {s : State} {m : MethodId} {args : Array Value} {below : List Frame} {meth : Method} {c : Code} {D : va_G} {ct : im_ct} {A : Nat → Prop} (X : im_X p (im_rm 2) s m args meth c D ct A RX7 cX7_addNumbers 5 none) (F : Nat) (nIA : Nat) (aS aIA : Nat → Nat) (IA : Mem) (x2 : Int32) (x3 : Int32) (k36 : Mem → Option (Mem)) (hk36 : ∀ (S : Mem), Im p l e (im_rm 2) s m args below meth c D A 5 (QV D A (fun z : Mem => (cat [w_Scribe ct aS z, w_IArr ct nIA aIA IA]))) 36 [(0, .ref (aS 0))] [] (cat [w_Scribe ct aS S, w_IArr ct nIA aIA IA]) (k36 S)) : ∀ (n : Nat) (S : Mem) (x4 : Int32), Im p l e (im_rm 2) s m args below meth c D A 5 (QV D A (fun z : Mem => (cat [w_Scribe ct aS z, w_IArr ct nIA aIA IA]))) 3 [(0, .ref (aS 0)), (1, .ref (aIA 0)), (2, .int x2), (3, .int x3), (4, .int x4)] [] (cat [w_Scribe ct aS S, w_IArr ct nIA aIA IA]) (f_X7_addNumbers_3 F nIA IA x2 x3 k36 n S x4) := by
  intro n
  induction n with
  | zero => intros; exact im_none
  | succ n ih =>
    intro S x4
    unfold f_X7_addNumbers_3
    refine im_iload X 4 dX7_addNumbers_3 rfl ?_
    refine im_iload_n X 3 dX7_addNumbers_5 rfl rfl ?_
    refine im_icmp_ge (tgt := 36) X dX7_addNumbers_6 rfl ?_ ?_
    · refine im_lv [0] [(0, .ref (aS 0))] rfl ?_
      exact hk36 S
    · refine im_iload X 4 dX7_addNumbers_9 rfl ?_
      refine im_if_le (tgt := 20) X dX7_addNumbers_11 rfl ?_ ?_
      · exact i_X7_addNumbers_20 X F nIA aS aIA S IA x2 x3 x4 _ ih
      · refine im_aload_n X 0 dX7_addNumbers_14 rfl rfl ?_
        refine im_bipush X 32 dX7_addNumbers_15 (by decide) ?_
        refine im_ccvV X [.int 32] [] [w_Scribe ct aS S, w_IArr ct nIA aIA IA] [w_Scribe ct aS S] [0] (fun z17 => [w_Scribe ct aS z17]) 0 0 7 rfl rfl rfl cl_X7_41 (c_X7_addByte l D ct F aS S 32) rfl (by decide) (fun _ => lc fa_Scribe (rfl)) rfl ⟨by decide, by decide⟩ (Nat.le_of_ble_eq_true rfl) rfl dX7_addNumbers_17 (fun z17 => ?_)
        refine im_ws (cat [w_Scribe ct aS z17, w_IArr ct nIA aIA IA]) rfl ?_
        exact i_X7_addNumbers_20 X F nIA aS aIA z17 IA x2 x3 x4 _ ih
noncomputable def f_X7_addNumbers (F : Nat) (nIA : Nat) (S : Mem) (IA : Mem) (x2 : Int32) (x3 : Int32) : Option (Mem) :=
  f_X7_addNumbers_3 F nIA IA x2 x3 (fun S_36 => (f_X7_addByte F S_36 59).bind (fun z39 => (some z39))) F S 0
set_option maxRecDepth 100000 in
set_option maxHeartbeats 4000000 in
theorem i_X7_addNumbers {p : Program} {l : Launch} {e : Env} {s : State} {m : MethodId} {args : Array Value} {below : List Frame} {meth : Method} {c : Code} {D : va_G} {ct : im_ct} {A : Nat → Prop} (X : im_X p (im_rm 2) s m args meth c D ct A RX7 cX7_addNumbers 5 none) (F : Nat) (nIA : Nat) (aS aIA : Nat → Nat) (S : Mem) (IA : Mem) (x2 : Int32) (x3 : Int32) : Im p l e (im_rm 2) s m args below meth c D A 5 (QV D A (fun z : Mem => (cat [w_Scribe ct aS z, w_IArr ct nIA aIA IA]))) 0 [(0, .ref (aS 0)), (1, .ref (aIA 0)), (2, .int x2), (3, .int x3)] [] (cat [w_Scribe ct aS S, w_IArr ct nIA aIA IA]) (f_X7_addNumbers F nIA S IA x2 x3) := by
  unfold f_X7_addNumbers
  refine im_iconst X 0 dX7_addNumbers_0 (by decide) ?_
  refine im_istore X [1, 2, 3, 4, 0] [(0, .ref (aS 0)), (1, .ref (aIA 0)), (2, .int x2), (3, .int x3), (4, .int 0)] dX7_addNumbers_1 (by decide) rfl ?_
  refine i_X7_addNumbers_3 X F nIA aS aIA IA x2 x3 _ (fun S_36 => ?_) F S 0
  refine im_aload_n X 0 dX7_addNumbers_36 rfl rfl ?_
  refine im_bipush X 59 dX7_addNumbers_37 (by decide) ?_
  refine im_ccvV X [.int 59] [] [w_Scribe ct aS S_36, w_IArr ct nIA aIA IA] [w_Scribe ct aS S_36] [0] (fun z39 => [w_Scribe ct aS z39]) 0 0 7 rfl rfl rfl cl_X7_41 (c_X7_addByte l D ct F aS S_36 59) rfl (by decide) (fun _ => lc fa_Scribe (rfl)) rfl ⟨by decide, by decide⟩ (Nat.le_of_ble_eq_true rfl) rfl dX7_addNumbers_39 (fun z39 => ?_)
  refine im_ws (cat [w_Scribe ct aS z39, w_IArr ct nIA aIA IA]) rfl ?_
  exact im_return X z39 rfl dX7_addNumbers_42
theorem c_X7_addNumbers (l : Launch) (D : va_G) (ct : im_ct) (F : Nat) (nIA : Nat) (aS aIA : Nat → Nat) (S : Mem) (IA : Mem) (x2 : Int32) (x3 : Int32) : CMv l D ct yX7_addNumbers cX7_addNumbers 5 none 2 [.ref (aS 0), .ref (aIA 0), .int x2, .int x3] (cat [w_Scribe ct aS S, w_IArr ct nIA aIA IA]) (f_X7_addNumbers F nIA S IA x2 x3) (fun z : Mem => (cat [w_Scribe ct aS z, w_IArr ct nIA aIA IA])) :=
  im_met (Qb := fun A => QV D A (fun z : Mem => (cat [w_Scribe ct aS z, w_IArr ct nIA aIA IA]))) (by decide +kernel) (Nat.le_of_ble_eq_true rfl) (fun p e s m args below meth c A X => i_X7_addNumbers X F nIA aS aIA S IA x2 x3)

noncomputable def f_X7_writeMove_96 (F : Nat) (S : Mem) (C : Mem) : Option (Mem) :=
  (f_X7_addByte F S 59).bind (fun z99 => (some z99))
set_option maxRecDepth 100000 in
set_option maxHeartbeats 4000000 in
theorem i_X7_writeMove_96 {p : Program} {l : Launch} {e : Env} {s : State} {m : MethodId} {args : Array Value} {below : List Frame} {meth : Method} {c : Code} {D : va_G} {ct : im_ct} {A : Nat → Prop} (X : im_X p (im_rm 5) s m args meth c D ct A RX7 cX7_writeMove 4 none) (F : Nat) (aS aC : Nat → Nat) (S : Mem) (C : Mem) : Im p l e (im_rm 5) s m args below meth c D A 4 (QV D A (fun z : Mem => (cat [w_Scribe ct aS z, w_Cloth ct aC C]))) 96 [(0, .ref (aS 0))] [] (cat [w_Scribe ct aS S, w_Cloth ct aC C]) (f_X7_writeMove_96 F S C) := by
  unfold f_X7_writeMove_96
  refine im_aload_n X 0 dX7_writeMove_96 rfl rfl ?_
  refine im_bipush X 59 dX7_writeMove_97 (by decide) ?_
  refine im_ccvV X [.int 59] [] [w_Scribe ct aS S, w_Cloth ct aC C] [w_Scribe ct aS S] [0] (fun z99 => [w_Scribe ct aS z99]) 0 0 7 rfl rfl rfl cl_X7_41 (c_X7_addByte l D ct F aS S 59) rfl (by decide) (fun _ => lc fa_Scribe (rfl)) rfl ⟨by decide, by decide⟩ (Nat.le_of_ble_eq_true rfl) rfl dX7_writeMove_99 (fun z99 => ?_)
  refine im_ws (cat [w_Scribe ct aS z99, w_Cloth ct aC C]) rfl ?_
  exact im_return X z99 rfl dX7_writeMove_102
noncomputable def f_X7_writeMove_50 (F : Nat) (S : Mem) (C : Mem) (x2 : Int32) (x3 : Int32) : Option (Mem) :=
  (f_X7_addByte F S 32).bind (fun z53 => ck (x2 + 2) 120 ((f_X7_addNumber F z53 ((C 5) ((x2 + 2)).toNatClampNeg)).bind (fun z65 => (if x3 = 2 then f_X7_writeMove_96 F z65 C else (if x3 = 3 then f_X7_writeMove_96 F z65 C else (f_X7_addByte F z65 32).bind (fun z81 => ck (x2 + 3) 120 ((f_X7_addNumber F z81 ((C 5) ((x2 + 3)).toNatClampNeg)).bind (fun z93 => f_X7_writeMove_96 F z93 C))))))))
set_option maxRecDepth 100000 in
set_option maxHeartbeats 4000000 in
theorem i_X7_writeMove_50 {p : Program} {l : Launch} {e : Env} {s : State} {m : MethodId} {args : Array Value} {below : List Frame} {meth : Method} {c : Code} {D : va_G} {ct : im_ct} {A : Nat → Prop} (X : im_X p (im_rm 5) s m args meth c D ct A RX7 cX7_writeMove 4 none) (F : Nat) (aS aC : Nat → Nat) (S : Mem) (C : Mem) (x2 : Int32) (x3 : Int32) : Im p l e (im_rm 5) s m args below meth c D A 4 (QV D A (fun z : Mem => (cat [w_Scribe ct aS z, w_Cloth ct aC C]))) 50 [(0, .ref (aS 0)), (1, .ref (aC 0)), (2, .int x2), (3, .int x3)] [] (cat [w_Scribe ct aS S, w_Cloth ct aC C]) (f_X7_writeMove_50 F S C x2 x3) := by
  unfold f_X7_writeMove_50
  refine im_aload_n X 0 dX7_writeMove_50 rfl rfl ?_
  refine im_bipush X 32 dX7_writeMove_51 (by decide) ?_
  refine im_ccvV X [.int 32] [] [w_Scribe ct aS S, w_Cloth ct aC C] [w_Scribe ct aS S] [0] (fun z53 => [w_Scribe ct aS z53]) 0 0 7 rfl rfl rfl cl_X7_41 (c_X7_addByte l D ct F aS S 32) rfl (by decide) (fun _ => lc fa_Scribe (rfl)) rfl ⟨by decide, by decide⟩ (Nat.le_of_ble_eq_true rfl) rfl dX7_writeMove_53 (fun z53 => ?_)
  refine im_ws (cat [w_Scribe ct aS z53, w_Cloth ct aC C]) rfl ?_
  refine im_aload_n X 0 dX7_writeMove_56 rfl rfl ?_
  refine im_aload_n X 1 dX7_writeMove_57 rfl rfl ?_
  refine im_cget X 1 0 (v := .ref (aC 5)) fl_X7_71 rfl rfl rfl dX7_writeMove_58 ?_
  refine im_iload_n X 2 dX7_writeMove_61 rfl rfl ?_
  refine im_iconst X 2 dX7_writeMove_62 (by decide) ?_
  refine im_iadd X dX7_writeMove_63 ?_
  refine im_ciald X 1 5 0 (f := (C 5)) rfl rfl rfl dX7_writeMove_64 ?_
  refine im_ccvV X [.int ((C 5) ((x2 + 2)).toNatClampNeg)] [] [w_Scribe ct aS z53, w_Cloth ct aC C] [w_Scribe ct aS z53] [0] (fun z65 => [w_Scribe ct aS z65]) 0 0 7 rfl rfl rfl cl_X7_37 (c_X7_addNumber l D ct F aS z53 ((C 5) ((x2 + 2)).toNatClampNeg)) rfl (by decide) (fun _ => lc fa_Scribe (rfl)) rfl ⟨by decide, by decide⟩ (Nat.le_of_ble_eq_true rfl) rfl dX7_writeMove_65 (fun z65 => ?_)
  refine im_ws (cat [w_Scribe ct aS z65, w_Cloth ct aC C]) rfl ?_
  refine im_iload_n X 3 dX7_writeMove_68 rfl rfl ?_
  refine im_iconst X 2 dX7_writeMove_69 (by decide) ?_
  refine im_icmp_eq (tgt := 96) X dX7_writeMove_70 rfl ?_ ?_
  · refine im_lv [0] [(0, .ref (aS 0))] rfl ?_
    exact i_X7_writeMove_96 X F aS aC z65 C  
  · refine im_iload_n X 3 dX7_writeMove_73 rfl rfl ?_
    refine im_iconst X 3 dX7_writeMove_74 (by decide) ?_
    refine im_icmp_eq (tgt := 96) X dX7_writeMove_75 rfl ?_ ?_
    · refine im_lv [0] [(0, .ref (aS 0))] rfl ?_
      exact i_X7_writeMove_96 X F aS aC z65 C  
    · refine im_aload_n X 0 dX7_writeMove_78 rfl rfl ?_
      refine im_bipush X 32 dX7_writeMove_79 (by decide) ?_
      refine im_ccvV X [.int 32] [] [w_Scribe ct aS z65, w_Cloth ct aC C] [w_Scribe ct aS z65] [0] (fun z81 => [w_Scribe ct aS z81]) 0 0 7 rfl rfl rfl cl_X7_41 (c_X7_addByte l D ct F aS z65 32) rfl (by decide) (fun _ => lc fa_Scribe (rfl)) rfl ⟨by decide, by decide⟩ (Nat.le_of_ble_eq_true rfl) rfl dX7_writeMove_81 (fun z81 => ?_)
      refine im_ws (cat [w_Scribe ct aS z81, w_Cloth ct aC C]) rfl ?_
      refine im_aload_n X 0 dX7_writeMove_84 rfl rfl ?_
      refine im_aload_n X 1 dX7_writeMove_85 rfl rfl ?_
      refine im_cget X 1 0 (v := .ref (aC 5)) fl_X7_71 rfl rfl rfl dX7_writeMove_86 ?_
      refine im_iload_n X 2 dX7_writeMove_89 rfl rfl ?_
      refine im_iconst X 3 dX7_writeMove_90 (by decide) ?_
      refine im_iadd X dX7_writeMove_91 ?_
      refine im_ciald X 1 5 0 (f := (C 5)) rfl rfl rfl dX7_writeMove_92 ?_
      refine im_ccvV X [.int ((C 5) ((x2 + 3)).toNatClampNeg)] [] [w_Scribe ct aS z81, w_Cloth ct aC C] [w_Scribe ct aS z81] [0] (fun z93 => [w_Scribe ct aS z93]) 0 0 7 rfl rfl rfl cl_X7_37 (c_X7_addNumber l D ct F aS z81 ((C 5) ((x2 + 3)).toNatClampNeg)) rfl (by decide) (fun _ => lc fa_Scribe (rfl)) rfl ⟨by decide, by decide⟩ (Nat.le_of_ble_eq_true rfl) rfl dX7_writeMove_93 (fun z93 => ?_)
      refine im_ws (cat [w_Scribe ct aS z93, w_Cloth ct aC C]) rfl ?_
      refine im_lv [0] [(0, .ref (aS 0))] rfl ?_
      exact i_X7_writeMove_96 X F aS aC z93 C  
noncomputable def f_X7_writeMove (F : Nat) (S : Mem) (C : Mem) (x2 : Int32) : Option (Mem) :=
  ck x2 120 ((f_X6_moveWord F ((C 5) x2.toNatClampNeg)).bind (fun z9 => (f_X7_addWord F S z9).bind (fun z12 => ck (x2 + 1) 120 ((f_X7_addNumber F z12 ((C 5) ((x2 + 1)).toNatClampNeg)).bind (fun z24 => (if ((C 5) x2.toNatClampNeg) = 4 then (f_X7_addByte F z24 32).bind (fun z35 => ck (x2 + 4) 120 ((f_X7_addNumber F z35 ((C 5) ((x2 + 4)).toNatClampNeg)).bind (fun z47 => f_X7_writeMove_50 F z47 C x2 ((C 5) x2.toNatClampNeg)))) else f_X7_writeMove_50 F z24 C x2 ((C 5) x2.toNatClampNeg)))))))
set_option maxRecDepth 100000 in
set_option maxHeartbeats 4000000 in
theorem i_X7_writeMove {p : Program} {l : Launch} {e : Env} {s : State} {m : MethodId} {args : Array Value} {below : List Frame} {meth : Method} {c : Code} {D : va_G} {ct : im_ct} {A : Nat → Prop} (X : im_X p (im_rm 5) s m args meth c D ct A RX7 cX7_writeMove 4 none) (F : Nat) (aS aC : Nat → Nat) (S : Mem) (C : Mem) (x2 : Int32) : Im p l e (im_rm 5) s m args below meth c D A 4 (QV D A (fun z : Mem => (cat [w_Scribe ct aS z, w_Cloth ct aC C]))) 0 [(0, .ref (aS 0)), (1, .ref (aC 0)), (2, .int x2)] [] (cat [w_Scribe ct aS S, w_Cloth ct aC C]) (f_X7_writeMove F S C x2) := by
  unfold f_X7_writeMove
  refine im_aload_n X 1 dX7_writeMove_0 rfl rfl ?_
  refine im_cget X 1 0 (v := .ref (aC 5)) fl_X7_71 rfl rfl rfl dX7_writeMove_1 ?_
  refine im_iload_n X 2 dX7_writeMove_4 rfl rfl ?_
  refine im_ciald X 1 5 0 (f := (C 5)) rfl rfl rfl dX7_writeMove_5 ?_
  refine im_istore_n X [1, 2, 3, 0] [(0, .ref (aS 0)), (1, .ref (aC 0)), (2, .int x2), (3, .int ((C 5) x2.toNatClampNeg))] dX7_writeMove_6 rfl (by decide) rfl ?_
  refine im_aload_n X 0 dX7_writeMove_7 rfl rfl ?_
  refine im_iload_n X 3 dX7_writeMove_8 rfl rfl ?_
  refine im_callsS X [.int ((C 5) x2.toNatClampNeg)] [.ref (aS 0)] [] cl_X7_74 (c_X6_moveWord l D ct F ((C 5) x2.toNatClampNeg)) rfl (by decide) (fun _ => rfl) rfl ⟨by decide, by decide⟩ (Nat.le_of_ble_eq_true rfl) rfl dX7_writeMove_9 (fun z9 => ?_)
  refine im_ws (cat [w_Scribe ct aS S, w_Cloth ct aC C]) rfl ?_
  refine im_ccvV X [.ref (ct (10 + z9))] [] [w_Scribe ct aS S, w_Cloth ct aC C] [w_Scribe ct aS S] [0] (fun z12 => [w_Scribe ct aS z12]) 0 0 7 rfl rfl rfl cl_X7_29 (c_X7_addWord l D ct F aS S z9) rfl (by decide) (fun _ => lc fa_Scribe (rfl)) rfl ⟨by decide, by decide⟩ (Nat.le_of_ble_eq_true rfl) rfl dX7_writeMove_12 (fun z12 => ?_)
  refine im_ws (cat [w_Scribe ct aS z12, w_Cloth ct aC C]) rfl ?_
  refine im_aload_n X 0 dX7_writeMove_15 rfl rfl ?_
  refine im_aload_n X 1 dX7_writeMove_16 rfl rfl ?_
  refine im_cget X 1 0 (v := .ref (aC 5)) fl_X7_71 rfl rfl rfl dX7_writeMove_17 ?_
  refine im_iload_n X 2 dX7_writeMove_20 rfl rfl ?_
  refine im_iconst X 1 dX7_writeMove_21 (by decide) ?_
  refine im_iadd X dX7_writeMove_22 ?_
  refine im_ciald X 1 5 0 (f := (C 5)) rfl rfl rfl dX7_writeMove_23 ?_
  refine im_ccvV X [.int ((C 5) ((x2 + 1)).toNatClampNeg)] [] [w_Scribe ct aS z12, w_Cloth ct aC C] [w_Scribe ct aS z12] [0] (fun z24 => [w_Scribe ct aS z24]) 0 0 7 rfl rfl rfl cl_X7_37 (c_X7_addNumber l D ct F aS z12 ((C 5) ((x2 + 1)).toNatClampNeg)) rfl (by decide) (fun _ => lc fa_Scribe (rfl)) rfl ⟨by decide, by decide⟩ (Nat.le_of_ble_eq_true rfl) rfl dX7_writeMove_24 (fun z24 => ?_)
  refine im_ws (cat [w_Scribe ct aS z24, w_Cloth ct aC C]) rfl ?_
  refine im_iload_n X 3 dX7_writeMove_27 rfl rfl ?_
  refine im_iconst X 4 dX7_writeMove_28 (by decide) ?_
  refine im_icmp_ne (tgt := 50) X dX7_writeMove_29 rfl ?_ ?_
  · exact i_X7_writeMove_50 X F aS aC z24 C x2 ((C 5) x2.toNatClampNeg) 
  · refine im_aload_n X 0 dX7_writeMove_32 rfl rfl ?_
    refine im_bipush X 32 dX7_writeMove_33 (by decide) ?_
    refine im_ccvV X [.int 32] [] [w_Scribe ct aS z24, w_Cloth ct aC C] [w_Scribe ct aS z24] [0] (fun z35 => [w_Scribe ct aS z35]) 0 0 7 rfl rfl rfl cl_X7_41 (c_X7_addByte l D ct F aS z24 32) rfl (by decide) (fun _ => lc fa_Scribe (rfl)) rfl ⟨by decide, by decide⟩ (Nat.le_of_ble_eq_true rfl) rfl dX7_writeMove_35 (fun z35 => ?_)
    refine im_ws (cat [w_Scribe ct aS z35, w_Cloth ct aC C]) rfl ?_
    refine im_aload_n X 0 dX7_writeMove_38 rfl rfl ?_
    refine im_aload_n X 1 dX7_writeMove_39 rfl rfl ?_
    refine im_cget X 1 0 (v := .ref (aC 5)) fl_X7_71 rfl rfl rfl dX7_writeMove_40 ?_
    refine im_iload_n X 2 dX7_writeMove_43 rfl rfl ?_
    refine im_iconst X 4 dX7_writeMove_44 (by decide) ?_
    refine im_iadd X dX7_writeMove_45 ?_
    refine im_ciald X 1 5 0 (f := (C 5)) rfl rfl rfl dX7_writeMove_46 ?_
    refine im_ccvV X [.int ((C 5) ((x2 + 4)).toNatClampNeg)] [] [w_Scribe ct aS z35, w_Cloth ct aC C] [w_Scribe ct aS z35] [0] (fun z47 => [w_Scribe ct aS z47]) 0 0 7 rfl rfl rfl cl_X7_37 (c_X7_addNumber l D ct F aS z35 ((C 5) ((x2 + 4)).toNatClampNeg)) rfl (by decide) (fun _ => lc fa_Scribe (rfl)) rfl ⟨by decide, by decide⟩ (Nat.le_of_ble_eq_true rfl) rfl dX7_writeMove_47 (fun z47 => ?_)
    refine im_ws (cat [w_Scribe ct aS z47, w_Cloth ct aC C]) rfl ?_
    exact i_X7_writeMove_50 X F aS aC z47 C x2 ((C 5) x2.toNatClampNeg) 
theorem c_X7_writeMove (l : Launch) (D : va_G) (ct : im_ct) (F : Nat) (aS aC : Nat → Nat) (S : Mem) (C : Mem) (x2 : Int32) : CMv l D ct yX7_writeMove cX7_writeMove 4 none 5 [.ref (aS 0), .ref (aC 0), .int x2] (cat [w_Scribe ct aS S, w_Cloth ct aC C]) (f_X7_writeMove F S C x2) (fun z : Mem => (cat [w_Scribe ct aS z, w_Cloth ct aC C])) :=
  im_met (Qb := fun A => QV D A (fun z : Mem => (cat [w_Scribe ct aS z, w_Cloth ct aC C]))) (by decide +kernel) (Nat.le_of_ble_eq_true rfl) (fun p e s m args below meth c A X => i_X7_writeMove X F aS aC S C x2)

noncomputable def f_X7_writeCloth_21 (F : Nat) (C : Mem) (k57 : Mem → Option (Mem)) : Nat → Mem → Int32 → Option (Mem)
  | 0, _, _ => none
  | n + 1, S, x2 =>
  (if (C 0 6) ≤ x2 then k57 S else (f_X7_addWord F S 5).bind (fun z32 => ck x2 6 ((f_X7_addNumber F z32 ((C 1) x2.toNatClampNeg)).bind (fun z42 => (f_X7_addByte F z42 59).bind (fun z48 => f_X7_writeCloth_21 F C k57 n z48 (x2 + 1))))))
set_option maxRecDepth 100000 in
set_option maxHeartbeats 4000000 in
theorem i_X7_writeCloth_21 {p : Program} {l : Launch} {e : Env} {s : State} {m : MethodId} {args : Array Value} {below : List Frame} {meth : Method} {c : Code} {D : va_G} {ct : im_ct} {A : Nat → Prop} (X : im_X p (im_rm 6) s m args meth c D ct A RX7 cX7_writeCloth 3 none) (F : Nat) (aS aC : Nat → Nat) (C : Mem) (k57 : Mem → Option (Mem)) (hk57 : ∀ (S : Mem), Im p l e (im_rm 6) s m args below meth c D A 3 (QV D A (fun z : Mem => (cat [w_Scribe ct aS z, w_Cloth ct aC C]))) 57 [(0, .ref (aS 0)), (1, .ref (aC 0))] [] (cat [w_Scribe ct aS S, w_Cloth ct aC C]) (k57 S)) : ∀ (n : Nat) (S : Mem) (x2 : Int32), Im p l e (im_rm 6) s m args below meth c D A 3 (QV D A (fun z : Mem => (cat [w_Scribe ct aS z, w_Cloth ct aC C]))) 21 [(0, .ref (aS 0)), (1, .ref (aC 0)), (2, .int x2)] [] (cat [w_Scribe ct aS S, w_Cloth ct aC C]) (f_X7_writeCloth_21 F C k57 n S x2) := by
  intro n
  induction n with
  | zero => intros; exact im_none
  | succ n ih =>
    intro S x2
    unfold f_X7_writeCloth_21
    refine im_iload_n X 2 dX7_writeCloth_21 rfl rfl ?_
    refine im_aload_n X 1 dX7_writeCloth_22 rfl rfl ?_
    refine im_cget X 1 0 (v := .int (C 0 6)) fl_X7_22 rfl rfl rfl dX7_writeCloth_23 ?_
    refine im_icmp_ge (tgt := 57) X dX7_writeCloth_26 rfl ?_ ?_
    · refine im_lv [0, 1] [(0, .ref (aS 0)), (1, .ref (aC 0))] rfl ?_
      exact hk57 S
    · refine im_aload_n X 0 dX7_writeCloth_29 rfl rfl ?_
      refine im_ldcS X "ExchequerCloth$Scribe" "column" 5 rfl (by decide) dX7_writeCloth_30 ?_
      refine im_ccvV X [.ref (ct (10 + 5))] [] [w_Scribe ct aS S, w_Cloth ct aC C] [w_Scribe ct aS S] [0] (fun z32 => [w_Scribe ct aS z32]) 0 0 7 rfl rfl rfl cl_X7_29 (c_X7_addWord l D ct F aS S 5) rfl (by decide) (fun _ => lc fa_Scribe (rfl)) rfl ⟨by decide, by decide⟩ (Nat.le_of_ble_eq_true rfl) rfl dX7_writeCloth_32 (fun z32 => ?_)
      refine im_ws (cat [w_Scribe ct aS z32, w_Cloth ct aC C]) rfl ?_
      refine im_aload_n X 0 dX7_writeCloth_35 rfl rfl ?_
      refine im_aload_n X 1 dX7_writeCloth_36 rfl rfl ?_
      refine im_cget X 1 0 (v := .ref (aC 1)) fl_X7_33 rfl rfl rfl dX7_writeCloth_37 ?_
      refine im_iload_n X 2 dX7_writeCloth_40 rfl rfl ?_
      refine im_ciald X 1 1 0 (f := (C 1)) rfl rfl rfl dX7_writeCloth_41 ?_
      refine im_ccvV X [.int ((C 1) x2.toNatClampNeg)] [] [w_Scribe ct aS z32, w_Cloth ct aC C] [w_Scribe ct aS z32] [0] (fun z42 => [w_Scribe ct aS z42]) 0 0 7 rfl rfl rfl cl_X7_37 (c_X7_addNumber l D ct F aS z32 ((C 1) x2.toNatClampNeg)) rfl (by decide) (fun _ => lc fa_Scribe (rfl)) rfl ⟨by decide, by decide⟩ (Nat.le_of_ble_eq_true rfl) rfl dX7_writeCloth_42 (fun z42 => ?_)
      refine im_ws (cat [w_Scribe ct aS z42, w_Cloth ct aC C]) rfl ?_
      refine im_aload_n X 0 dX7_writeCloth_45 rfl rfl ?_
      refine im_bipush X 59 dX7_writeCloth_46 (by decide) ?_
      refine im_ccvV X [.int 59] [] [w_Scribe ct aS z42, w_Cloth ct aC C] [w_Scribe ct aS z42] [0] (fun z48 => [w_Scribe ct aS z48]) 0 0 7 rfl rfl rfl cl_X7_41 (c_X7_addByte l D ct F aS z42 59) rfl (by decide) (fun _ => lc fa_Scribe (rfl)) rfl ⟨by decide, by decide⟩ (Nat.le_of_ble_eq_true rfl) rfl dX7_writeCloth_48 (fun z48 => ?_)
      refine im_ws (cat [w_Scribe ct aS z48, w_Cloth ct aC C]) rfl ?_
      refine im_iinc X 2 1 [1, 2, 0] [(0, .ref (aS 0)), (1, .ref (aC 0)), (2, .int (x2 + 1))] dX7_writeCloth_51 (by decide) rfl (by decide) rfl ?_
      refine im_goto (tgt := 21) X dX7_writeCloth_54 rfl ?_
      exact ih z48 (x2 + 1)
noncomputable def f_X7_writeCloth_59 (F : Nat) (C : Mem) (k95 : Mem → Option (Mem)) : Nat → Mem → Int32 → Option (Mem)
  | 0, _, _ => none
  | n + 1, S, x2 =>
  (if (C 0 7) ≤ x2 then k95 S else (f_X7_addWord F S 6).bind (fun z70 => (f_X7_addNumbers F 24 z70 (fun _ => (C 4)) (x2 * 6) (C 0 6)).bind (fun z86 => f_X7_writeCloth_59 F C k95 n z86 (x2 + 1))))
set_option maxRecDepth 100000 in
set_option maxHeartbeats 4000000 in
theorem i_X7_writeCloth_59 {p : Program} {l : Launch} {e : Env} {s : State} {m : MethodId} {args : Array Value} {below : List Frame} {meth : Method} {c : Code} {D : va_G} {ct : im_ct} {A : Nat → Prop} (X : im_X p (im_rm 6) s m args meth c D ct A RX7 cX7_writeCloth 3 none) (F : Nat) (aS aC : Nat → Nat) (C : Mem) (k95 : Mem → Option (Mem)) (hk95 : ∀ (S : Mem), Im p l e (im_rm 6) s m args below meth c D A 3 (QV D A (fun z : Mem => (cat [w_Scribe ct aS z, w_Cloth ct aC C]))) 95 [(0, .ref (aS 0)), (1, .ref (aC 0))] [] (cat [w_Scribe ct aS S, w_Cloth ct aC C]) (k95 S)) : ∀ (n : Nat) (S : Mem) (x2 : Int32), Im p l e (im_rm 6) s m args below meth c D A 3 (QV D A (fun z : Mem => (cat [w_Scribe ct aS z, w_Cloth ct aC C]))) 59 [(0, .ref (aS 0)), (1, .ref (aC 0)), (2, .int x2)] [] (cat [w_Scribe ct aS S, w_Cloth ct aC C]) (f_X7_writeCloth_59 F C k95 n S x2) := by
  intro n
  induction n with
  | zero => intros; exact im_none
  | succ n ih =>
    intro S x2
    unfold f_X7_writeCloth_59
    refine im_iload_n X 2 dX7_writeCloth_59 rfl rfl ?_
    refine im_aload_n X 1 dX7_writeCloth_60 rfl rfl ?_
    refine im_cget X 1 0 (v := .int (C 0 7)) fl_X7_45 rfl rfl rfl dX7_writeCloth_61 ?_
    refine im_icmp_ge (tgt := 95) X dX7_writeCloth_64 rfl ?_ ?_
    · refine im_lv [0, 1] [(0, .ref (aS 0)), (1, .ref (aC 0))] rfl ?_
      exact hk95 S
    · refine im_aload_n X 0 dX7_writeCloth_67 rfl rfl ?_
      refine im_ldcS X "ExchequerCloth$Scribe" "row" 6 rfl (by decide) dX7_writeCloth_68 ?_
      refine im_ccvV X [.ref (ct (10 + 6))] [] [w_Scribe ct aS S, w_Cloth ct aC C] [w_Scribe ct aS S] [0] (fun z70 => [w_Scribe ct aS z70]) 0 0 7 rfl rfl rfl cl_X7_29 (c_X7_addWord l D ct F aS S 6) rfl (by decide) (fun _ => lc fa_Scribe (rfl)) rfl ⟨by decide, by decide⟩ (Nat.le_of_ble_eq_true rfl) rfl dX7_writeCloth_70 (fun z70 => ?_)
      refine im_ws (cat [w_Scribe ct aS z70, w_Cloth ct aC C]) rfl ?_
      refine im_aload_n X 0 dX7_writeCloth_73 rfl rfl ?_
      refine im_aload_n X 1 dX7_writeCloth_74 rfl rfl ?_
      refine im_cget X 1 0 (v := .ref (aC 4)) fl_X7_50 rfl rfl rfl dX7_writeCloth_75 ?_
      refine im_iload_n X 2 dX7_writeCloth_78 rfl rfl ?_
      refine im_bipush X 6 dX7_writeCloth_79 (by decide) ?_
      refine im_imul X dX7_writeCloth_81 ?_
      refine im_aload_n X 1 dX7_writeCloth_82 rfl rfl ?_
      refine im_cget X 1 0 (v := .int (C 0 6)) fl_X7_22 rfl rfl rfl dX7_writeCloth_83 ?_
      refine im_callvV X [.ref (aC 4), .int (x2 * 6), .int (C 0 6)] [] [0, 1, 6] 0 7 rfl rfl cl_X7_53 (c_X7_addNumbers l D ct F 24 aS (fun _ => aC 4) z70 (fun _ => (C 4)) (x2 * 6) (C 0 6)) rfl (by decide) (fun _ => rfl) rfl ⟨by decide, by decide⟩ (Nat.le_of_ble_eq_true rfl) rfl dX7_writeCloth_86 (fun z86 => ?_)
      refine im_ws (cat [w_Scribe ct aS z86, w_Cloth ct aC C]) rfl ?_
      refine im_iinc X 2 1 [1, 2, 0] [(0, .ref (aS 0)), (1, .ref (aC 0)), (2, .int (x2 + 1))] dX7_writeCloth_89 (by decide) rfl (by decide) rfl ?_
      refine im_goto (tgt := 59) X dX7_writeCloth_92 rfl ?_
      exact ih z86 (x2 + 1)
noncomputable def f_X7_writeCloth_97 (F : Nat) (C : Mem) (k119 : Mem → Option (Mem)) : Nat → Mem → Int32 → Option (Mem)
  | 0, _, _ => none
  | n + 1, S, x2 =>
  (if (C 0 8) ≤ x2 then k119 S else (f_X7_writeMove F S C (x2 * 5)).bind (fun z110 => f_X7_writeCloth_97 F C k119 n z110 (x2 + 1)))
set_option maxRecDepth 100000 in
set_option maxHeartbeats 4000000 in
theorem i_X7_writeCloth_97 {p : Program} {l : Launch} {e : Env} {s : State} {m : MethodId} {args : Array Value} {below : List Frame} {meth : Method} {c : Code} {D : va_G} {ct : im_ct} {A : Nat → Prop} (X : im_X p (im_rm 6) s m args meth c D ct A RX7 cX7_writeCloth 3 none) (F : Nat) (aS aC : Nat → Nat) (C : Mem) (k119 : Mem → Option (Mem)) (hk119 : ∀ (S : Mem), Im p l e (im_rm 6) s m args below meth c D A 3 (QV D A (fun z : Mem => (cat [w_Scribe ct aS z, w_Cloth ct aC C]))) 119 [(0, .ref (aS 0)), (1, .ref (aC 0))] [] (cat [w_Scribe ct aS S, w_Cloth ct aC C]) (k119 S)) : ∀ (n : Nat) (S : Mem) (x2 : Int32), Im p l e (im_rm 6) s m args below meth c D A 3 (QV D A (fun z : Mem => (cat [w_Scribe ct aS z, w_Cloth ct aC C]))) 97 [(0, .ref (aS 0)), (1, .ref (aC 0)), (2, .int x2)] [] (cat [w_Scribe ct aS S, w_Cloth ct aC C]) (f_X7_writeCloth_97 F C k119 n S x2) := by
  intro n
  induction n with
  | zero => intros; exact im_none
  | succ n ih =>
    intro S x2
    unfold f_X7_writeCloth_97
    refine im_iload_n X 2 dX7_writeCloth_97 rfl rfl ?_
    refine im_aload_n X 1 dX7_writeCloth_98 rfl rfl ?_
    refine im_cget X 1 0 (v := .int (C 0 8)) fl_X7_57 rfl rfl rfl dX7_writeCloth_99 ?_
    refine im_icmp_ge (tgt := 119) X dX7_writeCloth_102 rfl ?_ ?_
    · refine im_lv [0, 1] [(0, .ref (aS 0)), (1, .ref (aC 0))] rfl ?_
      exact hk119 S
    · refine im_aload_n X 0 dX7_writeCloth_105 rfl rfl ?_
      refine im_aload_n X 1 dX7_writeCloth_106 rfl rfl ?_
      refine im_iload_n X 2 dX7_writeCloth_107 rfl rfl ?_
      refine im_iconst X 5 dX7_writeCloth_108 (by decide) ?_
      refine im_imul X dX7_writeCloth_109 ?_
      refine im_ccvV X [.ref (aC 0), .int (x2 * 5)] [] [w_Scribe ct aS S, w_Cloth ct aC C] [w_Scribe ct aS S, w_Cloth ct aC C] [0, 1] (fun z110 => [w_Scribe ct aS z110, w_Cloth ct aC C]) 0 0 7 rfl rfl rfl cl_X7_60 (c_X7_writeMove l D ct F aS aC S C (x2 * 5)) rfl (by decide) (fun _ => lc fa_Scribe (lc rfl (rfl))) rfl ⟨by decide, by decide⟩ (Nat.le_of_ble_eq_true rfl) rfl dX7_writeCloth_110 (fun z110 => ?_)
      refine im_ws (cat [w_Scribe ct aS z110, w_Cloth ct aC C]) rfl ?_
      refine im_iinc X 2 1 [1, 2, 0] [(0, .ref (aS 0)), (1, .ref (aC 0)), (2, .int (x2 + 1))] dX7_writeCloth_113 (by decide) rfl (by decide) rfl ?_
      refine im_goto (tgt := 97) X dX7_writeCloth_116 rfl ?_
      exact ih z110 (x2 + 1)
noncomputable def f_X7_writeCloth_121 (F : Nat) (C : Mem) (k153 : Mem → Option (Mem)) : Nat → Mem → Int32 → Option (Mem)
  | 0, _, _ => none
  | n + 1, S, x2 =>
  (if (C 0 9) ≤ x2 then k153 S else (f_X7_addWord F S 7).bind (fun z132 => (f_X7_addNumbers F 48 z132 (fun _ => (C 6)) (x2 * 4) 4).bind (fun z144 => f_X7_writeCloth_121 F C k153 n z144 (x2 + 1))))
set_option maxRecDepth 100000 in
set_option maxHeartbeats 4000000 in
theorem i_X7_writeCloth_121 {p : Program} {l : Launch} {e : Env} {s : State} {m : MethodId} {args : Array Value} {below : List Frame} {meth : Method} {c : Code} {D : va_G} {ct : im_ct} {A : Nat → Prop} (X : im_X p (im_rm 6) s m args meth c D ct A RX7 cX7_writeCloth 3 none) (F : Nat) (aS aC : Nat → Nat) (C : Mem) (k153 : Mem → Option (Mem)) (hk153 : ∀ (S : Mem), Im p l e (im_rm 6) s m args below meth c D A 3 (QV D A (fun z : Mem => (cat [w_Scribe ct aS z, w_Cloth ct aC C]))) 153 [] [] (cat [w_Scribe ct aS S, w_Cloth ct aC C]) (k153 S)) : ∀ (n : Nat) (S : Mem) (x2 : Int32), Im p l e (im_rm 6) s m args below meth c D A 3 (QV D A (fun z : Mem => (cat [w_Scribe ct aS z, w_Cloth ct aC C]))) 121 [(0, .ref (aS 0)), (1, .ref (aC 0)), (2, .int x2)] [] (cat [w_Scribe ct aS S, w_Cloth ct aC C]) (f_X7_writeCloth_121 F C k153 n S x2) := by
  intro n
  induction n with
  | zero => intros; exact im_none
  | succ n ih =>
    intro S x2
    unfold f_X7_writeCloth_121
    refine im_iload_n X 2 dX7_writeCloth_121 rfl rfl ?_
    refine im_aload_n X 1 dX7_writeCloth_122 rfl rfl ?_
    refine im_cget X 1 0 (v := .int (C 0 9)) fl_X7_64 rfl rfl rfl dX7_writeCloth_123 ?_
    refine im_icmp_ge (tgt := 153) X dX7_writeCloth_126 rfl ?_ ?_
    · refine im_lv [] [] rfl ?_
      exact hk153 S
    · refine im_aload_n X 0 dX7_writeCloth_129 rfl rfl ?_
      refine im_ldcS X "ExchequerCloth$Scribe" "seen" 7 rfl (by decide) dX7_writeCloth_130 ?_
      refine im_ccvV X [.ref (ct (10 + 7))] [] [w_Scribe ct aS S, w_Cloth ct aC C] [w_Scribe ct aS S] [0] (fun z132 => [w_Scribe ct aS z132]) 0 0 7 rfl rfl rfl cl_X7_29 (c_X7_addWord l D ct F aS S 7) rfl (by decide) (fun _ => lc fa_Scribe (rfl)) rfl ⟨by decide, by decide⟩ (Nat.le_of_ble_eq_true rfl) rfl dX7_writeCloth_132 (fun z132 => ?_)
      refine im_ws (cat [w_Scribe ct aS z132, w_Cloth ct aC C]) rfl ?_
      refine im_aload_n X 0 dX7_writeCloth_135 rfl rfl ?_
      refine im_aload_n X 1 dX7_writeCloth_136 rfl rfl ?_
      refine im_cget X 1 0 (v := .ref (aC 6)) fl_X7_69 rfl rfl rfl dX7_writeCloth_137 ?_
      refine im_iload_n X 2 dX7_writeCloth_140 rfl rfl ?_
      refine im_iconst X 4 dX7_writeCloth_141 (by decide) ?_
      refine im_imul X dX7_writeCloth_142 ?_
      refine im_iconst X 4 dX7_writeCloth_143 (by decide) ?_
      refine im_callvV X [.ref (aC 6), .int (x2 * 4), .int 4] [] [0, 1, 8] 0 7 rfl rfl cl_X7_53 (c_X7_addNumbers l D ct F 48 aS (fun _ => aC 6) z132 (fun _ => (C 6)) (x2 * 4) 4) rfl (by decide) (fun _ => rfl) rfl ⟨by decide, by decide⟩ (Nat.le_of_ble_eq_true rfl) rfl dX7_writeCloth_144 (fun z144 => ?_)
      refine im_ws (cat [w_Scribe ct aS z144, w_Cloth ct aC C]) rfl ?_
      refine im_iinc X 2 1 [1, 2, 0] [(0, .ref (aS 0)), (1, .ref (aC 0)), (2, .int (x2 + 1))] dX7_writeCloth_147 (by decide) rfl (by decide) rfl ?_
      refine im_goto (tgt := 121) X dX7_writeCloth_150 rfl ?_
      exact ih z144 (x2 + 1)
noncomputable def f_X7_writeCloth (F : Nat) (S : Mem) (C : Mem) : Option (Mem) :=
  (if (S 0 2) = (-1) then (some S) else f_X7_writeCloth_21 F C (fun S_57 => f_X7_writeCloth_59 F C (fun S_95 => f_X7_writeCloth_97 F C (fun S_119 => f_X7_writeCloth_121 F C (fun S_153 => (some S_153)) F S_119 0) F S_95 0) F S_57 0) F (mr S 0 (fu (fu (S 0) 2 (-1)) 1 0)) 0)
set_option maxRecDepth 100000 in
set_option maxHeartbeats 4000000 in
theorem i_X7_writeCloth {p : Program} {l : Launch} {e : Env} {s : State} {m : MethodId} {args : Array Value} {below : List Frame} {meth : Method} {c : Code} {D : va_G} {ct : im_ct} {A : Nat → Prop} (X : im_X p (im_rm 6) s m args meth c D ct A RX7 cX7_writeCloth 3 none) (F : Nat) (aS aC : Nat → Nat) (S : Mem) (C : Mem) : Im p l e (im_rm 6) s m args below meth c D A 3 (QV D A (fun z : Mem => (cat [w_Scribe ct aS z, w_Cloth ct aC C]))) 0 [(0, .ref (aS 0)), (1, .ref (aC 0))] [] (cat [w_Scribe ct aS S, w_Cloth ct aC C]) (f_X7_writeCloth F S C) := by
  unfold f_X7_writeCloth
  refine im_aload_n X 0 dX7_writeCloth_0 rfl rfl ?_
  refine im_cget X 0 0 (v := .int (S 0 2)) fl_X7_15 rfl rfl rfl dX7_writeCloth_1 ?_
  refine im_iconst X (-1) dX7_writeCloth_4 (by decide) ?_
  refine im_icmp_ne (tgt := 9) X dX7_writeCloth_5 rfl ?_ ?_
  · refine im_aload_n X 0 dX7_writeCloth_9 rfl rfl ?_
    refine im_iconst X (-1) dX7_writeCloth_10 (by decide) ?_
    refine im_cput X 0 0 (wx_Scribe ct aS (S 0 1) (-1) (S 1)) [wx_Scribe ct aS (S 0 1) (-1) (S 1), w_Cloth ct aC C] fl_X7_15 rfl rfl rfl rfl (Nat.le_of_ble_eq_true rfl) rfl rfl dX7_writeCloth_11 ?_
    refine im_aload_n X 0 dX7_writeCloth_14 rfl rfl ?_
    refine im_iconst X 0 dX7_writeCloth_15 (by decide) ?_
    refine im_cput X 0 0 (wx_Scribe ct aS 0 (-1) (S 1)) [wx_Scribe ct aS 0 (-1) (S 1), w_Cloth ct aC C] fl_X7_19 rfl rfl rfl rfl (Nat.le_of_ble_eq_true rfl) rfl rfl dX7_writeCloth_16 ?_
    refine im_iconst X 0 dX7_writeCloth_19 (by decide) ?_
    refine im_istore_n X [1, 2, 0] [(0, .ref (aS 0)), (1, .ref (aC 0)), (2, .int 0)] dX7_writeCloth_20 rfl (by decide) rfl ?_
    refine i_X7_writeCloth_21 X F aS aC C  _ (fun S_57 => ?_) F (mr S 0 (fu (fu (S 0) 2 (-1)) 1 0)) 0
    refine im_iconst X 0 dX7_writeCloth_57 (by decide) ?_
    refine im_istore_n X [1, 2, 0] [(0, .ref (aS 0)), (1, .ref (aC 0)), (2, .int 0)] dX7_writeCloth_58 rfl (by decide) rfl ?_
    refine i_X7_writeCloth_59 X F aS aC C  _ (fun S_95 => ?_) F S_57 0
    refine im_iconst X 0 dX7_writeCloth_95 (by decide) ?_
    refine im_istore_n X [1, 2, 0] [(0, .ref (aS 0)), (1, .ref (aC 0)), (2, .int 0)] dX7_writeCloth_96 rfl (by decide) rfl ?_
    refine i_X7_writeCloth_97 X F aS aC C  _ (fun S_119 => ?_) F S_95 0
    refine im_iconst X 0 dX7_writeCloth_119 (by decide) ?_
    refine im_istore_n X [1, 2, 0] [(0, .ref (aS 0)), (1, .ref (aC 0)), (2, .int 0)] dX7_writeCloth_120 rfl (by decide) rfl ?_
    refine i_X7_writeCloth_121 X F aS aC C  _ (fun S_153 => ?_) F S_119 0
    exact im_return X S_153 rfl dX7_writeCloth_153
  · exact im_return X S rfl dX7_writeCloth_8
theorem c_X7_writeCloth (l : Launch) (D : va_G) (ct : im_ct) (F : Nat) (aS aC : Nat → Nat) (S : Mem) (C : Mem) : CMv l D ct yX7_writeCloth cX7_writeCloth 3 none 6 [.ref (aS 0), .ref (aC 0)] (cat [w_Scribe ct aS S, w_Cloth ct aC C]) (f_X7_writeCloth F S C) (fun z : Mem => (cat [w_Scribe ct aS z, w_Cloth ct aC C])) :=
  im_met (Qb := fun A => QV D A (fun z : Mem => (cat [w_Scribe ct aS z, w_Cloth ct aC C]))) (by decide +kernel) (Nat.le_of_ble_eq_true rfl) (fun p e s m args below meth c A X => i_X7_writeCloth X F aS aC S C)

noncomputable def f_X7_tell (F : Nat) (S : Mem) (x1 : Int32) : Option (Int32) :=
  (if 0 ≤ x1 then (if (S 0 1) ≤ x1 then (some (-2)) else ck x1 700 ((some ((S 1) x1.toNatClampNeg)))) else (some (S 0 1)))
set_option maxRecDepth 100000 in
set_option maxHeartbeats 4000000 in
theorem i_X7_tell {p : Program} {l : Launch} {e : Env} {s : State} {m : MethodId} {args : Array Value} {below : List Frame} {meth : Method} {c : Code} {D : va_G} {ct : im_ct} {A : Nat → Prop} (X : im_X p (im_rm 0) s m args meth c D ct A RX7 cX7_tell 2 (some .int)) (F : Nat) (aS : Nat → Nat) (S : Mem) (x1 : Int32) : Im p l e (im_rm 0) s m args below meth c D A 2 (QI D A (fun z : Int32 => z) (fun z : Int32 => (cat [w_Scribe ct aS S]))) 0 [(0, .ref (aS 0)), (1, .int x1)] [] (cat [w_Scribe ct aS S]) (f_X7_tell F S x1) := by
  unfold f_X7_tell
  refine im_iload_n X 1 dX7_tell_0 rfl rfl ?_
  refine im_if_ge (tgt := 9) X dX7_tell_1 rfl ?_ ?_
  · refine im_iload_n X 1 dX7_tell_9 rfl rfl ?_
    refine im_aload_n X 0 dX7_tell_10 rfl rfl ?_
    refine im_cget X 0 0 (v := .int (S 0 1)) fl_X7_19 rfl rfl rfl dX7_tell_11 ?_
    refine im_icmp_ge (tgt := 26) X dX7_tell_14 rfl ?_ ?_
    · refine im_bipush X (-2) dX7_tell_26 (by decide) ?_
      exact im_ireturn X (-2) rfl rfl dX7_tell_28
    · refine im_aload_n X 0 dX7_tell_17 rfl rfl ?_
      refine im_cget X 0 0 (v := .ref (aS 1)) fl_X7_11 rfl rfl rfl dX7_tell_18 ?_
      refine im_iload_n X 1 dX7_tell_21 rfl rfl ?_
      refine im_cbald X 0 1 2 (f := (S 1)) rfl rfl rfl dX7_tell_22 ?_
      refine im_goto (tgt := 28) X dX7_tell_23 rfl ?_
      exact im_ireturn X ((S 1) x1.toNatClampNeg) rfl rfl dX7_tell_28
  · refine im_aload_n X 0 dX7_tell_4 rfl rfl ?_
    refine im_cget X 0 0 (v := .int (S 0 1)) fl_X7_19 rfl rfl rfl dX7_tell_5 ?_
    exact im_ireturn X (S 0 1) rfl rfl dX7_tell_8
theorem c_X7_tell (l : Launch) (D : va_G) (ct : im_ct) (F : Nat) (aS : Nat → Nat) (S : Mem) (x1 : Int32) : CMi l D ct yX7_tell cX7_tell 2 (some .int) 0 [.ref (aS 0), .int x1] (cat [w_Scribe ct aS S]) (f_X7_tell F S x1) (fun z : Int32 => z) (fun z : Int32 => (cat [w_Scribe ct aS S])) :=
  im_met (Qb := fun A => QI D A (fun z : Int32 => z) (fun z : Int32 => (cat [w_Scribe ct aS S]))) (by decide +kernel) (Nat.le_of_ble_eq_true rfl) (fun p e s m args below meth c A X => i_X7_tell X F aS S x1)

noncomputable def f_X7_writeRow_26 (F : Nat) (C : Mem) (x2 : Int32) (k88 : Mem → Option (Mem)) : Nat → Mem → Int32 → Option (Mem)
  | 0, _, _ => none
  | n + 1, S, x3 =>
  (if x3 < 0 then k88 S else ck ((x2 * 6) + x3) 24 ((if ((C 3) (((x2 * 6) + x3)).toNatClampNeg) ≤ 0 then f_X7_writeRow_26 F C x2 k88 n S (x3 + (-1)) else (f_X7_addNumber F S ((C 3) (((x2 * 6) + x3)).toNatClampNeg)).bind (fun z51 => (f_X7_addByte F z51 32).bind (fun z57 => (f_X7_addWord F z57 8).bind (fun z63 => ck x3 6 ((f_X7_addNumber F z63 ((C 2) x3.toNatClampNeg)).bind (fun z73 => (f_X7_addByte F z73 59).bind (fun z79 => f_X7_writeRow_26 F C x2 k88 n z79 (x3 + (-1)))))))))))
set_option maxRecDepth 100000 in
set_option maxHeartbeats 4000000 in
theorem i_X7_writeRow_26 {p : Program} {l : Launch} {e : Env} {s : State} {m : MethodId} {args : Array Value} {below : List Frame} {meth : Method} {c : Code} {D : va_G} {ct : im_ct} {A : Nat → Prop} (X : im_X p (im_rm 5) s m args meth c D ct A RX7 cX7_writeRow 5 none) (F : Nat) (aS aC : Nat → Nat) (C : Mem) (x2 : Int32) (k88 : Mem → Option (Mem)) (hk88 : ∀ (S : Mem), Im p l e (im_rm 5) s m args below meth c D A 5 (QV D A (fun z : Mem => (cat [w_Scribe ct aS z, w_Cloth ct aC C]))) 88 [(0, .ref (aS 0)), (1, .ref (aC 0)), (2, .int x2)] [] (cat [w_Scribe ct aS S, w_Cloth ct aC C]) (k88 S)) : ∀ (n : Nat) (S : Mem) (x3 : Int32), Im p l e (im_rm 5) s m args below meth c D A 5 (QV D A (fun z : Mem => (cat [w_Scribe ct aS z, w_Cloth ct aC C]))) 26 [(0, .ref (aS 0)), (1, .ref (aC 0)), (2, .int x2), (3, .int x3)] [] (cat [w_Scribe ct aS S, w_Cloth ct aC C]) (f_X7_writeRow_26 F C x2 k88 n S x3) := by
  intro n
  induction n with
  | zero => intros; exact im_none
  | succ n ih =>
    intro S x3
    unfold f_X7_writeRow_26
    refine im_iload_n X 3 dX7_writeRow_26 rfl rfl ?_
    refine im_if_lt (tgt := 88) X dX7_writeRow_27 rfl ?_ ?_
    · refine im_lv [0, 1, 2] [(0, .ref (aS 0)), (1, .ref (aC 0)), (2, .int x2)] rfl ?_
      exact hk88 S
    · refine im_aload_n X 1 dX7_writeRow_30 rfl rfl ?_
      refine im_cget X 1 0 (v := .ref (aC 3)) fl_X7_80 rfl rfl rfl dX7_writeRow_31 ?_
      refine im_iload_n X 2 dX7_writeRow_34 rfl rfl ?_
      refine im_bipush X 6 dX7_writeRow_35 (by decide) ?_
      refine im_imul X dX7_writeRow_37 ?_
      refine im_iload_n X 3 dX7_writeRow_38 rfl rfl ?_
      refine im_iadd X dX7_writeRow_39 ?_
      refine im_ciald X 1 3 0 (f := (C 3)) rfl rfl rfl dX7_writeRow_40 ?_
      refine im_istore X [1, 2, 3, 4, 0] [(0, .ref (aS 0)), (1, .ref (aC 0)), (2, .int x2), (3, .int x3), (4, .int ((C 3) (((x2 * 6) + x3)).toNatClampNeg))] dX7_writeRow_41 (by decide) rfl ?_
      refine im_iload X 4 dX7_writeRow_43 rfl ?_
      refine im_if_le (tgt := 82) X dX7_writeRow_45 rfl ?_ ?_
      · refine im_iinc X 3 (-1) [1, 2, 3, 0, 4] [(0, .ref (aS 0)), (1, .ref (aC 0)), (2, .int x2), (3, .int (x3 + (-1))), (4, .int ((C 3) (((x2 * 6) + x3)).toNatClampNeg))] dX7_writeRow_82 (by decide) rfl (by decide) rfl ?_
        refine im_goto (tgt := 26) X dX7_writeRow_85 rfl ?_
        refine im_lv [0, 1, 2, 3] [(0, .ref (aS 0)), (1, .ref (aC 0)), (2, .int x2), (3, .int (x3 + (-1)))] rfl ?_
        exact ih S (x3 + (-1))
      · refine im_aload_n X 0 dX7_writeRow_48 rfl rfl ?_
        refine im_iload X 4 dX7_writeRow_49 rfl ?_
        refine im_ccvV X [.int ((C 3) (((x2 * 6) + x3)).toNatClampNeg)] [] [w_Scribe ct aS S, w_Cloth ct aC C] [w_Scribe ct aS S] [0] (fun z51 => [w_Scribe ct aS z51]) 0 0 7 rfl rfl rfl cl_X7_37 (c_X7_addNumber l D ct F aS S ((C 3) (((x2 * 6) + x3)).toNatClampNeg)) rfl (by decide) (fun _ => lc fa_Scribe (rfl)) rfl ⟨by decide, by decide⟩ (Nat.le_of_ble_eq_true rfl) rfl dX7_writeRow_51 (fun z51 => ?_)
        refine im_ws (cat [w_Scribe ct aS z51, w_Cloth ct aC C]) rfl ?_
        refine im_aload_n X 0 dX7_writeRow_54 rfl rfl ?_
        refine im_bipush X 32 dX7_writeRow_55 (by decide) ?_
        refine im_ccvV X [.int 32] [] [w_Scribe ct aS z51, w_Cloth ct aC C] [w_Scribe ct aS z51] [0] (fun z57 => [w_Scribe ct aS z57]) 0 0 7 rfl rfl rfl cl_X7_41 (c_X7_addByte l D ct F aS z51 32) rfl (by decide) (fun _ => lc fa_Scribe (rfl)) rfl ⟨by decide, by decide⟩ (Nat.le_of_ble_eq_true rfl) rfl dX7_writeRow_57 (fun z57 => ?_)
        refine im_ws (cat [w_Scribe ct aS z57, w_Cloth ct aC C]) rfl ?_
        refine im_aload_n X 0 dX7_writeRow_60 rfl rfl ?_
        refine im_ldcS X "ExchequerCloth$Scribe" "of" 8 rfl (by decide) dX7_writeRow_61 ?_
        refine im_ccvV X [.ref (ct (10 + 8))] [] [w_Scribe ct aS z57, w_Cloth ct aC C] [w_Scribe ct aS z57] [0] (fun z63 => [w_Scribe ct aS z63]) 0 0 7 rfl rfl rfl cl_X7_29 (c_X7_addWord l D ct F aS z57 8) rfl (by decide) (fun _ => lc fa_Scribe (rfl)) rfl ⟨by decide, by decide⟩ (Nat.le_of_ble_eq_true rfl) rfl dX7_writeRow_63 (fun z63 => ?_)
        refine im_ws (cat [w_Scribe ct aS z63, w_Cloth ct aC C]) rfl ?_
        refine im_aload_n X 0 dX7_writeRow_66 rfl rfl ?_
        refine im_aload_n X 1 dX7_writeRow_67 rfl rfl ?_
        refine im_cget X 1 0 (v := .ref (aC 2)) fl_X7_85 rfl rfl rfl dX7_writeRow_68 ?_
        refine im_iload_n X 3 dX7_writeRow_71 rfl rfl ?_
        refine im_ciald X 1 2 0 (f := (C 2)) rfl rfl rfl dX7_writeRow_72 ?_
        refine im_ccvV X [.int ((C 2) x3.toNatClampNeg)] [] [w_Scribe ct aS z63, w_Cloth ct aC C] [w_Scribe ct aS z63] [0] (fun z73 => [w_Scribe ct aS z73]) 0 0 7 rfl rfl rfl cl_X7_37 (c_X7_addNumber l D ct F aS z63 ((C 2) x3.toNatClampNeg)) rfl (by decide) (fun _ => lc fa_Scribe (rfl)) rfl ⟨by decide, by decide⟩ (Nat.le_of_ble_eq_true rfl) rfl dX7_writeRow_73 (fun z73 => ?_)
        refine im_ws (cat [w_Scribe ct aS z73, w_Cloth ct aC C]) rfl ?_
        refine im_aload_n X 0 dX7_writeRow_76 rfl rfl ?_
        refine im_bipush X 59 dX7_writeRow_77 (by decide) ?_
        refine im_ccvV X [.int 59] [] [w_Scribe ct aS z73, w_Cloth ct aC C] [w_Scribe ct aS z73] [0] (fun z79 => [w_Scribe ct aS z79]) 0 0 7 rfl rfl rfl cl_X7_41 (c_X7_addByte l D ct F aS z73 59) rfl (by decide) (fun _ => lc fa_Scribe (rfl)) rfl ⟨by decide, by decide⟩ (Nat.le_of_ble_eq_true rfl) rfl dX7_writeRow_79 (fun z79 => ?_)
        refine im_ws (cat [w_Scribe ct aS z79, w_Cloth ct aC C]) rfl ?_
        refine im_iinc X 3 (-1) [1, 2, 3, 0, 4] [(0, .ref (aS 0)), (1, .ref (aC 0)), (2, .int x2), (3, .int (x3 + (-1))), (4, .int ((C 3) (((x2 * 6) + x3)).toNatClampNeg))] dX7_writeRow_82 (by decide) rfl (by decide) rfl ?_
        refine im_goto (tgt := 26) X dX7_writeRow_85 rfl ?_
        refine im_lv [0, 1, 2, 3] [(0, .ref (aS 0)), (1, .ref (aC 0)), (2, .int x2), (3, .int (x3 + (-1)))] rfl ?_
        exact ih z79 (x3 + (-1))
noncomputable def f_X7_writeRow (F : Nat) (S : Mem) (C : Mem) (x2 : Int32) : Option (Mem) :=
  (if (S 0 2) = x2 then (some S) else f_X7_writeRow_26 F C x2 (fun S_88 => (f_X7_addWord F S_88 9).bind (fun z91 => (f_X0_sumOf F C x2).bind (fun z97 => (f_X7_addNumber F z91 z97).bind (fun z100 => (f_X7_addByte F z100 59).bind (fun z106 => (some z106)))))) F (mr S 0 (fu (fu (S 0) 2 x2) 1 0)) ((C 0 6) - 1))
set_option maxRecDepth 100000 in
set_option maxHeartbeats 4000000 in
theorem i_X7_writeRow {p : Program} {l : Launch} {e : Env} {s : State} {m : MethodId} {args : Array Value} {below : List Frame} {meth : Method} {c : Code} {D : va_G} {ct : im_ct} {A : Nat → Prop} (X : im_X p (im_rm 5) s m args meth c D ct A RX7 cX7_writeRow 5 none) (F : Nat) (aS aC : Nat → Nat) (S : Mem) (C : Mem) (x2 : Int32) : Im p l e (im_rm 5) s m args below meth c D A 5 (QV D A (fun z : Mem => (cat [w_Scribe ct aS z, w_Cloth ct aC C]))) 0 [(0, .ref (aS 0)), (1, .ref (aC 0)), (2, .int x2)] [] (cat [w_Scribe ct aS S, w_Cloth ct aC C]) (f_X7_writeRow F S C x2) := by
  unfold f_X7_writeRow
  refine im_aload_n X 0 dX7_writeRow_0 rfl rfl ?_
  refine im_cget X 0 0 (v := .int (S 0 2)) fl_X7_15 rfl rfl rfl dX7_writeRow_1 ?_
  refine im_iload_n X 2 dX7_writeRow_4 rfl rfl ?_
  refine im_icmp_ne (tgt := 9) X dX7_writeRow_5 rfl ?_ ?_
  · refine im_aload_n X 0 dX7_writeRow_9 rfl rfl ?_
    refine im_iload_n X 2 dX7_writeRow_10 rfl rfl ?_
    refine im_cput X 0 0 (wx_Scribe ct aS (S 0 1) x2 (S 1)) [wx_Scribe ct aS (S 0 1) x2 (S 1), w_Cloth ct aC C] fl_X7_15 rfl rfl rfl rfl (Nat.le_of_ble_eq_true rfl) rfl rfl dX7_writeRow_11 ?_
    refine im_aload_n X 0 dX7_writeRow_14 rfl rfl ?_
    refine im_iconst X 0 dX7_writeRow_15 (by decide) ?_
    refine im_cput X 0 0 (wx_Scribe ct aS 0 x2 (S 1)) [wx_Scribe ct aS 0 x2 (S 1), w_Cloth ct aC C] fl_X7_19 rfl rfl rfl rfl (Nat.le_of_ble_eq_true rfl) rfl rfl dX7_writeRow_16 ?_
    refine im_aload_n X 1 dX7_writeRow_19 rfl rfl ?_
    refine im_cget X 1 0 (v := .int (C 0 6)) fl_X7_22 rfl rfl rfl dX7_writeRow_20 ?_
    refine im_iconst X 1 dX7_writeRow_23 (by decide) ?_
    refine im_isub X dX7_writeRow_24 ?_
    refine im_istore_n X [1, 2, 3, 0] [(0, .ref (aS 0)), (1, .ref (aC 0)), (2, .int x2), (3, .int ((C 0 6) - 1))] dX7_writeRow_25 rfl (by decide) rfl ?_
    refine i_X7_writeRow_26 X F aS aC C x2 _ (fun S_88 => ?_) F (mr S 0 (fu (fu (S 0) 2 x2) 1 0)) ((C 0 6) - 1)
    refine im_aload_n X 0 dX7_writeRow_88 rfl rfl ?_
    refine im_ldcS X "ExchequerCloth$Scribe" "sum" 9 rfl (by decide) dX7_writeRow_89 ?_
    refine im_ccvV X [.ref (ct (10 + 9))] [] [w_Scribe ct aS S_88, w_Cloth ct aC C] [w_Scribe ct aS S_88] [0] (fun z91 => [w_Scribe ct aS z91]) 0 0 7 rfl rfl rfl cl_X7_29 (c_X7_addWord l D ct F aS S_88 9) rfl (by decide) (fun _ => lc fa_Scribe (rfl)) rfl ⟨by decide, by decide⟩ (Nat.le_of_ble_eq_true rfl) rfl dX7_writeRow_91 (fun z91 => ?_)
    refine im_ws (cat [w_Scribe ct aS z91, w_Cloth ct aC C]) rfl ?_
    refine im_aload_n X 0 dX7_writeRow_94 rfl rfl ?_
    refine im_aload_n X 1 dX7_writeRow_95 rfl rfl ?_
    refine im_iload_n X 2 dX7_writeRow_96 rfl rfl ?_
    refine im_cciV X [.int x2] [.ref (aS 0)] [w_Scribe ct aS z91, w_Cloth ct aC C] [w_Cloth ct aC C] [1] (fun z97 => [w_Cloth ct aC C]) 1 0 0 rfl rfl rfl cl_X7_90 (c_X0_sumOf l D ct F aC C x2) rfl (by decide) (fun _ => lc rfl (rfl)) rfl ⟨by decide, by decide⟩ (Nat.le_of_ble_eq_true rfl) rfl dX7_writeRow_97 (fun z97 => ?_)
    refine im_ws (cat [w_Scribe ct aS z91, w_Cloth ct aC C]) rfl ?_
    refine im_ccvV X [.int z97] [] [w_Scribe ct aS z91, w_Cloth ct aC C] [w_Scribe ct aS z91] [0] (fun z100 => [w_Scribe ct aS z100]) 0 0 7 rfl rfl rfl cl_X7_37 (c_X7_addNumber l D ct F aS z91 z97) rfl (by decide) (fun _ => lc fa_Scribe (rfl)) rfl ⟨by decide, by decide⟩ (Nat.le_of_ble_eq_true rfl) rfl dX7_writeRow_100 (fun z100 => ?_)
    refine im_ws (cat [w_Scribe ct aS z100, w_Cloth ct aC C]) rfl ?_
    refine im_aload_n X 0 dX7_writeRow_103 rfl rfl ?_
    refine im_bipush X 59 dX7_writeRow_104 (by decide) ?_
    refine im_ccvV X [.int 59] [] [w_Scribe ct aS z100, w_Cloth ct aC C] [w_Scribe ct aS z100] [0] (fun z106 => [w_Scribe ct aS z106]) 0 0 7 rfl rfl rfl cl_X7_41 (c_X7_addByte l D ct F aS z100 59) rfl (by decide) (fun _ => lc fa_Scribe (rfl)) rfl ⟨by decide, by decide⟩ (Nat.le_of_ble_eq_true rfl) rfl dX7_writeRow_106 (fun z106 => ?_)
    refine im_ws (cat [w_Scribe ct aS z106, w_Cloth ct aC C]) rfl ?_
    exact im_return X z106 rfl dX7_writeRow_109
  · exact im_return X S rfl dX7_writeRow_8
theorem c_X7_writeRow (l : Launch) (D : va_G) (ct : im_ct) (F : Nat) (aS aC : Nat → Nat) (S : Mem) (C : Mem) (x2 : Int32) : CMv l D ct yX7_writeRow cX7_writeRow 5 none 5 [.ref (aS 0), .ref (aC 0), .int x2] (cat [w_Scribe ct aS S, w_Cloth ct aC C]) (f_X7_writeRow F S C x2) (fun z : Mem => (cat [w_Scribe ct aS z, w_Cloth ct aC C])) :=
  im_met (Qb := fun A => QV D A (fun z : Mem => (cat [w_Scribe ct aS z, w_Cloth ct aC C]))) (by decide +kernel) (Nat.le_of_ble_eq_true rfl) (fun p e s m args below meth c A X => i_X7_writeRow X F aS aC S C x2)
