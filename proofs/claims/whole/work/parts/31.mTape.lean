noncomputable def f_X8_addWord_3 (F : Nat) (x1 : Int32) (k49 : Mem → Option (Mem)) : Nat → Mem → Int32 → Option (Mem)
  | 0, _, _ => none
  | n + 1, T, x2 =>
  (if x2 < 0 then k49 T else (if 400 ≤ (T 0 1) then k49 T else ck (T 0 1) 400 (f_X8_addWord_3 F x1 k49 n (mr (mr T 1 (upd (T 1) ((T 0 1)).toNatClampNeg (((x1 : Int32).toUInt32 >>> ((x2 : Int32).toUInt32 &&& Int32.toUInt32 31)).toInt32 &&& 255))) 0 (fu (T 0) 1 ((T 0 1) + 1))) (x2 + (-8)))))
set_option maxRecDepth 100000 in
set_option maxHeartbeats 4000000 in
theorem i_X8_addWord_3 {p : Program} {l : Launch} {e : Env} {s : State} {m : MethodId} {args : Array Value} {below : List Frame} {meth : Method} {c : Code} {D : va_G} {ct : im_ct} {A : Nat → Prop} (X : im_X p (im_rm 0) s m args meth c D ct A RX8 cX8_addWord 3 none) (F : Nat) (aT : Nat → Nat) (x1 : Int32) (k49 : Mem → Option (Mem)) (hk49 : ∀ (T : Mem), Im p l e (im_rm 0) s m args below meth c D A 3 (QV D A (fun z : Mem => (cat [w_Tape ct aT z]))) 49 [] [] (cat [w_Tape ct aT T]) (k49 T)) : ∀ (n : Nat) (T : Mem) (x2 : Int32), Im p l e (im_rm 0) s m args below meth c D A 3 (QV D A (fun z : Mem => (cat [w_Tape ct aT z]))) 3 [(0, .ref (aT 0)), (1, .int x1), (2, .int x2)] [] (cat [w_Tape ct aT T]) (f_X8_addWord_3 F x1 k49 n T x2) := by
  intro n
  induction n with
  | zero => intros; exact im_none
  | succ n ih =>
    intro T x2
    unfold f_X8_addWord_3
    refine im_iload_n X 2 dX8_addWord_3 rfl rfl ?_
    refine im_if_lt (tgt := 49) X dX8_addWord_4 rfl ?_ ?_
    · refine im_lv [] [] rfl ?_
      exact hk49 T
    · refine im_aload_n X 0 dX8_addWord_7 rfl rfl ?_
      refine im_cget X 0 0 (v := .int (T 0 1)) fl_X8_15 rfl rfl rfl dX8_addWord_8 ?_
      refine im_sipush X 400 dX8_addWord_11 (by decide) ?_
      refine im_icmp_ge (tgt := 49) X dX8_addWord_14 rfl ?_ ?_
      · refine im_lv [] [] rfl ?_
        exact hk49 T
      · refine im_aload_n X 0 dX8_addWord_17 rfl rfl ?_
        refine im_cget X 0 0 (v := .ref (aT 1)) fl_X8_9 rfl rfl rfl dX8_addWord_18 ?_
        refine im_aload_n X 0 dX8_addWord_21 rfl rfl ?_
        refine im_cget X 0 0 (v := .int (T 0 1)) fl_X8_15 rfl rfl rfl dX8_addWord_22 ?_
        refine im_iload_n X 1 dX8_addWord_25 rfl rfl ?_
        refine im_iload_n X 2 dX8_addWord_26 rfl rfl ?_
        refine im_iushr X dX8_addWord_27 ?_
        refine im_sipush X 255 dX8_addWord_28 (by decide) ?_
        refine im_iand X dX8_addWord_31 ?_
        refine im_ciast X 0 1 0 (wx_Tape ct aT (T 0 1) (upd (T 1) ((T 0 1)).toNatClampNeg (((x1 : Int32).toUInt32 >>> ((x2 : Int32).toUInt32 &&& Int32.toUInt32 31)).toInt32 &&& 255))) [wx_Tape ct aT (T 0 1) (upd (T 1) ((T 0 1)).toNatClampNeg (((x1 : Int32).toUInt32 >>> ((x2 : Int32).toUInt32 &&& Int32.toUInt32 31)).toInt32 &&& 255))] (f := (T 1)) rfl rfl rfl rfl rfl dX8_addWord_32 ?_
        refine im_aload_n X 0 dX8_addWord_33 rfl rfl ?_
        refine im_dup X rfl dX8_addWord_34 ?_
        refine im_cget X 0 0 (v := .int (T 0 1)) fl_X8_15 rfl rfl rfl dX8_addWord_35 ?_
        refine im_iconst X 1 dX8_addWord_38 (by decide) ?_
        refine im_iadd X dX8_addWord_39 ?_
        refine im_cput X 0 0 (wx_Tape ct aT ((T 0 1) + 1) (upd (T 1) ((T 0 1)).toNatClampNeg (((x1 : Int32).toUInt32 >>> ((x2 : Int32).toUInt32 &&& Int32.toUInt32 31)).toInt32 &&& 255))) [wx_Tape ct aT ((T 0 1) + 1) (upd (T 1) ((T 0 1)).toNatClampNeg (((x1 : Int32).toUInt32 >>> ((x2 : Int32).toUInt32 &&& Int32.toUInt32 31)).toInt32 &&& 255))] fl_X8_15 rfl rfl rfl rfl (Nat.le_of_ble_eq_true rfl) rfl rfl dX8_addWord_40 ?_
        refine im_iinc X 2 (-8) [1, 2, 0] [(0, .ref (aT 0)), (1, .int x1), (2, .int (x2 + (-8)))] dX8_addWord_43 (by decide) rfl (by decide) rfl ?_
        refine im_goto (tgt := 3) X dX8_addWord_46 rfl ?_
        exact ih (mr (mr T 1 (upd (T 1) ((T 0 1)).toNatClampNeg (((x1 : Int32).toUInt32 >>> ((x2 : Int32).toUInt32 &&& Int32.toUInt32 31)).toInt32 &&& 255))) 0 (fu (T 0) 1 ((T 0 1) + 1))) (x2 + (-8))
noncomputable def f_X8_addWord (F : Nat) (T : Mem) (x1 : Int32) : Option (Mem) :=
  f_X8_addWord_3 F x1 (fun T_49 => (some T_49)) F T 24
set_option maxRecDepth 100000 in
set_option maxHeartbeats 4000000 in
theorem i_X8_addWord {p : Program} {l : Launch} {e : Env} {s : State} {m : MethodId} {args : Array Value} {below : List Frame} {meth : Method} {c : Code} {D : va_G} {ct : im_ct} {A : Nat → Prop} (X : im_X p (im_rm 0) s m args meth c D ct A RX8 cX8_addWord 3 none) (F : Nat) (aT : Nat → Nat) (T : Mem) (x1 : Int32) : Im p l e (im_rm 0) s m args below meth c D A 3 (QV D A (fun z : Mem => (cat [w_Tape ct aT z]))) 0 [(0, .ref (aT 0)), (1, .int x1)] [] (cat [w_Tape ct aT T]) (f_X8_addWord F T x1) := by
  unfold f_X8_addWord
  refine im_bipush X 24 dX8_addWord_0 (by decide) ?_
  refine im_istore_n X [1, 2, 0] [(0, .ref (aT 0)), (1, .int x1), (2, .int 24)] dX8_addWord_2 rfl (by decide) rfl ?_
  refine i_X8_addWord_3 X F aT  x1 _ (fun T_49 => ?_) F T 24
  exact im_return X T_49 rfl dX8_addWord_49
theorem c_X8_addWord (l : Launch) (D : va_G) (ct : im_ct) (F : Nat) (aT : Nat → Nat) (T : Mem) (x1 : Int32) : CMv l D ct yX8_addWord cX8_addWord 3 none 0 [.ref (aT 0), .int x1] (cat [w_Tape ct aT T]) (f_X8_addWord F T x1) (fun z : Mem => (cat [w_Tape ct aT z])) :=
  im_met (Qb := fun A => QV D A (fun z : Mem => (cat [w_Tape ct aT z]))) (by decide +kernel) (Nat.le_of_ble_eq_true rfl) (fun p e s m args below meth c A X => i_X8_addWord X F aT T x1)
