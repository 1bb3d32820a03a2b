noncomputable def f_X10_in (F : Nat) (x0 : Int64) (x2 : Int64) (x4 : Int64) : Option (Int32) :=
  (if (lg_cmp x0 x2) < 0 then (some 0) else (if 0 < (lg_cmp x0 x4) then (some 0) else (some 1)))
set_option maxRecDepth 100000 in
set_option maxHeartbeats 4000000 in
theorem i_X10_in {p : Program} {l : Launch} {e : Env} {s : State} {m : MethodId} {args : Array Value} {below : List Frame} {meth : Method} {c : Code} {D : va_G} {ct : im_ct} {A : Nat → Prop} (X : im_X p (im_rm 0) s m args meth c D ct A RX10 cX10_in 6 (some .boolean)) (F : Nat) (x0 : Int64) (x2 : Int64) (x4 : Int64) : Im p l e (im_rm 0) s m args below meth c D A 6 (QI D A (fun z : Int32 => z) (fun z : Int32 => (cat []))) 0 [(0, .long x0), (2, .long x2), (4, .long x4)] [] (cat []) (f_X10_in F x0 x2 x4) := by
  unfold f_X10_in
  refine im_lload_n X 0 dX10_in_0 rfl rfl ?_
  refine im_lload_n X 1 dX10_in_1 rfl rfl ?_
  refine im_lcmp X dX10_in_2 ?_
  refine im_if_lt (tgt := 17) X dX10_in_3 rfl ?_ ?_
  · refine im_iconst X 0 dX10_in_17 (by decide) ?_
    exact im_zreturn X 0 rfl rfl rfl dX10_in_18
  · refine im_lload_n X 0 dX10_in_6 rfl rfl ?_
    refine im_lload X 2 dX10_in_7 rfl ?_
    refine im_lcmp X dX10_in_9 ?_
    refine im_if_gt (tgt := 17) X dX10_in_10 rfl ?_ ?_
    · refine im_iconst X 0 dX10_in_17 (by decide) ?_
      exact im_zreturn X 0 rfl rfl rfl dX10_in_18
    · refine im_iconst X 1 dX10_in_13 (by decide) ?_
      refine im_goto (tgt := 18) X dX10_in_14 rfl ?_
      exact im_zreturn X 1 rfl rfl rfl dX10_in_18
theorem c_X10_in (l : Launch) (D : va_G) (ct : im_ct) (F : Nat) (x0 : Int64) (x2 : Int64) (x4 : Int64) : CMi l D ct yX10_in cX10_in 6 (some .boolean) 0 [.long x0, .long x2, .long x4] (cat []) (f_X10_in F x0 x2 x4) (fun z : Int32 => z) (fun z : Int32 => (cat [])) :=
  im_met (Qb := fun A => QI D A (fun z : Int32 => z) (fun z : Int32 => (cat []))) (by decide +kernel) (Nat.le_of_ble_eq_true rfl) (fun p e s m args below meth c A X => i_X10_in X F x0 x2 x4)

noncomputable def f_X10_keeps_54 (F : Nat) (LM : MemL) (k88 : Mem → Option (Mem)) : Nat → Mem → Int32 → Option (Mem)
  | 0, _, _ => none
  | n + 1, M, x1 =>
  (if 226 ≤ x1 then k88 M else ck x1 226 (ck ((226 * (M 0 4)) + x1) 2712 (f_X10_keeps_54 F LM k88 n (mr M 3 (upd (M 3) (((226 * (M 0 4)) + x1)).toNatClampNeg ((M 1) x1.toNatClampNeg))) (x1 + 1))))
set_option maxRecDepth 100000 in
set_option maxHeartbeats 4000000 in
theorem i_X10_keeps_54 {p : Program} {l : Launch} {e : Env} {s : State} {m : MethodId} {args : Array Value} {below : List Frame} {meth : Method} {c : Code} {D : va_G} {ct : im_ct} {A : Nat → Prop} (X : im_X p (im_rm 0) s m args meth c D ct A RX10 cX10_keeps 2 none) (F : Nat) (aM : Nat → Nat) (LM : MemL) (k88 : Mem → Option (Mem)) (hk88 : ∀ (M : Mem), Im p l e (im_rm 0) s m args below meth c D A 2 (QV D A (fun z : Mem => (cat [w_Model ct aM z LM]))) 88 [(0, .ref (aM 0))] [] (cat [w_Model ct aM M LM]) (k88 M)) : ∀ (n : Nat) (M : Mem) (x1 : Int32), Im p l e (im_rm 0) s m args below meth c D A 2 (QV D A (fun z : Mem => (cat [w_Model ct aM z LM]))) 54 [(0, .ref (aM 0)), (1, .int x1)] [] (cat [w_Model ct aM M LM]) (f_X10_keeps_54 F LM k88 n M x1) := by
  intro n
  induction n with
  | zero => intros; exact im_none
  | succ n ih =>
    intro M x1
    unfold f_X10_keeps_54
    refine im_iload_n X 1 dX10_keeps_54 rfl rfl ?_
    refine im_sipush X 226 dX10_keeps_55 (by decide) ?_
    refine im_icmp_ge (tgt := 88) X dX10_keeps_58 rfl ?_ ?_
    · refine im_lv [0] [(0, .ref (aM 0))] rfl ?_
      exact hk88 M
    · refine im_aload_n X 0 dX10_keeps_61 rfl rfl ?_
      refine im_cget X 0 0 (v := .ref (aM 3)) fl_X10_20 rfl rfl rfl dX10_keeps_62 ?_
      refine im_sipush X 226 dX10_keeps_65 (by decide) ?_
      refine im_aload_n X 0 dX10_keeps_68 rfl rfl ?_
      refine im_cget X 0 0 (v := .int (M 0 4)) fl_X10_83 rfl rfl rfl dX10_keeps_69 ?_
      refine im_imul X dX10_keeps_72 ?_
      refine im_iload_n X 1 dX10_keeps_73 rfl rfl ?_
      refine im_iadd X dX10_keeps_74 ?_
      refine im_aload_n X 0 dX10_keeps_75 rfl rfl ?_
      refine im_cget X 0 0 (v := .ref (aM 1)) fl_X10_13 rfl rfl rfl dX10_keeps_76 ?_
      refine im_iload_n X 1 dX10_keeps_79 rfl rfl ?_
      refine im_ciald X 0 1 0 (f := (M 1)) rfl rfl rfl dX10_keeps_80 ?_
      refine im_ciast X 0 3 0 (wx_Model ct aM (M 0 0) (M 0 4) (M 0 6) (M 0 7) (M 0 8) (M 0 9) (M 0 24) (M 0 27) (M 0 29) (M 0 31) (M 0 32) (M 0 33) (M 0 34) (M 0 35) (M 1) (M 2) (upd (M 3) (((226 * (M 0 4)) + x1)).toNatClampNeg ((M 1) x1.toNatClampNeg)) (M 4) (M 5) (M 9) (M 10) (M 11) (M 12) (M 13) (M 14) (M 15) (M 16) (M 17) (M 18) (M 19) (M 20) (M 21) (M 22) (LM 6) (LM 7) (LM 8)) [wx_Model ct aM (M 0 0) (M 0 4) (M 0 6) (M 0 7) (M 0 8) (M 0 9) (M 0 24) (M 0 27) (M 0 29) (M 0 31) (M 0 32) (M 0 33) (M 0 34) (M 0 35) (M 1) (M 2) (upd (M 3) (((226 * (M 0 4)) + x1)).toNatClampNeg ((M 1) x1.toNatClampNeg)) (M 4) (M 5) (M 9) (M 10) (M 11) (M 12) (M 13) (M 14) (M 15) (M 16) (M 17) (M 18) (M 19) (M 20) (M 21) (M 22) (LM 6) (LM 7) (LM 8)] (f := (M 3)) rfl rfl rfl rfl rfl dX10_keeps_81 ?_
      refine im_iinc X 1 1 [1, 0] [(0, .ref (aM 0)), (1, .int (x1 + 1))] dX10_keeps_82 (by decide) rfl (by decide) rfl ?_
      refine im_goto (tgt := 54) X dX10_keeps_85 rfl ?_
      exact ih (mr M 3 (upd (M 3) (((226 * (M 0 4)) + x1)).toNatClampNeg ((M 1) x1.toNatClampNeg))) (x1 + 1)
noncomputable def f_X10_keeps_13 (F : Nat) (LM : MemL) (k42 : Mem → Option (Mem)) : Nat → Mem → Int32 → Option (Mem)
  | 0, _, _ => none
  | n + 1, M, x1 =>
  (if 2712 ≤ x1 then k42 M else ck x1 2712 (ck (x1 - 226) 2712 (f_X10_keeps_13 F LM k42 n (mr M 3 (upd (M 3) ((x1 - 226)).toNatClampNeg ((M 3) x1.toNatClampNeg))) (x1 + 1))))
set_option maxRecDepth 100000 in
set_option maxHeartbeats 4000000 in
theorem i_X10_keeps_13 {p : Program} {l : Launch} {e : Env} {s : State} {m : MethodId} {args : Array Value} {below : List Frame} {meth : Method} {c : Code} {D : va_G} {ct : im_ct} {A : Nat → Prop} (X : im_X p (im_rm 0) s m args meth c D ct A RX10 cX10_keeps 2 none) (F : Nat) (aM : Nat → Nat) (LM : MemL) (k42 : Mem → Option (Mem)) (hk42 : ∀ (M : Mem), Im p l e (im_rm 0) s m args below meth c D A 2 (QV D A (fun z : Mem => (cat [w_Model ct aM z LM]))) 42 [(0, .ref (aM 0))] [] (cat [w_Model ct aM M LM]) (k42 M)) : ∀ (n : Nat) (M : Mem) (x1 : Int32), Im p l e (im_rm 0) s m args below meth c D A 2 (QV D A (fun z : Mem => (cat [w_Model ct aM z LM]))) 13 [(0, .ref (aM 0)), (1, .int x1)] [] (cat [w_Model ct aM M LM]) (f_X10_keeps_13 F LM k42 n M x1) := by
  intro n
  induction n with
  | zero => intros; exact im_none
  | succ n ih =>
    intro M x1
    unfold f_X10_keeps_13
    refine im_iload_n X 1 dX10_keeps_13 rfl rfl ?_
    refine im_sipush X 2712 dX10_keeps_14 (by decide) ?_
    refine im_icmp_ge (tgt := 42) X dX10_keeps_17 rfl ?_ ?_
    · refine im_lv [0] [(0, .ref (aM 0))] rfl ?_
      exact hk42 M
    · refine im_aload_n X 0 dX10_keeps_20 rfl rfl ?_
      refine im_cget X 0 0 (v := .ref (aM 3)) fl_X10_20 rfl rfl rfl dX10_keeps_21 ?_
      refine im_iload_n X 1 dX10_keeps_24 rfl rfl ?_
      refine im_sipush X 226 dX10_keeps_25 (by decide) ?_
      refine im_isub X dX10_keeps_28 ?_
      refine im_aload_n X 0 dX10_keeps_29 rfl rfl ?_
      refine im_cget X 0 0 (v := .ref (aM 3)) fl_X10_20 rfl rfl rfl dX10_keeps_30 ?_
      refine im_iload_n X 1 dX10_keeps_33 rfl rfl ?_
      refine im_ciald X 0 3 0 (f := (M 3)) rfl rfl rfl dX10_keeps_34 ?_
      refine im_ciast X 0 3 0 (wx_Model ct aM (M 0 0) (M 0 4) (M 0 6) (M 0 7) (M 0 8) (M 0 9) (M 0 24) (M 0 27) (M 0 29) (M 0 31) (M 0 32) (M 0 33) (M 0 34) (M 0 35) (M 1) (M 2) (upd (M 3) ((x1 - 226)).toNatClampNeg ((M 3) x1.toNatClampNeg)) (M 4) (M 5) (M 9) (M 10) (M 11) (M 12) (M 13) (M 14) (M 15) (M 16) (M 17) (M 18) (M 19) (M 20) (M 21) (M 22) (LM 6) (LM 7) (LM 8)) [wx_Model ct aM (M 0 0) (M 0 4) (M 0 6) (M 0 7) (M 0 8) (M 0 9) (M 0 24) (M 0 27) (M 0 29) (M 0 31) (M 0 32) (M 0 33) (M 0 34) (M 0 35) (M 1) (M 2) (upd (M 3) ((x1 - 226)).toNatClampNeg ((M 3) x1.toNatClampNeg)) (M 4) (M 5) (M 9) (M 10) (M 11) (M 12) (M 13) (M 14) (M 15) (M 16) (M 17) (M 18) (M 19) (M 20) (M 21) (M 22) (LM 6) (LM 7) (LM 8)] (f := (M 3)) rfl rfl rfl rfl rfl dX10_keeps_35 ?_
      refine im_iinc X 1 1 [1, 0] [(0, .ref (aM 0)), (1, .int (x1 + 1))] dX10_keeps_36 (by decide) rfl (by decide) rfl ?_
      refine im_goto (tgt := 13) X dX10_keeps_39 rfl ?_
      exact ih (mr M 3 (upd (M 3) ((x1 - 226)).toNatClampNeg ((M 3) x1.toNatClampNeg))) (x1 + 1)
noncomputable def f_X10_keeps (F : Nat) (M : Mem) (LM : MemL) : Option (Mem) :=
  (if (M 0 4) = 12 then f_X10_keeps_13 F LM (fun M_42 => f_X10_keeps_54 F LM (fun M_88 => (some (mr M_88 0 (fu (M_88 0) 4 ((M_88 0 4) + 1))))) F (mr M_42 0 (fu (M_42 0) 4 ((M_42 0 4) - 1))) 0) F M 226 else f_X10_keeps_54 F LM (fun M_88 => (some (mr M_88 0 (fu (M_88 0) 4 ((M_88 0 4) + 1))))) F M 0)
set_option maxRecDepth 100000 in
set_option maxHeartbeats 4000000 in
theorem i_X10_keeps {p : Program} {l : Launch} {e : Env} {s : State} {m : MethodId} {args : Array Value} {below : List Frame} {meth : Method} {c : Code} {D : va_G} {ct : im_ct} {A : Nat → Prop} (X : im_X p (im_rm 0) s m args meth c D ct A RX10 cX10_keeps 2 none) (F : Nat) (aM : Nat → Nat) (M : Mem) (LM : MemL) : Im p l e (im_rm 0) s m args below meth c D A 2 (QV D A (fun z : Mem => (cat [w_Model ct aM z LM]))) 0 [(0, .ref (aM 0))] [] (cat [w_Model ct aM M LM]) (f_X10_keeps F M LM) := by
  unfold f_X10_keeps
  refine im_aload_n X 0 dX10_keeps_0 rfl rfl ?_
  refine im_cget X 0 0 (v := .int (M 0 4)) fl_X10_83 rfl rfl rfl dX10_keeps_1 ?_
  refine im_bipush X 12 dX10_keeps_4 (by decide) ?_
  refine im_icmp_ne (tgt := 52) X dX10_keeps_6 rfl ?_ ?_
  · refine im_iconst X 0 dX10_keeps_52 (by decide) ?_
    refine im_istore_n X [1, 0] [(0, .ref (aM 0)), (1, .int 0)] dX10_keeps_53 rfl (by decide) rfl ?_
    refine i_X10_keeps_54 X F aM LM  _ (fun M_88 => ?_) F M 0
    refine im_aload_n X 0 dX10_keeps_88 rfl rfl ?_
    refine im_dup X rfl dX10_keeps_89 ?_
    refine im_cget X 0 0 (v := .int (M_88 0 4)) fl_X10_83 rfl rfl rfl dX10_keeps_90 ?_
    refine im_iconst X 1 dX10_keeps_93 (by decide) ?_
    refine im_iadd X dX10_keeps_94 ?_
    refine im_cput X 0 0 (wx_Model ct aM (M_88 0 0) ((M_88 0 4) + 1) (M_88 0 6) (M_88 0 7) (M_88 0 8) (M_88 0 9) (M_88 0 24) (M_88 0 27) (M_88 0 29) (M_88 0 31) (M_88 0 32) (M_88 0 33) (M_88 0 34) (M_88 0 35) (M_88 1) (M_88 2) (M_88 3) (M_88 4) (M_88 5) (M_88 9) (M_88 10) (M_88 11) (M_88 12) (M_88 13) (M_88 14) (M_88 15) (M_88 16) (M_88 17) (M_88 18) (M_88 19) (M_88 20) (M_88 21) (M_88 22) (LM 6) (LM 7) (LM 8)) [wx_Model ct aM (M_88 0 0) ((M_88 0 4) + 1) (M_88 0 6) (M_88 0 7) (M_88 0 8) (M_88 0 9) (M_88 0 24) (M_88 0 27) (M_88 0 29) (M_88 0 31) (M_88 0 32) (M_88 0 33) (M_88 0 34) (M_88 0 35) (M_88 1) (M_88 2) (M_88 3) (M_88 4) (M_88 5) (M_88 9) (M_88 10) (M_88 11) (M_88 12) (M_88 13) (M_88 14) (M_88 15) (M_88 16) (M_88 17) (M_88 18) (M_88 19) (M_88 20) (M_88 21) (M_88 22) (LM 6) (LM 7) (LM 8)] fl_X10_83 rfl rfl rfl rfl (Nat.le_of_ble_eq_true rfl) rfl rfl dX10_keeps_95 ?_
    exact im_return X (mr M_88 0 (fu (M_88 0) 4 ((M_88 0 4) + 1))) rfl dX10_keeps_98
  · refine im_sipush X 226 dX10_keeps_9 (by decide) ?_
    refine im_istore_n X [1, 0] [(0, .ref (aM 0)), (1, .int 226)] dX10_keeps_12 rfl (by decide) rfl ?_
    refine i_X10_keeps_13 X F aM LM  _ (fun M_42 => ?_) F M 226
    refine im_aload_n X 0 dX10_keeps_42 rfl rfl ?_
    refine im_dup X rfl dX10_keeps_43 ?_
    refine im_cget X 0 0 (v := .int (M_42 0 4)) fl_X10_83 rfl rfl rfl dX10_keeps_44 ?_
    refine im_iconst X 1 dX10_keeps_47 (by decide) ?_
    refine im_isub X dX10_keeps_48 ?_
    refine im_cput X 0 0 (wx_Model ct aM (M_42 0 0) ((M_42 0 4) - 1) (M_42 0 6) (M_42 0 7) (M_42 0 8) (M_42 0 9) (M_42 0 24) (M_42 0 27) (M_42 0 29) (M_42 0 31) (M_42 0 32) (M_42 0 33) (M_42 0 34) (M_42 0 35) (M_42 1) (M_42 2) (M_42 3) (M_42 4) (M_42 5) (M_42 9) (M_42 10) (M_42 11) (M_42 12) (M_42 13) (M_42 14) (M_42 15) (M_42 16) (M_42 17) (M_42 18) (M_42 19) (M_42 20) (M_42 21) (M_42 22) (LM 6) (LM 7) (LM 8)) [wx_Model ct aM (M_42 0 0) ((M_42 0 4) - 1) (M_42 0 6) (M_42 0 7) (M_42 0 8) (M_42 0 9) (M_42 0 24) (M_42 0 27) (M_42 0 29) (M_42 0 31) (M_42 0 32) (M_42 0 33) (M_42 0 34) (M_42 0 35) (M_42 1) (M_42 2) (M_42 3) (M_42 4) (M_42 5) (M_42 9) (M_42 10) (M_42 11) (M_42 12) (M_42 13) (M_42 14) (M_42 15) (M_42 16) (M_42 17) (M_42 18) (M_42 19) (M_42 20) (M_42 21) (M_42 22) (LM 6) (LM 7) (LM 8)] fl_X10_83 rfl rfl rfl rfl (Nat.le_of_ble_eq_true rfl) rfl rfl dX10_keeps_49 ?_
    refine im_iconst X 0 dX10_keeps_52 (by decide) ?_
    refine im_istore_n X [1, 0] [(0, .ref (aM 0)), (1, .int 0)] dX10_keeps_53 rfl (by decide) rfl ?_
    refine i_X10_keeps_54 X F aM LM  _ (fun M_88 => ?_) F (mr M_42 0 (fu (M_42 0) 4 ((M_42 0 4) - 1))) 0
    refine im_aload_n X 0 dX10_keeps_88 rfl rfl ?_
    refine im_dup X rfl dX10_keeps_89 ?_
    refine im_cget X 0 0 (v := .int (M_88 0 4)) fl_X10_83 rfl rfl rfl dX10_keeps_90 ?_
    refine im_iconst X 1 dX10_keeps_93 (by decide) ?_
    refine im_iadd X dX10_keeps_94 ?_
    refine im_cput X 0 0 (wx_Model ct aM (M_88 0 0) ((M_88 0 4) + 1) (M_88 0 6) (M_88 0 7) (M_88 0 8) (M_88 0 9) (M_88 0 24) (M_88 0 27) (M_88 0 29) (M_88 0 31) (M_88 0 32) (M_88 0 33) (M_88 0 34) (M_88 0 35) (M_88 1) (M_88 2) (M_88 3) (M_88 4) (M_88 5) (M_88 9) (M_88 10) (M_88 11) (M_88 12) (M_88 13) (M_88 14) (M_88 15) (M_88 16) (M_88 17) (M_88 18) (M_88 19) (M_88 20) (M_88 21) (M_88 22) (LM 6) (LM 7) (LM 8)) [wx_Model ct aM (M_88 0 0) ((M_88 0 4) + 1) (M_88 0 6) (M_88 0 7) (M_88 0 8) (M_88 0 9) (M_88 0 24) (M_88 0 27) (M_88 0 29) (M_88 0 31) (M_88 0 32) (M_88 0 33) (M_88 0 34) (M_88 0 35) (M_88 1) (M_88 2) (M_88 3) (M_88 4) (M_88 5) (M_88 9) (M_88 10) (M_88 11) (M_88 12) (M_88 13) (M_88 14) (M_88 15) (M_88 16) (M_88 17) (M_88 18) (M_88 19) (M_88 20) (M_88 21) (M_88 22) (LM 6) (LM 7) (LM 8)] fl_X10_83 rfl rfl rfl rfl (Nat.le_of_ble_eq_true rfl) rfl rfl dX10_keeps_95 ?_
    exact im_return X (mr M_88 0 (fu (M_88 0) 4 ((M_88 0 4) + 1))) rfl dX10_keeps_98
theorem c_X10_keeps (l : Launch) (D : va_G) (ct : im_ct) (F : Nat) (aM : Nat → Nat) (M : Mem) (LM : MemL) : CMv l D ct yX10_keeps cX10_keeps 2 none 0 [.ref (aM 0)] (cat [w_Model ct aM M LM]) (f_X10_keeps F M LM) (fun z : Mem => (cat [w_Model ct aM z LM])) :=
  im_met (Qb := fun A => QV D A (fun z : Mem => (cat [w_Model ct aM z LM]))) (by decide +kernel) (Nat.le_of_ble_eq_true rfl) (fun p e s m args below meth c A X => i_X10_keeps X F aM M LM)

noncomputable def f_X10_undo_21 (F : Nat) (LM : MemL) (k55 : Mem → Option (Int32 × Mem)) : Nat → Mem → Int32 → Option (Int32 × Mem)
  | 0, _, _ => none
  | n + 1, M, x1 =>
  (if 226 ≤ x1 then k55 M else ck ((226 * (M 0 4)) + x1) 2712 (ck x1 226 (f_X10_undo_21 F LM k55 n (mr M 1 (upd (M 1) x1.toNatClampNeg ((M 3) (((226 * (M 0 4)) + x1)).toNatClampNeg))) (x1 + 1))))
set_option maxRecDepth 100000 in
set_option maxHeartbeats 4000000 in
theorem i_X10_undo_21 {p : Program} {l : Launch} {e : Env} {s : State} {m : MethodId} {args : Array Value} {below : List Frame} {meth : Method} {c : Code} {D : va_G} {ct : im_ct} {A : Nat → Prop} (X : im_X p (im_rm 0) s m args meth c D ct A RX10 cX10_undo 2 (some .int)) (F : Nat) (aM : Nat → Nat) (LM : MemL) (k55 : Mem → Option (Int32 × Mem)) (hk55 : ∀ (M : Mem), Im p l e (im_rm 0) s m args below meth c D A 2 (QI D A (fun z : Int32 × Mem => z.1) (fun z : Int32 × Mem => (cat [w_Model ct aM z.2 LM]))) 55 [(0, .ref (aM 0))] [] (cat [w_Model ct aM M LM]) (k55 M)) : ∀ (n : Nat) (M : Mem) (x1 : Int32), Im p l e (im_rm 0) s m args below meth c D A 2 (QI D A (fun z : Int32 × Mem => z.1) (fun z : Int32 × Mem => (cat [w_Model ct aM z.2 LM]))) 21 [(0, .ref (aM 0)), (1, .int x1)] [] (cat [w_Model ct aM M LM]) (f_X10_undo_21 F LM k55 n M x1) := by
  intro n
  induction n with
  | zero => intros; exact im_none
  | succ n ih =>
    intro M x1
    unfold f_X10_undo_21
    refine im_iload_n X 1 dX10_undo_21 rfl rfl ?_
    refine im_sipush X 226 dX10_undo_22 (by decide) ?_
    refine im_icmp_ge (tgt := 55) X dX10_undo_25 rfl ?_ ?_
    · refine im_lv [0] [(0, .ref (aM 0))] rfl ?_
      exact hk55 M
    · refine im_aload_n X 0 dX10_undo_28 rfl rfl ?_
      refine im_cget X 0 0 (v := .ref (aM 1)) fl_X10_13 rfl rfl rfl dX10_undo_29 ?_
      refine im_iload_n X 1 dX10_undo_32 rfl rfl ?_
      refine im_aload_n X 0 dX10_undo_33 rfl rfl ?_
      refine im_cget X 0 0 (v := .ref (aM 3)) fl_X10_20 rfl rfl rfl dX10_undo_34 ?_
      refine im_sipush X 226 dX10_undo_37 (by decide) ?_
      refine im_aload_n X 0 dX10_undo_40 rfl rfl ?_
      refine im_cget X 0 0 (v := .int (M 0 4)) fl_X10_83 rfl rfl rfl dX10_undo_41 ?_
      refine im_imul X dX10_undo_44 ?_
      refine im_iload_n X 1 dX10_undo_45 rfl rfl ?_
      refine im_iadd X dX10_undo_46 ?_
      refine im_ciald X 0 3 0 (f := (M 3)) rfl rfl rfl dX10_undo_47 ?_
      refine im_ciast X 0 1 0 (wx_Model ct aM (M 0 0) (M 0 4) (M 0 6) (M 0 7) (M 0 8) (M 0 9) (M 0 24) (M 0 27) (M 0 29) (M 0 31) (M 0 32) (M 0 33) (M 0 34) (M 0 35) (upd (M 1) x1.toNatClampNeg ((M 3) (((226 * (M 0 4)) + x1)).toNatClampNeg)) (M 2) (M 3) (M 4) (M 5) (M 9) (M 10) (M 11) (M 12) (M 13) (M 14) (M 15) (M 16) (M 17) (M 18) (M 19) (M 20) (M 21) (M 22) (LM 6) (LM 7) (LM 8)) [wx_Model ct aM (M 0 0) (M 0 4) (M 0 6) (M 0 7) (M 0 8) (M 0 9) (M 0 24) (M 0 27) (M 0 29) (M 0 31) (M 0 32) (M 0 33) (M 0 34) (M 0 35) (upd (M 1) x1.toNatClampNeg ((M 3) (((226 * (M 0 4)) + x1)).toNatClampNeg)) (M 2) (M 3) (M 4) (M 5) (M 9) (M 10) (M 11) (M 12) (M 13) (M 14) (M 15) (M 16) (M 17) (M 18) (M 19) (M 20) (M 21) (M 22) (LM 6) (LM 7) (LM 8)] (f := (M 1)) rfl rfl rfl rfl rfl dX10_undo_48 ?_
      refine im_iinc X 1 1 [1, 0] [(0, .ref (aM 0)), (1, .int (x1 + 1))] dX10_undo_49 (by decide) rfl (by decide) rfl ?_
      refine im_goto (tgt := 21) X dX10_undo_52 rfl ?_
      exact ih (mr M 1 (upd (M 1) x1.toNatClampNeg ((M 3) (((226 * (M 0 4)) + x1)).toNatClampNeg))) (x1 + 1)
noncomputable def f_X10_undo (F : Nat) (M : Mem) (LM : MemL) : Option (Int32 × Mem) :=
  (if (M 0 4) = 0 then (some ((-1), M)) else f_X10_undo_21 F LM (fun M_55 => (some ((M_55 0 4), M_55))) F (mr M 0 (fu (M 0) 4 ((M 0 4) - 1))) 0)
set_option maxRecDepth 100000 in
set_option maxHeartbeats 4000000 in
theorem i_X10_undo {p : Program} {l : Launch} {e : Env} {s : State} {m : MethodId} {args : Array Value} {below : List Frame} {meth : Method} {c : Code} {D : va_G} {ct : im_ct} {A : Nat → Prop} (X : im_X p (im_rm 0) s m args meth c D ct A RX10 cX10_undo 2 (some .int)) (F : Nat) (aM : Nat → Nat) (M : Mem) (LM : MemL) : Im p l e (im_rm 0) s m args below meth c D A 2 (QI D A (fun z : Int32 × Mem => z.1) (fun z : Int32 × Mem => (cat [w_Model ct aM z.2 LM]))) 0 [(0, .ref (aM 0))] [] (cat [w_Model ct aM M LM]) (f_X10_undo F M LM) := by
  unfold f_X10_undo
  refine im_aload_n X 0 dX10_undo_0 rfl rfl ?_
  refine im_cget X 0 0 (v := .int (M 0 4)) fl_X10_83 rfl rfl rfl dX10_undo_1 ?_
  refine im_if_ne (tgt := 9) X dX10_undo_4 rfl ?_ ?_
  · refine im_aload_n X 0 dX10_undo_9 rfl rfl ?_
    refine im_dup X rfl dX10_undo_10 ?_
    refine im_cget X 0 0 (v := .int (M 0 4)) fl_X10_83 rfl rfl rfl dX10_undo_11 ?_
    refine im_iconst X 1 dX10_undo_14 (by decide) ?_
    refine im_isub X dX10_undo_15 ?_
    refine im_cput X 0 0 (wx_Model ct aM (M 0 0) ((M 0 4) - 1) (M 0 6) (M 0 7) (M 0 8) (M 0 9) (M 0 24) (M 0 27) (M 0 29) (M 0 31) (M 0 32) (M 0 33) (M 0 34) (M 0 35) (M 1) (M 2) (M 3) (M 4) (M 5) (M 9) (M 10) (M 11) (M 12) (M 13) (M 14) (M 15) (M 16) (M 17) (M 18) (M 19) (M 20) (M 21) (M 22) (LM 6) (LM 7) (LM 8)) [wx_Model ct aM (M 0 0) ((M 0 4) - 1) (M 0 6) (M 0 7) (M 0 8) (M 0 9) (M 0 24) (M 0 27) (M 0 29) (M 0 31) (M 0 32) (M 0 33) (M 0 34) (M 0 35) (M 1) (M 2) (M 3) (M 4) (M 5) (M 9) (M 10) (M 11) (M 12) (M 13) (M 14) (M 15) (M 16) (M 17) (M 18) (M 19) (M 20) (M 21) (M 22) (LM 6) (LM 7) (LM 8)] fl_X10_83 rfl rfl rfl rfl (Nat.le_of_ble_eq_true rfl) rfl rfl dX10_undo_16 ?_
    refine im_iconst X 0 dX10_undo_19 (by decide) ?_
    refine im_istore_n X [1, 0] [(0, .ref (aM 0)), (1, .int 0)] dX10_undo_20 rfl (by decide) rfl ?_
    refine i_X10_undo_21 X F aM LM  _ (fun M_55 => ?_) F (mr M 0 (fu (M 0) 4 ((M 0 4) - 1))) 0
    refine im_aload_n X 0 dX10_undo_55 rfl rfl ?_
    refine im_cget X 0 0 (v := .int (M_55 0 4)) fl_X10_83 rfl rfl rfl dX10_undo_56 ?_
    exact im_ireturn X ((M_55 0 4), M_55) rfl rfl dX10_undo_59
  · refine im_iconst X (-1) dX10_undo_7 (by decide) ?_
    exact im_ireturn X ((-1), M) rfl rfl dX10_undo_8
theorem c_X10_undo (l : Launch) (D : va_G) (ct : im_ct) (F : Nat) (aM : Nat → Nat) (M : Mem) (LM : MemL) : CMi l D ct yX10_undo cX10_undo 2 (some .int) 0 [.ref (aM 0)] (cat [w_Model ct aM M LM]) (f_X10_undo F M LM) (fun z : Int32 × Mem => z.1) (fun z : Int32 × Mem => (cat [w_Model ct aM z.2 LM])) :=
  im_met (Qb := fun A => QI D A (fun z : Int32 × Mem => z.1) (fun z : Int32 × Mem => (cat [w_Model ct aM z.2 LM]))) (by decide +kernel) (Nat.le_of_ble_eq_true rfl) (fun p e s m args below meth c A X => i_X10_undo X F aM M LM)

noncomputable def f_X10_isRow (F : Nat) (M : Mem) (LM : MemL) (x1 : Int32) : Option (Int32) :=
  ck 1 226 ((f_X10_in F (x1).toInt64 0 ((((M 1) (1 : Int32).toNatClampNeg) - 1)).toInt64).bind (fun z12 => (cb z12 (some z12))))
set_option maxRecDepth 100000 in
set_option maxHeartbeats 4000000 in
theorem i_X10_isRow {p : Program} {l : Launch} {e : Env} {s : State} {m : MethodId} {args : Array Value} {below : List Frame} {meth : Method} {c : Code} {D : va_G} {ct : im_ct} {A : Nat → Prop} (X : im_X p (im_rm 1) s m args meth c D ct A RX10 cX10_isRow 2 (some .boolean)) (F : Nat) (aM : Nat → Nat) (M : Mem) (LM : MemL) (x1 : Int32) : Im p l e (im_rm 1) s m args below meth c D A 2 (QI D A (fun z : Int32 => z) (fun z : Int32 => (cat [w_Model ct aM M LM]))) 0 [(0, .ref (aM 0)), (1, .int x1)] [] (cat [w_Model ct aM M LM]) (f_X10_isRow F M LM x1) := by
  unfold f_X10_isRow
  refine im_iload_n X 1 dX10_isRow_0 rfl rfl ?_
  refine im_i2l X dX10_isRow_1 ?_
  refine im_lconst X 0 dX10_isRow_2 (by decide) ?_
  refine im_aload_n X 0 dX10_isRow_3 rfl rfl ?_
  refine im_cget X 0 0 (v := .ref (aM 1)) fl_X10_13 rfl rfl rfl dX10_isRow_4 ?_
  refine im_iconst X 1 dX10_isRow_7 (by decide) ?_
  refine im_ciald X 0 1 0 (f := (M 1)) rfl rfl rfl dX10_isRow_8 ?_
  refine im_iconst X 1 dX10_isRow_9 (by decide) ?_
  refine im_isub X dX10_isRow_10 ?_
  refine im_i2l X dX10_isRow_11 ?_
  refine im_cciS X [.long (x1).toInt64, .long 0, .long ((((M 1) (1 : Int32).toNatClampNeg) - 1)).toInt64] [] [w_Model ct aM M LM] [] [] (fun z12 => []) cl_X10_86 (c_X10_in l D ct F (x1).toInt64 0 ((((M 1) (1 : Int32).toNatClampNeg) - 1)).toInt64) rfl (by decide) (fun _ => rfl) rfl ⟨by decide, by decide⟩ (Nat.le_of_ble_eq_true rfl) rfl dX10_isRow_12 (fun z12 => ?_)
  refine im_ws (cat [w_Model ct aM M LM]) rfl ?_
  exact im_zreturnc X z12 rfl rfl dX10_isRow_15
theorem c_X10_isRow (l : Launch) (D : va_G) (ct : im_ct) (F : Nat) (aM : Nat → Nat) (M : Mem) (LM : MemL) (x1 : Int32) : CMi l D ct yX10_isRow cX10_isRow 2 (some .boolean) 1 [.ref (aM 0), .int x1] (cat [w_Model ct aM M LM]) (f_X10_isRow F M LM x1) (fun z : Int32 => z) (fun z : Int32 => (cat [w_Model ct aM M LM])) :=
  im_met (Qb := fun A => QI D A (fun z : Int32 => z) (fun z : Int32 => (cat [w_Model ct aM M LM]))) (by decide +kernel) (Nat.le_of_ble_eq_true rfl) (fun p e s m args below meth c A X => i_X10_isRow X F aM M LM x1)

noncomputable def f_X10_isColumn (F : Nat) (M : Mem) (LM : MemL) (x1 : Int32) : Option (Int32) :=
  ck 0 226 ((f_X10_in F (x1).toInt64 0 ((((M 1) (0 : Int32).toNatClampNeg) - 1)).toInt64).bind (fun z12 => (cb z12 (some z12))))
set_option maxRecDepth 100000 in
set_option maxHeartbeats 4000000 in
theorem i_X10_isColumn {p : Program} {l : Launch} {e : Env} {s : State} {m : MethodId} {args : Array Value} {below : List Frame} {meth : Method} {c : Code} {D : va_G} {ct : im_ct} {A : Nat → Prop} (X : im_X p (im_rm 1) s m args meth c D ct A RX10 cX10_isColumn 2 (some .boolean)) (F : Nat) (aM : Nat → Nat) (M : Mem) (LM : MemL) (x1 : Int32) : Im p l e (im_rm 1) s m args below meth c D A 2 (QI D A (fun z : Int32 => z) (fun z : Int32 => (cat [w_Model ct aM M LM]))) 0 [(0, .ref (aM 0)), (1, .int x1)] [] (cat [w_Model ct aM M LM]) (f_X10_isColumn F M LM x1) := by
  unfold f_X10_isColumn
  refine im_iload_n X 1 dX10_isColumn_0 rfl rfl ?_
  refine im_i2l X dX10_isColumn_1 ?_
  refine im_lconst X 0 dX10_isColumn_2 (by decide) ?_
  refine im_aload_n X 0 dX10_isColumn_3 rfl rfl ?_
  refine im_cget X 0 0 (v := .ref (aM 1)) fl_X10_13 rfl rfl rfl dX10_isColumn_4 ?_
  refine im_iconst X 0 dX10_isColumn_7 (by decide) ?_
  refine im_ciald X 0 1 0 (f := (M 1)) rfl rfl rfl dX10_isColumn_8 ?_
  refine im_iconst X 1 dX10_isColumn_9 (by decide) ?_
  refine im_isub X dX10_isColumn_10 ?_
  refine im_i2l X dX10_isColumn_11 ?_
  refine im_cciS X [.long (x1).toInt64, .long 0, .long ((((M 1) (0 : Int32).toNatClampNeg) - 1)).toInt64] [] [w_Model ct aM M LM] [] [] (fun z12 => []) cl_X10_86 (c_X10_in l D ct F (x1).toInt64 0 ((((M 1) (0 : Int32).toNatClampNeg) - 1)).toInt64) rfl (by decide) (fun _ => rfl) rfl ⟨by decide, by decide⟩ (Nat.le_of_ble_eq_true rfl) rfl dX10_isColumn_12 (fun z12 => ?_)
  refine im_ws (cat [w_Model ct aM M LM]) rfl ?_
  exact im_zreturnc X z12 rfl rfl dX10_isColumn_15
theorem c_X10_isColumn (l : Launch) (D : va_G) (ct : im_ct) (F : Nat) (aM : Nat → Nat) (M : Mem) (LM : MemL) (x1 : Int32) : CMi l D ct yX10_isColumn cX10_isColumn 2 (some .boolean) 1 [.ref (aM 0), .int x1] (cat [w_Model ct aM M LM]) (f_X10_isColumn F M LM x1) (fun z : Int32 => z) (fun z : Int32 => (cat [w_Model ct aM M LM])) :=
  im_met (Qb := fun A => QI D A (fun z : Int32 => z) (fun z : Int32 => (cat [w_Model ct aM M LM]))) (by decide +kernel) (Nat.le_of_ble_eq_true rfl) (fun p e s m args below meth c A X => i_X10_isColumn X F aM M LM x1)

noncomputable def f_X10_isCell (F : Nat) (M : Mem) (LM : MemL) (x1 : Int32) (x2 : Int32) : Option (Int32) :=
  (f_X10_isRow F M LM x1).bind (fun z2 => (if z2 = 0 then (some 0) else (f_X10_isColumn F M LM x2).bind (fun z10 => (if z10 = 0 then (some 0) else (some 1)))))
set_option maxRecDepth 100000 in
set_option maxHeartbeats 4000000 in
theorem i_X10_isCell {p : Program} {l : Launch} {e : Env} {s : State} {m : MethodId} {args : Array Value} {below : List Frame} {meth : Method} {c : Code} {D : va_G} {ct : im_ct} {A : Nat → Prop} (X : im_X p (im_rm 2) s m args meth c D ct A RX10 cX10_isCell 3 (some .boolean)) (F : Nat) (aM : Nat → Nat) (M : Mem) (LM : MemL) (x1 : Int32) (x2 : Int32) : Im p l e (im_rm 2) s m args below meth c D A 3 (QI D A (fun z : Int32 => z) (fun z : Int32 => (cat [w_Model ct aM M LM]))) 0 [(0, .ref (aM 0)), (1, .int x1), (2, .int x2)] [] (cat [w_Model ct aM M LM]) (f_X10_isCell F M LM x1 x2) := by
  unfold f_X10_isCell
  refine im_aload_n X 0 dX10_isCell_0 rfl rfl ?_
  refine im_iload_n X 1 dX10_isCell_1 rfl rfl ?_
  refine im_cciV X [.int x1] [] [w_Model ct aM M LM] [w_Model ct aM M LM] [0] (fun z2 => [w_Model ct aM M LM]) 0 0 10 rfl rfl rfl cl_X10_90 (c_X10_isRow l D ct F aM M LM x1) rfl (by decide) (fun _ => lc rfl (rfl)) rfl ⟨by decide, by decide⟩ (Nat.le_of_ble_eq_true rfl) rfl dX10_isCell_2 (fun z2 => ?_)
  refine im_ws (cat [w_Model ct aM M LM]) rfl ?_
  refine im_if_eq (tgt := 20) X dX10_isCell_5 rfl ?_ ?_
  · refine im_iconst X 0 dX10_isCell_20 (by decide) ?_
    exact im_zreturn X 0 rfl rfl rfl dX10_isCell_21
  · refine im_aload_n X 0 dX10_isCell_8 rfl rfl ?_
    refine im_iload_n X 2 dX10_isCell_9 rfl rfl ?_
    refine im_cciV X [.int x2] [] [w_Model ct aM M LM] [w_Model ct aM M LM] [0] (fun z10 => [w_Model ct aM M LM]) 0 0 10 rfl rfl rfl cl_X10_94 (c_X10_isColumn l D ct F aM M LM x2) rfl (by decide) (fun _ => lc rfl (rfl)) rfl ⟨by decide, by decide⟩ (Nat.le_of_ble_eq_true rfl) rfl dX10_isCell_10 (fun z10 => ?_)
    refine im_ws (cat [w_Model ct aM M LM]) rfl ?_
    refine im_if_eq (tgt := 20) X dX10_isCell_13 rfl ?_ ?_
    · refine im_iconst X 0 dX10_isCell_20 (by decide) ?_
      exact im_zreturn X 0 rfl rfl rfl dX10_isCell_21
    · refine im_iconst X 1 dX10_isCell_16 (by decide) ?_
      refine im_goto (tgt := 21) X dX10_isCell_17 rfl ?_
      exact im_zreturn X 1 rfl rfl rfl dX10_isCell_21
theorem c_X10_isCell (l : Launch) (D : va_G) (ct : im_ct) (F : Nat) (aM : Nat → Nat) (M : Mem) (LM : MemL) (x1 : Int32) (x2 : Int32) : CMi l D ct yX10_isCell cX10_isCell 3 (some .boolean) 2 [.ref (aM 0), .int x1, .int x2] (cat [w_Model ct aM M LM]) (f_X10_isCell F M LM x1 x2) (fun z : Int32 => z) (fun z : Int32 => (cat [w_Model ct aM M LM])) :=
  im_met (Qb := fun A => QI D A (fun z : Int32 => z) (fun z : Int32 => (cat [w_Model ct aM M LM]))) (by decide +kernel) (Nat.le_of_ble_eq_true rfl) (fun p e s m args below meth c A X => i_X10_isCell X F aM M LM x1 x2)

noncomputable def f_X10_cell (F : Nat) (x0 : Int32) (x1 : Int32) : Option (Int32) :=
  (some ((6 * x0) + x1))
set_option maxRecDepth 100000 in
set_option maxHeartbeats 4000000 in
theorem i_X10_cell {p : Program} {l : Launch} {e : Env} {s : State} {m : MethodId} {args : Array Value} {below : List Frame} {meth : Method} {c : Code} {D : va_G} {ct : im_ct} {A : Nat → Prop} (X : im_X p (im_rm 0) s m args meth c D ct A RX10 cX10_cell 2 (some .int)) (F : Nat) (x0 : Int32) (x1 : Int32) : Im p l e (im_rm 0) s m args below meth c D A 2 (QI D A (fun z : Int32 => z) (fun z : Int32 => (cat []))) 0 [(0, .int x0), (1, .int x1)] [] (cat []) (f_X10_cell F x0 x1) := by
  unfold f_X10_cell
  refine im_bipush X 6 dX10_cell_0 (by decide) ?_
  refine im_iload_n X 0 dX10_cell_2 rfl rfl ?_
  refine im_imul X dX10_cell_3 ?_
  refine im_iload_n X 1 dX10_cell_4 rfl rfl ?_
  refine im_iadd X dX10_cell_5 ?_
  exact im_ireturn X ((6 * x0) + x1) rfl rfl dX10_cell_6
theorem c_X10_cell (l : Launch) (D : va_G) (ct : im_ct) (F : Nat) (x0 : Int32) (x1 : Int32) : CMi l D ct yX10_cell cX10_cell 2 (some .int) 0 [.int x0, .int x1] (cat []) (f_X10_cell F x0 x1) (fun z : Int32 => z) (fun z : Int32 => (cat [])) :=
  im_met (Qb := fun A => QI D A (fun z : Int32 => z) (fun z : Int32 => (cat []))) (by decide +kernel) (Nat.le_of_ble_eq_true rfl) (fun p e s m args below meth c A X => i_X10_cell X F x0 x1)

noncomputable def f_X10_ratio (F : Nat) (M : Mem) (LM : MemL) (x1 : Int32) : Option (Int32) :=
  ck (2 + x1) 226 ((some ((M 1) ((2 + x1)).toNatClampNeg)))
set_option maxRecDepth 100000 in
set_option maxHeartbeats 4000000 in
theorem i_X10_ratio {p : Program} {l : Launch} {e : Env} {s : State} {m : MethodId} {args : Array Value} {below : List Frame} {meth : Method} {c : Code} {D : va_G} {ct : im_ct} {A : Nat → Prop} (X : im_X p (im_rm 0) s m args meth c D ct A RX10 cX10_ratio 2 (some .int)) (F : Nat) (aM : Nat → Nat) (M : Mem) (LM : MemL) (x1 : Int32) : Im p l e (im_rm 0) s m args below meth c D A 2 (QI D A (fun z : Int32 => z) (fun z : Int32 => (cat [w_Model ct aM M LM]))) 0 [(0, .ref (aM 0)), (1, .int x1)] [] (cat [w_Model ct aM M LM]) (f_X10_ratio F M LM x1) := by
  unfold f_X10_ratio
  refine im_aload_n X 0 dX10_ratio_0 rfl rfl ?_
  refine im_cget X 0 0 (v := .ref (aM 1)) fl_X10_13 rfl rfl rfl dX10_ratio_1 ?_
  refine im_iconst X 2 dX10_ratio_4 (by decide) ?_
  refine im_iload_n X 1 dX10_ratio_5 rfl rfl ?_
  refine im_iadd X dX10_ratio_6 ?_
  refine im_ciald X 0 1 0 (f := (M 1)) rfl rfl rfl dX10_ratio_7 ?_
  exact im_ireturn X ((M 1) ((2 + x1)).toNatClampNeg) rfl rfl dX10_ratio_8
theorem c_X10_ratio (l : Launch) (D : va_G) (ct : im_ct) (F : Nat) (aM : Nat → Nat) (M : Mem) (LM : MemL) (x1 : Int32) : CMi l D ct yX10_ratio cX10_ratio 2 (some .int) 0 [.ref (aM 0), .int x1] (cat [w_Model ct aM M LM]) (f_X10_ratio F M LM x1) (fun z : Int32 => z) (fun z : Int32 => (cat [w_Model ct aM M LM])) :=
  im_met (Qb := fun A => QI D A (fun z : Int32 => z) (fun z : Int32 => (cat [w_Model ct aM M LM]))) (by decide +kernel) (Nat.le_of_ble_eq_true rfl) (fun p e s m args below meth c A X => i_X10_ratio X F aM M LM x1)

noncomputable def f_X10_worthOf_4 (F : Nat) (M : Mem) (LM : MemL) (x1 : Int32) (k23 : Int32 → Option (Int32)) : Nat → Int32 → Int32 → Option (Int32)
  | 0, _, _ => none
  | n + 1, x2, x3 =>
  (if x1 < x3 then k23 x2 else (f_X10_ratio F M LM x3).bind (fun z12 => f_X10_worthOf_4 F M LM x1 k23 n (x2 * z12) (x3 + 1)))
set_option maxRecDepth 100000 in
set_option maxHeartbeats 4000000 in
theorem i_X10_worthOf_4 {p : Program} {l : Launch} {e : Env} {s : State} {m : MethodId} {args : Array Value} {below : List Frame} {meth : Method} {c : Code} {D : va_G} {ct : im_ct} {A : Nat → Prop} (X : im_X p (im_rm 1) s m args meth c D ct A RX10 cX10_worthOf 4 (some .int)) (F : Nat) (aM : Nat → Nat) (M : Mem) (LM : MemL) (x1 : Int32) (k23 : Int32 → Option (Int32)) (hk23 : ∀ (x2 : Int32), Im p l e (im_rm 1) s m args below meth c D A 4 (QI D A (fun z : Int32 => z) (fun z : Int32 => (cat [w_Model ct aM M LM]))) 23 [(2, .int x2)] [] (cat [w_Model ct aM M LM]) (k23 x2)) : ∀ (n : Nat) (x2 : Int32) (x3 : Int32), Im p l e (im_rm 1) s m args below meth c D A 4 (QI D A (fun z : Int32 => z) (fun z : Int32 => (cat [w_Model ct aM M LM]))) 4 [(0, .ref (aM 0)), (1, .int x1), (2, .int x2), (3, .int x3)] [] (cat [w_Model ct aM M LM]) (f_X10_worthOf_4 F M LM x1 k23 n x2 x3) := by
  intro n
  induction n with
  | zero => intros; exact im_none
  | succ n ih =>
    intro x2 x3
    unfold f_X10_worthOf_4
    refine im_iload_n X 3 dX10_worthOf_4 rfl rfl ?_
    refine im_iload_n X 1 dX10_worthOf_5 rfl rfl ?_
    refine im_icmp_gt (tgt := 23) X dX10_worthOf_6 rfl ?_ ?_
    · refine im_lv [2] [(2, .int x2)] rfl ?_
      exact hk23 x2
    · refine im_iload_n X 2 dX10_worthOf_9 rfl rfl ?_
      refine im_aload_n X 0 dX10_worthOf_10 rfl rfl ?_
      refine im_iload_n X 3 dX10_worthOf_11 rfl rfl ?_
      refine im_cciV X [.int x3] [.int x2] [w_Model ct aM M LM] [w_Model ct aM M LM] [0] (fun z12 => [w_Model ct aM M LM]) 0 0 10 rfl rfl rfl cl_X10_97 (c_X10_ratio l D ct F aM M LM x3) rfl (by decide) (fun _ => lc rfl (rfl)) rfl ⟨by decide, by decide⟩ (Nat.le_of_ble_eq_true rfl) rfl dX10_worthOf_12 (fun z12 => ?_)
      refine im_ws (cat [w_Model ct aM M LM]) rfl ?_
      refine im_imul X dX10_worthOf_15 ?_
      refine im_istore_n X [1, 2, 0, 3] [(0, .ref (aM 0)), (1, .int x1), (2, .int (x2 * z12)), (3, .int x3)] dX10_worthOf_16 rfl (by decide) rfl ?_
      refine im_iinc X 3 1 [1, 2, 3, 0] [(0, .ref (aM 0)), (1, .int x1), (2, .int (x2 * z12)), (3, .int (x3 + 1))] dX10_worthOf_17 (by decide) rfl (by decide) rfl ?_
      refine im_goto (tgt := 4) X dX10_worthOf_20 rfl ?_
      exact ih (x2 * z12) (x3 + 1)
noncomputable def f_X10_worthOf (F : Nat) (M : Mem) (LM : MemL) (x1 : Int32) : Option (Int32) :=
  f_X10_worthOf_4 F M LM x1 (fun x2_23 => (some x2_23)) F 1 1
set_option maxRecDepth 100000 in
set_option maxHeartbeats 4000000 in
theorem i_X10_worthOf {p : Program} {l : Launch} {e : Env} {s : State} {m : MethodId} {args : Array Value} {below : List Frame} {meth : Method} {c : Code} {D : va_G} {ct : im_ct} {A : Nat → Prop} (X : im_X p (im_rm 1) s m args meth c D ct A RX10 cX10_worthOf 4 (some .int)) (F : Nat) (aM : Nat → Nat) (M : Mem) (LM : MemL) (x1 : Int32) : Im p l e (im_rm 1) s m args below meth c D A 4 (QI D A (fun z : Int32 => z) (fun z : Int32 => (cat [w_Model ct aM M LM]))) 0 [(0, .ref (aM 0)), (1, .int x1)] [] (cat [w_Model ct aM M LM]) (f_X10_worthOf F M LM x1) := by
  unfold f_X10_worthOf
  refine im_iconst X 1 dX10_worthOf_0 (by decide) ?_
  refine im_istore_n X [1, 2, 0] [(0, .ref (aM 0)), (1, .int x1), (2, .int 1)] dX10_worthOf_1 rfl (by decide) rfl ?_
  refine im_iconst X 1 dX10_worthOf_2 (by decide) ?_
  refine im_istore_n X [1, 2, 3, 0] [(0, .ref (aM 0)), (1, .int x1), (2, .int 1), (3, .int 1)] dX10_worthOf_3 rfl (by decide) rfl ?_
  refine i_X10_worthOf_4 X F aM M LM x1 _ (fun x2_23 => ?_) F 1 1
  refine im_iload_n X 0 dX10_worthOf_23 rfl rfl ?_
  exact im_ireturn X x2_23 rfl rfl dX10_worthOf_24
theorem c_X10_worthOf (l : Launch) (D : va_G) (ct : im_ct) (F : Nat) (aM : Nat → Nat) (M : Mem) (LM : MemL) (x1 : Int32) : CMi l D ct yX10_worthOf cX10_worthOf 4 (some .int) 1 [.ref (aM 0), .int x1] (cat [w_Model ct aM M LM]) (f_X10_worthOf F M LM x1) (fun z : Int32 => z) (fun z : Int32 => (cat [w_Model ct aM M LM])) :=
  im_met (Qb := fun A => QI D A (fun z : Int32 => z) (fun z : Int32 => (cat [w_Model ct aM M LM]))) (by decide +kernel) (Nat.le_of_ble_eq_true rfl) (fun p e s m args below meth c A X => i_X10_worthOf X F aM M LM x1)

noncomputable def f_X10_now (F : Nat) (M : Mem) (LM : MemL) (x1 : Int32) (x2 : Int32) : Option (Int32) :=
  (f_X10_cell F x1 x2).bind (fun z8 => ck (8 + z8) 226 ((some ((M 1) ((8 + z8)).toNatClampNeg))))
set_option maxRecDepth 100000 in
set_option maxHeartbeats 4000000 in
theorem i_X10_now {p : Program} {l : Launch} {e : Env} {s : State} {m : MethodId} {args : Array Value} {below : List Frame} {meth : Method} {c : Code} {D : va_G} {ct : im_ct} {A : Nat → Prop} (X : im_X p (im_rm 1) s m args meth c D ct A RX10 cX10_now 3 (some .int)) (F : Nat) (aM : Nat → Nat) (M : Mem) (LM : MemL) (x1 : Int32) (x2 : Int32) : Im p l e (im_rm 1) s m args below meth c D A 3 (QI D A (fun z : Int32 => z) (fun z : Int32 => (cat [w_Model ct aM M LM]))) 0 [(0, .ref (aM 0)), (1, .int x1), (2, .int x2)] [] (cat [w_Model ct aM M LM]) (f_X10_now F M LM x1 x2) := by
  unfold f_X10_now
  refine im_aload_n X 0 dX10_now_0 rfl rfl ?_
  refine im_cget X 0 0 (v := .ref (aM 1)) fl_X10_13 rfl rfl rfl dX10_now_1 ?_
  refine im_bipush X 8 dX10_now_4 (by decide) ?_
  refine im_iload_n X 1 dX10_now_6 rfl rfl ?_
  refine im_iload_n X 2 dX10_now_7 rfl rfl ?_
  refine im_cciS X [.int x1, .int x2] [.int 8, .ref (aM 1)] [w_Model ct aM M LM] [] [] (fun z8 => []) cl_X10_101 (c_X10_cell l D ct F x1 x2) rfl (by decide) (fun _ => rfl) rfl ⟨by decide, by decide⟩ (Nat.le_of_ble_eq_true rfl) rfl dX10_now_8 (fun z8 => ?_)
  refine im_ws (cat [w_Model ct aM M LM]) rfl ?_
  refine im_iadd X dX10_now_11 ?_
  refine im_ciald X 0 1 0 (f := (M 1)) rfl rfl rfl dX10_now_12 ?_
  exact im_ireturn X ((M 1) ((8 + z8)).toNatClampNeg) rfl rfl dX10_now_13
theorem c_X10_now (l : Launch) (D : va_G) (ct : im_ct) (F : Nat) (aM : Nat → Nat) (M : Mem) (LM : MemL) (x1 : Int32) (x2 : Int32) : CMi l D ct yX10_now cX10_now 3 (some .int) 1 [.ref (aM 0), .int x1, .int x2] (cat [w_Model ct aM M LM]) (f_X10_now F M LM x1 x2) (fun z : Int32 => z) (fun z : Int32 => (cat [w_Model ct aM M LM])) :=
  im_met (Qb := fun A => QI D A (fun z : Int32 => z) (fun z : Int32 => (cat [w_Model ct aM M LM]))) (by decide +kernel) (Nat.le_of_ble_eq_true rfl) (fun p e s m args below meth c A X => i_X10_now X F aM M LM x1 x2)

noncomputable def f_X10_sets (F : Nat) (M : Mem) (LM : MemL) (x1 : Int32) (x2 : Int32) (x3 : Int32) : Option (Mem) :=
  (f_X10_cell F x1 x2).bind (fun z8 => ck (8 + z8) 226 ((some (mr M 1 (upd (M 1) ((8 + z8)).toNatClampNeg x3)))))
set_option maxRecDepth 100000 in
set_option maxHeartbeats 4000000 in
theorem i_X10_sets {p : Program} {l : Launch} {e : Env} {s : State} {m : MethodId} {args : Array Value} {below : List Frame} {meth : Method} {c : Code} {D : va_G} {ct : im_ct} {A : Nat → Prop} (X : im_X p (im_rm 1) s m args meth c D ct A RX10 cX10_sets 4 none) (F : Nat) (aM : Nat → Nat) (M : Mem) (LM : MemL) (x1 : Int32) (x2 : Int32) (x3 : Int32) : Im p l e (im_rm 1) s m args below meth c D A 4 (QV D A (fun z : Mem => (cat [w_Model ct aM z LM]))) 0 [(0, .ref (aM 0)), (1, .int x1), (2, .int x2), (3, .int x3)] [] (cat [w_Model ct aM M LM]) (f_X10_sets F M LM x1 x2 x3) := by
  unfold f_X10_sets
  refine im_aload_n X 0 dX10_sets_0 rfl rfl ?_
  refine im_cget X 0 0 (v := .ref (aM 1)) fl_X10_13 rfl rfl rfl dX10_sets_1 ?_
  refine im_bipush X 8 dX10_sets_4 (by decide) ?_
  refine im_iload_n X 1 dX10_sets_6 rfl rfl ?_
  refine im_iload_n X 2 dX10_sets_7 rfl rfl ?_
  refine im_cciS X [.int x1, .int x2] [.int 8, .ref (aM 1)] [w_Model ct aM M LM] [] [] (fun z8 => []) cl_X10_101 (c_X10_cell l D ct F x1 x2) rfl (by decide) (fun _ => rfl) rfl ⟨by decide, by decide⟩ (Nat.le_of_ble_eq_true rfl) rfl dX10_sets_8 (fun z8 => ?_)
  refine im_ws (cat [w_Model ct aM M LM]) rfl ?_
  refine im_iadd X dX10_sets_11 ?_
  refine im_iload_n X 3 dX10_sets_12 rfl rfl ?_
  refine im_ciast X 0 1 0 (wx_Model ct aM (M 0 0) (M 0 4) (M 0 6) (M 0 7) (M 0 8) (M 0 9) (M 0 24) (M 0 27) (M 0 29) (M 0 31) (M 0 32) (M 0 33) (M 0 34) (M 0 35) (upd (M 1) ((8 + z8)).toNatClampNeg x3) (M 2) (M 3) (M 4) (M 5) (M 9) (M 10) (M 11) (M 12) (M 13) (M 14) (M 15) (M 16) (M 17) (M 18) (M 19) (M 20) (M 21) (M 22) (LM 6) (LM 7) (LM 8)) [wx_Model ct aM (M 0 0) (M 0 4) (M 0 6) (M 0 7) (M 0 8) (M 0 9) (M 0 24) (M 0 27) (M 0 29) (M 0 31) (M 0 32) (M 0 33) (M 0 34) (M 0 35) (upd (M 1) ((8 + z8)).toNatClampNeg x3) (M 2) (M 3) (M 4) (M 5) (M 9) (M 10) (M 11) (M 12) (M 13) (M 14) (M 15) (M 16) (M 17) (M 18) (M 19) (M 20) (M 21) (M 22) (LM 6) (LM 7) (LM 8)] (f := (M 1)) rfl rfl rfl rfl rfl dX10_sets_13 ?_
  exact im_return X (mr M 1 (upd (M 1) ((8 + z8)).toNatClampNeg x3)) rfl dX10_sets_14
theorem c_X10_sets (l : Launch) (D : va_G) (ct : im_ct) (F : Nat) (aM : Nat → Nat) (M : Mem) (LM : MemL) (x1 : Int32) (x2 : Int32) (x3 : Int32) : CMv l D ct yX10_sets cX10_sets 4 none 1 [.ref (aM 0), .int x1, .int x2, .int x3] (cat [w_Model ct aM M LM]) (f_X10_sets F M LM x1 x2 x3) (fun z : Mem => (cat [w_Model ct aM z LM])) :=
  im_met (Qb := fun A => QV D A (fun z : Mem => (cat [w_Model ct aM z LM]))) (by decide +kernel) (Nat.le_of_ble_eq_true rfl) (fun p e s m args below meth c A X => i_X10_sets X F aM M LM x1 x2 x3)

noncomputable def f_X10_sumOf_4 (F : Nat) (M : Mem) (LM : MemL) (x1 : Int32) (k35 : Int32 → Option (Int32)) : Nat → Int32 → Int32 → Option (Int32)
  | 0, _, _ => none
  | n + 1, x2, x3 =>
  ck 0 226 ((if ((M 1) (0 : Int32).toNatClampNeg) ≤ x3 then k35 x2 else (f_X10_now F M LM x1 x3).bind (fun z18 => (f_X10_worthOf F M LM x3).bind (fun z23 => f_X10_sumOf_4 F M LM x1 k35 n (x2 + (z18 * z23)) (x3 + 1)))))
set_option maxRecDepth 100000 in
set_option maxHeartbeats 4000000 in
theorem i_X10_sumOf_4 {p : Program} {l : Launch} {e : Env} {s : State} {m : MethodId} {args : Array Value} {below : List Frame} {meth : Method} {c : Code} {D : va_G} {ct : im_ct} {A : Nat → Prop} (X : im_X p (im_rm 2) s m args meth c D ct A RX10 cX10_sumOf 4 (some .int)) (F : Nat) (aM : Nat → Nat) (M : Mem) (LM : MemL) (x1 : Int32) (k35 : Int32 → Option (Int32)) (hk35 : ∀ (x2 : Int32), Im p l e (im_rm 2) s m args below meth c D A 4 (QI D A (fun z : Int32 => z) (fun z : Int32 => (cat [w_Model ct aM M LM]))) 35 [(2, .int x2)] [] (cat [w_Model ct aM M LM]) (k35 x2)) : ∀ (n : Nat) (x2 : Int32) (x3 : Int32), Im p l e (im_rm 2) s m args below meth c D A 4 (QI D A (fun z : Int32 => z) (fun z : Int32 => (cat [w_Model ct aM M LM]))) 4 [(0, .ref (aM 0)), (1, .int x1), (2, .int x2), (3, .int x3)] [] (cat [w_Model ct aM M LM]) (f_X10_sumOf_4 F M LM x1 k35 n x2 x3) := by
  intro n
  induction n with
  | zero => intros; exact im_none
  | succ n ih =>
    intro x2 x3
    unfold f_X10_sumOf_4
    refine im_iload_n X 3 dX10_sumOf_4 rfl rfl ?_
    refine im_aload_n X 0 dX10_sumOf_5 rfl rfl ?_
    refine im_cget X 0 0 (v := .ref (aM 1)) fl_X10_13 rfl rfl rfl dX10_sumOf_6 ?_
    refine im_iconst X 0 dX10_sumOf_9 (by decide) ?_
    refine im_ciald X 0 1 0 (f := (M 1)) rfl rfl rfl dX10_sumOf_10 ?_
    refine im_icmp_ge (tgt := 35) X dX10_sumOf_11 rfl ?_ ?_
    · refine im_lv [2] [(2, .int x2)] rfl ?_
      exact hk35 x2
    · refine im_iload_n X 2 dX10_sumOf_14 rfl rfl ?_
      refine im_aload_n X 0 dX10_sumOf_15 rfl rfl ?_
      refine im_iload_n X 1 dX10_sumOf_16 rfl rfl ?_
      refine im_iload_n X 3 dX10_sumOf_17 rfl rfl ?_
      refine im_cciV X [.int x1, .int x3] [.int x2] [w_Model ct aM M LM] [w_Model ct aM M LM] [0] (fun z18 => [w_Model ct aM M LM]) 0 0 10 rfl rfl rfl cl_X10_105 (c_X10_now l D ct F aM M LM x1 x3) rfl (by decide) (fun _ => lc rfl (rfl)) rfl ⟨by decide, by decide⟩ (Nat.le_of_ble_eq_true rfl) rfl dX10_sumOf_18 (fun z18 => ?_)
      refine im_ws (cat [w_Model ct aM M LM]) rfl ?_
      refine im_aload_n X 0 dX10_sumOf_21 rfl rfl ?_
      refine im_iload_n X 3 dX10_sumOf_22 rfl rfl ?_
      refine im_cciV X [.int x3] [.int z18, .int x2] [w_Model ct aM M LM] [w_Model ct aM M LM] [0] (fun z23 => [w_Model ct aM M LM]) 0 0 10 rfl rfl rfl cl_X10_108 (c_X10_worthOf l D ct F aM M LM x3) rfl (by decide) (fun _ => lc rfl (rfl)) rfl ⟨by decide, by decide⟩ (Nat.le_of_ble_eq_true rfl) rfl dX10_sumOf_23 (fun z23 => ?_)
      refine im_ws (cat [w_Model ct aM M LM]) rfl ?_
      refine im_imul X dX10_sumOf_26 ?_
      refine im_iadd X dX10_sumOf_27 ?_
      refine im_istore_n X [1, 2, 0, 3] [(0, .ref (aM 0)), (1, .int x1), (2, .int (x2 + (z18 * z23))), (3, .int x3)] dX10_sumOf_28 rfl (by decide) rfl ?_
      refine im_iinc X 3 1 [1, 2, 3, 0] [(0, .ref (aM 0)), (1, .int x1), (2, .int (x2 + (z18 * z23))), (3, .int (x3 + 1))] dX10_sumOf_29 (by decide) rfl (by decide) rfl ?_
      refine im_goto (tgt := 4) X dX10_sumOf_32 rfl ?_
      exact ih (x2 + (z18 * z23)) (x3 + 1)
noncomputable def f_X10_sumOf (F : Nat) (M : Mem) (LM : MemL) (x1 : Int32) : Option (Int32) :=
  f_X10_sumOf_4 F M LM x1 (fun x2_35 => (some x2_35)) F 0 0
set_option maxRecDepth 100000 in
set_option maxHeartbeats 4000000 in
theorem i_X10_sumOf {p : Program} {l : Launch} {e : Env} {s : State} {m : MethodId} {args : Array Value} {below : List Frame} {meth : Method} {c : Code} {D : va_G} {ct : im_ct} {A : Nat → Prop} (X : im_X p (im_rm 2) s m args meth c D ct A RX10 cX10_sumOf 4 (some .int)) (F : Nat) (aM : Nat → Nat) (M : Mem) (LM : MemL) (x1 : Int32) : Im p l e (im_rm 2) s m args below meth c D A 4 (QI D A (fun z : Int32 => z) (fun z : Int32 => (cat [w_Model ct aM M LM]))) 0 [(0, .ref (aM 0)), (1, .int x1)] [] (cat [w_Model ct aM M LM]) (f_X10_sumOf F M LM x1) := by
  unfold f_X10_sumOf
  refine im_iconst X 0 dX10_sumOf_0 (by decide) ?_
  refine im_istore_n X [1, 2, 0] [(0, .ref (aM 0)), (1, .int x1), (2, .int 0)] dX10_sumOf_1 rfl (by decide) rfl ?_
  refine im_iconst X 0 dX10_sumOf_2 (by decide) ?_
  refine im_istore_n X [1, 2, 3, 0] [(0, .ref (aM 0)), (1, .int x1), (2, .int 0), (3, .int 0)] dX10_sumOf_3 rfl (by decide) rfl ?_
  refine i_X10_sumOf_4 X F aM M LM x1 _ (fun x2_35 => ?_) F 0 0
  refine im_iload_n X 0 dX10_sumOf_35 rfl rfl ?_
  exact im_ireturn X x2_35 rfl rfl dX10_sumOf_36
theorem c_X10_sumOf (l : Launch) (D : va_G) (ct : im_ct) (F : Nat) (aM : Nat → Nat) (M : Mem) (LM : MemL) (x1 : Int32) : CMi l D ct yX10_sumOf cX10_sumOf 4 (some .int) 2 [.ref (aM 0), .int x1] (cat [w_Model ct aM M LM]) (f_X10_sumOf F M LM x1) (fun z : Int32 => z) (fun z : Int32 => (cat [w_Model ct aM M LM])) :=
  im_met (Qb := fun A => QI D A (fun z : Int32 => z) (fun z : Int32 => (cat [w_Model ct aM M LM]))) (by decide +kernel) (Nat.le_of_ble_eq_true rfl) (fun p e s m args below meth c A X => i_X10_sumOf X F aM M LM x1)

noncomputable def f_X10_countersOf_4 (F : Nat) (M : Mem) (LM : MemL) (x1 : Int32) (k29 : Int32 → Option (Int32)) : Nat → Int32 → Int32 → Option (Int32)
  | 0, _, _ => none
  | n + 1, x2, x3 =>
  ck 0 226 ((if ((M 1) (0 : Int32).toNatClampNeg) ≤ x3 then k29 x2 else (f_X10_now F M LM x1 x3).bind (fun z18 => f_X10_countersOf_4 F M LM x1 k29 n (x2 + z18) (x3 + 1))))
set_option maxRecDepth 100000 in
set_option maxHeartbeats 4000000 in
theorem i_X10_countersOf_4 {p : Program} {l : Launch} {e : Env} {s : State} {m : MethodId} {args : Array Value} {below : List Frame} {meth : Method} {c : Code} {D : va_G} {ct : im_ct} {A : Nat → Prop} (X : im_X p (im_rm 2) s m args meth c D ct A RX10 cX10_countersOf 4 (some .int)) (F : Nat) (aM : Nat → Nat) (M : Mem) (LM : MemL) (x1 : Int32) (k29 : Int32 → Option (Int32)) (hk29 : ∀ (x2 : Int32), Im p l e (im_rm 2) s m args below meth c D A 4 (QI D A (fun z : Int32 => z) (fun z : Int32 => (cat [w_Model ct aM M LM]))) 29 [(2, .int x2)] [] (cat [w_Model ct aM M LM]) (k29 x2)) : ∀ (n : Nat) (x2 : Int32) (x3 : Int32), Im p l e (im_rm 2) s m args below meth c D A 4 (QI D A (fun z : Int32 => z) (fun z : Int32 => (cat [w_Model ct aM M LM]))) 4 [(0, .ref (aM 0)), (1, .int x1), (2, .int x2), (3, .int x3)] [] (cat [w_Model ct aM M LM]) (f_X10_countersOf_4 F M LM x1 k29 n x2 x3) := by
  intro n
  induction n with
  | zero => intros; exact im_none
  | succ n ih =>
    intro x2 x3
    unfold f_X10_countersOf_4
    refine im_iload_n X 3 dX10_countersOf_4 rfl rfl ?_
    refine im_aload_n X 0 dX10_countersOf_5 rfl rfl ?_
    refine im_cget X 0 0 (v := .ref (aM 1)) fl_X10_13 rfl rfl rfl dX10_countersOf_6 ?_
    refine im_iconst X 0 dX10_countersOf_9 (by decide) ?_
    refine im_ciald X 0 1 0 (f := (M 1)) rfl rfl rfl dX10_countersOf_10 ?_
    refine im_icmp_ge (tgt := 29) X dX10_countersOf_11 rfl ?_ ?_
    · refine im_lv [2] [(2, .int x2)] rfl ?_
      exact hk29 x2
    · refine im_iload_n X 2 dX10_countersOf_14 rfl rfl ?_
      refine im_aload_n X 0 dX10_countersOf_15 rfl rfl ?_
      refine im_iload_n X 1 dX10_countersOf_16 rfl rfl ?_
      refine im_iload_n X 3 dX10_countersOf_17 rfl rfl ?_
      refine im_cciV X [.int x1, .int x3] [.int x2] [w_Model ct aM M LM] [w_Model ct aM M LM] [0] (fun z18 => [w_Model ct aM M LM]) 0 0 10 rfl rfl rfl cl_X10_105 (c_X10_now l D ct F aM M LM x1 x3) rfl (by decide) (fun _ => lc rfl (rfl)) rfl ⟨by decide, by decide⟩ (Nat.le_of_ble_eq_true rfl) rfl dX10_countersOf_18 (fun z18 => ?_)
      refine im_ws (cat [w_Model ct aM M LM]) rfl ?_
      refine im_iadd X dX10_countersOf_21 ?_
      refine im_istore_n X [1, 2, 0, 3] [(0, .ref (aM 0)), (1, .int x1), (2, .int (x2 + z18)), (3, .int x3)] dX10_countersOf_22 rfl (by decide) rfl ?_
      refine im_iinc X 3 1 [1, 2, 3, 0] [(0, .ref (aM 0)), (1, .int x1), (2, .int (x2 + z18)), (3, .int (x3 + 1))] dX10_countersOf_23 (by decide) rfl (by decide) rfl ?_
      refine im_goto (tgt := 4) X dX10_countersOf_26 rfl ?_
      exact ih (x2 + z18) (x3 + 1)
noncomputable def f_X10_countersOf (F : Nat) (M : Mem) (LM : MemL) (x1 : Int32) : Option (Int32) :=
  f_X10_countersOf_4 F M LM x1 (fun x2_29 => (some x2_29)) F 0 0
set_option maxRecDepth 100000 in
set_option maxHeartbeats 4000000 in
theorem i_X10_countersOf {p : Program} {l : Launch} {e : Env} {s : State} {m : MethodId} {args : Array Value} {below : List Frame} {meth : Method} {c : Code} {D : va_G} {ct : im_ct} {A : Nat → Prop} (X : im_X p (im_rm 2) s m args meth c D ct A RX10 cX10_countersOf 4 (some .int)) (F : Nat) (aM : Nat → Nat) (M : Mem) (LM : MemL) (x1 : Int32) : Im p l e (im_rm 2) s m args below meth c D A 4 (QI D A (fun z : Int32 => z) (fun z : Int32 => (cat [w_Model ct aM M LM]))) 0 [(0, .ref (aM 0)), (1, .int x1)] [] (cat [w_Model ct aM M LM]) (f_X10_countersOf F M LM x1) := by
  unfold f_X10_countersOf
  refine im_iconst X 0 dX10_countersOf_0 (by decide) ?_
  refine im_istore_n X [1, 2, 0] [(0, .ref (aM 0)), (1, .int x1), (2, .int 0)] dX10_countersOf_1 rfl (by decide) rfl ?_
  refine im_iconst X 0 dX10_countersOf_2 (by decide) ?_
  refine im_istore_n X [1, 2, 3, 0] [(0, .ref (aM 0)), (1, .int x1), (2, .int 0), (3, .int 0)] dX10_countersOf_3 rfl (by decide) rfl ?_
  refine i_X10_countersOf_4 X F aM M LM x1 _ (fun x2_29 => ?_) F 0 0
  refine im_iload_n X 0 dX10_countersOf_29 rfl rfl ?_
  exact im_ireturn X x2_29 rfl rfl dX10_countersOf_30
theorem c_X10_countersOf (l : Launch) (D : va_G) (ct : im_ct) (F : Nat) (aM : Nat → Nat) (M : Mem) (LM : MemL) (x1 : Int32) : CMi l D ct yX10_countersOf cX10_countersOf 4 (some .int) 2 [.ref (aM 0), .int x1] (cat [w_Model ct aM M LM]) (f_X10_countersOf F M LM x1) (fun z : Int32 => z) (fun z : Int32 => (cat [w_Model ct aM M LM])) :=
  im_met (Qb := fun A => QI D A (fun z : Int32 => z) (fun z : Int32 => (cat [w_Model ct aM M LM]))) (by decide +kernel) (Nat.le_of_ble_eq_true rfl) (fun p e s m args below meth c A X => i_X10_countersOf X F aM M LM x1)

noncomputable def f_X10_anew_2 (F : Nat) (LM : MemL) (k32 : Mem → Option (Mem)) : Nat → Mem → Int32 → Option (Mem)
  | 0, _, _ => none
  | n + 1, M, x1 =>
  (if 24 ≤ x1 then k32 M else ck (8 + x1) 226 (ck (32 + x1) 226 (f_X10_anew_2 F LM k32 n (mr M 1 (upd (M 1) ((32 + x1)).toNatClampNeg ((M 1) ((8 + x1)).toNatClampNeg))) (x1 + 1))))
set_option maxRecDepth 100000 in
set_option maxHeartbeats 4000000 in
theorem i_X10_anew_2 {p : Program} {l : Launch} {e : Env} {s : State} {m : MethodId} {args : Array Value} {below : List Frame} {meth : Method} {c : Code} {D : va_G} {ct : im_ct} {A : Nat → Prop} (X : im_X p (im_rm 0) s m args meth c D ct A RX10 cX10_anew 2 none) (F : Nat) (aM : Nat → Nat) (LM : MemL) (k32 : Mem → Option (Mem)) (hk32 : ∀ (M : Mem), Im p l e (im_rm 0) s m args below meth c D A 2 (QV D A (fun z : Mem => (cat [w_Model ct aM z LM]))) 32 [(0, .ref (aM 0))] [] (cat [w_Model ct aM M LM]) (k32 M)) : ∀ (n : Nat) (M : Mem) (x1 : Int32), Im p l e (im_rm 0) s m args below meth c D A 2 (QV D A (fun z : Mem => (cat [w_Model ct aM z LM]))) 2 [(0, .ref (aM 0)), (1, .int x1)] [] (cat [w_Model ct aM M LM]) (f_X10_anew_2 F LM k32 n M x1) := by
  intro n
  induction n with
  | zero => intros; exact im_none
  | succ n ih =>
    intro M x1
    unfold f_X10_anew_2
    refine im_iload_n X 1 dX10_anew_2 rfl rfl ?_
    refine im_bipush X 24 dX10_anew_3 (by decide) ?_
    refine im_icmp_ge (tgt := 32) X dX10_anew_5 rfl ?_ ?_
    · refine im_lv [0] [(0, .ref (aM 0))] rfl ?_
      exact hk32 M
    · refine im_aload_n X 0 dX10_anew_8 rfl rfl ?_
      refine im_cget X 0 0 (v := .ref (aM 1)) fl_X10_13 rfl rfl rfl dX10_anew_9 ?_
      refine im_bipush X 32 dX10_anew_12 (by decide) ?_
      refine im_iload_n X 1 dX10_anew_14 rfl rfl ?_
      refine im_iadd X dX10_anew_15 ?_
      refine im_aload_n X 0 dX10_anew_16 rfl rfl ?_
      refine im_cget X 0 0 (v := .ref (aM 1)) fl_X10_13 rfl rfl rfl dX10_anew_17 ?_
      refine im_bipush X 8 dX10_anew_20 (by decide) ?_
      refine im_iload_n X 1 dX10_anew_22 rfl rfl ?_
      refine im_iadd X dX10_anew_23 ?_
      refine im_ciald X 0 1 0 (f := (M 1)) rfl rfl rfl dX10_anew_24 ?_
      refine im_ciast X 0 1 0 (wx_Model ct aM (M 0 0) (M 0 4) (M 0 6) (M 0 7) (M 0 8) (M 0 9) (M 0 24) (M 0 27) (M 0 29) (M 0 31) (M 0 32) (M 0 33) (M 0 34) (M 0 35) (upd (M 1) ((32 + x1)).toNatClampNeg ((M 1) ((8 + x1)).toNatClampNeg)) (M 2) (M 3) (M 4) (M 5) (M 9) (M 10) (M 11) (M 12) (M 13) (M 14) (M 15) (M 16) (M 17) (M 18) (M 19) (M 20) (M 21) (M 22) (LM 6) (LM 7) (LM 8)) [wx_Model ct aM (M 0 0) (M 0 4) (M 0 6) (M 0 7) (M 0 8) (M 0 9) (M 0 24) (M 0 27) (M 0 29) (M 0 31) (M 0 32) (M 0 33) (M 0 34) (M 0 35) (upd (M 1) ((32 + x1)).toNatClampNeg ((M 1) ((8 + x1)).toNatClampNeg)) (M 2) (M 3) (M 4) (M 5) (M 9) (M 10) (M 11) (M 12) (M 13) (M 14) (M 15) (M 16) (M 17) (M 18) (M 19) (M 20) (M 21) (M 22) (LM 6) (LM 7) (LM 8)] (f := (M 1)) rfl rfl rfl rfl rfl dX10_anew_25 ?_
      refine im_iinc X 1 1 [1, 0] [(0, .ref (aM 0)), (1, .int (x1 + 1))] dX10_anew_26 (by decide) rfl (by decide) rfl ?_
      refine im_goto (tgt := 2) X dX10_anew_29 rfl ?_
      exact ih (mr M 1 (upd (M 1) ((32 + x1)).toNatClampNeg ((M 1) ((8 + x1)).toNatClampNeg))) (x1 + 1)
noncomputable def f_X10_anew_35 (F : Nat) (LM : MemL) (k55 : Mem → Option (Mem)) : Nat → Mem → Int32 → Option (Mem)
  | 0, _, _ => none
  | n + 1, M, x1 =>
  (if 226 ≤ x1 then k55 M else ck x1 226 (f_X10_anew_35 F LM k55 n (mr M 1 (upd (M 1) x1.toNatClampNeg 0)) (x1 + 1)))
set_option maxRecDepth 100000 in
set_option maxHeartbeats 4000000 in
theorem i_X10_anew_35 {p : Program} {l : Launch} {e : Env} {s : State} {m : MethodId} {args : Array Value} {below : List Frame} {meth : Method} {c : Code} {D : va_G} {ct : im_ct} {A : Nat → Prop} (X : im_X p (im_rm 0) s m args meth c D ct A RX10 cX10_anew 2 none) (F : Nat) (aM : Nat → Nat) (LM : MemL) (k55 : Mem → Option (Mem)) (hk55 : ∀ (M : Mem), Im p l e (im_rm 0) s m args below meth c D A 2 (QV D A (fun z : Mem => (cat [w_Model ct aM z LM]))) 55 [] [] (cat [w_Model ct aM M LM]) (k55 M)) : ∀ (n : Nat) (M : Mem) (x1 : Int32), Im p l e (im_rm 0) s m args below meth c D A 2 (QV D A (fun z : Mem => (cat [w_Model ct aM z LM]))) 35 [(0, .ref (aM 0)), (1, .int x1)] [] (cat [w_Model ct aM M LM]) (f_X10_anew_35 F LM k55 n M x1) := by
  intro n
  induction n with
  | zero => intros; exact im_none
  | succ n ih =>
    intro M x1
    unfold f_X10_anew_35
    refine im_iload_n X 1 dX10_anew_35 rfl rfl ?_
    refine im_sipush X 226 dX10_anew_36 (by decide) ?_
    refine im_icmp_ge (tgt := 55) X dX10_anew_39 rfl ?_ ?_
    · refine im_lv [] [] rfl ?_
      exact hk55 M
    · refine im_aload_n X 0 dX10_anew_42 rfl rfl ?_
      refine im_cget X 0 0 (v := .ref (aM 1)) fl_X10_13 rfl rfl rfl dX10_anew_43 ?_
      refine im_iload_n X 1 dX10_anew_46 rfl rfl ?_
      refine im_iconst X 0 dX10_anew_47 (by decide) ?_
      refine im_ciast X 0 1 0 (wx_Model ct aM (M 0 0) (M 0 4) (M 0 6) (M 0 7) (M 0 8) (M 0 9) (M 0 24) (M 0 27) (M 0 29) (M 0 31) (M 0 32) (M 0 33) (M 0 34) (M 0 35) (upd (M 1) x1.toNatClampNeg 0) (M 2) (M 3) (M 4) (M 5) (M 9) (M 10) (M 11) (M 12) (M 13) (M 14) (M 15) (M 16) (M 17) (M 18) (M 19) (M 20) (M 21) (M 22) (LM 6) (LM 7) (LM 8)) [wx_Model ct aM (M 0 0) (M 0 4) (M 0 6) (M 0 7) (M 0 8) (M 0 9) (M 0 24) (M 0 27) (M 0 29) (M 0 31) (M 0 32) (M 0 33) (M 0 34) (M 0 35) (upd (M 1) x1.toNatClampNeg 0) (M 2) (M 3) (M 4) (M 5) (M 9) (M 10) (M 11) (M 12) (M 13) (M 14) (M 15) (M 16) (M 17) (M 18) (M 19) (M 20) (M 21) (M 22) (LM 6) (LM 7) (LM 8)] (f := (M 1)) rfl rfl rfl rfl rfl dX10_anew_48 ?_
      refine im_iinc X 1 1 [1, 0] [(0, .ref (aM 0)), (1, .int (x1 + 1))] dX10_anew_49 (by decide) rfl (by decide) rfl ?_
      refine im_goto (tgt := 35) X dX10_anew_52 rfl ?_
      exact ih (mr M 1 (upd (M 1) x1.toNatClampNeg 0)) (x1 + 1)
noncomputable def f_X10_anew (F : Nat) (M : Mem) (LM : MemL) : Option (Mem) :=
  f_X10_anew_2 F LM (fun M_32 => f_X10_anew_35 F LM (fun M_55 => (some M_55)) F M_32 56) F M 0
set_option maxRecDepth 100000 in
set_option maxHeartbeats 4000000 in
theorem i_X10_anew {p : Program} {l : Launch} {e : Env} {s : State} {m : MethodId} {args : Array Value} {below : List Frame} {meth : Method} {c : Code} {D : va_G} {ct : im_ct} {A : Nat → Prop} (X : im_X p (im_rm 0) s m args meth c D ct A RX10 cX10_anew 2 none) (F : Nat) (aM : Nat → Nat) (M : Mem) (LM : MemL) : Im p l e (im_rm 0) s m args below meth c D A 2 (QV D A (fun z : Mem => (cat [w_Model ct aM z LM]))) 0 [(0, .ref (aM 0))] [] (cat [w_Model ct aM M LM]) (f_X10_anew F M LM) := by
  unfold f_X10_anew
  refine im_iconst X 0 dX10_anew_0 (by decide) ?_
  refine im_istore_n X [1, 0] [(0, .ref (aM 0)), (1, .int 0)] dX10_anew_1 rfl (by decide) rfl ?_
  refine i_X10_anew_2 X F aM LM  _ (fun M_32 => ?_) F M 0
  refine im_bipush X 56 dX10_anew_32 (by decide) ?_
  refine im_istore_n X [1, 0] [(0, .ref (aM 0)), (1, .int 56)] dX10_anew_34 rfl (by decide) rfl ?_
  refine i_X10_anew_35 X F aM LM  _ (fun M_55 => ?_) F M_32 56
  exact im_return X M_55 rfl dX10_anew_55
theorem c_X10_anew (l : Launch) (D : va_G) (ct : im_ct) (F : Nat) (aM : Nat → Nat) (M : Mem) (LM : MemL) : CMv l D ct yX10_anew cX10_anew 2 none 0 [.ref (aM 0)] (cat [w_Model ct aM M LM]) (f_X10_anew F M LM) (fun z : Mem => (cat [w_Model ct aM z LM])) :=
  im_met (Qb := fun A => QV D A (fun z : Mem => (cat [w_Model ct aM z LM]))) (by decide +kernel) (Nat.le_of_ble_eq_true rfl) (fun p e s m args below meth c A X => i_X10_anew X F aM M LM)

noncomputable def f_X10_column_44 (F : Nat) (M : Mem) (LM : MemL) (x1 : Int32) : Option (Int32 × Mem) :=
  (f_X10_keeps F M LM).bind (fun z45 => ck 0 226 (ck (2 + ((z45 1) (0 : Int32).toNatClampNeg)) 226 (ck 0 226 (ck 0 226 ((f_X10_anew F (mr z45 1 (upd (upd (z45 1) ((2 + ((z45 1) (0 : Int32).toNatClampNeg))).toNatClampNeg x1) (0 : Int32).toNatClampNeg (((upd (z45 1) ((2 + ((z45 1) (0 : Int32).toNatClampNeg))).toNatClampNeg x1) (0 : Int32).toNatClampNeg) + 1))) LM).bind (fun z73 => ck 0 226 ((some ((((z73 1) (0 : Int32).toNatClampNeg) - 1), z73)))))))))
set_option maxRecDepth 100000 in
set_option maxHeartbeats 4000000 in
theorem i_X10_column_44 {p : Program} {l : Launch} {e : Env} {s : State} {m : MethodId} {args : Array Value} {below : List Frame} {meth : Method} {c : Code} {D : va_G} {ct : im_ct} {A : Nat → Prop} (X : im_X p (im_rm 1) s m args meth c D ct A RX10 cX10_column 2 (some .int)) (F : Nat) (aM : Nat → Nat) (M : Mem) (LM : MemL) (x1 : Int32) : Im p l e (im_rm 1) s m args below meth c D A 2 (QI D A (fun z : Int32 × Mem => z.1) (fun z : Int32 × Mem => (cat [w_Model ct aM z.2 LM]))) 44 [(0, .ref (aM 0)), (1, .int x1)] [] (cat [w_Model ct aM M LM]) (f_X10_column_44 F M LM x1) := by
  unfold f_X10_column_44
  refine im_aload_n X 0 dX10_column_44 rfl rfl ?_
  refine im_ccvV X [] [] [w_Model ct aM M LM] [w_Model ct aM M LM] [0] (fun z45 => [w_Model ct aM z45 LM]) 0 0 10 rfl rfl rfl cl_X10_115 (c_X10_keeps l D ct F aM M LM) rfl (by decide) (fun _ => lc fa_Model (rfl)) rfl ⟨by decide, by decide⟩ (Nat.le_of_ble_eq_true rfl) rfl dX10_column_45 (fun z45 => ?_)
  refine im_ws (cat [w_Model ct aM z45 LM]) rfl ?_
  refine im_aload_n X 0 dX10_column_48 rfl rfl ?_
  refine im_cget X 0 0 (v := .ref (aM 1)) fl_X10_13 rfl rfl rfl dX10_column_49 ?_
  refine im_iconst X 2 dX10_column_52 (by decide) ?_
  refine im_aload_n X 0 dX10_column_53 rfl rfl ?_
  refine im_cget X 0 0 (v := .ref (aM 1)) fl_X10_13 rfl rfl rfl dX10_column_54 ?_
  refine im_iconst X 0 dX10_column_57 (by decide) ?_
  refine im_ciald X 0 1 0 (f := (z45 1)) rfl rfl rfl dX10_column_58 ?_
  refine im_iadd X dX10_column_59 ?_
  refine im_iload_n X 1 dX10_column_60 rfl rfl ?_
  refine im_ciast X 0 1 0 (wx_Model ct aM (z45 0 0) (z45 0 4) (z45 0 6) (z45 0 7) (z45 0 8) (z45 0 9) (z45 0 24) (z45 0 27) (z45 0 29) (z45 0 31) (z45 0 32) (z45 0 33) (z45 0 34) (z45 0 35) (upd (z45 1) ((2 + ((z45 1) (0 : Int32).toNatClampNeg))).toNatClampNeg x1) (z45 2) (z45 3) (z45 4) (z45 5) (z45 9) (z45 10) (z45 11) (z45 12) (z45 13) (z45 14) (z45 15) (z45 16) (z45 17) (z45 18) (z45 19) (z45 20) (z45 21) (z45 22) (LM 6) (LM 7) (LM 8)) [wx_Model ct aM (z45 0 0) (z45 0 4) (z45 0 6) (z45 0 7) (z45 0 8) (z45 0 9) (z45 0 24) (z45 0 27) (z45 0 29) (z45 0 31) (z45 0 32) (z45 0 33) (z45 0 34) (z45 0 35) (upd (z45 1) ((2 + ((z45 1) (0 : Int32).toNatClampNeg))).toNatClampNeg x1) (z45 2) (z45 3) (z45 4) (z45 5) (z45 9) (z45 10) (z45 11) (z45 12) (z45 13) (z45 14) (z45 15) (z45 16) (z45 17) (z45 18) (z45 19) (z45 20) (z45 21) (z45 22) (LM 6) (LM 7) (LM 8)] (f := (z45 1)) rfl rfl rfl rfl rfl dX10_column_61 ?_
  refine im_aload_n X 0 dX10_column_62 rfl rfl ?_
  refine im_cget X 0 0 (v := .ref (aM 1)) fl_X10_13 rfl rfl rfl dX10_column_63 ?_
  refine im_iconst X 0 dX10_column_66 (by decide) ?_
  refine im_dup2_11 X rfl rfl dX10_column_67 ?_
  refine im_ciald X 0 1 0 (f := (upd (z45 1) ((2 + ((z45 1) (0 : Int32).toNatClampNeg))).toNatClampNeg x1)) rfl rfl rfl dX10_column_68 ?_
  refine im_iconst X 1 dX10_column_69 (by decide) ?_
  refine im_iadd X dX10_column_70 ?_
  refine im_ciast X 0 1 0 (wx_Model ct aM (z45 0 0) (z45 0 4) (z45 0 6) (z45 0 7) (z45 0 8) (z45 0 9) (z45 0 24) (z45 0 27) (z45 0 29) (z45 0 31) (z45 0 32) (z45 0 33) (z45 0 34) (z45 0 35) (upd (upd (z45 1) ((2 + ((z45 1) (0 : Int32).toNatClampNeg))).toNatClampNeg x1) (0 : Int32).toNatClampNeg (((upd (z45 1) ((2 + ((z45 1) (0 : Int32).toNatClampNeg))).toNatClampNeg x1) (0 : Int32).toNatClampNeg) + 1)) (z45 2) (z45 3) (z45 4) (z45 5) (z45 9) (z45 10) (z45 11) (z45 12) (z45 13) (z45 14) (z45 15) (z45 16) (z45 17) (z45 18) (z45 19) (z45 20) (z45 21) (z45 22) (LM 6) (LM 7) (LM 8)) [wx_Model ct aM (z45 0 0) (z45 0 4) (z45 0 6) (z45 0 7) (z45 0 8) (z45 0 9) (z45 0 24) (z45 0 27) (z45 0 29) (z45 0 31) (z45 0 32) (z45 0 33) (z45 0 34) (z45 0 35) (upd (upd (z45 1) ((2 + ((z45 1) (0 : Int32).toNatClampNeg))).toNatClampNeg x1) (0 : Int32).toNatClampNeg (((upd (z45 1) ((2 + ((z45 1) (0 : Int32).toNatClampNeg))).toNatClampNeg x1) (0 : Int32).toNatClampNeg) + 1)) (z45 2) (z45 3) (z45 4) (z45 5) (z45 9) (z45 10) (z45 11) (z45 12) (z45 13) (z45 14) (z45 15) (z45 16) (z45 17) (z45 18) (z45 19) (z45 20) (z45 21) (z45 22) (LM 6) (LM 7) (LM 8)] (f := (upd (z45 1) ((2 + ((z45 1) (0 : Int32).toNatClampNeg))).toNatClampNeg x1)) rfl rfl rfl rfl rfl dX10_column_71 ?_
  refine im_aload_n X 0 dX10_column_72 rfl rfl ?_
  refine im_ccvV X [] [] [wx_Model ct aM (z45 0 0) (z45 0 4) (z45 0 6) (z45 0 7) (z45 0 8) (z45 0 9) (z45 0 24) (z45 0 27) (z45 0 29) (z45 0 31) (z45 0 32) (z45 0 33) (z45 0 34) (z45 0 35) (upd (upd (z45 1) ((2 + ((z45 1) (0 : Int32).toNatClampNeg))).toNatClampNeg x1) (0 : Int32).toNatClampNeg (((upd (z45 1) ((2 + ((z45 1) (0 : Int32).toNatClampNeg))).toNatClampNeg x1) (0 : Int32).toNatClampNeg) + 1)) (z45 2) (z45 3) (z45 4) (z45 5) (z45 9) (z45 10) (z45 11) (z45 12) (z45 13) (z45 14) (z45 15) (z45 16) (z45 17) (z45 18) (z45 19) (z45 20) (z45 21) (z45 22) (LM 6) (LM 7) (LM 8)] [w_Model ct aM (mr z45 1 (upd (upd (z45 1) ((2 + ((z45 1) (0 : Int32).toNatClampNeg))).toNatClampNeg x1) (0 : Int32).toNatClampNeg (((upd (z45 1) ((2 + ((z45 1) (0 : Int32).toNatClampNeg))).toNatClampNeg x1) (0 : Int32).toNatClampNeg) + 1))) LM] [0] (fun z73 => [w_Model ct aM z73 LM]) 0 0 10 rfl rfl rfl cl_X10_118 (c_X10_anew l D ct F aM (mr z45 1 (upd (upd (z45 1) ((2 + ((z45 1) (0 : Int32).toNatClampNeg))).toNatClampNeg x1) (0 : Int32).toNatClampNeg (((upd (z45 1) ((2 + ((z45 1) (0 : Int32).toNatClampNeg))).toNatClampNeg x1) (0 : Int32).toNatClampNeg) + 1))) LM) rfl (by decide) (fun _ => lc fa_Model (rfl)) rfl ⟨by decide, by decide⟩ (Nat.le_of_ble_eq_true rfl) rfl dX10_column_73 (fun z73 => ?_)
  refine im_ws (cat [w_Model ct aM z73 LM]) rfl ?_
  refine im_aload_n X 0 dX10_column_76 rfl rfl ?_
  refine im_cget X 0 0 (v := .ref (aM 1)) fl_X10_13 rfl rfl rfl dX10_column_77 ?_
  refine im_iconst X 0 dX10_column_80 (by decide) ?_
  refine im_ciald X 0 1 0 (f := (z73 1)) rfl rfl rfl dX10_column_81 ?_
  refine im_iconst X 1 dX10_column_82 (by decide) ?_
  refine im_isub X dX10_column_83 ?_
  exact im_ireturn X ((((z73 1) (0 : Int32).toNatClampNeg) - 1), z73) rfl rfl dX10_column_84
noncomputable def f_X10_column (F : Nat) (M : Mem) (LM : MemL) (x1 : Int32) : Option (Int32 × Mem) :=
  ck 0 226 ((if ((M 1) (0 : Int32).toNatClampNeg) = 6 then (some ((-1), M)) else ck 0 226 ((if ((M 1) (0 : Int32).toNatClampNeg) = 0 then (if x1 = 1 then f_X10_column_44 F M LM x1 else (some ((-1), M))) else (f_X10_in F (x1).toInt64 2 20).bind (fun z36 => (if z36 = 0 then (some ((-1), M)) else f_X10_column_44 F M LM x1))))))
set_option maxRecDepth 100000 in
set_option maxHeartbeats 4000000 in
theorem i_X10_column {p : Program} {l : Launch} {e : Env} {s : State} {m : MethodId} {args : Array Value} {below : List Frame} {meth : Method} {c : Code} {D : va_G} {ct : im_ct} {A : Nat → Prop} (X : im_X p (im_rm 1) s m args meth c D ct A RX10 cX10_column 2 (some .int)) (F : Nat) (aM : Nat → Nat) (M : Mem) (LM : MemL) (x1 : Int32) : Im p l e (im_rm 1) s m args below meth c D A 2 (QI D A (fun z : Int32 × Mem => z.1) (fun z : Int32 × Mem => (cat [w_Model ct aM z.2 LM]))) 0 [(0, .ref (aM 0)), (1, .int x1)] [] (cat [w_Model ct aM M LM]) (f_X10_column F M LM x1) := by
  unfold f_X10_column
  refine im_aload_n X 0 dX10_column_0 rfl rfl ?_
  refine im_cget X 0 0 (v := .ref (aM 1)) fl_X10_13 rfl rfl rfl dX10_column_1 ?_
  refine im_iconst X 0 dX10_column_4 (by decide) ?_
  refine im_ciald X 0 1 0 (f := (M 1)) rfl rfl rfl dX10_column_5 ?_
  refine im_bipush X 6 dX10_column_6 (by decide) ?_
  refine im_icmp_eq (tgt := 42) X dX10_column_8 rfl ?_ ?_
  · refine im_iconst X (-1) dX10_column_42 (by decide) ?_
    exact im_ireturn X ((-1), M) rfl rfl dX10_column_43
  · refine im_aload_n X 0 dX10_column_11 rfl rfl ?_
    refine im_cget X 0 0 (v := .ref (aM 1)) fl_X10_13 rfl rfl rfl dX10_column_12 ?_
    refine im_iconst X 0 dX10_column_15 (by decide) ?_
    refine im_ciald X 0 1 0 (f := (M 1)) rfl rfl rfl dX10_column_16 ?_
    refine im_if_ne (tgt := 28) X dX10_column_17 rfl ?_ ?_
    · refine im_iload_n X 1 dX10_column_28 rfl rfl ?_
      refine im_i2l X dX10_column_29 ?_
      refine im_ldc2 X kc_X10_111 dX10_column_30 ?_
      refine im_ldc2 X kc_X10_113 dX10_column_33 ?_
      refine im_cciS X [.long (x1).toInt64, .long 2, .long 20] [] [w_Model ct aM M LM] [] [] (fun z36 => []) cl_X10_86 (c_X10_in l D ct F (x1).toInt64 2 20) rfl (by decide) (fun _ => rfl) rfl ⟨by decide, by decide⟩ (Nat.le_of_ble_eq_true rfl) rfl dX10_column_36 (fun z36 => ?_)
      refine im_ws (cat [w_Model ct aM M LM]) rfl ?_
      refine im_if_ne (tgt := 44) X dX10_column_39 rfl ?_ ?_
      · exact i_X10_column_44 X F aM M LM x1 
      · refine im_iconst X (-1) dX10_column_42 (by decide) ?_
        exact im_ireturn X ((-1), M) rfl rfl dX10_column_43
    · refine im_iload_n X 1 dX10_column_20 rfl rfl ?_
      refine im_iconst X 1 dX10_column_21 (by decide) ?_
      refine im_icmp_ne (tgt := 42) X dX10_column_22 rfl ?_ ?_
      · refine im_iconst X (-1) dX10_column_42 (by decide) ?_
        exact im_ireturn X ((-1), M) rfl rfl dX10_column_43
      · refine im_goto (tgt := 44) X dX10_column_25 rfl ?_
        exact i_X10_column_44 X F aM M LM x1 
theorem c_X10_column (l : Launch) (D : va_G) (ct : im_ct) (F : Nat) (aM : Nat → Nat) (M : Mem) (LM : MemL) (x1 : Int32) : CMi l D ct yX10_column cX10_column 2 (some .int) 1 [.ref (aM 0), .int x1] (cat [w_Model ct aM M LM]) (f_X10_column F M LM x1) (fun z : Int32 × Mem => z.1) (fun z : Int32 × Mem => (cat [w_Model ct aM z.2 LM])) :=
  im_met (Qb := fun A => QI D A (fun z : Int32 × Mem => z.1) (fun z : Int32 × Mem => (cat [w_Model ct aM z.2 LM]))) (by decide +kernel) (Nat.le_of_ble_eq_true rfl) (fun p e s m args below meth c A X => i_X10_column X F aM M LM x1)

noncomputable def f_X10_row (F : Nat) (M : Mem) (LM : MemL) : Option (Int32 × Mem) :=
  ck 1 226 ((if ((M 1) (1 : Int32).toNatClampNeg) = 4 then (some ((-1), M)) else ck 0 226 ((if ((M 1) (0 : Int32).toNatClampNeg) = 0 then (some ((-1), M)) else (f_X10_keeps F M LM).bind (fun z22 => ck 1 226 (ck 1 226 ((f_X10_anew F (mr z22 1 (upd (z22 1) (1 : Int32).toNatClampNeg (((z22 1) (1 : Int32).toNatClampNeg) + 1))) LM).bind (fun z36 => ck 1 226 ((some ((((z36 1) (1 : Int32).toNatClampNeg) - 1), z36)))))))))))
set_option maxRecDepth 100000 in
set_option maxHeartbeats 4000000 in
theorem i_X10_row {p : Program} {l : Launch} {e : Env} {s : State} {m : MethodId} {args : Array Value} {below : List Frame} {meth : Method} {c : Code} {D : va_G} {ct : im_ct} {A : Nat → Prop} (X : im_X p (im_rm 1) s m args meth c D ct A RX10 cX10_row 1 (some .int)) (F : Nat) (aM : Nat → Nat) (M : Mem) (LM : MemL) : Im p l e (im_rm 1) s m args below meth c D A 1 (QI D A (fun z : Int32 × Mem => z.1) (fun z : Int32 × Mem => (cat [w_Model ct aM z.2 LM]))) 0 [(0, .ref (aM 0))] [] (cat [w_Model ct aM M LM]) (f_X10_row F M LM) := by
  unfold f_X10_row
  refine im_aload_n X 0 dX10_row_0 rfl rfl ?_
  refine im_cget X 0 0 (v := .ref (aM 1)) fl_X10_13 rfl rfl rfl dX10_row_1 ?_
  refine im_iconst X 1 dX10_row_4 (by decide) ?_
  refine im_ciald X 0 1 0 (f := (M 1)) rfl rfl rfl dX10_row_5 ?_
  refine im_iconst X 4 dX10_row_6 (by decide) ?_
  refine im_icmp_eq (tgt := 19) X dX10_row_7 rfl ?_ ?_
  · refine im_iconst X (-1) dX10_row_19 (by decide) ?_
    exact im_ireturn X ((-1), M) rfl rfl dX10_row_20
  · refine im_aload_n X 0 dX10_row_10 rfl rfl ?_
    refine im_cget X 0 0 (v := .ref (aM 1)) fl_X10_13 rfl rfl rfl dX10_row_11 ?_
    refine im_iconst X 0 dX10_row_14 (by decide) ?_
    refine im_ciald X 0 1 0 (f := (M 1)) rfl rfl rfl dX10_row_15 ?_
    refine im_if_ne (tgt := 21) X dX10_row_16 rfl ?_ ?_
    · refine im_aload_n X 0 dX10_row_21 rfl rfl ?_
      refine im_ccvV X [] [] [w_Model ct aM M LM] [w_Model ct aM M LM] [0] (fun z22 => [w_Model ct aM z22 LM]) 0 0 10 rfl rfl rfl cl_X10_115 (c_X10_keeps l D ct F aM M LM) rfl (by decide) (fun _ => lc fa_Model (rfl)) rfl ⟨by decide, by decide⟩ (Nat.le_of_ble_eq_true rfl) rfl dX10_row_22 (fun z22 => ?_)
      refine im_ws (cat [w_Model ct aM z22 LM]) rfl ?_
      refine im_aload_n X 0 dX10_row_25 rfl rfl ?_
      refine im_cget X 0 0 (v := .ref (aM 1)) fl_X10_13 rfl rfl rfl dX10_row_26 ?_
      refine im_iconst X 1 dX10_row_29 (by decide) ?_
      refine im_dup2_11 X rfl rfl dX10_row_30 ?_
      refine im_ciald X 0 1 0 (f := (z22 1)) rfl rfl rfl dX10_row_31 ?_
      refine im_iconst X 1 dX10_row_32 (by decide) ?_
      refine im_iadd X dX10_row_33 ?_
      refine im_ciast X 0 1 0 (wx_Model ct aM (z22 0 0) (z22 0 4) (z22 0 6) (z22 0 7) (z22 0 8) (z22 0 9) (z22 0 24) (z22 0 27) (z22 0 29) (z22 0 31) (z22 0 32) (z22 0 33) (z22 0 34) (z22 0 35) (upd (z22 1) (1 : Int32).toNatClampNeg (((z22 1) (1 : Int32).toNatClampNeg) + 1)) (z22 2) (z22 3) (z22 4) (z22 5) (z22 9) (z22 10) (z22 11) (z22 12) (z22 13) (z22 14) (z22 15) (z22 16) (z22 17) (z22 18) (z22 19) (z22 20) (z22 21) (z22 22) (LM 6) (LM 7) (LM 8)) [wx_Model ct aM (z22 0 0) (z22 0 4) (z22 0 6) (z22 0 7) (z22 0 8) (z22 0 9) (z22 0 24) (z22 0 27) (z22 0 29) (z22 0 31) (z22 0 32) (z22 0 33) (z22 0 34) (z22 0 35) (upd (z22 1) (1 : Int32).toNatClampNeg (((z22 1) (1 : Int32).toNatClampNeg) + 1)) (z22 2) (z22 3) (z22 4) (z22 5) (z22 9) (z22 10) (z22 11) (z22 12) (z22 13) (z22 14) (z22 15) (z22 16) (z22 17) (z22 18) (z22 19) (z22 20) (z22 21) (z22 22) (LM 6) (LM 7) (LM 8)] (f := (z22 1)) rfl rfl rfl rfl rfl dX10_row_34 ?_
      refine im_aload_n X 0 dX10_row_35 rfl rfl ?_
      refine im_ccvV X [] [] [wx_Model ct aM (z22 0 0) (z22 0 4) (z22 0 6) (z22 0 7) (z22 0 8) (z22 0 9) (z22 0 24) (z22 0 27) (z22 0 29) (z22 0 31) (z22 0 32) (z22 0 33) (z22 0 34) (z22 0 35) (upd (z22 1) (1 : Int32).toNatClampNeg (((z22 1) (1 : Int32).toNatClampNeg) + 1)) (z22 2) (z22 3) (z22 4) (z22 5) (z22 9) (z22 10) (z22 11) (z22 12) (z22 13) (z22 14) (z22 15) (z22 16) (z22 17) (z22 18) (z22 19) (z22 20) (z22 21) (z22 22) (LM 6) (LM 7) (LM 8)] [w_Model ct aM (mr z22 1 (upd (z22 1) (1 : Int32).toNatClampNeg (((z22 1) (1 : Int32).toNatClampNeg) + 1))) LM] [0] (fun z36 => [w_Model ct aM z36 LM]) 0 0 10 rfl rfl rfl cl_X10_118 (c_X10_anew l D ct F aM (mr z22 1 (upd (z22 1) (1 : Int32).toNatClampNeg (((z22 1) (1 : Int32).toNatClampNeg) + 1))) LM) rfl (by decide) (fun _ => lc fa_Model (rfl)) rfl ⟨by decide, by decide⟩ (Nat.le_of_ble_eq_true rfl) rfl dX10_row_36 (fun z36 => ?_)
      refine im_ws (cat [w_Model ct aM z36 LM]) rfl ?_
      refine im_aload_n X 0 dX10_row_39 rfl rfl ?_
      refine im_cget X 0 0 (v := .ref (aM 1)) fl_X10_13 rfl rfl rfl dX10_row_40 ?_
      refine im_iconst X 1 dX10_row_43 (by decide) ?_
      refine im_ciald X 0 1 0 (f := (z36 1)) rfl rfl rfl dX10_row_44 ?_
      refine im_iconst X 1 dX10_row_45 (by decide) ?_
      refine im_isub X dX10_row_46 ?_
      exact im_ireturn X ((((z36 1) (1 : Int32).toNatClampNeg) - 1), z36) rfl rfl dX10_row_47
    · refine im_iconst X (-1) dX10_row_19 (by decide) ?_
      exact im_ireturn X ((-1), M) rfl rfl dX10_row_20
theorem c_X10_row (l : Launch) (D : va_G) (ct : im_ct) (F : Nat) (aM : Nat → Nat) (M : Mem) (LM : MemL) : CMi l D ct yX10_row cX10_row 1 (some .int) 1 [.ref (aM 0)] (cat [w_Model ct aM M LM]) (f_X10_row F M LM) (fun z : Int32 × Mem => z.1) (fun z : Int32 × Mem => (cat [w_Model ct aM z.2 LM])) :=
  im_met (Qb := fun A => QI D A (fun z : Int32 × Mem => z.1) (fun z : Int32 × Mem => (cat [w_Model ct aM z.2 LM]))) (by decide +kernel) (Nat.le_of_ble_eq_true rfl) (fun p e s m args below meth c A X => i_X10_row X F aM M LM)

noncomputable def f_X10_drop_25 (F : Nat) (LM : MemL) (x2 : Int32) (k71 : Mem → Option (Int32 × Mem)) : Nat → Mem → Int32 → Option (Int32 × Mem)
  | 0, _, _ => none
  | n + 1, M, x3 =>
  (if 24 ≤ x3 then k71 M else (if 24 ≤ (x3 + 6) then ck (8 + x3) 226 (f_X10_drop_25 F LM x2 k71 n (mr M 1 (upd (M 1) ((8 + x3)).toNatClampNeg 0)) (x3 + 1)) else ck ((8 + x3) + 6) 226 (ck (8 + x3) 226 (f_X10_drop_25 F LM x2 k71 n (mr M 1 (upd (M 1) ((8 + x3)).toNatClampNeg ((M 1) (((8 + x3) + 6)).toNatClampNeg))) (x3 + 1)))))
set_option maxRecDepth 100000 in
set_option maxHeartbeats 4000000 in
theorem i_X10_drop_25 {p : Program} {l : Launch} {e : Env} {s : State} {m : MethodId} {args : Array Value} {below : List Frame} {meth : Method} {c : Code} {D : va_G} {ct : im_ct} {A : Nat → Prop} (X : im_X p (im_rm 3) s m args meth c D ct A RX10 cX10_drop 4 (some .int)) (F : Nat) (aM : Nat → Nat) (LM : MemL) (x2 : Int32) (k71 : Mem → Option (Int32 × Mem)) (hk71 : ∀ (M : Mem), Im p l e (im_rm 3) s m args below meth c D A 4 (QI D A (fun z : Int32 × Mem => z.1) (fun z : Int32 × Mem => (cat [w_Model ct aM z.2 LM]))) 71 [(0, .ref (aM 0)), (2, .int x2)] [] (cat [w_Model ct aM M LM]) (k71 M)) : ∀ (n : Nat) (M : Mem) (x3 : Int32), Im p l e (im_rm 3) s m args below meth c D A 4 (QI D A (fun z : Int32 × Mem => z.1) (fun z : Int32 × Mem => (cat [w_Model ct aM z.2 LM]))) 25 [(0, .ref (aM 0)), (2, .int x2), (3, .int x3)] [] (cat [w_Model ct aM M LM]) (f_X10_drop_25 F LM x2 k71 n M x3) := by
  intro n
  induction n with
  | zero => intros; exact im_none
  | succ n ih =>
    intro M x3
    unfold f_X10_drop_25
    refine im_iload_n X 2 dX10_drop_25 rfl rfl ?_
    refine im_bipush X 24 dX10_drop_26 (by decide) ?_
    refine im_icmp_ge (tgt := 71) X dX10_drop_28 rfl ?_ ?_
    · refine im_lv [0, 1] [(0, .ref (aM 0)), (2, .int x2)] rfl ?_
      exact hk71 M
    · refine im_aload_n X 0 dX10_drop_31 rfl rfl ?_
      refine im_cget X 0 0 (v := .ref (aM 1)) fl_X10_13 rfl rfl rfl dX10_drop_32 ?_
      refine im_bipush X 8 dX10_drop_35 (by decide) ?_
      refine im_iload_n X 2 dX10_drop_37 rfl rfl ?_
      refine im_iadd X dX10_drop_38 ?_
      refine im_iload_n X 2 dX10_drop_39 rfl rfl ?_
      refine im_bipush X 6 dX10_drop_40 (by decide) ?_
      refine im_iadd X dX10_drop_42 ?_
      refine im_bipush X 24 dX10_drop_43 (by decide) ?_
      refine im_icmp_ge (tgt := 63) X dX10_drop_45 rfl ?_ ?_
      · refine im_iconst X 0 dX10_drop_63 (by decide) ?_
        refine im_ciast X 0 1 0 (wx_Model ct aM (M 0 0) (M 0 4) (M 0 6) (M 0 7) (M 0 8) (M 0 9) (M 0 24) (M 0 27) (M 0 29) (M 0 31) (M 0 32) (M 0 33) (M 0 34) (M 0 35) (upd (M 1) ((8 + x3)).toNatClampNeg 0) (M 2) (M 3) (M 4) (M 5) (M 9) (M 10) (M 11) (M 12) (M 13) (M 14) (M 15) (M 16) (M 17) (M 18) (M 19) (M 20) (M 21) (M 22) (LM 6) (LM 7) (LM 8)) [wx_Model ct aM (M 0 0) (M 0 4) (M 0 6) (M 0 7) (M 0 8) (M 0 9) (M 0 24) (M 0 27) (M 0 29) (M 0 31) (M 0 32) (M 0 33) (M 0 34) (M 0 35) (upd (M 1) ((8 + x3)).toNatClampNeg 0) (M 2) (M 3) (M 4) (M 5) (M 9) (M 10) (M 11) (M 12) (M 13) (M 14) (M 15) (M 16) (M 17) (M 18) (M 19) (M 20) (M 21) (M 22) (LM 6) (LM 7) (LM 8)] (f := (M 1)) rfl rfl rfl rfl rfl dX10_drop_64 ?_
        refine im_iinc X 2 1 [1, 2, 0] [(0, .ref (aM 0)), (2, .int x2), (3, .int (x3 + 1))] dX10_drop_65 (by decide) rfl (by decide) rfl ?_
        refine im_goto (tgt := 25) X dX10_drop_68 rfl ?_
        exact ih (mr M 1 (upd (M 1) ((8 + x3)).toNatClampNeg 0)) (x3 + 1)
      · refine im_aload_n X 0 dX10_drop_48 rfl rfl ?_
        refine im_cget X 0 0 (v := .ref (aM 1)) fl_X10_13 rfl rfl rfl dX10_drop_49 ?_
        refine im_bipush X 8 dX10_drop_52 (by decide) ?_
        refine im_iload_n X 2 dX10_drop_54 rfl rfl ?_
        refine im_iadd X dX10_drop_55 ?_
        refine im_bipush X 6 dX10_drop_56 (by decide) ?_
        refine im_iadd X dX10_drop_58 ?_
        refine im_ciald X 0 1 0 (f := (M 1)) rfl rfl rfl dX10_drop_59 ?_
        refine im_goto (tgt := 64) X dX10_drop_60 rfl ?_
        refine im_ciast X 0 1 0 (wx_Model ct aM (M 0 0) (M 0 4) (M 0 6) (M 0 7) (M 0 8) (M 0 9) (M 0 24) (M 0 27) (M 0 29) (M 0 31) (M 0 32) (M 0 33) (M 0 34) (M 0 35) (upd (M 1) ((8 + x3)).toNatClampNeg ((M 1) (((8 + x3) + 6)).toNatClampNeg)) (M 2) (M 3) (M 4) (M 5) (M 9) (M 10) (M 11) (M 12) (M 13) (M 14) (M 15) (M 16) (M 17) (M 18) (M 19) (M 20) (M 21) (M 22) (LM 6) (LM 7) (LM 8)) [wx_Model ct aM (M 0 0) (M 0 4) (M 0 6) (M 0 7) (M 0 8) (M 0 9) (M 0 24) (M 0 27) (M 0 29) (M 0 31) (M 0 32) (M 0 33) (M 0 34) (M 0 35) (upd (M 1) ((8 + x3)).toNatClampNeg ((M 1) (((8 + x3) + 6)).toNatClampNeg)) (M 2) (M 3) (M 4) (M 5) (M 9) (M 10) (M 11) (M 12) (M 13) (M 14) (M 15) (M 16) (M 17) (M 18) (M 19) (M 20) (M 21) (M 22) (LM 6) (LM 7) (LM 8)] (f := (M 1)) rfl rfl rfl rfl rfl dX10_drop_64 ?_
        refine im_iinc X 2 1 [1, 2, 0] [(0, .ref (aM 0)), (2, .int x2), (3, .int (x3 + 1))] dX10_drop_65 (by decide) rfl (by decide) rfl ?_
        refine im_goto (tgt := 25) X dX10_drop_68 rfl ?_
        exact ih (mr M 1 (upd (M 1) ((8 + x3)).toNatClampNeg ((M 1) (((8 + x3) + 6)).toNatClampNeg))) (x3 + 1)
noncomputable def f_X10_drop (F : Nat) (M : Mem) (LM : MemL) (x1 : Int32) : Option (Int32 × Mem) :=
  (f_X10_isRow F M LM x1).bind (fun z2 => (if z2 = 0 then (some ((-1), M)) else (f_X10_keeps F M LM).bind (fun z11 => (f_X10_sumOf F z11 LM x1).bind (fun z16 => f_X10_drop_25 F LM z16 (fun M_71 => ck 1 226 (ck 1 226 ((f_X10_anew F (mr M_71 1 (upd (M_71 1) (1 : Int32).toNatClampNeg (((M_71 1) (1 : Int32).toNatClampNeg) - 1))) LM).bind (fun z82 => (some (z16, z82)))))) F z11 (6 * x1)))))
set_option maxRecDepth 100000 in
set_option maxHeartbeats 4000000 in
theorem i_X10_drop {p : Program} {l : Launch} {e : Env} {s : State} {m : MethodId} {args : Array Value} {below : List Frame} {meth : Method} {c : Code} {D : va_G} {ct : im_ct} {A : Nat → Prop} (X : im_X p (im_rm 3) s m args meth c D ct A RX10 cX10_drop 4 (some .int)) (F : Nat) (aM : Nat → Nat) (M : Mem) (LM : MemL) (x1 : Int32) : Im p l e (im_rm 3) s m args below meth c D A 4 (QI D A (fun z : Int32 × Mem => z.1) (fun z : Int32 × Mem => (cat [w_Model ct aM z.2 LM]))) 0 [(0, .ref (aM 0)), (1, .int x1)] [] (cat [w_Model ct aM M LM]) (f_X10_drop F M LM x1) := by
  unfold f_X10_drop
  refine im_aload_n X 0 dX10_drop_0 rfl rfl ?_
  refine im_iload_n X 1 dX10_drop_1 rfl rfl ?_
  refine im_cciV X [.int x1] [] [w_Model ct aM M LM] [w_Model ct aM M LM] [0] (fun z2 => [w_Model ct aM M LM]) 0 0 10 rfl rfl rfl cl_X10_90 (c_X10_isRow l D ct F aM M LM x1) rfl (by decide) (fun _ => lc rfl (rfl)) rfl ⟨by decide, by decide⟩ (Nat.le_of_ble_eq_true rfl) rfl dX10_drop_2 (fun z2 => ?_)
  refine im_ws (cat [w_Model ct aM M LM]) rfl ?_
  refine im_if_ne (tgt := 10) X dX10_drop_5 rfl ?_ ?_
  · refine im_aload_n X 0 dX10_drop_10 rfl rfl ?_
    refine im_ccvV X [] [] [w_Model ct aM M LM] [w_Model ct aM M LM] [0] (fun z11 => [w_Model ct aM z11 LM]) 0 0 10 rfl rfl rfl cl_X10_115 (c_X10_keeps l D ct F aM M LM) rfl (by decide) (fun _ => lc fa_Model (rfl)) rfl ⟨by decide, by decide⟩ (Nat.le_of_ble_eq_true rfl) rfl dX10_drop_11 (fun z11 => ?_)
    refine im_ws (cat [w_Model ct aM z11 LM]) rfl ?_
    refine im_aload_n X 0 dX10_drop_14 rfl rfl ?_
    refine im_iload_n X 1 dX10_drop_15 rfl rfl ?_
    refine im_cciV X [.int x1] [] [w_Model ct aM z11 LM] [w_Model ct aM z11 LM] [0] (fun z16 => [w_Model ct aM z11 LM]) 0 0 10 rfl rfl rfl cl_X10_121 (c_X10_sumOf l D ct F aM z11 LM x1) rfl (by decide) (fun _ => lc rfl (rfl)) rfl ⟨by decide, by decide⟩ (Nat.le_of_ble_eq_true rfl) rfl dX10_drop_16 (fun z16 => ?_)
    refine im_ws (cat [w_Model ct aM z11 LM]) rfl ?_
    refine im_istore_n X [1, 2, 0] [(0, .ref (aM 0)), (1, .int x1), (2, .int z16)] dX10_drop_19 rfl (by decide) rfl ?_
    refine im_bipush X 6 dX10_drop_20 (by decide) ?_
    refine im_iload_n X 1 dX10_drop_22 rfl rfl ?_
    refine im_imul X dX10_drop_23 ?_
    refine im_istore_n X [1, 2, 3, 0] [(0, .ref (aM 0)), (1, .int x1), (2, .int z16), (3, .int (6 * x1))] dX10_drop_24 rfl (by decide) rfl ?_
    refine im_lv [0, 2, 3] [(0, .ref (aM 0)), (2, .int z16), (3, .int (6 * x1))] rfl ?_
    refine i_X10_drop_25 X F aM LM z16 _ (fun M_71 => ?_) F z11 (6 * x1)
    refine im_aload_n X 0 dX10_drop_71 rfl rfl ?_
    refine im_cget X 0 0 (v := .ref (aM 1)) fl_X10_13 rfl rfl rfl dX10_drop_72 ?_
    refine im_iconst X 1 dX10_drop_75 (by decide) ?_
    refine im_dup2_11 X rfl rfl dX10_drop_76 ?_
    refine im_ciald X 0 1 0 (f := (M_71 1)) rfl rfl rfl dX10_drop_77 ?_
    refine im_iconst X 1 dX10_drop_78 (by decide) ?_
    refine im_isub X dX10_drop_79 ?_
    refine im_ciast X 0 1 0 (wx_Model ct aM (M_71 0 0) (M_71 0 4) (M_71 0 6) (M_71 0 7) (M_71 0 8) (M_71 0 9) (M_71 0 24) (M_71 0 27) (M_71 0 29) (M_71 0 31) (M_71 0 32) (M_71 0 33) (M_71 0 34) (M_71 0 35) (upd (M_71 1) (1 : Int32).toNatClampNeg (((M_71 1) (1 : Int32).toNatClampNeg) - 1)) (M_71 2) (M_71 3) (M_71 4) (M_71 5) (M_71 9) (M_71 10) (M_71 11) (M_71 12) (M_71 13) (M_71 14) (M_71 15) (M_71 16) (M_71 17) (M_71 18) (M_71 19) (M_71 20) (M_71 21) (M_71 22) (LM 6) (LM 7) (LM 8)) [wx_Model ct aM (M_71 0 0) (M_71 0 4) (M_71 0 6) (M_71 0 7) (M_71 0 8) (M_71 0 9) (M_71 0 24) (M_71 0 27) (M_71 0 29) (M_71 0 31) (M_71 0 32) (M_71 0 33) (M_71 0 34) (M_71 0 35) (upd (M_71 1) (1 : Int32).toNatClampNeg (((M_71 1) (1 : Int32).toNatClampNeg) - 1)) (M_71 2) (M_71 3) (M_71 4) (M_71 5) (M_71 9) (M_71 10) (M_71 11) (M_71 12) (M_71 13) (M_71 14) (M_71 15) (M_71 16) (M_71 17) (M_71 18) (M_71 19) (M_71 20) (M_71 21) (M_71 22) (LM 6) (LM 7) (LM 8)] (f := (M_71 1)) rfl rfl rfl rfl rfl dX10_drop_80 ?_
    refine im_aload_n X 0 dX10_drop_81 rfl rfl ?_
    refine im_ccvV X [] [] [wx_Model ct aM (M_71 0 0) (M_71 0 4) (M_71 0 6) (M_71 0 7) (M_71 0 8) (M_71 0 9) (M_71 0 24) (M_71 0 27) (M_71 0 29) (M_71 0 31) (M_71 0 32) (M_71 0 33) (M_71 0 34) (M_71 0 35) (upd (M_71 1) (1 : Int32).toNatClampNeg (((M_71 1) (1 : Int32).toNatClampNeg) - 1)) (M_71 2) (M_71 3) (M_71 4) (M_71 5) (M_71 9) (M_71 10) (M_71 11) (M_71 12) (M_71 13) (M_71 14) (M_71 15) (M_71 16) (M_71 17) (M_71 18) (M_71 19) (M_71 20) (M_71 21) (M_71 22) (LM 6) (LM 7) (LM 8)] [w_Model ct aM (mr M_71 1 (upd (M_71 1) (1 : Int32).toNatClampNeg (((M_71 1) (1 : Int32).toNatClampNeg) - 1))) LM] [0] (fun z82 => [w_Model ct aM z82 LM]) 0 0 10 rfl rfl rfl cl_X10_118 (c_X10_anew l D ct F aM (mr M_71 1 (upd (M_71 1) (1 : Int32).toNatClampNeg (((M_71 1) (1 : Int32).toNatClampNeg) - 1))) LM) rfl (by decide) (fun _ => lc fa_Model (rfl)) rfl ⟨by decide, by decide⟩ (Nat.le_of_ble_eq_true rfl) rfl dX10_drop_82 (fun z82 => ?_)
    refine im_ws (cat [w_Model ct aM z82 LM]) rfl ?_
    refine im_iload_n X 1 dX10_drop_85 rfl rfl ?_
    exact im_ireturn X (z16, z82) rfl rfl dX10_drop_86
  · refine im_iconst X (-1) dX10_drop_8 (by decide) ?_
    exact im_ireturn X ((-1), M) rfl rfl dX10_drop_9
theorem c_X10_drop (l : Launch) (D : va_G) (ct : im_ct) (F : Nat) (aM : Nat → Nat) (M : Mem) (LM : MemL) (x1 : Int32) : CMi l D ct yX10_drop cX10_drop 4 (some .int) 3 [.ref (aM 0), .int x1] (cat [w_Model ct aM M LM]) (f_X10_drop F M LM x1) (fun z : Int32 × Mem => z.1) (fun z : Int32 × Mem => (cat [w_Model ct aM z.2 LM])) :=
  im_met (Qb := fun A => QI D A (fun z : Int32 × Mem => z.1) (fun z : Int32 × Mem => (cat [w_Model ct aM z.2 LM]))) (by decide +kernel) (Nat.le_of_ble_eq_true rfl) (fun p e s m args below meth c A X => i_X10_drop X F aM M LM x1)

noncomputable def f_X10_lays_64 (F : Nat) (M : Mem) (LM : MemL) (x4 : Int32) (s1 : Int32) : Option (Int32 × Mem) :=
  (f_X10_in F (x4).toInt64 1 99).bind (fun z74 => (cb z74 (some (z74, (mr M 0 (fu (M 0) 8 s1))))))
set_option maxRecDepth 100000 in
set_option maxHeartbeats 4000000 in
theorem i_X10_lays_64 {p : Program} {l : Launch} {e : Env} {s : State} {m : MethodId} {args : Array Value} {below : List Frame} {meth : Method} {c : Code} {D : va_G} {ct : im_ct} {A : Nat → Prop} (X : im_X p (im_rm 3) s m args meth c D ct A RX10 cX10_lays 6 (some .boolean)) (F : Nat) (aM : Nat → Nat) (M : Mem) (LM : MemL) (x4 : Int32) (s1 : Int32) : Im p l e (im_rm 3) s m args below meth c D A 6 (QI D A (fun z : Int32 × Mem => z.1) (fun z : Int32 × Mem => (cat [w_Model ct aM z.2 LM]))) 64 [(4, .int x4)] [.int s1, .ref (aM 0)] (cat [w_Model ct aM M LM]) (f_X10_lays_64 F M LM x4 s1) := by
  unfold f_X10_lays_64
  refine im_cput X 0 0 (wx_Model ct aM (M 0 0) (M 0 4) (M 0 6) (M 0 7) s1 (M 0 9) (M 0 24) (M 0 27) (M 0 29) (M 0 31) (M 0 32) (M 0 33) (M 0 34) (M 0 35) (M 1) (M 2) (M 3) (M 4) (M 5) (M 9) (M 10) (M 11) (M 12) (M 13) (M 14) (M 15) (M 16) (M 17) (M 18) (M 19) (M 20) (M 21) (M 22) (LM 6) (LM 7) (LM 8)) [wx_Model ct aM (M 0 0) (M 0 4) (M 0 6) (M 0 7) s1 (M 0 9) (M 0 24) (M 0 27) (M 0 29) (M 0 31) (M 0 32) (M 0 33) (M 0 34) (M 0 35) (M 1) (M 2) (M 3) (M 4) (M 5) (M 9) (M 10) (M 11) (M 12) (M 13) (M 14) (M 15) (M 16) (M 17) (M 18) (M 19) (M 20) (M 21) (M 22) (LM 6) (LM 7) (LM 8)] fl_X10_139 rfl rfl rfl rfl (Nat.le_of_ble_eq_true rfl) rfl rfl dX10_lays_64 ?_
  refine im_iload X 0 dX10_lays_67 rfl ?_
  refine im_i2l X dX10_lays_69 ?_
  refine im_lconst X 1 dX10_lays_70 (by decide) ?_
  refine im_ldc2 X kc_X10_142 dX10_lays_71 ?_
  refine im_cciS X [.long (x4).toInt64, .long 1, .long 99] [] [wx_Model ct aM (M 0 0) (M 0 4) (M 0 6) (M 0 7) s1 (M 0 9) (M 0 24) (M 0 27) (M 0 29) (M 0 31) (M 0 32) (M 0 33) (M 0 34) (M 0 35) (M 1) (M 2) (M 3) (M 4) (M 5) (M 9) (M 10) (M 11) (M 12) (M 13) (M 14) (M 15) (M 16) (M 17) (M 18) (M 19) (M 20) (M 21) (M 22) (LM 6) (LM 7) (LM 8)] [] [] (fun z74 => []) cl_X10_86 (c_X10_in l D ct F (x4).toInt64 1 99) rfl (by decide) (fun _ => rfl) rfl ⟨by decide, by decide⟩ (Nat.le_of_ble_eq_true rfl) rfl dX10_lays_74 (fun z74 => ?_)
  refine im_ws (cat [wx_Model ct aM (M 0 0) (M 0 4) (M 0 6) (M 0 7) s1 (M 0 9) (M 0 24) (M 0 27) (M 0 29) (M 0 31) (M 0 32) (M 0 33) (M 0 34) (M 0 35) (M 1) (M 2) (M 3) (M 4) (M 5) (M 9) (M 10) (M 11) (M 12) (M 13) (M 14) (M 15) (M 16) (M 17) (M 18) (M 19) (M 20) (M 21) (M 22) (LM 6) (LM 7) (LM 8)]) rfl ?_
  exact im_zreturnc X (z74, (mr M 0 (fu (M 0) 8 s1))) rfl rfl dX10_lays_77
noncomputable def f_X10_lays_51 (F : Nat) (M : Mem) (LM : MemL) (x1 : Int32) (x4 : Int32) : Option (Int32 × Mem) :=
  (if x1 = 0 then f_X10_lays_64 F M LM x4 x4 else f_X10_lays_64 F M LM x4 (-x4))
set_option maxRecDepth 100000 in
set_option maxHeartbeats 4000000 in
theorem i_X10_lays_51 {p : Program} {l : Launch} {e : Env} {s : State} {m : MethodId} {args : Array Value} {below : List Frame} {meth : Method} {c : Code} {D : va_G} {ct : im_ct} {A : Nat → Prop} (X : im_X p (im_rm 3) s m args meth c D ct A RX10 cX10_lays 6 (some .boolean)) (F : Nat) (aM : Nat → Nat) (M : Mem) (LM : MemL) (x1 : Int32) (x4 : Int32) : Im p l e (im_rm 3) s m args below meth c D A 6 (QI D A (fun z : Int32 × Mem => z.1) (fun z : Int32 × Mem => (cat [w_Model ct aM z.2 LM]))) 51 [(0, .ref (aM 0)), (1, .int x1), (4, .int x4)] [] (cat [w_Model ct aM M LM]) (f_X10_lays_51 F M LM x1 x4) := by
  unfold f_X10_lays_51
  refine im_aload_n X 0 dX10_lays_51 rfl rfl ?_
  refine im_iload_n X 1 dX10_lays_52 rfl rfl ?_
  refine im_if_ne (tgt := 61) X dX10_lays_53 rfl ?_ ?_
  · refine im_iload X 2 dX10_lays_61 rfl ?_
    refine im_ineg X dX10_lays_63 ?_
    refine im_lv [2] [(4, .int x4)] rfl ?_
    exact i_X10_lays_64 X F aM M LM x4 (-x4) 
  · refine im_iload X 2 dX10_lays_56 rfl ?_
    refine im_goto (tgt := 64) X dX10_lays_58 rfl ?_
    refine im_lv [2] [(4, .int x4)] rfl ?_
    exact i_X10_lays_64 X F aM M LM x4 x4 
noncomputable def f_X10_lays (F : Nat) (M : Mem) (LM : MemL) (x1 : Int32) (x2 : Int32) (x3 : Int32) (x4 : Int32) (x5 : Int32) : Option (Int32 × Mem) :=
  (f_X10_in F (x1).toInt64 0 4).bind (fun z16 => (if z16 = 0 then (some (0, (mr M 0 (fu (fu (M 0) 7 (-1)) 9 0)))) else (f_X10_isCell F (mr M 0 (fu (fu (M 0) 7 (-1)) 9 0)) LM x2 x3).bind (fun z25 => (if z25 = 0 then (some (0, (mr M 0 (fu (fu (M 0) 7 (-1)) 9 0)))) else (f_X10_cell F x2 x3).bind (fun z36 => (if x1 = 0 then f_X10_lays_51 F (mr M 0 (fu (fu (fu (M 0) 7 (-1)) 9 0) 6 z36)) LM x1 x4 else (if x1 = 1 then f_X10_lays_51 F (mr M 0 (fu (fu (fu (M 0) 7 (-1)) 9 0) 6 z36)) LM x1 x4 else (if x1 = 2 then (f_X10_isColumn F (mr M 0 (fu (fu (fu (M 0) 7 (-1)) 9 0) 6 z36)) LM (x3 + 1)).bind (fun z87 => (if z87 = 0 then (some (0, (mr M 0 (fu (fu (fu (M 0) 7 (-1)) 9 0) 6 z36)))) else (f_X10_ratio F (mr M 0 (fu (fu (fu (M 0) 7 (-1)) 9 0) 6 z36)) LM (x3 + 1)).bind (fun z100 => (some (1, (mr M 0 (fu (fu (fu (fu (fu (fu (M 0) 7 (-1)) 9 0) 6 z36) 8 (-z100)) 7 (z36 + 1)) 9 1))))))) else (if x1 = 3 then (if x3 = 0 then (some (0, (mr M 0 (fu (fu (fu (M 0) 7 (-1)) 9 0) 6 z36)))) else (f_X10_ratio F (mr M 0 (fu (fu (fu (fu (fu (M 0) 7 (-1)) 9 0) 6 z36) 8 (-1)) 7 (z36 - 1))) LM x3).bind (fun z153 => (some (1, (mr M 0 (fu (fu (fu (fu (fu (fu (M 0) 7 (-1)) 9 0) 6 z36) 8 (-1)) 7 (z36 - 1)) 9 z153)))))) else (f_X10_isRow F (mr M 0 (fu (fu (fu (M 0) 7 (-1)) 9 0) 6 z36)) LM x5).bind (fun z164 => (if z164 = 0 then (some (0, (mr M 0 (fu (fu (fu (M 0) 7 (-1)) 9 0) 6 z36)))) else (if x5 = x2 then (some (0, (mr M 0 (fu (fu (fu (M 0) 7 (-1)) 9 0) 6 z36)))) else (f_X10_in F (x4).toInt64 1 99).bind (fun z183 => (if z183 = 0 then (some (0, (mr M 0 (fu (fu (fu (M 0) 7 (-1)) 9 0) 6 z36)))) else (f_X10_cell F x5 x3).bind (fun z202 => (some (1, (mr M 0 (fu (fu (fu (fu (fu (fu (M 0) 7 (-1)) 9 0) 6 z36) 8 (-x4)) 7 z202) 9 x4)))))))))))))))))))
set_option maxRecDepth 100000 in
set_option maxHeartbeats 4000000 in
theorem i_X10_lays {p : Program} {l : Launch} {e : Env} {s : State} {m : MethodId} {args : Array Value} {below : List Frame} {meth : Method} {c : Code} {D : va_G} {ct : im_ct} {A : Nat → Prop} (X : im_X p (im_rm 3) s m args meth c D ct A RX10 cX10_lays 6 (some .boolean)) (F : Nat) (aM : Nat → Nat) (M : Mem) (LM : MemL) (x1 : Int32) (x2 : Int32) (x3 : Int32) (x4 : Int32) (x5 : Int32) : Im p l e (im_rm 3) s m args below meth c D A 6 (QI D A (fun z : Int32 × Mem => z.1) (fun z : Int32 × Mem => (cat [w_Model ct aM z.2 LM]))) 0 [(0, .ref (aM 0)), (1, .int x1), (2, .int x2), (3, .int x3), (4, .int x4), (5, .int x5)] [] (cat [w_Model ct aM M LM]) (f_X10_lays F M LM x1 x2 x3 x4 x5) := by
  unfold f_X10_lays
  refine im_aload_n X 0 dX10_lays_0 rfl rfl ?_
  refine im_iconst X (-1) dX10_lays_1 (by decide) ?_
  refine im_cput X 0 0 (wx_Model ct aM (M 0 0) (M 0 4) (M 0 6) (-1) (M 0 8) (M 0 9) (M 0 24) (M 0 27) (M 0 29) (M 0 31) (M 0 32) (M 0 33) (M 0 34) (M 0 35) (M 1) (M 2) (M 3) (M 4) (M 5) (M 9) (M 10) (M 11) (M 12) (M 13) (M 14) (M 15) (M 16) (M 17) (M 18) (M 19) (M 20) (M 21) (M 22) (LM 6) (LM 7) (LM 8)) [wx_Model ct aM (M 0 0) (M 0 4) (M 0 6) (-1) (M 0 8) (M 0 9) (M 0 24) (M 0 27) (M 0 29) (M 0 31) (M 0 32) (M 0 33) (M 0 34) (M 0 35) (M 1) (M 2) (M 3) (M 4) (M 5) (M 9) (M 10) (M 11) (M 12) (M 13) (M 14) (M 15) (M 16) (M 17) (M 18) (M 19) (M 20) (M 21) (M 22) (LM 6) (LM 7) (LM 8)] fl_X10_124 rfl rfl rfl rfl (Nat.le_of_ble_eq_true rfl) rfl rfl dX10_lays_2 ?_
  refine im_aload_n X 0 dX10_lays_5 rfl rfl ?_
  refine im_iconst X 0 dX10_lays_6 (by decide) ?_
  refine im_cput X 0 0 (wx_Model ct aM (M 0 0) (M 0 4) (M 0 6) (-1) (M 0 8) 0 (M 0 24) (M 0 27) (M 0 29) (M 0 31) (M 0 32) (M 0 33) (M 0 34) (M 0 35) (M 1) (M 2) (M 3) (M 4) (M 5) (M 9) (M 10) (M 11) (M 12) (M 13) (M 14) (M 15) (M 16) (M 17) (M 18) (M 19) (M 20) (M 21) (M 22) (LM 6) (LM 7) (LM 8)) [wx_Model ct aM (M 0 0) (M 0 4) (M 0 6) (-1) (M 0 8) 0 (M 0 24) (M 0 27) (M 0 29) (M 0 31) (M 0 32) (M 0 33) (M 0 34) (M 0 35) (M 1) (M 2) (M 3) (M 4) (M 5) (M 9) (M 10) (M 11) (M 12) (M 13) (M 14) (M 15) (M 16) (M 17) (M 18) (M 19) (M 20) (M 21) (M 22) (LM 6) (LM 7) (LM 8)] fl_X10_127 rfl rfl rfl rfl (Nat.le_of_ble_eq_true rfl) rfl rfl dX10_lays_7 ?_
  refine im_iload_n X 1 dX10_lays_10 rfl rfl ?_
  refine im_i2l X dX10_lays_11 ?_
  refine im_lconst X 0 dX10_lays_12 (by decide) ?_
  refine im_ldc2 X kc_X10_130 dX10_lays_13 ?_
  refine im_cciS X [.long (x1).toInt64, .long 0, .long 4] [] [wx_Model ct aM (M 0 0) (M 0 4) (M 0 6) (-1) (M 0 8) 0 (M 0 24) (M 0 27) (M 0 29) (M 0 31) (M 0 32) (M 0 33) (M 0 34) (M 0 35) (M 1) (M 2) (M 3) (M 4) (M 5) (M 9) (M 10) (M 11) (M 12) (M 13) (M 14) (M 15) (M 16) (M 17) (M 18) (M 19) (M 20) (M 21) (M 22) (LM 6) (LM 7) (LM 8)] [] [] (fun z16 => []) cl_X10_86 (c_X10_in l D ct F (x1).toInt64 0 4) rfl (by decide) (fun _ => rfl) rfl ⟨by decide, by decide⟩ (Nat.le_of_ble_eq_true rfl) rfl dX10_lays_16 (fun z16 => ?_)
  refine im_ws (cat [wx_Model ct aM (M 0 0) (M 0 4) (M 0 6) (-1) (M 0 8) 0 (M 0 24) (M 0 27) (M 0 29) (M 0 31) (M 0 32) (M 0 33) (M 0 34) (M 0 35) (M 1) (M 2) (M 3) (M 4) (M 5) (M 9) (M 10) (M 11) (M 12) (M 13) (M 14) (M 15) (M 16) (M 17) (M 18) (M 19) (M 20) (M 21) (M 22) (LM 6) (LM 7) (LM 8)]) rfl ?_
  refine im_if_eq (tgt := 31) X dX10_lays_19 rfl ?_ ?_
  · refine im_iconst X 0 dX10_lays_31 (by decide) ?_
    exact im_zreturn X (0, (mr M 0 (fu (fu (M 0) 7 (-1)) 9 0))) rfl rfl rfl dX10_lays_32
  · refine im_aload_n X 0 dX10_lays_22 rfl rfl ?_
    refine im_iload_n X 2 dX10_lays_23 rfl rfl ?_
    refine im_iload_n X 3 dX10_lays_24 rfl rfl ?_
    refine im_cciV X [.int x2, .int x3] [] [wx_Model ct aM (M 0 0) (M 0 4) (M 0 6) (-1) (M 0 8) 0 (M 0 24) (M 0 27) (M 0 29) (M 0 31) (M 0 32) (M 0 33) (M 0 34) (M 0 35) (M 1) (M 2) (M 3) (M 4) (M 5) (M 9) (M 10) (M 11) (M 12) (M 13) (M 14) (M 15) (M 16) (M 17) (M 18) (M 19) (M 20) (M 21) (M 22) (LM 6) (LM 7) (LM 8)] [w_Model ct aM (mr M 0 (fu (fu (M 0) 7 (-1)) 9 0)) LM] [0] (fun z25 => [w_Model ct aM (mr M 0 (fu (fu (M 0) 7 (-1)) 9 0)) LM]) 0 0 10 rfl rfl rfl cl_X10_132 (c_X10_isCell l D ct F aM (mr M 0 (fu (fu (M 0) 7 (-1)) 9 0)) LM x2 x3) rfl (by decide) (fun _ => lc rfl (rfl)) rfl ⟨by decide, by decide⟩ (Nat.le_of_ble_eq_true rfl) rfl dX10_lays_25 (fun z25 => ?_)
    refine im_ws (cat [wx_Model ct aM (M 0 0) (M 0 4) (M 0 6) (-1) (M 0 8) 0 (M 0 24) (M 0 27) (M 0 29) (M 0 31) (M 0 32) (M 0 33) (M 0 34) (M 0 35) (M 1) (M 2) (M 3) (M 4) (M 5) (M 9) (M 10) (M 11) (M 12) (M 13) (M 14) (M 15) (M 16) (M 17) (M 18) (M 19) (M 20) (M 21) (M 22) (LM 6) (LM 7) (LM 8)]) rfl ?_
    refine im_if_ne (tgt := 33) X dX10_lays_28 rfl ?_ ?_
    · refine im_aload_n X 0 dX10_lays_33 rfl rfl ?_
      refine im_iload_n X 2 dX10_lays_34 rfl rfl ?_
      refine im_iload_n X 3 dX10_lays_35 rfl rfl ?_
      refine im_cciS X [.int x2, .int x3] [.ref (aM 0)] [wx_Model ct aM (M 0 0) (M 0 4) (M 0 6) (-1) (M 0 8) 0 (M 0 24) (M 0 27) (M 0 29) (M 0 31) (M 0 32) (M 0 33) (M 0 34) (M 0 35) (M 1) (M 2) (M 3) (M 4) (M 5) (M 9) (M 10) (M 11) (M 12) (M 13) (M 14) (M 15) (M 16) (M 17) (M 18) (M 19) (M 20) (M 21) (M 22) (LM 6) (LM 7) (LM 8)] [] [] (fun z36 => []) cl_X10_101 (c_X10_cell l D ct F x2 x3) rfl (by decide) (fun _ => rfl) rfl ⟨by decide, by decide⟩ (Nat.le_of_ble_eq_true rfl) rfl dX10_lays_36 (fun z36 => ?_)
      refine im_ws (cat [wx_Model ct aM (M 0 0) (M 0 4) (M 0 6) (-1) (M 0 8) 0 (M 0 24) (M 0 27) (M 0 29) (M 0 31) (M 0 32) (M 0 33) (M 0 34) (M 0 35) (M 1) (M 2) (M 3) (M 4) (M 5) (M 9) (M 10) (M 11) (M 12) (M 13) (M 14) (M 15) (M 16) (M 17) (M 18) (M 19) (M 20) (M 21) (M 22) (LM 6) (LM 7) (LM 8)]) rfl ?_
      refine im_cput X 0 0 (wx_Model ct aM (M 0 0) (M 0 4) z36 (-1) (M 0 8) 0 (M 0 24) (M 0 27) (M 0 29) (M 0 31) (M 0 32) (M 0 33) (M 0 34) (M 0 35) (M 1) (M 2) (M 3) (M 4) (M 5) (M 9) (M 10) (M 11) (M 12) (M 13) (M 14) (M 15) (M 16) (M 17) (M 18) (M 19) (M 20) (M 21) (M 22) (LM 6) (LM 7) (LM 8)) [wx_Model ct aM (M 0 0) (M 0 4) z36 (-1) (M 0 8) 0 (M 0 24) (M 0 27) (M 0 29) (M 0 31) (M 0 32) (M 0 33) (M 0 34) (M 0 35) (M 1) (M 2) (M 3) (M 4) (M 5) (M 9) (M 10) (M 11) (M 12) (M 13) (M 14) (M 15) (M 16) (M 17) (M 18) (M 19) (M 20) (M 21) (M 22) (LM 6) (LM 7) (LM 8)] fl_X10_136 rfl rfl rfl rfl (Nat.le_of_ble_eq_true rfl) rfl rfl dX10_lays_39 ?_
      refine im_iload_n X 1 dX10_lays_42 rfl rfl ?_
      refine im_if_eq (tgt := 51) X dX10_lays_43 rfl ?_ ?_
      · refine im_lv [0, 1, 4] [(0, .ref (aM 0)), (1, .int x1), (4, .int x4)] rfl ?_
        exact i_X10_lays_51 X F aM (mr M 0 (fu (fu (fu (M 0) 7 (-1)) 9 0) 6 z36)) LM x1 x4 
      · refine im_iload_n X 1 dX10_lays_46 rfl rfl ?_
        refine im_iconst X 1 dX10_lays_47 (by decide) ?_
        refine im_icmp_ne (tgt := 78) X dX10_lays_48 rfl ?_ ?_
        · refine im_iload_n X 1 dX10_lays_78 rfl rfl ?_
          refine im_iconst X 2 dX10_lays_79 (by decide) ?_
          refine im_icmp_ne (tgt := 124) X dX10_lays_80 rfl ?_ ?_
          · refine im_iload_n X 1 dX10_lays_124 rfl rfl ?_
            refine im_iconst X 3 dX10_lays_125 (by decide) ?_
            refine im_icmp_ne (tgt := 161) X dX10_lays_126 rfl ?_ ?_
            · refine im_aload_n X 0 dX10_lays_161 rfl rfl ?_
              refine im_iload X 5 dX10_lays_162 rfl ?_
              refine im_cciV X [.int x5] [] [wx_Model ct aM (M 0 0) (M 0 4) z36 (-1) (M 0 8) 0 (M 0 24) (M 0 27) (M 0 29) (M 0 31) (M 0 32) (M 0 33) (M 0 34) (M 0 35) (M 1) (M 2) (M 3) (M 4) (M 5) (M 9) (M 10) (M 11) (M 12) (M 13) (M 14) (M 15) (M 16) (M 17) (M 18) (M 19) (M 20) (M 21) (M 22) (LM 6) (LM 7) (LM 8)] [w_Model ct aM (mr M 0 (fu (fu (fu (M 0) 7 (-1)) 9 0) 6 z36)) LM] [0] (fun z164 => [w_Model ct aM (mr M 0 (fu (fu (fu (M 0) 7 (-1)) 9 0) 6 z36)) LM]) 0 0 10 rfl rfl rfl cl_X10_90 (c_X10_isRow l D ct F aM (mr M 0 (fu (fu (fu (M 0) 7 (-1)) 9 0) 6 z36)) LM x5) rfl (by decide) (fun _ => lc rfl (rfl)) rfl ⟨by decide, by decide⟩ (Nat.le_of_ble_eq_true rfl) rfl dX10_lays_164 (fun z164 => ?_)
              refine im_ws (cat [wx_Model ct aM (M 0 0) (M 0 4) z36 (-1) (M 0 8) 0 (M 0 24) (M 0 27) (M 0 29) (M 0 31) (M 0 32) (M 0 33) (M 0 34) (M 0 35) (M 1) (M 2) (M 3) (M 4) (M 5) (M 9) (M 10) (M 11) (M 12) (M 13) (M 14) (M 15) (M 16) (M 17) (M 18) (M 19) (M 20) (M 21) (M 22) (LM 6) (LM 7) (LM 8)]) rfl ?_
              refine im_if_eq (tgt := 189) X dX10_lays_167 rfl ?_ ?_
              · refine im_iconst X 0 dX10_lays_189 (by decide) ?_
                exact im_zreturn X (0, (mr M 0 (fu (fu (fu (M 0) 7 (-1)) 9 0) 6 z36))) rfl rfl rfl dX10_lays_190
              · refine im_iload X 5 dX10_lays_170 rfl ?_
                refine im_iload_n X 2 dX10_lays_172 rfl rfl ?_
                refine im_icmp_eq (tgt := 189) X dX10_lays_173 rfl ?_ ?_
                · refine im_iconst X 0 dX10_lays_189 (by decide) ?_
                  exact im_zreturn X (0, (mr M 0 (fu (fu (fu (M 0) 7 (-1)) 9 0) 6 z36))) rfl rfl rfl dX10_lays_190
                · refine im_iload X 4 dX10_lays_176 rfl ?_
                  refine im_i2l X dX10_lays_178 ?_
                  refine im_lconst X 1 dX10_lays_179 (by decide) ?_
                  refine im_ldc2 X kc_X10_142 dX10_lays_180 ?_
                  refine im_cciS X [.long (x4).toInt64, .long 1, .long 99] [] [wx_Model ct aM (M 0 0) (M 0 4) z36 (-1) (M 0 8) 0 (M 0 24) (M 0 27) (M 0 29) (M 0 31) (M 0 32) (M 0 33) (M 0 34) (M 0 35) (M 1) (M 2) (M 3) (M 4) (M 5) (M 9) (M 10) (M 11) (M 12) (M 13) (M 14) (M 15) (M 16) (M 17) (M 18) (M 19) (M 20) (M 21) (M 22) (LM 6) (LM 7) (LM 8)] [] [] (fun z183 => []) cl_X10_86 (c_X10_in l D ct F (x4).toInt64 1 99) rfl (by decide) (fun _ => rfl) rfl ⟨by decide, by decide⟩ (Nat.le_of_ble_eq_true rfl) rfl dX10_lays_183 (fun z183 => ?_)
                  refine im_ws (cat [wx_Model ct aM (M 0 0) (M 0 4) z36 (-1) (M 0 8) 0 (M 0 24) (M 0 27) (M 0 29) (M 0 31) (M 0 32) (M 0 33) (M 0 34) (M 0 35) (M 1) (M 2) (M 3) (M 4) (M 5) (M 9) (M 10) (M 11) (M 12) (M 13) (M 14) (M 15) (M 16) (M 17) (M 18) (M 19) (M 20) (M 21) (M 22) (LM 6) (LM 7) (LM 8)]) rfl ?_
                  refine im_if_ne (tgt := 191) X dX10_lays_186 rfl ?_ ?_
                  · refine im_aload_n X 0 dX10_lays_191 rfl rfl ?_
                    refine im_iload X 4 dX10_lays_192 rfl ?_
                    refine im_ineg X dX10_lays_194 ?_
                    refine im_cput X 0 0 (wx_Model ct aM (M 0 0) (M 0 4) z36 (-1) (-x4) 0 (M 0 24) (M 0 27) (M 0 29) (M 0 31) (M 0 32) (M 0 33) (M 0 34) (M 0 35) (M 1) (M 2) (M 3) (M 4) (M 5) (M 9) (M 10) (M 11) (M 12) (M 13) (M 14) (M 15) (M 16) (M 17) (M 18) (M 19) (M 20) (M 21) (M 22) (LM 6) (LM 7) (LM 8)) [wx_Model ct aM (M 0 0) (M 0 4) z36 (-1) (-x4) 0 (M 0 24) (M 0 27) (M 0 29) (M 0 31) (M 0 32) (M 0 33) (M 0 34) (M 0 35) (M 1) (M 2) (M 3) (M 4) (M 5) (M 9) (M 10) (M 11) (M 12) (M 13) (M 14) (M 15) (M 16) (M 17) (M 18) (M 19) (M 20) (M 21) (M 22) (LM 6) (LM 7) (LM 8)] fl_X10_139 rfl rfl rfl rfl (Nat.le_of_ble_eq_true rfl) rfl rfl dX10_lays_195 ?_
                    refine im_aload_n X 0 dX10_lays_198 rfl rfl ?_
                    refine im_iload X 5 dX10_lays_199 rfl ?_
                    refine im_iload_n X 3 dX10_lays_201 rfl rfl ?_
                    refine im_cciS X [.int x5, .int x3] [.ref (aM 0)] [wx_Model ct aM (M 0 0) (M 0 4) z36 (-1) (-x4) 0 (M 0 24) (M 0 27) (M 0 29) (M 0 31) (M 0 32) (M 0 33) (M 0 34) (M 0 35) (M 1) (M 2) (M 3) (M 4) (M 5) (M 9) (M 10) (M 11) (M 12) (M 13) (M 14) (M 15) (M 16) (M 17) (M 18) (M 19) (M 20) (M 21) (M 22) (LM 6) (LM 7) (LM 8)] [] [] (fun z202 => []) cl_X10_101 (c_X10_cell l D ct F x5 x3) rfl (by decide) (fun _ => rfl) rfl ⟨by decide, by decide⟩ (Nat.le_of_ble_eq_true rfl) rfl dX10_lays_202 (fun z202 => ?_)
                    refine im_ws (cat [wx_Model ct aM (M 0 0) (M 0 4) z36 (-1) (-x4) 0 (M 0 24) (M 0 27) (M 0 29) (M 0 31) (M 0 32) (M 0 33) (M 0 34) (M 0 35) (M 1) (M 2) (M 3) (M 4) (M 5) (M 9) (M 10) (M 11) (M 12) (M 13) (M 14) (M 15) (M 16) (M 17) (M 18) (M 19) (M 20) (M 21) (M 22) (LM 6) (LM 7) (LM 8)]) rfl ?_
                    refine im_cput X 0 0 (wx_Model ct aM (M 0 0) (M 0 4) z36 z202 (-x4) 0 (M 0 24) (M 0 27) (M 0 29) (M 0 31) (M 0 32) (M 0 33) (M 0 34) (M 0 35) (M 1) (M 2) (M 3) (M 4) (M 5) (M 9) (M 10) (M 11) (M 12) (M 13) (M 14) (M 15) (M 16) (M 17) (M 18) (M 19) (M 20) (M 21) (M 22) (LM 6) (LM 7) (LM 8)) [wx_Model ct aM (M 0 0) (M 0 4) z36 z202 (-x4) 0 (M 0 24) (M 0 27) (M 0 29) (M 0 31) (M 0 32) (M 0 33) (M 0 34) (M 0 35) (M 1) (M 2) (M 3) (M 4) (M 5) (M 9) (M 10) (M 11) (M 12) (M 13) (M 14) (M 15) (M 16) (M 17) (M 18) (M 19) (M 20) (M 21) (M 22) (LM 6) (LM 7) (LM 8)] fl_X10_124 rfl rfl rfl rfl (Nat.le_of_ble_eq_true rfl) rfl rfl dX10_lays_205 ?_
                    refine im_aload_n X 0 dX10_lays_208 rfl rfl ?_
                    refine im_iload X 4 dX10_lays_209 rfl ?_
                    refine im_cput X 0 0 (wx_Model ct aM (M 0 0) (M 0 4) z36 z202 (-x4) x4 (M 0 24) (M 0 27) (M 0 29) (M 0 31) (M 0 32) (M 0 33) (M 0 34) (M 0 35) (M 1) (M 2) (M 3) (M 4) (M 5) (M 9) (M 10) (M 11) (M 12) (M 13) (M 14) (M 15) (M 16) (M 17) (M 18) (M 19) (M 20) (M 21) (M 22) (LM 6) (LM 7) (LM 8)) [wx_Model ct aM (M 0 0) (M 0 4) z36 z202 (-x4) x4 (M 0 24) (M 0 27) (M 0 29) (M 0 31) (M 0 32) (M 0 33) (M 0 34) (M 0 35) (M 1) (M 2) (M 3) (M 4) (M 5) (M 9) (M 10) (M 11) (M 12) (M 13) (M 14) (M 15) (M 16) (M 17) (M 18) (M 19) (M 20) (M 21) (M 22) (LM 6) (LM 7) (LM 8)] fl_X10_127 rfl rfl rfl rfl (Nat.le_of_ble_eq_true rfl) rfl rfl dX10_lays_211 ?_
                    refine im_iconst X 1 dX10_lays_214 (by decide) ?_
                    exact im_zreturn X (1, (mr M 0 (fu (fu (fu (fu (fu (fu (M 0) 7 (-1)) 9 0) 6 z36) 8 (-x4)) 7 z202) 9 x4))) rfl rfl rfl dX10_lays_215
                  · refine im_iconst X 0 dX10_lays_189 (by decide) ?_
                    exact im_zreturn X (0, (mr M 0 (fu (fu (fu (M 0) 7 (-1)) 9 0) 6 z36))) rfl rfl rfl dX10_lays_190
            · refine im_iload_n X 3 dX10_lays_129 rfl rfl ?_
              refine im_if_ne (tgt := 135) X dX10_lays_130 rfl ?_ ?_
              · refine im_aload_n X 0 dX10_lays_135 rfl rfl ?_
                refine im_iconst X (-1) dX10_lays_136 (by decide) ?_
                refine im_cput X 0 0 (wx_Model ct aM (M 0 0) (M 0 4) z36 (-1) (-1) 0 (M 0 24) (M 0 27) (M 0 29) (M 0 31) (M 0 32) (M 0 33) (M 0 34) (M 0 35) (M 1) (M 2) (M 3) (M 4) (M 5) (M 9) (M 10) (M 11) (M 12) (M 13) (M 14) (M 15) (M 16) (M 17) (M 18) (M 19) (M 20) (M 21) (M 22) (LM 6) (LM 7) (LM 8)) [wx_Model ct aM (M 0 0) (M 0 4) z36 (-1) (-1) 0 (M 0 24) (M 0 27) (M 0 29) (M 0 31) (M 0 32) (M 0 33) (M 0 34) (M 0 35) (M 1) (M 2) (M 3) (M 4) (M 5) (M 9) (M 10) (M 11) (M 12) (M 13) (M 14) (M 15) (M 16) (M 17) (M 18) (M 19) (M 20) (M 21) (M 22) (LM 6) (LM 7) (LM 8)] fl_X10_139 rfl rfl rfl rfl (Nat.le_of_ble_eq_true rfl) rfl rfl dX10_lays_137 ?_
                refine im_aload_n X 0 dX10_lays_140 rfl rfl ?_
                refine im_aload_n X 0 dX10_lays_141 rfl rfl ?_
                refine im_cget X 0 0 (v := .int z36) fl_X10_136 rfl rfl rfl dX10_lays_142 ?_
                refine im_iconst X 1 dX10_lays_145 (by decide) ?_
                refine im_isub X dX10_lays_146 ?_
                refine im_cput X 0 0 (wx_Model ct aM (M 0 0) (M 0 4) z36 (z36 - 1) (-1) 0 (M 0 24) (M 0 27) (M 0 29) (M 0 31) (M 0 32) (M 0 33) (M 0 34) (M 0 35) (M 1) (M 2) (M 3) (M 4) (M 5) (M 9) (M 10) (M 11) (M 12) (M 13) (M 14) (M 15) (M 16) (M 17) (M 18) (M 19) (M 20) (M 21) (M 22) (LM 6) (LM 7) (LM 8)) [wx_Model ct aM (M 0 0) (M 0 4) z36 (z36 - 1) (-1) 0 (M 0 24) (M 0 27) (M 0 29) (M 0 31) (M 0 32) (M 0 33) (M 0 34) (M 0 35) (M 1) (M 2) (M 3) (M 4) (M 5) (M 9) (M 10) (M 11) (M 12) (M 13) (M 14) (M 15) (M 16) (M 17) (M 18) (M 19) (M 20) (M 21) (M 22) (LM 6) (LM 7) (LM 8)] fl_X10_124 rfl rfl rfl rfl (Nat.le_of_ble_eq_true rfl) rfl rfl dX10_lays_147 ?_
                refine im_aload_n X 0 dX10_lays_150 rfl rfl ?_
                refine im_aload_n X 0 dX10_lays_151 rfl rfl ?_
                refine im_iload_n X 3 dX10_lays_152 rfl rfl ?_
                refine im_cciV X [.int x3] [.ref (aM 0)] [wx_Model ct aM (M 0 0) (M 0 4) z36 (z36 - 1) (-1) 0 (M 0 24) (M 0 27) (M 0 29) (M 0 31) (M 0 32) (M 0 33) (M 0 34) (M 0 35) (M 1) (M 2) (M 3) (M 4) (M 5) (M 9) (M 10) (M 11) (M 12) (M 13) (M 14) (M 15) (M 16) (M 17) (M 18) (M 19) (M 20) (M 21) (M 22) (LM 6) (LM 7) (LM 8)] [w_Model ct aM (mr M 0 (fu (fu (fu (fu (fu (M 0) 7 (-1)) 9 0) 6 z36) 8 (-1)) 7 (z36 - 1))) LM] [0] (fun z153 => [w_Model ct aM (mr M 0 (fu (fu (fu (fu (fu (M 0) 7 (-1)) 9 0) 6 z36) 8 (-1)) 7 (z36 - 1))) LM]) 0 0 10 rfl rfl rfl cl_X10_97 (c_X10_ratio l D ct F aM (mr M 0 (fu (fu (fu (fu (fu (M 0) 7 (-1)) 9 0) 6 z36) 8 (-1)) 7 (z36 - 1))) LM x3) rfl (by decide) (fun _ => lc rfl (rfl)) rfl ⟨by decide, by decide⟩ (Nat.le_of_ble_eq_true rfl) rfl dX10_lays_153 (fun z153 => ?_)
                refine im_ws (cat [wx_Model ct aM (M 0 0) (M 0 4) z36 (z36 - 1) (-1) 0 (M 0 24) (M 0 27) (M 0 29) (M 0 31) (M 0 32) (M 0 33) (M 0 34) (M 0 35) (M 1) (M 2) (M 3) (M 4) (M 5) (M 9) (M 10) (M 11) (M 12) (M 13) (M 14) (M 15) (M 16) (M 17) (M 18) (M 19) (M 20) (M 21) (M 22) (LM 6) (LM 7) (LM 8)]) rfl ?_
                refine im_cput X 0 0 (wx_Model ct aM (M 0 0) (M 0 4) z36 (z36 - 1) (-1) z153 (M 0 24) (M 0 27) (M 0 29) (M 0 31) (M 0 32) (M 0 33) (M 0 34) (M 0 35) (M 1) (M 2) (M 3) (M 4) (M 5) (M 9) (M 10) (M 11) (M 12) (M 13) (M 14) (M 15) (M 16) (M 17) (M 18) (M 19) (M 20) (M 21) (M 22) (LM 6) (LM 7) (LM 8)) [wx_Model ct aM (M 0 0) (M 0 4) z36 (z36 - 1) (-1) z153 (M 0 24) (M 0 27) (M 0 29) (M 0 31) (M 0 32) (M 0 33) (M 0 34) (M 0 35) (M 1) (M 2) (M 3) (M 4) (M 5) (M 9) (M 10) (M 11) (M 12) (M 13) (M 14) (M 15) (M 16) (M 17) (M 18) (M 19) (M 20) (M 21) (M 22) (LM 6) (LM 7) (LM 8)] fl_X10_127 rfl rfl rfl rfl (Nat.le_of_ble_eq_true rfl) rfl rfl dX10_lays_156 ?_
                refine im_iconst X 1 dX10_lays_159 (by decide) ?_
                exact im_zreturn X (1, (mr M 0 (fu (fu (fu (fu (fu (fu (M 0) 7 (-1)) 9 0) 6 z36) 8 (-1)) 7 (z36 - 1)) 9 z153))) rfl rfl rfl dX10_lays_160
              · refine im_iconst X 0 dX10_lays_133 (by decide) ?_
                exact im_zreturn X (0, (mr M 0 (fu (fu (fu (M 0) 7 (-1)) 9 0) 6 z36))) rfl rfl rfl dX10_lays_134
          · refine im_aload_n X 0 dX10_lays_83 rfl rfl ?_
            refine im_iload_n X 3 dX10_lays_84 rfl rfl ?_
            refine im_iconst X 1 dX10_lays_85 (by decide) ?_
            refine im_iadd X dX10_lays_86 ?_
            refine im_cciV X [.int (x3 + 1)] [] [wx_Model ct aM (M 0 0) (M 0 4) z36 (-1) (M 0 8) 0 (M 0 24) (M 0 27) (M 0 29) (M 0 31) (M 0 32) (M 0 33) (M 0 34) (M 0 35) (M 1) (M 2) (M 3) (M 4) (M 5) (M 9) (M 10) (M 11) (M 12) (M 13) (M 14) (M 15) (M 16) (M 17) (M 18) (M 19) (M 20) (M 21) (M 22) (LM 6) (LM 7) (LM 8)] [w_Model ct aM (mr M 0 (fu (fu (fu (M 0) 7 (-1)) 9 0) 6 z36)) LM] [0] (fun z87 => [w_Model ct aM (mr M 0 (fu (fu (fu (M 0) 7 (-1)) 9 0) 6 z36)) LM]) 0 0 10 rfl rfl rfl cl_X10_94 (c_X10_isColumn l D ct F aM (mr M 0 (fu (fu (fu (M 0) 7 (-1)) 9 0) 6 z36)) LM (x3 + 1)) rfl (by decide) (fun _ => lc rfl (rfl)) rfl ⟨by decide, by decide⟩ (Nat.le_of_ble_eq_true rfl) rfl dX10_lays_87 (fun z87 => ?_)
            refine im_ws (cat [wx_Model ct aM (M 0 0) (M 0 4) z36 (-1) (M 0 8) 0 (M 0 24) (M 0 27) (M 0 29) (M 0 31) (M 0 32) (M 0 33) (M 0 34) (M 0 35) (M 1) (M 2) (M 3) (M 4) (M 5) (M 9) (M 10) (M 11) (M 12) (M 13) (M 14) (M 15) (M 16) (M 17) (M 18) (M 19) (M 20) (M 21) (M 22) (LM 6) (LM 7) (LM 8)]) rfl ?_
            refine im_if_ne (tgt := 95) X dX10_lays_90 rfl ?_ ?_
            · refine im_aload_n X 0 dX10_lays_95 rfl rfl ?_
              refine im_aload_n X 0 dX10_lays_96 rfl rfl ?_
              refine im_iload_n X 3 dX10_lays_97 rfl rfl ?_
              refine im_iconst X 1 dX10_lays_98 (by decide) ?_
              refine im_iadd X dX10_lays_99 ?_
              refine im_cciV X [.int (x3 + 1)] [.ref (aM 0)] [wx_Model ct aM (M 0 0) (M 0 4) z36 (-1) (M 0 8) 0 (M 0 24) (M 0 27) (M 0 29) (M 0 31) (M 0 32) (M 0 33) (M 0 34) (M 0 35) (M 1) (M 2) (M 3) (M 4) (M 5) (M 9) (M 10) (M 11) (M 12) (M 13) (M 14) (M 15) (M 16) (M 17) (M 18) (M 19) (M 20) (M 21) (M 22) (LM 6) (LM 7) (LM 8)] [w_Model ct aM (mr M 0 (fu (fu (fu (M 0) 7 (-1)) 9 0) 6 z36)) LM] [0] (fun z100 => [w_Model ct aM (mr M 0 (fu (fu (fu (M 0) 7 (-1)) 9 0) 6 z36)) LM]) 0 0 10 rfl rfl rfl cl_X10_97 (c_X10_ratio l D ct F aM (mr M 0 (fu (fu (fu (M 0) 7 (-1)) 9 0) 6 z36)) LM (x3 + 1)) rfl (by decide) (fun _ => lc rfl (rfl)) rfl ⟨by decide, by decide⟩ (Nat.le_of_ble_eq_true rfl) rfl dX10_lays_100 (fun z100 => ?_)
              refine im_ws (cat [wx_Model ct aM (M 0 0) (M 0 4) z36 (-1) (M 0 8) 0 (M 0 24) (M 0 27) (M 0 29) (M 0 31) (M 0 32) (M 0 33) (M 0 34) (M 0 35) (M 1) (M 2) (M 3) (M 4) (M 5) (M 9) (M 10) (M 11) (M 12) (M 13) (M 14) (M 15) (M 16) (M 17) (M 18) (M 19) (M 20) (M 21) (M 22) (LM 6) (LM 7) (LM 8)]) rfl ?_
              refine im_ineg X dX10_lays_103 ?_
              refine im_cput X 0 0 (wx_Model ct aM (M 0 0) (M 0 4) z36 (-1) (-z100) 0 (M 0 24) (M 0 27) (M 0 29) (M 0 31) (M 0 32) (M 0 33) (M 0 34) (M 0 35) (M 1) (M 2) (M 3) (M 4) (M 5) (M 9) (M 10) (M 11) (M 12) (M 13) (M 14) (M 15) (M 16) (M 17) (M 18) (M 19) (M 20) (M 21) (M 22) (LM 6) (LM 7) (LM 8)) [wx_Model ct aM (M 0 0) (M 0 4) z36 (-1) (-z100) 0 (M 0 24) (M 0 27) (M 0 29) (M 0 31) (M 0 32) (M 0 33) (M 0 34) (M 0 35) (M 1) (M 2) (M 3) (M 4) (M 5) (M 9) (M 10) (M 11) (M 12) (M 13) (M 14) (M 15) (M 16) (M 17) (M 18) (M 19) (M 20) (M 21) (M 22) (LM 6) (LM 7) (LM 8)] fl_X10_139 rfl rfl rfl rfl (Nat.le_of_ble_eq_true rfl) rfl rfl dX10_lays_104 ?_
              refine im_aload_n X 0 dX10_lays_107 rfl rfl ?_
              refine im_aload_n X 0 dX10_lays_108 rfl rfl ?_
              refine im_cget X 0 0 (v := .int z36) fl_X10_136 rfl rfl rfl dX10_lays_109 ?_
              refine im_iconst X 1 dX10_lays_112 (by decide) ?_
              refine im_iadd X dX10_lays_113 ?_
              refine im_cput X 0 0 (wx_Model ct aM (M 0 0) (M 0 4) z36 (z36 + 1) (-z100) 0 (M 0 24) (M 0 27) (M 0 29) (M 0 31) (M 0 32) (M 0 33) (M 0 34) (M 0 35) (M 1) (M 2) (M 3) (M 4) (M 5) (M 9) (M 10) (M 11) (M 12) (M 13) (M 14) (M 15) (M 16) (M 17) (M 18) (M 19) (M 20) (M 21) (M 22) (LM 6) (LM 7) (LM 8)) [wx_Model ct aM (M 0 0) (M 0 4) z36 (z36 + 1) (-z100) 0 (M 0 24) (M 0 27) (M 0 29) (M 0 31) (M 0 32) (M 0 33) (M 0 34) (M 0 35) (M 1) (M 2) (M 3) (M 4) (M 5) (M 9) (M 10) (M 11) (M 12) (M 13) (M 14) (M 15) (M 16) (M 17) (M 18) (M 19) (M 20) (M 21) (M 22) (LM 6) (LM 7) (LM 8)] fl_X10_124 rfl rfl rfl rfl (Nat.le_of_ble_eq_true rfl) rfl rfl dX10_lays_114 ?_
              refine im_aload_n X 0 dX10_lays_117 rfl rfl ?_
              refine im_iconst X 1 dX10_lays_118 (by decide) ?_
              refine im_cput X 0 0 (wx_Model ct aM (M 0 0) (M 0 4) z36 (z36 + 1) (-z100) 1 (M 0 24) (M 0 27) (M 0 29) (M 0 31) (M 0 32) (M 0 33) (M 0 34) (M 0 35) (M 1) (M 2) (M 3) (M 4) (M 5) (M 9) (M 10) (M 11) (M 12) (M 13) (M 14) (M 15) (M 16) (M 17) (M 18) (M 19) (M 20) (M 21) (M 22) (LM 6) (LM 7) (LM 8)) [wx_Model ct aM (M 0 0) (M 0 4) z36 (z36 + 1) (-z100) 1 (M 0 24) (M 0 27) (M 0 29) (M 0 31) (M 0 32) (M 0 33) (M 0 34) (M 0 35) (M 1) (M 2) (M 3) (M 4) (M 5) (M 9) (M 10) (M 11) (M 12) (M 13) (M 14) (M 15) (M 16) (M 17) (M 18) (M 19) (M 20) (M 21) (M 22) (LM 6) (LM 7) (LM 8)] fl_X10_127 rfl rfl rfl rfl (Nat.le_of_ble_eq_true rfl) rfl rfl dX10_lays_119 ?_
              refine im_iconst X 1 dX10_lays_122 (by decide) ?_
              exact im_zreturn X (1, (mr M 0 (fu (fu (fu (fu (fu (fu (M 0) 7 (-1)) 9 0) 6 z36) 8 (-z100)) 7 (z36 + 1)) 9 1))) rfl rfl rfl dX10_lays_123
            · refine im_iconst X 0 dX10_lays_93 (by decide) ?_
              exact im_zreturn X (0, (mr M 0 (fu (fu (fu (M 0) 7 (-1)) 9 0) 6 z36))) rfl rfl rfl dX10_lays_94
        · refine im_lv [0, 1, 4] [(0, .ref (aM 0)), (1, .int x1), (4, .int x4)] rfl ?_
          exact i_X10_lays_51 X F aM (mr M 0 (fu (fu (fu (M 0) 7 (-1)) 9 0) 6 z36)) LM x1 x4 
    · refine im_iconst X 0 dX10_lays_31 (by decide) ?_
      exact im_zreturn X (0, (mr M 0 (fu (fu (M 0) 7 (-1)) 9 0))) rfl rfl rfl dX10_lays_32
theorem c_X10_lays (l : Launch) (D : va_G) (ct : im_ct) (F : Nat) (aM : Nat → Nat) (M : Mem) (LM : MemL) (x1 : Int32) (x2 : Int32) (x3 : Int32) (x4 : Int32) (x5 : Int32) : CMi l D ct yX10_lays cX10_lays 6 (some .boolean) 3 [.ref (aM 0), .int x1, .int x2, .int x3, .int x4, .int x5] (cat [w_Model ct aM M LM]) (f_X10_lays F M LM x1 x2 x3 x4 x5) (fun z : Int32 × Mem => z.1) (fun z : Int32 × Mem => (cat [w_Model ct aM z.2 LM])) :=
  im_met (Qb := fun A => QI D A (fun z : Int32 × Mem => z.1) (fun z : Int32 × Mem => (cat [w_Model ct aM z.2 LM]))) (by decide +kernel) (Nat.le_of_ble_eq_true rfl) (fun p e s m args below meth c A X => i_X10_lays X F aM M LM x1 x2 x3 x4 x5)

noncomputable def f_X10_laysLogged (F : Nat) (M : Mem) (LM : MemL) (x1 : Int32) : Option (Mem) :=
  ck (57 + (5 * x1)) 226 (ck ((57 + (5 * x1)) + 1) 226 (ck ((57 + (5 * x1)) + 2) 226 (ck ((57 + (5 * x1)) + 3) 226 (ck ((57 + (5 * x1)) + 4) 226 ((f_X10_lays F M LM ((M 1) ((57 + (5 * x1))).toNatClampNeg) ((M 1) (((57 + (5 * x1)) + 1)).toNatClampNeg) ((M 1) (((57 + (5 * x1)) + 2)).toNatClampNeg) ((M 1) (((57 + (5 * x1)) + 3)).toNatClampNeg) ((M 1) (((57 + (5 * x1)) + 4)).toNatClampNeg)).bind (fun z46 => (some z46.2)))))))
set_option maxRecDepth 100000 in
set_option maxHeartbeats 4000000 in
theorem i_X10_laysLogged {p : Program} {l : Launch} {e : Env} {s : State} {m : MethodId} {args : Array Value} {below : List Frame} {meth : Method} {c : Code} {D : va_G} {ct : im_ct} {A : Nat → Prop} (X : im_X p (im_rm 4) s m args meth c D ct A RX10 cX10_laysLogged 4 none) (F : Nat) (aM : Nat → Nat) (M : Mem) (LM : MemL) (x1 : Int32) : Im p l e (im_rm 4) s m args below meth c D A 4 (QV D A (fun z : Mem => (cat [w_Model ct aM z LM]))) 0 [(0, .ref (aM 0)), (1, .int x1)] [] (cat [w_Model ct aM M LM]) (f_X10_laysLogged F M LM x1) := by
  unfold f_X10_laysLogged
  refine im_bipush X 57 dX10_laysLogged_0 (by decide) ?_
  refine im_iconst X 5 dX10_laysLogged_2 (by decide) ?_
  refine im_iload_n X 1 dX10_laysLogged_3 rfl rfl ?_
  refine im_imul X dX10_laysLogged_4 ?_
  refine im_iadd X dX10_laysLogged_5 ?_
  refine im_istore_n X [1, 2, 0] [(0, .ref (aM 0)), (1, .int x1), (2, .int (57 + (5 * x1)))] dX10_laysLogged_6 rfl (by decide) rfl ?_
  refine im_aload_n X 0 dX10_laysLogged_7 rfl rfl ?_
  refine im_aload_n X 0 dX10_laysLogged_8 rfl rfl ?_
  refine im_cget X 0 0 (v := .ref (aM 1)) fl_X10_13 rfl rfl rfl dX10_laysLogged_9 ?_
  refine im_iload_n X 2 dX10_laysLogged_12 rfl rfl ?_
  refine im_ciald X 0 1 0 (f := (M 1)) rfl rfl rfl dX10_laysLogged_13 ?_
  refine im_aload_n X 0 dX10_laysLogged_14 rfl rfl ?_
  refine im_cget X 0 0 (v := .ref (aM 1)) fl_X10_13 rfl rfl rfl dX10_laysLogged_15 ?_
  refine im_iload_n X 2 dX10_laysLogged_18 rfl rfl ?_
  refine im_iconst X 1 dX10_laysLogged_19 (by decide) ?_
  refine im_iadd X dX10_laysLogged_20 ?_
  refine im_ciald X 0 1 0 (f := (M 1)) rfl rfl rfl dX10_laysLogged_21 ?_
  refine im_aload_n X 0 dX10_laysLogged_22 rfl rfl ?_
  refine im_cget X 0 0 (v := .ref (aM 1)) fl_X10_13 rfl rfl rfl dX10_laysLogged_23 ?_
  refine im_iload_n X 2 dX10_laysLogged_26 rfl rfl ?_
  refine im_iconst X 2 dX10_laysLogged_27 (by decide) ?_
  refine im_iadd X dX10_laysLogged_28 ?_
  refine im_ciald X 0 1 0 (f := (M 1)) rfl rfl rfl dX10_laysLogged_29 ?_
  refine im_aload_n X 0 dX10_laysLogged_30 rfl rfl ?_
  refine im_cget X 0 0 (v := .ref (aM 1)) fl_X10_13 rfl rfl rfl dX10_laysLogged_31 ?_
  refine im_iload_n X 2 dX10_laysLogged_34 rfl rfl ?_
  refine im_iconst X 3 dX10_laysLogged_35 (by decide) ?_
  refine im_iadd X dX10_laysLogged_36 ?_
  refine im_ciald X 0 1 0 (f := (M 1)) rfl rfl rfl dX10_laysLogged_37 ?_
  refine im_aload_n X 0 dX10_laysLogged_38 rfl rfl ?_
  refine im_cget X 0 0 (v := .ref (aM 1)) fl_X10_13 rfl rfl rfl dX10_laysLogged_39 ?_
  refine im_iload_n X 2 dX10_laysLogged_42 rfl rfl ?_
  refine im_iconst X 4 dX10_laysLogged_43 (by decide) ?_
  refine im_iadd X dX10_laysLogged_44 ?_
  refine im_ciald X 0 1 0 (f := (M 1)) rfl rfl rfl dX10_laysLogged_45 ?_
  refine im_cciV X [.int ((M 1) ((57 + (5 * x1))).toNatClampNeg), .int ((M 1) (((57 + (5 * x1)) + 1)).toNatClampNeg), .int ((M 1) (((57 + (5 * x1)) + 2)).toNatClampNeg), .int ((M 1) (((57 + (5 * x1)) + 3)).toNatClampNeg), .int ((M 1) (((57 + (5 * x1)) + 4)).toNatClampNeg)] [] [w_Model ct aM M LM] [w_Model ct aM M LM] [0] (fun z46 => [w_Model ct aM z46.2 LM]) 0 0 10 rfl rfl rfl cl_X10_144 (c_X10_lays l D ct F aM M LM ((M 1) ((57 + (5 * x1))).toNatClampNeg) ((M 1) (((57 + (5 * x1)) + 1)).toNatClampNeg) ((M 1) (((57 + (5 * x1)) + 2)).toNatClampNeg) ((M 1) (((57 + (5 * x1)) + 3)).toNatClampNeg) ((M 1) (((57 + (5 * x1)) + 4)).toNatClampNeg)) rfl (by decide) (fun _ => lc fa_Model (rfl)) rfl ⟨by decide, by decide⟩ (Nat.le_of_ble_eq_true rfl) rfl dX10_laysLogged_46 (fun z46 => ?_)
  refine im_ws (cat [w_Model ct aM z46.2 LM]) rfl ?_
  refine im_istore_n X [1, 2, 3, 0] [(0, .ref (aM 0)), (1, .int x1), (2, .int (57 + (5 * x1))), (3, .int z46.1)] dX10_laysLogged_49 rfl (by decide) rfl ?_
  exact im_return X z46.2 rfl dX10_laysLogged_50
theorem c_X10_laysLogged (l : Launch) (D : va_G) (ct : im_ct) (F : Nat) (aM : Nat → Nat) (M : Mem) (LM : MemL) (x1 : Int32) : CMv l D ct yX10_laysLogged cX10_laysLogged 4 none 4 [.ref (aM 0), .int x1] (cat [w_Model ct aM M LM]) (f_X10_laysLogged F M LM x1) (fun z : Mem => (cat [w_Model ct aM z LM])) :=
  im_met (Qb := fun A => QV D A (fun z : Mem => (cat [w_Model ct aM z LM]))) (by decide +kernel) (Nat.le_of_ble_eq_true rfl) (fun p e s m args below meth c A X => i_X10_laysLogged X F aM M LM x1)

noncomputable def f_X10_holds (F : Nat) (x0 : Int32) : Option (Int32) :=
  (f_X10_in F (x0).toInt64 0 99).bind (fun z6 => (cb z6 (some z6)))
set_option maxRecDepth 100000 in
set_option maxHeartbeats 4000000 in
theorem i_X10_holds {p : Program} {l : Launch} {e : Env} {s : State} {m : MethodId} {args : Array Value} {below : List Frame} {meth : Method} {c : Code} {D : va_G} {ct : im_ct} {A : Nat → Prop} (X : im_X p (im_rm 1) s m args meth c D ct A RX10 cX10_holds 1 (some .boolean)) (F : Nat) (x0 : Int32) : Im p l e (im_rm 1) s m args below meth c D A 1 (QI D A (fun z : Int32 => z) (fun z : Int32 => (cat []))) 0 [(0, .int x0)] [] (cat []) (f_X10_holds F x0) := by
  unfold f_X10_holds
  refine im_iload_n X 0 dX10_holds_0 rfl rfl ?_
  refine im_i2l X dX10_holds_1 ?_
  refine im_lconst X 0 dX10_holds_2 (by decide) ?_
  refine im_ldc2 X kc_X10_142 dX10_holds_3 ?_
  refine im_cciS X [.long (x0).toInt64, .long 0, .long 99] [] [] [] [] (fun z6 => []) cl_X10_86 (c_X10_in l D ct F (x0).toInt64 0 99) rfl (by decide) (fun _ => rfl) rfl ⟨by decide, by decide⟩ (Nat.le_of_ble_eq_true rfl) rfl dX10_holds_6 (fun z6 => ?_)
  refine im_ws (cat []) rfl ?_
  exact im_zreturnc X z6 rfl rfl dX10_holds_9
theorem c_X10_holds (l : Launch) (D : va_G) (ct : im_ct) (F : Nat) (x0 : Int32) : CMi l D ct yX10_holds cX10_holds 1 (some .boolean) 1 [.int x0] (cat []) (f_X10_holds F x0) (fun z : Int32 => z) (fun z : Int32 => (cat [])) :=
  im_met (Qb := fun A => QI D A (fun z : Int32 => z) (fun z : Int32 => (cat []))) (by decide +kernel) (Nat.le_of_ble_eq_true rfl) (fun p e s m args below meth c A X => i_X10_holds X F x0)

noncomputable def f_X10_fits (F : Nat) (M : Mem) (LM : MemL) : Option (Int32) :=
  ck (M 0 6) 24 ((f_X10_holds F (((M 4) ((M 0 6)).toNatClampNeg) + (M 0 8))).bind (fun z14 => (if z14 = 0 then (some 0) else (if (M 0 7) = (-1) then (some 1) else ck (M 0 7) 24 ((f_X10_holds F (((M 4) ((M 0 7)).toNatClampNeg) + (M 0 9))).bind (fun z42 => (if z42 = 0 then (some 0) else (some 1))))))))
set_option maxRecDepth 100000 in
set_option maxHeartbeats 4000000 in
theorem i_X10_fits {p : Program} {l : Launch} {e : Env} {s : State} {m : MethodId} {args : Array Value} {below : List Frame} {meth : Method} {c : Code} {D : va_G} {ct : im_ct} {A : Nat → Prop} (X : im_X p (im_rm 2) s m args meth c D ct A RX10 cX10_fits 1 (some .boolean)) (F : Nat) (aM : Nat → Nat) (M : Mem) (LM : MemL) : Im p l e (im_rm 2) s m args below meth c D A 1 (QI D A (fun z : Int32 => z) (fun z : Int32 => (cat [w_Model ct aM M LM]))) 0 [(0, .ref (aM 0))] [] (cat [w_Model ct aM M LM]) (f_X10_fits F M LM) := by
  unfold f_X10_fits
  refine im_aload_n X 0 dX10_fits_0 rfl rfl ?_
  refine im_cget X 0 0 (v := .ref (aM 4)) fl_X10_23 rfl rfl rfl dX10_fits_1 ?_
  refine im_aload_n X 0 dX10_fits_4 rfl rfl ?_
  refine im_cget X 0 0 (v := .int (M 0 6)) fl_X10_136 rfl rfl rfl dX10_fits_5 ?_
  refine im_ciald X 0 4 0 (f := (M 4)) rfl rfl rfl dX10_fits_8 ?_
  refine im_aload_n X 0 dX10_fits_9 rfl rfl ?_
  refine im_cget X 0 0 (v := .int (M 0 8)) fl_X10_139 rfl rfl rfl dX10_fits_10 ?_
  refine im_iadd X dX10_fits_13 ?_
  refine im_cciS X [.int (((M 4) ((M 0 6)).toNatClampNeg) + (M 0 8))] [] [w_Model ct aM M LM] [] [] (fun z14 => []) cl_X10_148 (c_X10_holds l D ct F (((M 4) ((M 0 6)).toNatClampNeg) + (M 0 8))) rfl (by decide) (fun _ => rfl) rfl ⟨by decide, by decide⟩ (Nat.le_of_ble_eq_true rfl) rfl dX10_fits_14 (fun z14 => ?_)
  refine im_ws (cat [w_Model ct aM M LM]) rfl ?_
  refine im_if_eq (tgt := 52) X dX10_fits_17 rfl ?_ ?_
  · refine im_iconst X 0 dX10_fits_52 (by decide) ?_
    exact im_zreturn X 0 rfl rfl rfl dX10_fits_53
  · refine im_aload_n X 0 dX10_fits_20 rfl rfl ?_
    refine im_cget X 0 0 (v := .int (M 0 7)) fl_X10_124 rfl rfl rfl dX10_fits_21 ?_
    refine im_iconst X (-1) dX10_fits_24 (by decide) ?_
    refine im_icmp_eq (tgt := 48) X dX10_fits_25 rfl ?_ ?_
    · refine im_iconst X 1 dX10_fits_48 (by decide) ?_
      refine im_goto (tgt := 53) X dX10_fits_49 rfl ?_
      exact im_zreturn X 1 rfl rfl rfl dX10_fits_53
    · refine im_aload_n X 0 dX10_fits_28 rfl rfl ?_
      refine im_cget X 0 0 (v := .ref (aM 4)) fl_X10_23 rfl rfl rfl dX10_fits_29 ?_
      refine im_aload_n X 0 dX10_fits_32 rfl rfl ?_
      refine im_cget X 0 0 (v := .int (M 0 7)) fl_X10_124 rfl rfl rfl dX10_fits_33 ?_
      refine im_ciald X 0 4 0 (f := (M 4)) rfl rfl rfl dX10_fits_36 ?_
      refine im_aload_n X 0 dX10_fits_37 rfl rfl ?_
      refine im_cget X 0 0 (v := .int (M 0 9)) fl_X10_127 rfl rfl rfl dX10_fits_38 ?_
      refine im_iadd X dX10_fits_41 ?_
      refine im_cciS X [.int (((M 4) ((M 0 7)).toNatClampNeg) + (M 0 9))] [] [w_Model ct aM M LM] [] [] (fun z42 => []) cl_X10_148 (c_X10_holds l D ct F (((M 4) ((M 0 7)).toNatClampNeg) + (M 0 9))) rfl (by decide) (fun _ => rfl) rfl ⟨by decide, by decide⟩ (Nat.le_of_ble_eq_true rfl) rfl dX10_fits_42 (fun z42 => ?_)
      refine im_ws (cat [w_Model ct aM M LM]) rfl ?_
      refine im_if_eq (tgt := 52) X dX10_fits_45 rfl ?_ ?_
      · refine im_iconst X 0 dX10_fits_52 (by decide) ?_
        exact im_zreturn X 0 rfl rfl rfl dX10_fits_53
      · refine im_iconst X 1 dX10_fits_48 (by decide) ?_
        refine im_goto (tgt := 53) X dX10_fits_49 rfl ?_
        exact im_zreturn X 1 rfl rfl rfl dX10_fits_53
theorem c_X10_fits (l : Launch) (D : va_G) (ct : im_ct) (F : Nat) (aM : Nat → Nat) (M : Mem) (LM : MemL) : CMi l D ct yX10_fits cX10_fits 1 (some .boolean) 2 [.ref (aM 0)] (cat [w_Model ct aM M LM]) (f_X10_fits F M LM) (fun z : Int32 => z) (fun z : Int32 => (cat [w_Model ct aM M LM])) :=
  im_met (Qb := fun A => QI D A (fun z : Int32 => z) (fun z : Int32 => (cat [w_Model ct aM M LM]))) (by decide +kernel) (Nat.le_of_ble_eq_true rfl) (fun p e s m args below meth c A X => i_X10_fits X F aM M LM)

noncomputable def f_X10_goes (F : Nat) (M : Mem) (LM : MemL) (x1 : Int32) : Option (Mem) :=
  ck (M 0 6) 24 (ck (M 0 6) 24 ((if (M 0 7) = (-1) then (some (mr M 4 (upd (M 4) ((M 0 6)).toNatClampNeg (((M 4) ((M 0 6)).toNatClampNeg) + (x1 * (M 0 8)))))) else ck (M 0 7) 24 (ck (M 0 7) 24 ((some (mr M 4 (upd (upd (M 4) ((M 0 6)).toNatClampNeg (((M 4) ((M 0 6)).toNatClampNeg) + (x1 * (M 0 8)))) ((M 0 7)).toNatClampNeg (((upd (M 4) ((M 0 6)).toNatClampNeg (((M 4) ((M 0 6)).toNatClampNeg) + (x1 * (M 0 8)))) ((M 0 7)).toNatClampNeg) + (x1 * (M 0 9)))))))))))
set_option maxRecDepth 100000 in
set_option maxHeartbeats 4000000 in
theorem i_X10_goes {p : Program} {l : Launch} {e : Env} {s : State} {m : MethodId} {args : Array Value} {below : List Frame} {meth : Method} {c : Code} {D : va_G} {ct : im_ct} {A : Nat → Prop} (X : im_X p (im_rm 0) s m args meth c D ct A RX10 cX10_goes 2 none) (F : Nat) (aM : Nat → Nat) (M : Mem) (LM : MemL) (x1 : Int32) : Im p l e (im_rm 0) s m args below meth c D A 2 (QV D A (fun z : Mem => (cat [w_Model ct aM z LM]))) 0 [(0, .ref (aM 0)), (1, .int x1)] [] (cat [w_Model ct aM M LM]) (f_X10_goes F M LM x1) := by
  unfold f_X10_goes
  refine im_aload_n X 0 dX10_goes_0 rfl rfl ?_
  refine im_cget X 0 0 (v := .ref (aM 4)) fl_X10_23 rfl rfl rfl dX10_goes_1 ?_
  refine im_aload_n X 0 dX10_goes_4 rfl rfl ?_
  refine im_cget X 0 0 (v := .int (M 0 6)) fl_X10_136 rfl rfl rfl dX10_goes_5 ?_
  refine im_dup2_11 X rfl rfl dX10_goes_8 ?_
  refine im_ciald X 0 4 0 (f := (M 4)) rfl rfl rfl dX10_goes_9 ?_
  refine im_iload_n X 1 dX10_goes_10 rfl rfl ?_
  refine im_aload_n X 0 dX10_goes_11 rfl rfl ?_
  refine im_cget X 0 0 (v := .int (M 0 8)) fl_X10_139 rfl rfl rfl dX10_goes_12 ?_
  refine im_imul X dX10_goes_15 ?_
  refine im_iadd X dX10_goes_16 ?_
  refine im_ciast X 0 4 0 (wx_Model ct aM (M 0 0) (M 0 4) (M 0 6) (M 0 7) (M 0 8) (M 0 9) (M 0 24) (M 0 27) (M 0 29) (M 0 31) (M 0 32) (M 0 33) (M 0 34) (M 0 35) (M 1) (M 2) (M 3) (upd (M 4) ((M 0 6)).toNatClampNeg (((M 4) ((M 0 6)).toNatClampNeg) + (x1 * (M 0 8)))) (M 5) (M 9) (M 10) (M 11) (M 12) (M 13) (M 14) (M 15) (M 16) (M 17) (M 18) (M 19) (M 20) (M 21) (M 22) (LM 6) (LM 7) (LM 8)) [wx_Model ct aM (M 0 0) (M 0 4) (M 0 6) (M 0 7) (M 0 8) (M 0 9) (M 0 24) (M 0 27) (M 0 29) (M 0 31) (M 0 32) (M 0 33) (M 0 34) (M 0 35) (M 1) (M 2) (M 3) (upd (M 4) ((M 0 6)).toNatClampNeg (((M 4) ((M 0 6)).toNatClampNeg) + (x1 * (M 0 8)))) (M 5) (M 9) (M 10) (M 11) (M 12) (M 13) (M 14) (M 15) (M 16) (M 17) (M 18) (M 19) (M 20) (M 21) (M 22) (LM 6) (LM 7) (LM 8)] (f := (M 4)) rfl rfl rfl rfl rfl dX10_goes_17 ?_
  refine im_aload_n X 0 dX10_goes_18 rfl rfl ?_
  refine im_cget X 0 0 (v := .int (M 0 7)) fl_X10_124 rfl rfl rfl dX10_goes_19 ?_
  refine im_iconst X (-1) dX10_goes_22 (by decide) ?_
  refine im_icmp_eq (tgt := 44) X dX10_goes_23 rfl ?_ ?_
  · exact im_return X (mr M 4 (upd (M 4) ((M 0 6)).toNatClampNeg (((M 4) ((M 0 6)).toNatClampNeg) + (x1 * (M 0 8))))) rfl dX10_goes_44
  · refine im_aload_n X 0 dX10_goes_26 rfl rfl ?_
    refine im_cget X 0 0 (v := .ref (aM 4)) fl_X10_23 rfl rfl rfl dX10_goes_27 ?_
    refine im_aload_n X 0 dX10_goes_30 rfl rfl ?_
    refine im_cget X 0 0 (v := .int (M 0 7)) fl_X10_124 rfl rfl rfl dX10_goes_31 ?_
    refine im_dup2_11 X rfl rfl dX10_goes_34 ?_
    refine im_ciald X 0 4 0 (f := (upd (M 4) ((M 0 6)).toNatClampNeg (((M 4) ((M 0 6)).toNatClampNeg) + (x1 * (M 0 8))))) rfl rfl rfl dX10_goes_35 ?_
    refine im_iload_n X 1 dX10_goes_36 rfl rfl ?_
    refine im_aload_n X 0 dX10_goes_37 rfl rfl ?_
    refine im_cget X 0 0 (v := .int (M 0 9)) fl_X10_127 rfl rfl rfl dX10_goes_38 ?_
    refine im_imul X dX10_goes_41 ?_
    refine im_iadd X dX10_goes_42 ?_
    refine im_ciast X 0 4 0 (wx_Model ct aM (M 0 0) (M 0 4) (M 0 6) (M 0 7) (M 0 8) (M 0 9) (M 0 24) (M 0 27) (M 0 29) (M 0 31) (M 0 32) (M 0 33) (M 0 34) (M 0 35) (M 1) (M 2) (M 3) (upd (upd (M 4) ((M 0 6)).toNatClampNeg (((M 4) ((M 0 6)).toNatClampNeg) + (x1 * (M 0 8)))) ((M 0 7)).toNatClampNeg (((upd (M 4) ((M 0 6)).toNatClampNeg (((M 4) ((M 0 6)).toNatClampNeg) + (x1 * (M 0 8)))) ((M 0 7)).toNatClampNeg) + (x1 * (M 0 9)))) (M 5) (M 9) (M 10) (M 11) (M 12) (M 13) (M 14) (M 15) (M 16) (M 17) (M 18) (M 19) (M 20) (M 21) (M 22) (LM 6) (LM 7) (LM 8)) [wx_Model ct aM (M 0 0) (M 0 4) (M 0 6) (M 0 7) (M 0 8) (M 0 9) (M 0 24) (M 0 27) (M 0 29) (M 0 31) (M 0 32) (M 0 33) (M 0 34) (M 0 35) (M 1) (M 2) (M 3) (upd (upd (M 4) ((M 0 6)).toNatClampNeg (((M 4) ((M 0 6)).toNatClampNeg) + (x1 * (M 0 8)))) ((M 0 7)).toNatClampNeg (((upd (M 4) ((M 0 6)).toNatClampNeg (((M 4) ((M 0 6)).toNatClampNeg) + (x1 * (M 0 8)))) ((M 0 7)).toNatClampNeg) + (x1 * (M 0 9)))) (M 5) (M 9) (M 10) (M 11) (M 12) (M 13) (M 14) (M 15) (M 16) (M 17) (M 18) (M 19) (M 20) (M 21) (M 22) (LM 6) (LM 7) (LM 8)] (f := (upd (M 4) ((M 0 6)).toNatClampNeg (((M 4) ((M 0 6)).toNatClampNeg) + (x1 * (M 0 8))))) rfl rfl rfl rfl rfl dX10_goes_43 ?_
    exact im_return X (mr M 4 (upd (upd (M 4) ((M 0 6)).toNatClampNeg (((M 4) ((M 0 6)).toNatClampNeg) + (x1 * (M 0 8)))) ((M 0 7)).toNatClampNeg (((upd (M 4) ((M 0 6)).toNatClampNeg (((M 4) ((M 0 6)).toNatClampNeg) + (x1 * (M 0 8)))) ((M 0 7)).toNatClampNeg) + (x1 * (M 0 9))))) rfl dX10_goes_44
theorem c_X10_goes (l : Launch) (D : va_G) (ct : im_ct) (F : Nat) (aM : Nat → Nat) (M : Mem) (LM : MemL) (x1 : Int32) : CMv l D ct yX10_goes cX10_goes 2 none 0 [.ref (aM 0), .int x1] (cat [w_Model ct aM M LM]) (f_X10_goes F M LM x1) (fun z : Mem => (cat [w_Model ct aM z LM])) :=
  im_met (Qb := fun A => QV D A (fun z : Mem => (cat [w_Model ct aM z LM]))) (by decide +kernel) (Nat.le_of_ble_eq_true rfl) (fun p e s m args below meth c A X => i_X10_goes X F aM M LM x1)

noncomputable def f_X10_laysNow_2 (F : Nat) (LM : MemL) (k29 : Mem → Option (Mem)) : Nat → Mem → Int32 → Option (Mem)
  | 0, _, _ => none
  | n + 1, M, x1 =>
  (if 24 ≤ x1 then k29 M else ck (8 + x1) 226 (ck x1 24 (f_X10_laysNow_2 F LM k29 n (mr M 4 (upd (M 4) x1.toNatClampNeg ((M 1) ((8 + x1)).toNatClampNeg))) (x1 + 1))))
set_option maxRecDepth 100000 in
set_option maxHeartbeats 4000000 in
theorem i_X10_laysNow_2 {p : Program} {l : Launch} {e : Env} {s : State} {m : MethodId} {args : Array Value} {below : List Frame} {meth : Method} {c : Code} {D : va_G} {ct : im_ct} {A : Nat → Prop} (X : im_X p (im_rm 0) s m args meth c D ct A RX10 cX10_laysNow 2 none) (F : Nat) (aM : Nat → Nat) (LM : MemL) (k29 : Mem → Option (Mem)) (hk29 : ∀ (M : Mem), Im p l e (im_rm 0) s m args below meth c D A 2 (QV D A (fun z : Mem => (cat [w_Model ct aM z LM]))) 29 [] [] (cat [w_Model ct aM M LM]) (k29 M)) : ∀ (n : Nat) (M : Mem) (x1 : Int32), Im p l e (im_rm 0) s m args below meth c D A 2 (QV D A (fun z : Mem => (cat [w_Model ct aM z LM]))) 2 [(0, .ref (aM 0)), (1, .int x1)] [] (cat [w_Model ct aM M LM]) (f_X10_laysNow_2 F LM k29 n M x1) := by
  intro n
  induction n with
  | zero => intros; exact im_none
  | succ n ih =>
    intro M x1
    unfold f_X10_laysNow_2
    refine im_iload_n X 1 dX10_laysNow_2 rfl rfl ?_
    refine im_bipush X 24 dX10_laysNow_3 (by decide) ?_
    refine im_icmp_ge (tgt := 29) X dX10_laysNow_5 rfl ?_ ?_
    · refine im_lv [] [] rfl ?_
      exact hk29 M
    · refine im_aload_n X 0 dX10_laysNow_8 rfl rfl ?_
      refine im_cget X 0 0 (v := .ref (aM 4)) fl_X10_23 rfl rfl rfl dX10_laysNow_9 ?_
      refine im_iload_n X 1 dX10_laysNow_12 rfl rfl ?_
      refine im_aload_n X 0 dX10_laysNow_13 rfl rfl ?_
      refine im_cget X 0 0 (v := .ref (aM 1)) fl_X10_13 rfl rfl rfl dX10_laysNow_14 ?_
      refine im_bipush X 8 dX10_laysNow_17 (by decide) ?_
      refine im_iload_n X 1 dX10_laysNow_19 rfl rfl ?_
      refine im_iadd X dX10_laysNow_20 ?_
      refine im_ciald X 0 1 0 (f := (M 1)) rfl rfl rfl dX10_laysNow_21 ?_
      refine im_ciast X 0 4 0 (wx_Model ct aM (M 0 0) (M 0 4) (M 0 6) (M 0 7) (M 0 8) (M 0 9) (M 0 24) (M 0 27) (M 0 29) (M 0 31) (M 0 32) (M 0 33) (M 0 34) (M 0 35) (M 1) (M 2) (M 3) (upd (M 4) x1.toNatClampNeg ((M 1) ((8 + x1)).toNatClampNeg)) (M 5) (M 9) (M 10) (M 11) (M 12) (M 13) (M 14) (M 15) (M 16) (M 17) (M 18) (M 19) (M 20) (M 21) (M 22) (LM 6) (LM 7) (LM 8)) [wx_Model ct aM (M 0 0) (M 0 4) (M 0 6) (M 0 7) (M 0 8) (M 0 9) (M 0 24) (M 0 27) (M 0 29) (M 0 31) (M 0 32) (M 0 33) (M 0 34) (M 0 35) (M 1) (M 2) (M 3) (upd (M 4) x1.toNatClampNeg ((M 1) ((8 + x1)).toNatClampNeg)) (M 5) (M 9) (M 10) (M 11) (M 12) (M 13) (M 14) (M 15) (M 16) (M 17) (M 18) (M 19) (M 20) (M 21) (M 22) (LM 6) (LM 7) (LM 8)] (f := (M 4)) rfl rfl rfl rfl rfl dX10_laysNow_22 ?_
      refine im_iinc X 1 1 [1, 0] [(0, .ref (aM 0)), (1, .int (x1 + 1))] dX10_laysNow_23 (by decide) rfl (by decide) rfl ?_
      refine im_goto (tgt := 2) X dX10_laysNow_26 rfl ?_
      exact ih (mr M 4 (upd (M 4) x1.toNatClampNeg ((M 1) ((8 + x1)).toNatClampNeg))) (x1 + 1)
noncomputable def f_X10_laysNow (F : Nat) (M : Mem) (LM : MemL) : Option (Mem) :=
  f_X10_laysNow_2 F LM (fun M_29 => (some M_29)) F M 0
set_option maxRecDepth 100000 in
set_option maxHeartbeats 4000000 in
theorem i_X10_laysNow {p : Program} {l : Launch} {e : Env} {s : State} {m : MethodId} {args : Array Value} {below : List Frame} {meth : Method} {c : Code} {D : va_G} {ct : im_ct} {A : Nat → Prop} (X : im_X p (im_rm 0) s m args meth c D ct A RX10 cX10_laysNow 2 none) (F : Nat) (aM : Nat → Nat) (M : Mem) (LM : MemL) : Im p l e (im_rm 0) s m args below meth c D A 2 (QV D A (fun z : Mem => (cat [w_Model ct aM z LM]))) 0 [(0, .ref (aM 0))] [] (cat [w_Model ct aM M LM]) (f_X10_laysNow F M LM) := by
  unfold f_X10_laysNow
  refine im_iconst X 0 dX10_laysNow_0 (by decide) ?_
  refine im_istore_n X [1, 0] [(0, .ref (aM 0)), (1, .int 0)] dX10_laysNow_1 rfl (by decide) rfl ?_
  refine i_X10_laysNow_2 X F aM LM  _ (fun M_29 => ?_) F M 0
  exact im_return X M_29 rfl dX10_laysNow_29
theorem c_X10_laysNow (l : Launch) (D : va_G) (ct : im_ct) (F : Nat) (aM : Nat → Nat) (M : Mem) (LM : MemL) : CMv l D ct yX10_laysNow cX10_laysNow 2 none 0 [.ref (aM 0)] (cat [w_Model ct aM M LM]) (f_X10_laysNow F M LM) (fun z : Mem => (cat [w_Model ct aM z LM])) :=
  im_met (Qb := fun A => QV D A (fun z : Mem => (cat [w_Model ct aM z LM]))) (by decide +kernel) (Nat.le_of_ble_eq_true rfl) (fun p e s m args below meth c A X => i_X10_laysNow X F aM M LM)

noncomputable def f_X10_takesNow_2 (F : Nat) (LM : MemL) (k29 : Mem → Option (Mem)) : Nat → Mem → Int32 → Option (Mem)
  | 0, _, _ => none
  | n + 1, M, x1 =>
  (if 24 ≤ x1 then k29 M else ck x1 24 (ck (8 + x1) 226 (f_X10_takesNow_2 F LM k29 n (mr M 1 (upd (M 1) ((8 + x1)).toNatClampNeg ((M 4) x1.toNatClampNeg))) (x1 + 1))))
set_option maxRecDepth 100000 in
set_option maxHeartbeats 4000000 in
theorem i_X10_takesNow_2 {p : Program} {l : Launch} {e : Env} {s : State} {m : MethodId} {args : Array Value} {below : List Frame} {meth : Method} {c : Code} {D : va_G} {ct : im_ct} {A : Nat → Prop} (X : im_X p (im_rm 0) s m args meth c D ct A RX10 cX10_takesNow 2 none) (F : Nat) (aM : Nat → Nat) (LM : MemL) (k29 : Mem → Option (Mem)) (hk29 : ∀ (M : Mem), Im p l e (im_rm 0) s m args below meth c D A 2 (QV D A (fun z : Mem => (cat [w_Model ct aM z LM]))) 29 [] [] (cat [w_Model ct aM M LM]) (k29 M)) : ∀ (n : Nat) (M : Mem) (x1 : Int32), Im p l e (im_rm 0) s m args below meth c D A 2 (QV D A (fun z : Mem => (cat [w_Model ct aM z LM]))) 2 [(0, .ref (aM 0)), (1, .int x1)] [] (cat [w_Model ct aM M LM]) (f_X10_takesNow_2 F LM k29 n M x1) := by
  intro n
  induction n with
  | zero => intros; exact im_none
  | succ n ih =>
    intro M x1
    unfold f_X10_takesNow_2
    refine im_iload_n X 1 dX10_takesNow_2 rfl rfl ?_
    refine im_bipush X 24 dX10_takesNow_3 (by decide) ?_
    refine im_icmp_ge (tgt := 29) X dX10_takesNow_5 rfl ?_ ?_
    · refine im_lv [] [] rfl ?_
      exact hk29 M
    · refine im_aload_n X 0 dX10_takesNow_8 rfl rfl ?_
      refine im_cget X 0 0 (v := .ref (aM 1)) fl_X10_13 rfl rfl rfl dX10_takesNow_9 ?_
      refine im_bipush X 8 dX10_takesNow_12 (by decide) ?_
      refine im_iload_n X 1 dX10_takesNow_14 rfl rfl ?_
      refine im_iadd X dX10_takesNow_15 ?_
      refine im_aload_n X 0 dX10_takesNow_16 rfl rfl ?_
      refine im_cget X 0 0 (v := .ref (aM 4)) fl_X10_23 rfl rfl rfl dX10_takesNow_17 ?_
      refine im_iload_n X 1 dX10_takesNow_20 rfl rfl ?_
      refine im_ciald X 0 4 0 (f := (M 4)) rfl rfl rfl dX10_takesNow_21 ?_
      refine im_ciast X 0 1 0 (wx_Model ct aM (M 0 0) (M 0 4) (M 0 6) (M 0 7) (M 0 8) (M 0 9) (M 0 24) (M 0 27) (M 0 29) (M 0 31) (M 0 32) (M 0 33) (M 0 34) (M 0 35) (upd (M 1) ((8 + x1)).toNatClampNeg ((M 4) x1.toNatClampNeg)) (M 2) (M 3) (M 4) (M 5) (M 9) (M 10) (M 11) (M 12) (M 13) (M 14) (M 15) (M 16) (M 17) (M 18) (M 19) (M 20) (M 21) (M 22) (LM 6) (LM 7) (LM 8)) [wx_Model ct aM (M 0 0) (M 0 4) (M 0 6) (M 0 7) (M 0 8) (M 0 9) (M 0 24) (M 0 27) (M 0 29) (M 0 31) (M 0 32) (M 0 33) (M 0 34) (M 0 35) (upd (M 1) ((8 + x1)).toNatClampNeg ((M 4) x1.toNatClampNeg)) (M 2) (M 3) (M 4) (M 5) (M 9) (M 10) (M 11) (M 12) (M 13) (M 14) (M 15) (M 16) (M 17) (M 18) (M 19) (M 20) (M 21) (M 22) (LM 6) (LM 7) (LM 8)] (f := (M 1)) rfl rfl rfl rfl rfl dX10_takesNow_22 ?_
      refine im_iinc X 1 1 [1, 0] [(0, .ref (aM 0)), (1, .int (x1 + 1))] dX10_takesNow_23 (by decide) rfl (by decide) rfl ?_
      refine im_goto (tgt := 2) X dX10_takesNow_26 rfl ?_
      exact ih (mr M 1 (upd (M 1) ((8 + x1)).toNatClampNeg ((M 4) x1.toNatClampNeg))) (x1 + 1)
noncomputable def f_X10_takesNow (F : Nat) (M : Mem) (LM : MemL) : Option (Mem) :=
  f_X10_takesNow_2 F LM (fun M_29 => (some M_29)) F M 0
set_option maxRecDepth 100000 in
set_option maxHeartbeats 4000000 in
theorem i_X10_takesNow {p : Program} {l : Launch} {e : Env} {s : State} {m : MethodId} {args : Array Value} {below : List Frame} {meth : Method} {c : Code} {D : va_G} {ct : im_ct} {A : Nat → Prop} (X : im_X p (im_rm 0) s m args meth c D ct A RX10 cX10_takesNow 2 none) (F : Nat) (aM : Nat → Nat) (M : Mem) (LM : MemL) : Im p l e (im_rm 0) s m args below meth c D A 2 (QV D A (fun z : Mem => (cat [w_Model ct aM z LM]))) 0 [(0, .ref (aM 0))] [] (cat [w_Model ct aM M LM]) (f_X10_takesNow F M LM) := by
  unfold f_X10_takesNow
  refine im_iconst X 0 dX10_takesNow_0 (by decide) ?_
  refine im_istore_n X [1, 0] [(0, .ref (aM 0)), (1, .int 0)] dX10_takesNow_1 rfl (by decide) rfl ?_
  refine i_X10_takesNow_2 X F aM LM  _ (fun M_29 => ?_) F M 0
  exact im_return X M_29 rfl dX10_takesNow_29
theorem c_X10_takesNow (l : Launch) (D : va_G) (ct : im_ct) (F : Nat) (aM : Nat → Nat) (M : Mem) (LM : MemL) : CMv l D ct yX10_takesNow cX10_takesNow 2 none 0 [.ref (aM 0)] (cat [w_Model ct aM M LM]) (f_X10_takesNow F M LM) (fun z : Mem => (cat [w_Model ct aM z LM])) :=
  im_met (Qb := fun A => QV D A (fun z : Mem => (cat [w_Model ct aM z LM]))) (by decide +kernel) (Nat.le_of_ble_eq_true rfl) (fun p e s m args below meth c A X => i_X10_takesNow X F aM M LM)

noncomputable def f_X10_canMove (F : Nat) (M : Mem) (LM : MemL) (x1 : Int32) (x2 : Int32) (x3 : Int32) (x4 : Int32) (x5 : Int32) : Option (Int32 × Mem) :=
  (f_X10_lays F M LM x1 x2 x3 x4 x5).bind (fun z8 => (if z8.1 = 0 then (some (0, z8.2)) else (f_X10_laysNow F z8.2 LM).bind (fun z17 => (f_X10_fits F z17 LM).bind (fun z21 => (cb z21 (some (z21, z17)))))))
set_option maxRecDepth 100000 in
set_option maxHeartbeats 4000000 in
theorem i_X10_canMove {p : Program} {l : Launch} {e : Env} {s : State} {m : MethodId} {args : Array Value} {below : List Frame} {meth : Method} {c : Code} {D : va_G} {ct : im_ct} {A : Nat → Prop} (X : im_X p (im_rm 4) s m args meth c D ct A RX10 cX10_canMove 6 (some .boolean)) (F : Nat) (aM : Nat → Nat) (M : Mem) (LM : MemL) (x1 : Int32) (x2 : Int32) (x3 : Int32) (x4 : Int32) (x5 : Int32) : Im p l e (im_rm 4) s m args below meth c D A 6 (QI D A (fun z : Int32 × Mem => z.1) (fun z : Int32 × Mem => (cat [w_Model ct aM z.2 LM]))) 0 [(0, .ref (aM 0)), (1, .int x1), (2, .int x2), (3, .int x3), (4, .int x4), (5, .int x5)] [] (cat [w_Model ct aM M LM]) (f_X10_canMove F M LM x1 x2 x3 x4 x5) := by
  unfold f_X10_canMove
  refine im_aload_n X 0 dX10_canMove_0 rfl rfl ?_
  refine im_iload_n X 1 dX10_canMove_1 rfl rfl ?_
  refine im_iload_n X 2 dX10_canMove_2 rfl rfl ?_
  refine im_iload_n X 3 dX10_canMove_3 rfl rfl ?_
  refine im_iload X 4 dX10_canMove_4 rfl ?_
  refine im_iload X 5 dX10_canMove_6 rfl ?_
  refine im_cciV X [.int x1, .int x2, .int x3, .int x4, .int x5] [] [w_Model ct aM M LM] [w_Model ct aM M LM] [0] (fun z8 => [w_Model ct aM z8.2 LM]) 0 0 10 rfl rfl rfl cl_X10_144 (c_X10_lays l D ct F aM M LM x1 x2 x3 x4 x5) rfl (by decide) (fun _ => lc fa_Model (rfl)) rfl ⟨by decide, by decide⟩ (Nat.le_of_ble_eq_true rfl) rfl dX10_canMove_8 (fun z8 => ?_)
  refine im_ws (cat [w_Model ct aM z8.2 LM]) rfl ?_
  refine im_if_ne (tgt := 16) X dX10_canMove_11 rfl ?_ ?_
  · refine im_aload_n X 0 dX10_canMove_16 rfl rfl ?_
    refine im_ccvV X [] [] [w_Model ct aM z8.2 LM] [w_Model ct aM z8.2 LM] [0] (fun z17 => [w_Model ct aM z17 LM]) 0 0 10 rfl rfl rfl cl_X10_151 (c_X10_laysNow l D ct F aM z8.2 LM) rfl (by decide) (fun _ => lc fa_Model (rfl)) rfl ⟨by decide, by decide⟩ (Nat.le_of_ble_eq_true rfl) rfl dX10_canMove_17 (fun z17 => ?_)
    refine im_ws (cat [w_Model ct aM z17 LM]) rfl ?_
    refine im_aload_n X 0 dX10_canMove_20 rfl rfl ?_
    refine im_cciV X [] [] [w_Model ct aM z17 LM] [w_Model ct aM z17 LM] [0] (fun z21 => [w_Model ct aM z17 LM]) 0 0 10 rfl rfl rfl cl_X10_154 (c_X10_fits l D ct F aM z17 LM) rfl (by decide) (fun _ => lc rfl (rfl)) rfl ⟨by decide, by decide⟩ (Nat.le_of_ble_eq_true rfl) rfl dX10_canMove_21 (fun z21 => ?_)
    refine im_ws (cat [w_Model ct aM z17 LM]) rfl ?_
    exact im_zreturnc X (z21, z17) rfl rfl dX10_canMove_24
  · refine im_iconst X 0 dX10_canMove_14 (by decide) ?_
    exact im_zreturn X (0, z8.2) rfl rfl rfl dX10_canMove_15
theorem c_X10_canMove (l : Launch) (D : va_G) (ct : im_ct) (F : Nat) (aM : Nat → Nat) (M : Mem) (LM : MemL) (x1 : Int32) (x2 : Int32) (x3 : Int32) (x4 : Int32) (x5 : Int32) : CMi l D ct yX10_canMove cX10_canMove 6 (some .boolean) 4 [.ref (aM 0), .int x1, .int x2, .int x3, .int x4, .int x5] (cat [w_Model ct aM M LM]) (f_X10_canMove F M LM x1 x2 x3 x4 x5) (fun z : Int32 × Mem => z.1) (fun z : Int32 × Mem => (cat [w_Model ct aM z.2 LM])) :=
  im_met (Qb := fun A => QI D A (fun z : Int32 × Mem => z.1) (fun z : Int32 × Mem => (cat [w_Model ct aM z.2 LM]))) (by decide +kernel) (Nat.le_of_ble_eq_true rfl) (fun p e s m args below meth c A X => i_X10_canMove X F aM M LM x1 x2 x3 x4 x5)

