noncomputable def f_X10_readsRow_19 (F : Nat) (M : Mem) (LM : MemL) (x1 : Int32) : Option (Mem) :=
  (f_X10_fails F M LM x1).bind (fun z21 => (some z21))
set_option maxRecDepth 100000 in
set_option maxHeartbeats 4000000 in
theorem i_X10_readsRow_19 {p : Program} {l : Launch} {e : Env} {s : State} {m : MethodId} {args : Array Value} {below : List Frame} {meth : Method} {c : Code} {D : va_G} {ct : im_ct} {A : Nat → Prop} (X : im_X p (im_rm 3) s m args meth c D ct A RX10 cX10_readsRow 4 none) (F : Nat) (aM : Nat → Nat) (M : Mem) (LM : MemL) (x1 : Int32) : Im p l e (im_rm 3) s m args below meth c D A 4 (QV D A (fun z : Mem => (w_Model ct aM z LM))) 19 [(0, .ref (aM 0)), (1, .int x1)] [] (w_Model ct aM M LM) (f_X10_readsRow_19 F M LM x1) := by
  unfold f_X10_readsRow_19
  refine im_aload_n X 0 dX10_readsRow_19 rfl rfl ?_
  refine im_iload_n X 1 dX10_readsRow_20 rfl rfl ?_
  refine im_ccvV X [.int x1] [] [w_Model ct aM M LM] [w_Model ct aM M LM] [0] (fun z21 => [w_Model ct aM z21 LM]) 0 10 rfl rfl cl_X10_345 (c_X10_fails l D ct F aM M LM x1) rfl rfl (by decide) (fun _ => lc fa_Model (rfl)) rfl ⟨by decide, by decide⟩ (Nat.le_of_ble_eq_true rfl) rfl dX10_readsRow_21 (fun z21 => ?_)
  refine im_ws (w_Model ct aM z21 LM) rfl ?_
  exact im_return X z21 rfl dX10_readsRow_24
noncomputable def f_X10_readsRow_33 (F : Nat) (LM : MemL) (k100 : Mem → Option (Mem)) : Nat → Mem → Int32 → Int32 → Option (Mem)
  | 0, _, _, _ => none
  | n + 1, M, x2, x3 =>
  (if x3 = 0 then k100 M else ck 1 226 ((f_X10_cell F ((M 2) (1 : Int32).toNatClampNeg) x2).bind (fun z50 => (f_X10_needsNumber F M LM 0 99).bind (fun z58 => ck (8 + z50) 226 ((if (z58.2 0 35) = (-1) then (if (z58.2 0 32) = 2 then ck 0 226 ((if ((upd (z58.2 2) ((8 + z50)).toNatClampNeg z58.1) (0 : Int32).toNatClampNeg) ≤ (x2 + 1) then f_X10_readsRow_33 F LM k100 n (mr z58.2 2 (upd (z58.2 2) ((8 + z50)).toNatClampNeg z58.1)) (x2 + 1) 0 else f_X10_readsRow_33 F LM k100 n (mr z58.2 2 (upd (z58.2 2) ((8 + z50)).toNatClampNeg z58.1)) (x2 + 1) 1)) else f_X10_readsRow_33 F LM k100 n (mr z58.2 2 (upd (z58.2 2) ((8 + z50)).toNatClampNeg z58.1)) (x2 + 1) 0) else f_X10_readsRow_33 F LM k100 n (mr z58.2 2 (upd (z58.2 2) ((8 + z50)).toNatClampNeg z58.1)) (x2 + 1) 0))))))
set_option maxRecDepth 100000 in
set_option maxHeartbeats 4000000 in
theorem i_X10_readsRow_33 {p : Program} {l : Launch} {e : Env} {s : State} {m : MethodId} {args : Array Value} {below : List Frame} {meth : Method} {c : Code} {D : va_G} {ct : im_ct} {A : Nat → Prop} (X : im_X p (im_rm 3) s m args meth c D ct A RX10 cX10_readsRow 4 none) (F : Nat) (aM : Nat → Nat) (LM : MemL) (k100 : Mem → Option (Mem)) (hk100 : ∀ (M : Mem), Im p l e (im_rm 3) s m args below meth c D A 4 (QV D A (fun z : Mem => (w_Model ct aM z LM))) 100 [(0, .ref (aM 0))] [] (w_Model ct aM M LM) (k100 M)) : ∀ (n : Nat) (M : Mem) (x2 : Int32) (x3 : Int32), Im p l e (im_rm 3) s m args below meth c D A 4 (QV D A (fun z : Mem => (w_Model ct aM z LM))) 33 [(0, .ref (aM 0)), (2, .int x2), (3, .int x3)] [] (w_Model ct aM M LM) (f_X10_readsRow_33 F LM k100 n M x2 x3) := by
  intro n
  induction n with
  | zero => intros; exact im_none
  | succ n ih =>
    intro M x2 x3
    unfold f_X10_readsRow_33
    refine im_iload_n X 2 dX10_readsRow_33 rfl rfl ?_
    refine im_if_eq (tgt := 100) X dX10_readsRow_34 rfl ?_ ?_
    · refine im_lv [0] [(0, .ref (aM 0))] rfl ?_
      exact hk100 M
    · refine im_aload_n X 0 dX10_readsRow_37 rfl rfl ?_
      refine im_get X 0 (v := .ref (aM 2)) fl_X10_17 rfl rfl dX10_readsRow_38 ?_
      refine im_bipush X 8 dX10_readsRow_41 (by decide) ?_
      refine im_aload_n X 0 dX10_readsRow_43 rfl rfl ?_
      refine im_get X 0 (v := .ref (aM 2)) fl_X10_17 rfl rfl dX10_readsRow_44 ?_
      refine im_iconst X 1 dX10_readsRow_47 (by decide) ?_
      refine im_iald X 2 0 (f := (M 2)) rfl rfl dX10_readsRow_48 ?_
      refine im_iload_n X 1 dX10_readsRow_49 rfl rfl ?_
      refine im_cciS X [.int ((M 2) (1 : Int32).toNatClampNeg), .int x2] [.int 8, .ref (aM 2)] [w_Model ct aM M LM] [] [] (fun z50 => []) cl_X10_101 (c_X10_cell l D ct F ((M 2) (1 : Int32).toNatClampNeg) x2) rfl rfl (by decide) (fun _ => rfl) rfl ⟨by decide, by decide⟩ (Nat.le_of_ble_eq_true rfl) rfl dX10_readsRow_50 (fun z50 => ?_)
      refine im_ws (w_Model ct aM M LM) rfl ?_
      refine im_iadd X dX10_readsRow_53 ?_
      refine im_aload_n X 0 dX10_readsRow_54 rfl rfl ?_
      refine im_iconst X 0 dX10_readsRow_55 (by decide) ?_
      refine im_bipush X 99 dX10_readsRow_56 (by decide) ?_
      refine im_cciV X [.int 0, .int 99] [.int (8 + z50), .ref (aM 2)] [w_Model ct aM M LM] [w_Model ct aM M LM] [0] (fun z58 => [w_Model ct aM z58.2 LM]) 0 10 rfl rfl cl_X10_351 (c_X10_needsNumber l D ct F aM M LM 0 99) rfl rfl (by decide) (fun _ => lc fa_Model (rfl)) rfl ⟨by decide, by decide⟩ (Nat.le_of_ble_eq_true rfl) rfl dX10_readsRow_58 (fun z58 => ?_)
      refine im_ws (w_Model ct aM z58.2 LM) rfl ?_
      refine im_iast X 2 0 (wx_Model ct aM (z58.2 0 0) (z58.2 0 4) (z58.2 0 6) (z58.2 0 7) (z58.2 0 8) (z58.2 0 9) (z58.2 0 24) (z58.2 0 27) (z58.2 0 29) (z58.2 0 31) (z58.2 0 32) (z58.2 0 33) (z58.2 0 34) (z58.2 0 35) (z58.2 1) (upd (z58.2 2) ((8 + z50)).toNatClampNeg z58.1) (z58.2 3) (z58.2 4) (z58.2 5) (z58.2 9) (z58.2 10) (z58.2 11) (z58.2 12) (z58.2 13) (z58.2 14) (z58.2 15) (z58.2 16) (z58.2 17) (z58.2 18) (z58.2 19) (z58.2 20) (z58.2 21) (z58.2 22) (LM 6) (LM 7) (LM 8)) (f := (z58.2 2)) rfl rfl rfl dX10_readsRow_61 ?_
      refine im_iinc X 1 1 [1, 0, 2] [(0, .ref (aM 0)), (2, .int (x2 + 1)), (3, .int x3)] dX10_readsRow_62 (by decide) rfl (by decide) rfl ?_
      refine im_aload_n X 0 dX10_readsRow_65 rfl rfl ?_
      refine im_get X 0 (v := .int (z58.2 0 35)) fl_X10_342 rfl rfl dX10_readsRow_66 ?_
      refine im_iconst X (-1) dX10_readsRow_69 (by decide) ?_
      refine im_icmp_ne (tgt := 95) X dX10_readsRow_70 rfl ?_ ?_
      · refine im_iconst X 0 dX10_readsRow_95 (by decide) ?_
        refine im_istore_n X [1, 2, 0] [(0, .ref (aM 0)), (2, .int (x2 + 1)), (3, .int 0)] dX10_readsRow_96 rfl (by decide) rfl ?_
        refine im_goto (tgt := 33) X dX10_readsRow_97 rfl ?_
        exact ih (mr z58.2 2 (upd (z58.2 2) ((8 + z50)).toNatClampNeg z58.1)) (x2 + 1) 0
      · refine im_aload_n X 0 dX10_readsRow_73 rfl rfl ?_
        refine im_get X 0 (v := .int (z58.2 0 32)) fl_X10_322 rfl rfl dX10_readsRow_74 ?_
        refine im_iconst X 2 dX10_readsRow_77 (by decide) ?_
        refine im_icmp_ne (tgt := 95) X dX10_readsRow_78 rfl ?_ ?_
        · refine im_iconst X 0 dX10_readsRow_95 (by decide) ?_
          refine im_istore_n X [1, 2, 0] [(0, .ref (aM 0)), (2, .int (x2 + 1)), (3, .int 0)] dX10_readsRow_96 rfl (by decide) rfl ?_
          refine im_goto (tgt := 33) X dX10_readsRow_97 rfl ?_
          exact ih (mr z58.2 2 (upd (z58.2 2) ((8 + z50)).toNatClampNeg z58.1)) (x2 + 1) 0
        · refine im_iload_n X 1 dX10_readsRow_81 rfl rfl ?_
          refine im_aload_n X 0 dX10_readsRow_82 rfl rfl ?_
          refine im_get X 0 (v := .ref (aM 2)) fl_X10_17 rfl rfl dX10_readsRow_83 ?_
          refine im_iconst X 0 dX10_readsRow_86 (by decide) ?_
          refine im_iald X 2 0 (f := (upd (z58.2 2) ((8 + z50)).toNatClampNeg z58.1)) rfl rfl dX10_readsRow_87 ?_
          refine im_icmp_ge (tgt := 95) X dX10_readsRow_88 rfl ?_ ?_
          · refine im_iconst X 0 dX10_readsRow_95 (by decide) ?_
            refine im_istore_n X [1, 2, 0] [(0, .ref (aM 0)), (2, .int (x2 + 1)), (3, .int 0)] dX10_readsRow_96 rfl (by decide) rfl ?_
            refine im_goto (tgt := 33) X dX10_readsRow_97 rfl ?_
            exact ih (mr z58.2 2 (upd (z58.2 2) ((8 + z50)).toNatClampNeg z58.1)) (x2 + 1) 0
          · refine im_iconst X 1 dX10_readsRow_91 (by decide) ?_
            refine im_goto (tgt := 96) X dX10_readsRow_92 rfl ?_
            refine im_istore_n X [1, 2, 0] [(0, .ref (aM 0)), (2, .int (x2 + 1)), (3, .int 1)] dX10_readsRow_96 rfl (by decide) rfl ?_
            refine im_goto (tgt := 33) X dX10_readsRow_97 rfl ?_
            exact ih (mr z58.2 2 (upd (z58.2 2) ((8 + z50)).toNatClampNeg z58.1)) (x2 + 1) 1
noncomputable def f_X10_readsRow (F : Nat) (M : Mem) (LM : MemL) (x1 : Int32) : Option (Mem) :=
  ck 1 226 ((if ((M 2) (1 : Int32).toNatClampNeg) = 4 then f_X10_readsRow_19 F M LM x1 else ck 0 226 ((if ((M 2) (0 : Int32).toNatClampNeg) = 0 then f_X10_readsRow_19 F M LM x1 else (f_X10_goesOn F M LM).bind (fun z26 => f_X10_readsRow_33 F LM (fun M_100 => (f_X10_needsClose F M_100 LM).bind (fun z101 => ck 1 226 (ck 1 226 ((some (mr z101 2 (upd (z101 2) (1 : Int32).toNatClampNeg (((z101 2) (1 : Int32).toNatClampNeg) + 1)))))))) F z26 0 1)))))
set_option maxRecDepth 100000 in
set_option maxHeartbeats 4000000 in
theorem i_X10_readsRow {p : Program} {l : Launch} {e : Env} {s : State} {m : MethodId} {args : Array Value} {below : List Frame} {meth : Method} {c : Code} {D : va_G} {ct : im_ct} {A : Nat → Prop} (X : im_X p (im_rm 3) s m args meth c D ct A RX10 cX10_readsRow 4 none) (F : Nat) (aM : Nat → Nat) (M : Mem) (LM : MemL) (x1 : Int32) : Im p l e (im_rm 3) s m args below meth c D A 4 (QV D A (fun z : Mem => (w_Model ct aM z LM))) 0 [(0, .ref (aM 0)), (1, .int x1)] [] (w_Model ct aM M LM) (f_X10_readsRow F M LM x1) := by
  unfold f_X10_readsRow
  refine im_aload_n X 0 dX10_readsRow_0 rfl rfl ?_
  refine im_get X 0 (v := .ref (aM 2)) fl_X10_17 rfl rfl dX10_readsRow_1 ?_
  refine im_iconst X 1 dX10_readsRow_4 (by decide) ?_
  refine im_iald X 2 0 (f := (M 2)) rfl rfl dX10_readsRow_5 ?_
  refine im_iconst X 4 dX10_readsRow_6 (by decide) ?_
  refine im_icmp_eq (tgt := 19) X dX10_readsRow_7 rfl ?_ ?_
  · exact i_X10_readsRow_19 X F aM M LM x1 
  · refine im_aload_n X 0 dX10_readsRow_10 rfl rfl ?_
    refine im_get X 0 (v := .ref (aM 2)) fl_X10_17 rfl rfl dX10_readsRow_11 ?_
    refine im_iconst X 0 dX10_readsRow_14 (by decide) ?_
    refine im_iald X 2 0 (f := (M 2)) rfl rfl dX10_readsRow_15 ?_
    refine im_if_ne (tgt := 25) X dX10_readsRow_16 rfl ?_ ?_
    · refine im_aload_n X 0 dX10_readsRow_25 rfl rfl ?_
      refine im_ccvV X [] [] [w_Model ct aM M LM] [w_Model ct aM M LM] [0] (fun z26 => [w_Model ct aM z26 LM]) 0 10 rfl rfl cl_X10_348 (c_X10_goesOn l D ct F aM M LM) rfl rfl (by decide) (fun _ => lc fa_Model (rfl)) rfl ⟨by decide, by decide⟩ (Nat.le_of_ble_eq_true rfl) rfl dX10_readsRow_26 (fun z26 => ?_)
      refine im_ws (w_Model ct aM z26 LM) rfl ?_
      refine im_iconst X 0 dX10_readsRow_29 (by decide) ?_
      refine im_istore_n X [1, 2, 0] [(0, .ref (aM 0)), (1, .int x1), (2, .int 0)] dX10_readsRow_30 rfl (by decide) rfl ?_
      refine im_iconst X 1 dX10_readsRow_31 (by decide) ?_
      refine im_istore_n X [1, 2, 3, 0] [(0, .ref (aM 0)), (1, .int x1), (2, .int 0), (3, .int 1)] dX10_readsRow_32 rfl (by decide) rfl ?_
      refine im_lv [0, 2, 3] [(0, .ref (aM 0)), (2, .int 0), (3, .int 1)] rfl ?_
      refine i_X10_readsRow_33 X F aM LM  _ (fun M_100 => ?_) F z26 0 1
      refine im_aload_n X 0 dX10_readsRow_100 rfl rfl ?_
      refine im_ccvV X [] [] [w_Model ct aM M_100 LM] [w_Model ct aM M_100 LM] [0] (fun z101 => [w_Model ct aM z101 LM]) 0 10 rfl rfl cl_X10_354 (c_X10_needsClose l D ct F aM M_100 LM) rfl rfl (by decide) (fun _ => lc fa_Model (rfl)) rfl ⟨by decide, by decide⟩ (Nat.le_of_ble_eq_true rfl) rfl dX10_readsRow_101 (fun z101 => ?_)
      refine im_ws (w_Model ct aM z101 LM) rfl ?_
      refine im_aload_n X 0 dX10_readsRow_104 rfl rfl ?_
      refine im_get X 0 (v := .ref (aM 2)) fl_X10_17 rfl rfl dX10_readsRow_105 ?_
      refine im_iconst X 1 dX10_readsRow_108 (by decide) ?_
      refine im_dup2_11 X rfl rfl dX10_readsRow_109 ?_
      refine im_iald X 2 0 (f := (z101 2)) rfl rfl dX10_readsRow_110 ?_
      refine im_iconst X 1 dX10_readsRow_111 (by decide) ?_
      refine im_iadd X dX10_readsRow_112 ?_
      refine im_iast X 2 0 (wx_Model ct aM (z101 0 0) (z101 0 4) (z101 0 6) (z101 0 7) (z101 0 8) (z101 0 9) (z101 0 24) (z101 0 27) (z101 0 29) (z101 0 31) (z101 0 32) (z101 0 33) (z101 0 34) (z101 0 35) (z101 1) (upd (z101 2) (1 : Int32).toNatClampNeg (((z101 2) (1 : Int32).toNatClampNeg) + 1)) (z101 3) (z101 4) (z101 5) (z101 9) (z101 10) (z101 11) (z101 12) (z101 13) (z101 14) (z101 15) (z101 16) (z101 17) (z101 18) (z101 19) (z101 20) (z101 21) (z101 22) (LM 6) (LM 7) (LM 8)) (f := (z101 2)) rfl rfl rfl dX10_readsRow_113 ?_
      exact im_return X (mr z101 2 (upd (z101 2) (1 : Int32).toNatClampNeg (((z101 2) (1 : Int32).toNatClampNeg) + 1))) rfl dX10_readsRow_114
    · exact i_X10_readsRow_19 X F aM M LM x1 
theorem c_X10_readsRow (l : Launch) (D : va_G) (ct : im_ct) (F : Nat) (aM : Nat → Nat) (M : Mem) (LM : MemL) (x1 : Int32) : CMv l D ct yX10_readsRow cX10_readsRow 4 none 3 [.ref (aM 0), .int x1] (w_Model ct aM M LM) (f_X10_readsRow F M LM x1) (fun z : Mem => (w_Model ct aM z LM)) :=
  im_met (Qb := fun A => QV D A (fun z : Mem => (w_Model ct aM z LM))) (by decide +kernel) (Nat.le_of_ble_eq_true rfl) (fun p e s m args below meth c A X => i_X10_readsRow X F aM M LM x1)

noncomputable def f_X10_trades_2 (F : Nat) (LM : MemL) (k41 : Mem → Option (Mem)) : Nat → Mem → Int32 → Option (Mem)
  | 0, _, _ => none
  | n + 1, M, x1 =>
  (if 226 ≤ x1 then k41 M else ck x1 226 (ck x1 226 (ck x1 226 (ck x1 226 (f_X10_trades_2 F LM k41 n (mr (mr M 1 (upd (M 1) x1.toNatClampNeg ((M 2) x1.toNatClampNeg))) 2 (upd (M 2) x1.toNatClampNeg ((M 1) x1.toNatClampNeg))) (x1 + 1))))))
set_option maxRecDepth 100000 in
set_option maxHeartbeats 4000000 in
theorem i_X10_trades_2 {p : Program} {l : Launch} {e : Env} {s : State} {m : MethodId} {args : Array Value} {below : List Frame} {meth : Method} {c : Code} {D : va_G} {ct : im_ct} {A : Nat → Prop} (X : im_X p (im_rm 0) s m args meth c D ct A RX10 cX10_trades 3 none) (F : Nat) (aM : Nat → Nat) (LM : MemL) (k41 : Mem → Option (Mem)) (hk41 : ∀ (M : Mem), Im p l e (im_rm 0) s m args below meth c D A 3 (QV D A (fun z : Mem => (w_Model ct aM z LM))) 41 [] [] (w_Model ct aM M LM) (k41 M)) : ∀ (n : Nat) (M : Mem) (x1 : Int32), Im p l e (im_rm 0) s m args below meth c D A 3 (QV D A (fun z : Mem => (w_Model ct aM z LM))) 2 [(0, .ref (aM 0)), (1, .int x1)] [] (w_Model ct aM M LM) (f_X10_trades_2 F LM k41 n M x1) := by
  intro n
  induction n with
  | zero => intros; exact im_none
  | succ n ih =>
    intro M x1
    unfold f_X10_trades_2
    refine im_iload_n X 1 dX10_trades_2 rfl rfl ?_
    refine im_sipush X 226 dX10_trades_3 (by decide) ?_
    refine im_icmp_ge (tgt := 41) X dX10_trades_6 rfl ?_ ?_
    · refine im_lv [] [] rfl ?_
      exact hk41 M
    · refine im_aload_n X 0 dX10_trades_9 rfl rfl ?_
      refine im_get X 0 (v := .ref (aM 1)) fl_X10_13 rfl rfl dX10_trades_10 ?_
      refine im_iload_n X 1 dX10_trades_13 rfl rfl ?_
      refine im_iald X 1 0 (f := (M 1)) rfl rfl dX10_trades_14 ?_
      refine im_istore_n X [1, 2, 0] [(0, .ref (aM 0)), (1, .int x1), (2, .int ((M 1) x1.toNatClampNeg))] dX10_trades_15 rfl (by decide) rfl ?_
      refine im_aload_n X 0 dX10_trades_16 rfl rfl ?_
      refine im_get X 0 (v := .ref (aM 1)) fl_X10_13 rfl rfl dX10_trades_17 ?_
      refine im_iload_n X 1 dX10_trades_20 rfl rfl ?_
      refine im_aload_n X 0 dX10_trades_21 rfl rfl ?_
      refine im_get X 0 (v := .ref (aM 2)) fl_X10_17 rfl rfl dX10_trades_22 ?_
      refine im_iload_n X 1 dX10_trades_25 rfl rfl ?_
      refine im_iald X 2 0 (f := (M 2)) rfl rfl dX10_trades_26 ?_
      refine im_iast X 1 0 (wx_Model ct aM (M 0 0) (M 0 4) (M 0 6) (M 0 7) (M 0 8) (M 0 9) (M 0 24) (M 0 27) (M 0 29) (M 0 31) (M 0 32) (M 0 33) (M 0 34) (M 0 35) (upd (M 1) x1.toNatClampNeg ((M 2) x1.toNatClampNeg)) (M 2) (M 3) (M 4) (M 5) (M 9) (M 10) (M 11) (M 12) (M 13) (M 14) (M 15) (M 16) (M 17) (M 18) (M 19) (M 20) (M 21) (M 22) (LM 6) (LM 7) (LM 8)) (f := (M 1)) rfl rfl rfl dX10_trades_27 ?_
      refine im_aload_n X 0 dX10_trades_28 rfl rfl ?_
      refine im_get X 0 (v := .ref (aM 2)) fl_X10_17 rfl rfl dX10_trades_29 ?_
      refine im_iload_n X 1 dX10_trades_32 rfl rfl ?_
      refine im_iload_n X 2 dX10_trades_33 rfl rfl ?_
      refine im_iast X 2 0 (wx_Model ct aM (M 0 0) (M 0 4) (M 0 6) (M 0 7) (M 0 8) (M 0 9) (M 0 24) (M 0 27) (M 0 29) (M 0 31) (M 0 32) (M 0 33) (M 0 34) (M 0 35) (upd (M 1) x1.toNatClampNeg ((M 2) x1.toNatClampNeg)) (upd (M 2) x1.toNatClampNeg ((M 1) x1.toNatClampNeg)) (M 3) (M 4) (M 5) (M 9) (M 10) (M 11) (M 12) (M 13) (M 14) (M 15) (M 16) (M 17) (M 18) (M 19) (M 20) (M 21) (M 22) (LM 6) (LM 7) (LM 8)) (f := (M 2)) rfl rfl rfl dX10_trades_34 ?_
      refine im_iinc X 1 1 [1, 0, 2] [(0, .ref (aM 0)), (1, .int (x1 + 1)), (2, .int ((M 1) x1.toNatClampNeg))] dX10_trades_35 (by decide) rfl (by decide) rfl ?_
      refine im_goto (tgt := 2) X dX10_trades_38 rfl ?_
      refine im_lv [0, 1] [(0, .ref (aM 0)), (1, .int (x1 + 1))] rfl ?_
      exact ih (mr (mr M 1 (upd (M 1) x1.toNatClampNeg ((M 2) x1.toNatClampNeg))) 2 (upd (M 2) x1.toNatClampNeg ((M 1) x1.toNatClampNeg))) (x1 + 1)
noncomputable def f_X10_trades (F : Nat) (M : Mem) (LM : MemL) : Option (Mem) :=
  f_X10_trades_2 F LM (fun M_41 => (some M_41)) F M 0
set_option maxRecDepth 100000 in
set_option maxHeartbeats 4000000 in
theorem i_X10_trades {p : Program} {l : Launch} {e : Env} {s : State} {m : MethodId} {args : Array Value} {below : List Frame} {meth : Method} {c : Code} {D : va_G} {ct : im_ct} {A : Nat → Prop} (X : im_X p (im_rm 0) s m args meth c D ct A RX10 cX10_trades 3 none) (F : Nat) (aM : Nat → Nat) (M : Mem) (LM : MemL) : Im p l e (im_rm 0) s m args below meth c D A 3 (QV D A (fun z : Mem => (w_Model ct aM z LM))) 0 [(0, .ref (aM 0))] [] (w_Model ct aM M LM) (f_X10_trades F M LM) := by
  unfold f_X10_trades
  refine im_iconst X 0 dX10_trades_0 (by decide) ?_
  refine im_istore_n X [1, 0] [(0, .ref (aM 0)), (1, .int 0)] dX10_trades_1 rfl (by decide) rfl ?_
  refine i_X10_trades_2 X F aM LM  _ (fun M_41 => ?_) F M 0
  exact im_return X M_41 rfl dX10_trades_41
theorem c_X10_trades (l : Launch) (D : va_G) (ct : im_ct) (F : Nat) (aM : Nat → Nat) (M : Mem) (LM : MemL) : CMv l D ct yX10_trades cX10_trades 3 none 0 [.ref (aM 0)] (w_Model ct aM M LM) (f_X10_trades F M LM) (fun z : Mem => (w_Model ct aM z LM)) :=
  im_met (Qb := fun A => QV D A (fun z : Mem => (w_Model ct aM z LM))) (by decide +kernel) (Nat.le_of_ble_eq_true rfl) (fun p e s m args below meth c A X => i_X10_trades X F aM M LM)

noncomputable def f_X10_readsMove_203 (F : Nat) (M : Mem) (LM : MemL) (x1 : Int32) (x7 : Int32) : Option (Mem) :=
  (f_X10_trades F M LM).bind (fun z204 => (if x7 = 0 then (f_X10_fails F z204 LM x1).bind (fun z214 => (some z214)) else (some z204)))
set_option maxRecDepth 100000 in
set_option maxHeartbeats 4000000 in
theorem i_X10_readsMove_203 {p : Program} {l : Launch} {e : Env} {s : State} {m : MethodId} {args : Array Value} {below : List Frame} {meth : Method} {c : Code} {D : va_G} {ct : im_ct} {A : Nat → Prop} (X : im_X p (im_rm 5) s m args meth c D ct A RX10 cX10_readsMove 9 none) (F : Nat) (aM : Nat → Nat) (M : Mem) (LM : MemL) (x1 : Int32) (x7 : Int32) : Im p l e (im_rm 5) s m args below meth c D A 9 (QV D A (fun z : Mem => (w_Model ct aM z LM))) 203 [(0, .ref (aM 0)), (1, .int x1), (7, .int x7)] [] (w_Model ct aM M LM) (f_X10_readsMove_203 F M LM x1 x7) := by
  unfold f_X10_readsMove_203
  refine im_aload_n X 0 dX10_readsMove_203 rfl rfl ?_
  refine im_ccvV X [] [] [w_Model ct aM M LM] [w_Model ct aM M LM] [0] (fun z204 => [w_Model ct aM z204 LM]) 0 10 rfl rfl cl_X10_357 (c_X10_trades l D ct F aM M LM) rfl rfl (by decide) (fun _ => lc fa_Model (rfl)) rfl ⟨by decide, by decide⟩ (Nat.le_of_ble_eq_true rfl) rfl dX10_readsMove_204 (fun z204 => ?_)
  refine im_ws (w_Model ct aM z204 LM) rfl ?_
  refine im_iload X 2 dX10_readsMove_207 rfl ?_
  refine im_if_ne (tgt := 217) X dX10_readsMove_209 rfl ?_ ?_
  · exact im_return X z204 rfl dX10_readsMove_217
  · refine im_aload_n X 0 dX10_readsMove_212 rfl rfl ?_
    refine im_iload_n X 1 dX10_readsMove_213 rfl rfl ?_
    refine im_ccvV X [.int x1] [] [w_Model ct aM z204 LM] [w_Model ct aM z204 LM] [0] (fun z214 => [w_Model ct aM z214 LM]) 0 10 rfl rfl cl_X10_345 (c_X10_fails l D ct F aM z204 LM x1) rfl rfl (by decide) (fun _ => lc fa_Model (rfl)) rfl ⟨by decide, by decide⟩ (Nat.le_of_ble_eq_true rfl) rfl dX10_readsMove_214 (fun z214 => ?_)
    refine im_ws (w_Model ct aM z214 LM) rfl ?_
    exact im_return X z214 rfl dX10_readsMove_217
noncomputable def f_X10_readsMove_111 (F : Nat) (M : Mem) (LM : MemL) (x1 : Int32) (x2 : Int32) (x3 : Int32) (x4 : Int32) (x5 : Int32) (x6 : Int32) (s0 : Int32) : Option (Mem) :=
  (if s0 = 0 then f_X10_readsMove_203 F M LM x1 s0 else (f_X10_goes F M LM 1).bind (fun z120 => (f_X10_takesNow F z120 LM).bind (fun z124 => ck 56 226 (ck (57 + (5 * ((z124 1) (56 : Int32).toNatClampNeg))) 226 (ck ((57 + (5 * ((z124 1) (56 : Int32).toNatClampNeg))) + 1) 226 (ck ((57 + (5 * ((z124 1) (56 : Int32).toNatClampNeg))) + 2) 226 (ck ((57 + (5 * ((z124 1) (56 : Int32).toNatClampNeg))) + 3) 226 (ck ((57 + (5 * ((z124 1) (56 : Int32).toNatClampNeg))) + 4) 226 (ck 56 226 (ck 56 226 (f_X10_readsMove_203 F (mr z124 1 (upd (upd (upd (upd (upd (upd (z124 1) ((57 + (5 * ((z124 1) (56 : Int32).toNatClampNeg)))).toNatClampNeg x2) (((57 + (5 * ((z124 1) (56 : Int32).toNatClampNeg))) + 1)).toNatClampNeg x3) (((57 + (5 * ((z124 1) (56 : Int32).toNatClampNeg))) + 2)).toNatClampNeg x5) (((57 + (5 * ((z124 1) (56 : Int32).toNatClampNeg))) + 3)).toNatClampNeg x6) (((57 + (5 * ((z124 1) (56 : Int32).toNatClampNeg))) + 4)).toNatClampNeg x4) (56 : Int32).toNatClampNeg (((upd (upd (upd (upd (upd (z124 1) ((57 + (5 * ((z124 1) (56 : Int32).toNatClampNeg)))).toNatClampNeg x2) (((57 + (5 * ((z124 1) (56 : Int32).toNatClampNeg))) + 1)).toNatClampNeg x3) (((57 + (5 * ((z124 1) (56 : Int32).toNatClampNeg))) + 2)).toNatClampNeg x5) (((57 + (5 * ((z124 1) (56 : Int32).toNatClampNeg))) + 3)).toNatClampNeg x6) (((57 + (5 * ((z124 1) (56 : Int32).toNatClampNeg))) + 4)).toNatClampNeg x4) (56 : Int32).toNatClampNeg) + 1))) LM x1 s0)))))))))))
set_option maxRecDepth 100000 in
set_option maxHeartbeats 4000000 in
theorem i_X10_readsMove_111 {p : Program} {l : Launch} {e : Env} {s : State} {m : MethodId} {args : Array Value} {below : List Frame} {meth : Method} {c : Code} {D : va_G} {ct : im_ct} {A : Nat → Prop} (X : im_X p (im_rm 5) s m args meth c D ct A RX10 cX10_readsMove 9 none) (F : Nat) (aM : Nat → Nat) (M : Mem) (LM : MemL) (x1 : Int32) (x2 : Int32) (x3 : Int32) (x4 : Int32) (x5 : Int32) (x6 : Int32) (s0 : Int32) : Im p l e (im_rm 5) s m args below meth c D A 9 (QV D A (fun z : Mem => (w_Model ct aM z LM))) 111 [(0, .ref (aM 0)), (1, .int x1), (2, .int x2), (3, .int x3), (4, .int x4), (5, .int x5), (6, .int x6)] [.int s0] (w_Model ct aM M LM) (f_X10_readsMove_111 F M LM x1 x2 x3 x4 x5 x6 s0) := by
  unfold f_X10_readsMove_111
  refine im_istore X [1, 2, 3, 4, 5, 6, 7, 0] [(0, .ref (aM 0)), (1, .int x1), (2, .int x2), (3, .int x3), (4, .int x4), (5, .int x5), (6, .int x6), (7, .int s0)] dX10_readsMove_111 (by decide) rfl ?_
  refine im_iload X 7 dX10_readsMove_113 rfl ?_
  refine im_if_eq (tgt := 203) X dX10_readsMove_115 rfl ?_ ?_
  · refine im_lv [0, 1, 7] [(0, .ref (aM 0)), (1, .int x1), (7, .int s0)] rfl ?_
    exact i_X10_readsMove_203 X F aM M LM x1 s0 
  · refine im_aload_n X 0 dX10_readsMove_118 rfl rfl ?_
    refine im_iconst X 1 dX10_readsMove_119 (by decide) ?_
    refine im_ccvV X [.int 1] [] [w_Model ct aM M LM] [w_Model ct aM M LM] [0] (fun z120 => [w_Model ct aM z120 LM]) 0 10 rfl rfl cl_X10_161 (c_X10_goes l D ct F aM M LM 1) rfl rfl (by decide) (fun _ => lc fa_Model (rfl)) rfl ⟨by decide, by decide⟩ (Nat.le_of_ble_eq_true rfl) rfl dX10_readsMove_120 (fun z120 => ?_)
    refine im_ws (w_Model ct aM z120 LM) rfl ?_
    refine im_aload_n X 0 dX10_readsMove_123 rfl rfl ?_
    refine im_ccvV X [] [] [w_Model ct aM z120 LM] [w_Model ct aM z120 LM] [0] (fun z124 => [w_Model ct aM z124 LM]) 0 10 rfl rfl cl_X10_165 (c_X10_takesNow l D ct F aM z120 LM) rfl rfl (by decide) (fun _ => lc fa_Model (rfl)) rfl ⟨by decide, by decide⟩ (Nat.le_of_ble_eq_true rfl) rfl dX10_readsMove_124 (fun z124 => ?_)
    refine im_ws (w_Model ct aM z124 LM) rfl ?_
    refine im_bipush X 57 dX10_readsMove_127 (by decide) ?_
    refine im_iconst X 5 dX10_readsMove_129 (by decide) ?_
    refine im_aload_n X 0 dX10_readsMove_130 rfl rfl ?_
    refine im_get X 0 (v := .ref (aM 1)) fl_X10_13 rfl rfl dX10_readsMove_131 ?_
    refine im_bipush X 56 dX10_readsMove_134 (by decide) ?_
    refine im_iald X 1 0 (f := (z124 1)) rfl rfl dX10_readsMove_136 ?_
    refine im_imul X dX10_readsMove_137 ?_
    refine im_iadd X dX10_readsMove_138 ?_
    refine im_istore X [1, 2, 3, 4, 5, 6, 7, 8, 0] [(0, .ref (aM 0)), (1, .int x1), (2, .int x2), (3, .int x3), (4, .int x4), (5, .int x5), (6, .int x6), (7, .int s0), (8, .int (57 + (5 * ((z124 1) (56 : Int32).toNatClampNeg))))] dX10_readsMove_139 (by decide) rfl ?_
    refine im_aload_n X 0 dX10_readsMove_141 rfl rfl ?_
    refine im_get X 0 (v := .ref (aM 1)) fl_X10_13 rfl rfl dX10_readsMove_142 ?_
    refine im_iload X 8 dX10_readsMove_145 rfl ?_
    refine im_iload_n X 2 dX10_readsMove_147 rfl rfl ?_
    refine im_iast X 1 0 (wx_Model ct aM (z124 0 0) (z124 0 4) (z124 0 6) (z124 0 7) (z124 0 8) (z124 0 9) (z124 0 24) (z124 0 27) (z124 0 29) (z124 0 31) (z124 0 32) (z124 0 33) (z124 0 34) (z124 0 35) (upd (z124 1) ((57 + (5 * ((z124 1) (56 : Int32).toNatClampNeg)))).toNatClampNeg x2) (z124 2) (z124 3) (z124 4) (z124 5) (z124 9) (z124 10) (z124 11) (z124 12) (z124 13) (z124 14) (z124 15) (z124 16) (z124 17) (z124 18) (z124 19) (z124 20) (z124 21) (z124 22) (LM 6) (LM 7) (LM 8)) (f := (z124 1)) rfl rfl rfl dX10_readsMove_148 ?_
    refine im_aload_n X 0 dX10_readsMove_149 rfl rfl ?_
    refine im_get X 0 (v := .ref (aM 1)) fl_X10_13 rfl rfl dX10_readsMove_150 ?_
    refine im_iload X 8 dX10_readsMove_153 rfl ?_
    refine im_iconst X 1 dX10_readsMove_155 (by decide) ?_
    refine im_iadd X dX10_readsMove_156 ?_
    refine im_iload_n X 3 dX10_readsMove_157 rfl rfl ?_
    refine im_iast X 1 0 (wx_Model ct aM (z124 0 0) (z124 0 4) (z124 0 6) (z124 0 7) (z124 0 8) (z124 0 9) (z124 0 24) (z124 0 27) (z124 0 29) (z124 0 31) (z124 0 32) (z124 0 33) (z124 0 34) (z124 0 35) (upd (upd (z124 1) ((57 + (5 * ((z124 1) (56 : Int32).toNatClampNeg)))).toNatClampNeg x2) (((57 + (5 * ((z124 1) (56 : Int32).toNatClampNeg))) + 1)).toNatClampNeg x3) (z124 2) (z124 3) (z124 4) (z124 5) (z124 9) (z124 10) (z124 11) (z124 12) (z124 13) (z124 14) (z124 15) (z124 16) (z124 17) (z124 18) (z124 19) (z124 20) (z124 21) (z124 22) (LM 6) (LM 7) (LM 8)) (f := (upd (z124 1) ((57 + (5 * ((z124 1) (56 : Int32).toNatClampNeg)))).toNatClampNeg x2)) rfl rfl rfl dX10_readsMove_158 ?_
    refine im_aload_n X 0 dX10_readsMove_159 rfl rfl ?_
    refine im_get X 0 (v := .ref (aM 1)) fl_X10_13 rfl rfl dX10_readsMove_160 ?_
    refine im_iload X 8 dX10_readsMove_163 rfl ?_
    refine im_iconst X 2 dX10_readsMove_165 (by decide) ?_
    refine im_iadd X dX10_readsMove_166 ?_
    refine im_iload X 5 dX10_readsMove_167 rfl ?_
    refine im_iast X 1 0 (wx_Model ct aM (z124 0 0) (z124 0 4) (z124 0 6) (z124 0 7) (z124 0 8) (z124 0 9) (z124 0 24) (z124 0 27) (z124 0 29) (z124 0 31) (z124 0 32) (z124 0 33) (z124 0 34) (z124 0 35) (upd (upd (upd (z124 1) ((57 + (5 * ((z124 1) (56 : Int32).toNatClampNeg)))).toNatClampNeg x2) (((57 + (5 * ((z124 1) (56 : Int32).toNatClampNeg))) + 1)).toNatClampNeg x3) (((57 + (5 * ((z124 1) (56 : Int32).toNatClampNeg))) + 2)).toNatClampNeg x5) (z124 2) (z124 3) (z124 4) (z124 5) (z124 9) (z124 10) (z124 11) (z124 12) (z124 13) (z124 14) (z124 15) (z124 16) (z124 17) (z124 18) (z124 19) (z124 20) (z124 21) (z124 22) (LM 6) (LM 7) (LM 8)) (f := (upd (upd (z124 1) ((57 + (5 * ((z124 1) (56 : Int32).toNatClampNeg)))).toNatClampNeg x2) (((57 + (5 * ((z124 1) (56 : Int32).toNatClampNeg))) + 1)).toNatClampNeg x3)) rfl rfl rfl dX10_readsMove_169 ?_
    refine im_aload_n X 0 dX10_readsMove_170 rfl rfl ?_
    refine im_get X 0 (v := .ref (aM 1)) fl_X10_13 rfl rfl dX10_readsMove_171 ?_
    refine im_iload X 8 dX10_readsMove_174 rfl ?_
    refine im_iconst X 3 dX10_readsMove_176 (by decide) ?_
    refine im_iadd X dX10_readsMove_177 ?_
    refine im_iload X 6 dX10_readsMove_178 rfl ?_
    refine im_iast X 1 0 (wx_Model ct aM (z124 0 0) (z124 0 4) (z124 0 6) (z124 0 7) (z124 0 8) (z124 0 9) (z124 0 24) (z124 0 27) (z124 0 29) (z124 0 31) (z124 0 32) (z124 0 33) (z124 0 34) (z124 0 35) (upd (upd (upd (upd (z124 1) ((57 + (5 * ((z124 1) (56 : Int32).toNatClampNeg)))).toNatClampNeg x2) (((57 + (5 * ((z124 1) (56 : Int32).toNatClampNeg))) + 1)).toNatClampNeg x3) (((57 + (5 * ((z124 1) (56 : Int32).toNatClampNeg))) + 2)).toNatClampNeg x5) (((57 + (5 * ((z124 1) (56 : Int32).toNatClampNeg))) + 3)).toNatClampNeg x6) (z124 2) (z124 3) (z124 4) (z124 5) (z124 9) (z124 10) (z124 11) (z124 12) (z124 13) (z124 14) (z124 15) (z124 16) (z124 17) (z124 18) (z124 19) (z124 20) (z124 21) (z124 22) (LM 6) (LM 7) (LM 8)) (f := (upd (upd (upd (z124 1) ((57 + (5 * ((z124 1) (56 : Int32).toNatClampNeg)))).toNatClampNeg x2) (((57 + (5 * ((z124 1) (56 : Int32).toNatClampNeg))) + 1)).toNatClampNeg x3) (((57 + (5 * ((z124 1) (56 : Int32).toNatClampNeg))) + 2)).toNatClampNeg x5)) rfl rfl rfl dX10_readsMove_180 ?_
    refine im_aload_n X 0 dX10_readsMove_181 rfl rfl ?_
    refine im_get X 0 (v := .ref (aM 1)) fl_X10_13 rfl rfl dX10_readsMove_182 ?_
    refine im_iload X 8 dX10_readsMove_185 rfl ?_
    refine im_iconst X 4 dX10_readsMove_187 (by decide) ?_
    refine im_iadd X dX10_readsMove_188 ?_
    refine im_iload X 4 dX10_readsMove_189 rfl ?_
    refine im_iast X 1 0 (wx_Model ct aM (z124 0 0) (z124 0 4) (z124 0 6) (z124 0 7) (z124 0 8) (z124 0 9) (z124 0 24) (z124 0 27) (z124 0 29) (z124 0 31) (z124 0 32) (z124 0 33) (z124 0 34) (z124 0 35) (upd (upd (upd (upd (upd (z124 1) ((57 + (5 * ((z124 1) (56 : Int32).toNatClampNeg)))).toNatClampNeg x2) (((57 + (5 * ((z124 1) (56 : Int32).toNatClampNeg))) + 1)).toNatClampNeg x3) (((57 + (5 * ((z124 1) (56 : Int32).toNatClampNeg))) + 2)).toNatClampNeg x5) (((57 + (5 * ((z124 1) (56 : Int32).toNatClampNeg))) + 3)).toNatClampNeg x6) (((57 + (5 * ((z124 1) (56 : Int32).toNatClampNeg))) + 4)).toNatClampNeg x4) (z124 2) (z124 3) (z124 4) (z124 5) (z124 9) (z124 10) (z124 11) (z124 12) (z124 13) (z124 14) (z124 15) (z124 16) (z124 17) (z124 18) (z124 19) (z124 20) (z124 21) (z124 22) (LM 6) (LM 7) (LM 8)) (f := (upd (upd (upd (upd (z124 1) ((57 + (5 * ((z124 1) (56 : Int32).toNatClampNeg)))).toNatClampNeg x2) (((57 + (5 * ((z124 1) (56 : Int32).toNatClampNeg))) + 1)).toNatClampNeg x3) (((57 + (5 * ((z124 1) (56 : Int32).toNatClampNeg))) + 2)).toNatClampNeg x5) (((57 + (5 * ((z124 1) (56 : Int32).toNatClampNeg))) + 3)).toNatClampNeg x6)) rfl rfl rfl dX10_readsMove_191 ?_
    refine im_aload_n X 0 dX10_readsMove_192 rfl rfl ?_
    refine im_get X 0 (v := .ref (aM 1)) fl_X10_13 rfl rfl dX10_readsMove_193 ?_
    refine im_bipush X 56 dX10_readsMove_196 (by decide) ?_
    refine im_dup2_11 X rfl rfl dX10_readsMove_198 ?_
    refine im_iald X 1 0 (f := (upd (upd (upd (upd (upd (z124 1) ((57 + (5 * ((z124 1) (56 : Int32).toNatClampNeg)))).toNatClampNeg x2) (((57 + (5 * ((z124 1) (56 : Int32).toNatClampNeg))) + 1)).toNatClampNeg x3) (((57 + (5 * ((z124 1) (56 : Int32).toNatClampNeg))) + 2)).toNatClampNeg x5) (((57 + (5 * ((z124 1) (56 : Int32).toNatClampNeg))) + 3)).toNatClampNeg x6) (((57 + (5 * ((z124 1) (56 : Int32).toNatClampNeg))) + 4)).toNatClampNeg x4)) rfl rfl dX10_readsMove_199 ?_
    refine im_iconst X 1 dX10_readsMove_200 (by decide) ?_
    refine im_iadd X dX10_readsMove_201 ?_
    refine im_iast X 1 0 (wx_Model ct aM (z124 0 0) (z124 0 4) (z124 0 6) (z124 0 7) (z124 0 8) (z124 0 9) (z124 0 24) (z124 0 27) (z124 0 29) (z124 0 31) (z124 0 32) (z124 0 33) (z124 0 34) (z124 0 35) (upd (upd (upd (upd (upd (upd (z124 1) ((57 + (5 * ((z124 1) (56 : Int32).toNatClampNeg)))).toNatClampNeg x2) (((57 + (5 * ((z124 1) (56 : Int32).toNatClampNeg))) + 1)).toNatClampNeg x3) (((57 + (5 * ((z124 1) (56 : Int32).toNatClampNeg))) + 2)).toNatClampNeg x5) (((57 + (5 * ((z124 1) (56 : Int32).toNatClampNeg))) + 3)).toNatClampNeg x6) (((57 + (5 * ((z124 1) (56 : Int32).toNatClampNeg))) + 4)).toNatClampNeg x4) (56 : Int32).toNatClampNeg (((upd (upd (upd (upd (upd (z124 1) ((57 + (5 * ((z124 1) (56 : Int32).toNatClampNeg)))).toNatClampNeg x2) (((57 + (5 * ((z124 1) (56 : Int32).toNatClampNeg))) + 1)).toNatClampNeg x3) (((57 + (5 * ((z124 1) (56 : Int32).toNatClampNeg))) + 2)).toNatClampNeg x5) (((57 + (5 * ((z124 1) (56 : Int32).toNatClampNeg))) + 3)).toNatClampNeg x6) (((57 + (5 * ((z124 1) (56 : Int32).toNatClampNeg))) + 4)).toNatClampNeg x4) (56 : Int32).toNatClampNeg) + 1)) (z124 2) (z124 3) (z124 4) (z124 5) (z124 9) (z124 10) (z124 11) (z124 12) (z124 13) (z124 14) (z124 15) (z124 16) (z124 17) (z124 18) (z124 19) (z124 20) (z124 21) (z124 22) (LM 6) (LM 7) (LM 8)) (f := (upd (upd (upd (upd (upd (z124 1) ((57 + (5 * ((z124 1) (56 : Int32).toNatClampNeg)))).toNatClampNeg x2) (((57 + (5 * ((z124 1) (56 : Int32).toNatClampNeg))) + 1)).toNatClampNeg x3) (((57 + (5 * ((z124 1) (56 : Int32).toNatClampNeg))) + 2)).toNatClampNeg x5) (((57 + (5 * ((z124 1) (56 : Int32).toNatClampNeg))) + 3)).toNatClampNeg x6) (((57 + (5 * ((z124 1) (56 : Int32).toNatClampNeg))) + 4)).toNatClampNeg x4)) rfl rfl rfl dX10_readsMove_202 ?_
    refine im_lv [0, 1, 7] [(0, .ref (aM 0)), (1, .int x1), (7, .int s0)] rfl ?_
    exact i_X10_readsMove_203 X F aM (mr z124 1 (upd (upd (upd (upd (upd (upd (z124 1) ((57 + (5 * ((z124 1) (56 : Int32).toNatClampNeg)))).toNatClampNeg x2) (((57 + (5 * ((z124 1) (56 : Int32).toNatClampNeg))) + 1)).toNatClampNeg x3) (((57 + (5 * ((z124 1) (56 : Int32).toNatClampNeg))) + 2)).toNatClampNeg x5) (((57 + (5 * ((z124 1) (56 : Int32).toNatClampNeg))) + 3)).toNatClampNeg x6) (((57 + (5 * ((z124 1) (56 : Int32).toNatClampNeg))) + 4)).toNatClampNeg x4) (56 : Int32).toNatClampNeg (((upd (upd (upd (upd (upd (z124 1) ((57 + (5 * ((z124 1) (56 : Int32).toNatClampNeg)))).toNatClampNeg x2) (((57 + (5 * ((z124 1) (56 : Int32).toNatClampNeg))) + 1)).toNatClampNeg x3) (((57 + (5 * ((z124 1) (56 : Int32).toNatClampNeg))) + 2)).toNatClampNeg x5) (((57 + (5 * ((z124 1) (56 : Int32).toNatClampNeg))) + 3)).toNatClampNeg x6) (((57 + (5 * ((z124 1) (56 : Int32).toNatClampNeg))) + 4)).toNatClampNeg x4) (56 : Int32).toNatClampNeg) + 1))) LM x1 s0 
noncomputable def f_X10_readsMove_60 (F : Nat) (M : Mem) (LM : MemL) (x1 : Int32) (x2 : Int32) (x3 : Int32) (x4 : Int32) (x5 : Int32) (s0 : Int32) : Option (Mem) :=
  (f_X10_needsClose F M LM).bind (fun z63 => (if (z63 0 35) = (-1) then (f_X10_trades F z63 LM).bind (fun z76 => ck 56 226 ((if 24 ≤ ((z76 1) (56 : Int32).toNatClampNeg) then f_X10_readsMove_111 F z76 LM x1 x2 x3 x4 x5 s0 0 else (f_X10_canMove F z76 LM x2 x3 x5 s0 x4).bind (fun z100 => (if z100.1 = 0 then f_X10_readsMove_111 F z100.2 LM x1 x2 x3 x4 x5 s0 0 else f_X10_readsMove_111 F z100.2 LM x1 x2 x3 x4 x5 s0 1))))) else (some z63)))
set_option maxRecDepth 100000 in
set_option maxHeartbeats 4000000 in
theorem i_X10_readsMove_60 {p : Program} {l : Launch} {e : Env} {s : State} {m : MethodId} {args : Array Value} {below : List Frame} {meth : Method} {c : Code} {D : va_G} {ct : im_ct} {A : Nat → Prop} (X : im_X p (im_rm 5) s m args meth c D ct A RX10 cX10_readsMove 9 none) (F : Nat) (aM : Nat → Nat) (M : Mem) (LM : MemL) (x1 : Int32) (x2 : Int32) (x3 : Int32) (x4 : Int32) (x5 : Int32) (s0 : Int32) : Im p l e (im_rm 5) s m args below meth c D A 9 (QV D A (fun z : Mem => (w_Model ct aM z LM))) 60 [(0, .ref (aM 0)), (1, .int x1), (2, .int x2), (3, .int x3), (4, .int x4), (5, .int x5)] [.int s0] (w_Model ct aM M LM) (f_X10_readsMove_60 F M LM x1 x2 x3 x4 x5 s0) := by
  unfold f_X10_readsMove_60
  refine im_istore X [1, 2, 3, 4, 5, 6, 0] [(0, .ref (aM 0)), (1, .int x1), (2, .int x2), (3, .int x3), (4, .int x4), (5, .int x5), (6, .int s0)] dX10_readsMove_60 (by decide) rfl ?_
  refine im_aload_n X 0 dX10_readsMove_62 rfl rfl ?_
  refine im_ccvV X [] [] [w_Model ct aM M LM] [w_Model ct aM M LM] [0] (fun z63 => [w_Model ct aM z63 LM]) 0 10 rfl rfl cl_X10_354 (c_X10_needsClose l D ct F aM M LM) rfl rfl (by decide) (fun _ => lc fa_Model (rfl)) rfl ⟨by decide, by decide⟩ (Nat.le_of_ble_eq_true rfl) rfl dX10_readsMove_63 (fun z63 => ?_)
  refine im_ws (w_Model ct aM z63 LM) rfl ?_
  refine im_aload_n X 0 dX10_readsMove_66 rfl rfl ?_
  refine im_get X 0 (v := .int (z63 0 35)) fl_X10_342 rfl rfl dX10_readsMove_67 ?_
  refine im_iconst X (-1) dX10_readsMove_70 (by decide) ?_
  refine im_icmp_eq (tgt := 75) X dX10_readsMove_71 rfl ?_ ?_
  · refine im_aload_n X 0 dX10_readsMove_75 rfl rfl ?_
    refine im_ccvV X [] [] [w_Model ct aM z63 LM] [w_Model ct aM z63 LM] [0] (fun z76 => [w_Model ct aM z76 LM]) 0 10 rfl rfl cl_X10_357 (c_X10_trades l D ct F aM z63 LM) rfl rfl (by decide) (fun _ => lc fa_Model (rfl)) rfl ⟨by decide, by decide⟩ (Nat.le_of_ble_eq_true rfl) rfl dX10_readsMove_76 (fun z76 => ?_)
    refine im_ws (w_Model ct aM z76 LM) rfl ?_
    refine im_aload_n X 0 dX10_readsMove_79 rfl rfl ?_
    refine im_get X 0 (v := .ref (aM 1)) fl_X10_13 rfl rfl dX10_readsMove_80 ?_
    refine im_bipush X 56 dX10_readsMove_83 (by decide) ?_
    refine im_iald X 1 0 (f := (z76 1)) rfl rfl dX10_readsMove_85 ?_
    refine im_bipush X 24 dX10_readsMove_86 (by decide) ?_
    refine im_icmp_ge (tgt := 110) X dX10_readsMove_88 rfl ?_ ?_
    · refine im_iconst X 0 dX10_readsMove_110 (by decide) ?_
      exact i_X10_readsMove_111 X F aM z76 LM x1 x2 x3 x4 x5 s0 0 
    · refine im_aload_n X 0 dX10_readsMove_91 rfl rfl ?_
      refine im_iload_n X 2 dX10_readsMove_92 rfl rfl ?_
      refine im_iload_n X 3 dX10_readsMove_93 rfl rfl ?_
      refine im_iload X 5 dX10_readsMove_94 rfl ?_
      refine im_iload X 6 dX10_readsMove_96 rfl ?_
      refine im_iload X 4 dX10_readsMove_98 rfl ?_
      refine im_cciV X [.int x2, .int x3, .int x5, .int s0, .int x4] [] [w_Model ct aM z76 LM] [w_Model ct aM z76 LM] [0] (fun z100 => [w_Model ct aM z100.2 LM]) 0 10 rfl rfl cl_X10_158 (c_X10_canMove l D ct F aM z76 LM x2 x3 x5 s0 x4) rfl rfl (by decide) (fun _ => lc fa_Model (rfl)) rfl ⟨by decide, by decide⟩ (Nat.le_of_ble_eq_true rfl) rfl dX10_readsMove_100 (fun z100 => ?_)
      refine im_ws (w_Model ct aM z100.2 LM) rfl ?_
      refine im_if_eq (tgt := 110) X dX10_readsMove_103 rfl ?_ ?_
      · refine im_iconst X 0 dX10_readsMove_110 (by decide) ?_
        exact i_X10_readsMove_111 X F aM z100.2 LM x1 x2 x3 x4 x5 s0 0 
      · refine im_iconst X 1 dX10_readsMove_106 (by decide) ?_
        refine im_goto (tgt := 111) X dX10_readsMove_107 rfl ?_
        exact i_X10_readsMove_111 X F aM z100.2 LM x1 x2 x3 x4 x5 s0 1 
  · exact im_return X z63 rfl dX10_readsMove_74
noncomputable def f_X10_readsMove_28 (F : Nat) (M : Mem) (LM : MemL) (x1 : Int32) (x2 : Int32) (x3 : Int32) (s0 : Int32) : Option (Mem) :=
  (f_X10_needsNumber F M LM 0 99).bind (fun z34 => (if x2 = 2 then f_X10_readsMove_60 F z34.2 LM x1 x2 x3 s0 z34.1 0 else (if x2 = 3 then f_X10_readsMove_60 F z34.2 LM x1 x2 x3 s0 z34.1 0 else (f_X10_needsNumber F z34.2 LM 0 99).bind (fun z57 => f_X10_readsMove_60 F z57.2 LM x1 x2 x3 s0 z34.1 z57.1))))
set_option maxRecDepth 100000 in
set_option maxHeartbeats 4000000 in
theorem i_X10_readsMove_28 {p : Program} {l : Launch} {e : Env} {s : State} {m : MethodId} {args : Array Value} {below : List Frame} {meth : Method} {c : Code} {D : va_G} {ct : im_ct} {A : Nat → Prop} (X : im_X p (im_rm 5) s m args meth c D ct A RX10 cX10_readsMove 9 none) (F : Nat) (aM : Nat → Nat) (M : Mem) (LM : MemL) (x1 : Int32) (x2 : Int32) (x3 : Int32) (s0 : Int32) : Im p l e (im_rm 5) s m args below meth c D A 9 (QV D A (fun z : Mem => (w_Model ct aM z LM))) 28 [(0, .ref (aM 0)), (1, .int x1), (2, .int x2), (3, .int x3)] [.int s0] (w_Model ct aM M LM) (f_X10_readsMove_28 F M LM x1 x2 x3 s0) := by
  unfold f_X10_readsMove_28
  refine im_istore X [1, 2, 3, 4, 0] [(0, .ref (aM 0)), (1, .int x1), (2, .int x2), (3, .int x3), (4, .int s0)] dX10_readsMove_28 (by decide) rfl ?_
  refine im_aload_n X 0 dX10_readsMove_30 rfl rfl ?_
  refine im_iconst X 0 dX10_readsMove_31 (by decide) ?_
  refine im_bipush X 99 dX10_readsMove_32 (by decide) ?_
  refine im_cciV X [.int 0, .int 99] [] [w_Model ct aM M LM] [w_Model ct aM M LM] [0] (fun z34 => [w_Model ct aM z34.2 LM]) 0 10 rfl rfl cl_X10_351 (c_X10_needsNumber l D ct F aM M LM 0 99) rfl rfl (by decide) (fun _ => lc fa_Model (rfl)) rfl ⟨by decide, by decide⟩ (Nat.le_of_ble_eq_true rfl) rfl dX10_readsMove_34 (fun z34 => ?_)
  refine im_ws (w_Model ct aM z34.2 LM) rfl ?_
  refine im_istore X [1, 2, 3, 4, 5, 0] [(0, .ref (aM 0)), (1, .int x1), (2, .int x2), (3, .int x3), (4, .int s0), (5, .int z34.1)] dX10_readsMove_37 (by decide) rfl ?_
  refine im_iload_n X 2 dX10_readsMove_39 rfl rfl ?_
  refine im_iconst X 2 dX10_readsMove_40 (by decide) ?_
  refine im_icmp_eq (tgt := 49) X dX10_readsMove_41 rfl ?_ ?_
  · refine im_iconst X 0 dX10_readsMove_49 (by decide) ?_
    refine im_goto (tgt := 60) X dX10_readsMove_50 rfl ?_
    exact i_X10_readsMove_60 X F aM z34.2 LM x1 x2 x3 s0 z34.1 0 
  · refine im_iload_n X 2 dX10_readsMove_44 rfl rfl ?_
    refine im_iconst X 3 dX10_readsMove_45 (by decide) ?_
    refine im_icmp_ne (tgt := 53) X dX10_readsMove_46 rfl ?_ ?_
    · refine im_aload_n X 0 dX10_readsMove_53 rfl rfl ?_
      refine im_iconst X 0 dX10_readsMove_54 (by decide) ?_
      refine im_bipush X 99 dX10_readsMove_55 (by decide) ?_
      refine im_cciV X [.int 0, .int 99] [] [w_Model ct aM z34.2 LM] [w_Model ct aM z34.2 LM] [0] (fun z57 => [w_Model ct aM z57.2 LM]) 0 10 rfl rfl cl_X10_351 (c_X10_needsNumber l D ct F aM z34.2 LM 0 99) rfl rfl (by decide) (fun _ => lc fa_Model (rfl)) rfl ⟨by decide, by decide⟩ (Nat.le_of_ble_eq_true rfl) rfl dX10_readsMove_57 (fun z57 => ?_)
      refine im_ws (w_Model ct aM z57.2 LM) rfl ?_
      exact i_X10_readsMove_60 X F aM z57.2 LM x1 x2 x3 s0 z34.1 z57.1 
    · refine im_iconst X 0 dX10_readsMove_49 (by decide) ?_
      refine im_goto (tgt := 60) X dX10_readsMove_50 rfl ?_
      exact i_X10_readsMove_60 X F aM z34.2 LM x1 x2 x3 s0 z34.1 0 
noncomputable def f_X10_readsMove (F : Nat) (M : Mem) (LM : MemL) (x1 : Int32) (x2 : Int32) : Option (Mem) :=
  (f_X10_goesOn F M LM).bind (fun z1 => (f_X10_needsNumber F z1 LM 0 99).bind (fun z8 => (if x2 = 4 then (f_X10_needsNumber F z8.2 LM 0 99).bind (fun z21 => f_X10_readsMove_28 F z21.2 LM x1 x2 z8.1 z21.1) else f_X10_readsMove_28 F z8.2 LM x1 x2 z8.1 0)))
set_option maxRecDepth 100000 in
set_option maxHeartbeats 4000000 in
theorem i_X10_readsMove {p : Program} {l : Launch} {e : Env} {s : State} {m : MethodId} {args : Array Value} {below : List Frame} {meth : Method} {c : Code} {D : va_G} {ct : im_ct} {A : Nat → Prop} (X : im_X p (im_rm 5) s m args meth c D ct A RX10 cX10_readsMove 9 none) (F : Nat) (aM : Nat → Nat) (M : Mem) (LM : MemL) (x1 : Int32) (x2 : Int32) : Im p l e (im_rm 5) s m args below meth c D A 9 (QV D A (fun z : Mem => (w_Model ct aM z LM))) 0 [(0, .ref (aM 0)), (1, .int x1), (2, .int x2)] [] (w_Model ct aM M LM) (f_X10_readsMove F M LM x1 x2) := by
  unfold f_X10_readsMove
  refine im_aload_n X 0 dX10_readsMove_0 rfl rfl ?_
  refine im_ccvV X [] [] [w_Model ct aM M LM] [w_Model ct aM M LM] [0] (fun z1 => [w_Model ct aM z1 LM]) 0 10 rfl rfl cl_X10_348 (c_X10_goesOn l D ct F aM M LM) rfl rfl (by decide) (fun _ => lc fa_Model (rfl)) rfl ⟨by decide, by decide⟩ (Nat.le_of_ble_eq_true rfl) rfl dX10_readsMove_1 (fun z1 => ?_)
  refine im_ws (w_Model ct aM z1 LM) rfl ?_
  refine im_aload_n X 0 dX10_readsMove_4 rfl rfl ?_
  refine im_iconst X 0 dX10_readsMove_5 (by decide) ?_
  refine im_bipush X 99 dX10_readsMove_6 (by decide) ?_
  refine im_cciV X [.int 0, .int 99] [] [w_Model ct aM z1 LM] [w_Model ct aM z1 LM] [0] (fun z8 => [w_Model ct aM z8.2 LM]) 0 10 rfl rfl cl_X10_351 (c_X10_needsNumber l D ct F aM z1 LM 0 99) rfl rfl (by decide) (fun _ => lc fa_Model (rfl)) rfl ⟨by decide, by decide⟩ (Nat.le_of_ble_eq_true rfl) rfl dX10_readsMove_8 (fun z8 => ?_)
  refine im_ws (w_Model ct aM z8.2 LM) rfl ?_
  refine im_istore_n X [1, 2, 3, 0] [(0, .ref (aM 0)), (1, .int x1), (2, .int x2), (3, .int z8.1)] dX10_readsMove_11 rfl (by decide) rfl ?_
  refine im_iload_n X 2 dX10_readsMove_12 rfl rfl ?_
  refine im_iconst X 4 dX10_readsMove_13 (by decide) ?_
  refine im_icmp_ne (tgt := 27) X dX10_readsMove_14 rfl ?_ ?_
  · refine im_iconst X 0 dX10_readsMove_27 (by decide) ?_
    exact i_X10_readsMove_28 X F aM z8.2 LM x1 x2 z8.1 0 
  · refine im_aload_n X 0 dX10_readsMove_17 rfl rfl ?_
    refine im_iconst X 0 dX10_readsMove_18 (by decide) ?_
    refine im_bipush X 99 dX10_readsMove_19 (by decide) ?_
    refine im_cciV X [.int 0, .int 99] [] [w_Model ct aM z8.2 LM] [w_Model ct aM z8.2 LM] [0] (fun z21 => [w_Model ct aM z21.2 LM]) 0 10 rfl rfl cl_X10_351 (c_X10_needsNumber l D ct F aM z8.2 LM 0 99) rfl rfl (by decide) (fun _ => lc fa_Model (rfl)) rfl ⟨by decide, by decide⟩ (Nat.le_of_ble_eq_true rfl) rfl dX10_readsMove_21 (fun z21 => ?_)
    refine im_ws (w_Model ct aM z21.2 LM) rfl ?_
    refine im_goto (tgt := 28) X dX10_readsMove_24 rfl ?_
    exact i_X10_readsMove_28 X F aM z21.2 LM x1 x2 z8.1 z21.1 
theorem c_X10_readsMove (l : Launch) (D : va_G) (ct : im_ct) (F : Nat) (aM : Nat → Nat) (M : Mem) (LM : MemL) (x1 : Int32) (x2 : Int32) : CMv l D ct yX10_readsMove cX10_readsMove 9 none 5 [.ref (aM 0), .int x1, .int x2] (w_Model ct aM M LM) (f_X10_readsMove F M LM x1 x2) (fun z : Mem => (w_Model ct aM z LM)) :=
  im_met (Qb := fun A => QV D A (fun z : Mem => (w_Model ct aM z LM))) (by decide +kernel) (Nat.le_of_ble_eq_true rfl) (fun p e s m args below meth c A X => i_X10_readsMove X F aM M LM x1 x2)

noncomputable def f_X10_readsSeen (F : Nat) (M : Mem) (LM : MemL) (x1 : Int32) : Option (Mem) :=
  ck 177 226 ((if ((M 2) (177 : Int32).toNatClampNeg) = 12 then (f_X10_fails F M LM x1).bind (fun z15 => (some z15)) else (f_X10_goesOn F M LM).bind (fun z20 => ck 177 226 (ck 56 226 ((f_X10_needsNumber F z20 LM 0 ((z20 2) (56 : Int32).toNatClampNeg)).bind (fun z52 => ck (178 + (4 * ((z20 2) (177 : Int32).toNatClampNeg))) 226 (ck 1 226 ((f_X10_needsNumber F (mr z52.2 2 (upd (z52.2 2) ((178 + (4 * ((z20 2) (177 : Int32).toNatClampNeg)))).toNatClampNeg z52.1)) LM 0 (((upd (z52.2 2) ((178 + (4 * ((z20 2) (177 : Int32).toNatClampNeg)))).toNatClampNeg z52.1) (1 : Int32).toNatClampNeg) - 1)).bind (fun z73 => ck ((178 + (4 * ((z20 2) (177 : Int32).toNatClampNeg))) + 1) 226 (ck 0 226 ((f_X10_needsNumber F (mr z73.2 2 (upd (z73.2 2) (((178 + (4 * ((z20 2) (177 : Int32).toNatClampNeg))) + 1)).toNatClampNeg z73.1)) LM 0 (((upd (z73.2 2) (((178 + (4 * ((z20 2) (177 : Int32).toNatClampNeg))) + 1)).toNatClampNeg z73.1) (0 : Int32).toNatClampNeg) - 1)).bind (fun z94 => ck ((178 + (4 * ((z20 2) (177 : Int32).toNatClampNeg))) + 2) 226 ((f_X10_needsNumber F (mr z94.2 2 (upd (z94.2 2) (((178 + (4 * ((z20 2) (177 : Int32).toNatClampNeg))) + 2)).toNatClampNeg z94.1)) LM 0 99).bind (fun z109 => ck ((178 + (4 * ((z20 2) (177 : Int32).toNatClampNeg))) + 3) 226 ((f_X10_needsClose F (mr z109.2 2 (upd (z109.2 2) (((178 + (4 * ((z20 2) (177 : Int32).toNatClampNeg))) + 3)).toNatClampNeg z109.1)) LM).bind (fun z114 => ck 177 226 (ck 177 226 ((some (mr z114 2 (upd (z114 2) (177 : Int32).toNatClampNeg (((z114 2) (177 : Int32).toNatClampNeg) + 1))))))))))))))))))))))
set_option maxRecDepth 100000 in
set_option maxHeartbeats 4000000 in
theorem i_X10_readsSeen {p : Program} {l : Launch} {e : Env} {s : State} {m : MethodId} {args : Array Value} {below : List Frame} {meth : Method} {c : Code} {D : va_G} {ct : im_ct} {A : Nat → Prop} (X : im_X p (im_rm 3) s m args meth c D ct A RX10 cX10_readsSeen 3 none) (F : Nat) (aM : Nat → Nat) (M : Mem) (LM : MemL) (x1 : Int32) : Im p l e (im_rm 3) s m args below meth c D A 3 (QV D A (fun z : Mem => (w_Model ct aM z LM))) 0 [(0, .ref (aM 0)), (1, .int x1)] [] (w_Model ct aM M LM) (f_X10_readsSeen F M LM x1) := by
  unfold f_X10_readsSeen
  refine im_aload_n X 0 dX10_readsSeen_0 rfl rfl ?_
  refine im_get X 0 (v := .ref (aM 2)) fl_X10_17 rfl rfl dX10_readsSeen_1 ?_
  refine im_sipush X 177 dX10_readsSeen_4 (by decide) ?_
  refine im_iald X 2 0 (f := (M 2)) rfl rfl dX10_readsSeen_7 ?_
  refine im_bipush X 12 dX10_readsSeen_8 (by decide) ?_
  refine im_icmp_ne (tgt := 19) X dX10_readsSeen_10 rfl ?_ ?_
  · refine im_aload_n X 0 dX10_readsSeen_19 rfl rfl ?_
    refine im_ccvV X [] [] [w_Model ct aM M LM] [w_Model ct aM M LM] [0] (fun z20 => [w_Model ct aM z20 LM]) 0 10 rfl rfl cl_X10_348 (c_X10_goesOn l D ct F aM M LM) rfl rfl (by decide) (fun _ => lc fa_Model (rfl)) rfl ⟨by decide, by decide⟩ (Nat.le_of_ble_eq_true rfl) rfl dX10_readsSeen_20 (fun z20 => ?_)
    refine im_ws (w_Model ct aM z20 LM) rfl ?_
    refine im_sipush X 178 dX10_readsSeen_23 (by decide) ?_
    refine im_iconst X 4 dX10_readsSeen_26 (by decide) ?_
    refine im_aload_n X 0 dX10_readsSeen_27 rfl rfl ?_
    refine im_get X 0 (v := .ref (aM 2)) fl_X10_17 rfl rfl dX10_readsSeen_28 ?_
    refine im_sipush X 177 dX10_readsSeen_31 (by decide) ?_
    refine im_iald X 2 0 (f := (z20 2)) rfl rfl dX10_readsSeen_34 ?_
    refine im_imul X dX10_readsSeen_35 ?_
    refine im_iadd X dX10_readsSeen_36 ?_
    refine im_istore_n X [1, 2, 0] [(0, .ref (aM 0)), (1, .int x1), (2, .int (178 + (4 * ((z20 2) (177 : Int32).toNatClampNeg))))] dX10_readsSeen_37 rfl (by decide) rfl ?_
    refine im_aload_n X 0 dX10_readsSeen_38 rfl rfl ?_
    refine im_get X 0 (v := .ref (aM 2)) fl_X10_17 rfl rfl dX10_readsSeen_39 ?_
    refine im_iload_n X 2 dX10_readsSeen_42 rfl rfl ?_
    refine im_aload_n X 0 dX10_readsSeen_43 rfl rfl ?_
    refine im_iconst X 0 dX10_readsSeen_44 (by decide) ?_
    refine im_aload_n X 0 dX10_readsSeen_45 rfl rfl ?_
    refine im_get X 0 (v := .ref (aM 2)) fl_X10_17 rfl rfl dX10_readsSeen_46 ?_
    refine im_bipush X 56 dX10_readsSeen_49 (by decide) ?_
    refine im_iald X 2 0 (f := (z20 2)) rfl rfl dX10_readsSeen_51 ?_
    refine im_cciV X [.int 0, .int ((z20 2) (56 : Int32).toNatClampNeg)] [.int (178 + (4 * ((z20 2) (177 : Int32).toNatClampNeg))), .ref (aM 2)] [w_Model ct aM z20 LM] [w_Model ct aM z20 LM] [0] (fun z52 => [w_Model ct aM z52.2 LM]) 0 10 rfl rfl cl_X10_351 (c_X10_needsNumber l D ct F aM z20 LM 0 ((z20 2) (56 : Int32).toNatClampNeg)) rfl rfl (by decide) (fun _ => lc fa_Model (rfl)) rfl ⟨by decide, by decide⟩ (Nat.le_of_ble_eq_true rfl) rfl dX10_readsSeen_52 (fun z52 => ?_)
    refine im_ws (w_Model ct aM z52.2 LM) rfl ?_
    refine im_iast X 2 0 (wx_Model ct aM (z52.2 0 0) (z52.2 0 4) (z52.2 0 6) (z52.2 0 7) (z52.2 0 8) (z52.2 0 9) (z52.2 0 24) (z52.2 0 27) (z52.2 0 29) (z52.2 0 31) (z52.2 0 32) (z52.2 0 33) (z52.2 0 34) (z52.2 0 35) (z52.2 1) (upd (z52.2 2) ((178 + (4 * ((z20 2) (177 : Int32).toNatClampNeg)))).toNatClampNeg z52.1) (z52.2 3) (z52.2 4) (z52.2 5) (z52.2 9) (z52.2 10) (z52.2 11) (z52.2 12) (z52.2 13) (z52.2 14) (z52.2 15) (z52.2 16) (z52.2 17) (z52.2 18) (z52.2 19) (z52.2 20) (z52.2 21) (z52.2 22) (LM 6) (LM 7) (LM 8)) (f := (z52.2 2)) rfl rfl rfl dX10_readsSeen_55 ?_
    refine im_aload_n X 0 dX10_readsSeen_56 rfl rfl ?_
    refine im_get X 0 (v := .ref (aM 2)) fl_X10_17 rfl rfl dX10_readsSeen_57 ?_
    refine im_iload_n X 2 dX10_readsSeen_60 rfl rfl ?_
    refine im_iconst X 1 dX10_readsSeen_61 (by decide) ?_
    refine im_iadd X dX10_readsSeen_62 ?_
    refine im_aload_n X 0 dX10_readsSeen_63 rfl rfl ?_
    refine im_iconst X 0 dX10_readsSeen_64 (by decide) ?_
    refine im_aload_n X 0 dX10_readsSeen_65 rfl rfl ?_
    refine im_get X 0 (v := .ref (aM 2)) fl_X10_17 rfl rfl dX10_readsSeen_66 ?_
    refine im_iconst X 1 dX10_readsSeen_69 (by decide) ?_
    refine im_iald X 2 0 (f := (upd (z52.2 2) ((178 + (4 * ((z20 2) (177 : Int32).toNatClampNeg)))).toNatClampNeg z52.1)) rfl rfl dX10_readsSeen_70 ?_
    refine im_iconst X 1 dX10_readsSeen_71 (by decide) ?_
    refine im_isub X dX10_readsSeen_72 ?_
    refine im_cciV X [.int 0, .int (((upd (z52.2 2) ((178 + (4 * ((z20 2) (177 : Int32).toNatClampNeg)))).toNatClampNeg z52.1) (1 : Int32).toNatClampNeg) - 1)] [.int ((178 + (4 * ((z20 2) (177 : Int32).toNatClampNeg))) + 1), .ref (aM 2)] [wx_Model ct aM (z52.2 0 0) (z52.2 0 4) (z52.2 0 6) (z52.2 0 7) (z52.2 0 8) (z52.2 0 9) (z52.2 0 24) (z52.2 0 27) (z52.2 0 29) (z52.2 0 31) (z52.2 0 32) (z52.2 0 33) (z52.2 0 34) (z52.2 0 35) (z52.2 1) (upd (z52.2 2) ((178 + (4 * ((z20 2) (177 : Int32).toNatClampNeg)))).toNatClampNeg z52.1) (z52.2 3) (z52.2 4) (z52.2 5) (z52.2 9) (z52.2 10) (z52.2 11) (z52.2 12) (z52.2 13) (z52.2 14) (z52.2 15) (z52.2 16) (z52.2 17) (z52.2 18) (z52.2 19) (z52.2 20) (z52.2 21) (z52.2 22) (LM 6) (LM 7) (LM 8)] [w_Model ct aM (mr z52.2 2 (upd (z52.2 2) ((178 + (4 * ((z20 2) (177 : Int32).toNatClampNeg)))).toNatClampNeg z52.1)) LM] [0] (fun z73 => [w_Model ct aM z73.2 LM]) 0 10 rfl rfl cl_X10_351 (c_X10_needsNumber l D ct F aM (mr z52.2 2 (upd (z52.2 2) ((178 + (4 * ((z20 2) (177 : Int32).toNatClampNeg)))).toNatClampNeg z52.1)) LM 0 (((upd (z52.2 2) ((178 + (4 * ((z20 2) (177 : Int32).toNatClampNeg)))).toNatClampNeg z52.1) (1 : Int32).toNatClampNeg) - 1)) rfl rfl (by decide) (fun _ => lc fa_Model (rfl)) rfl ⟨by decide, by decide⟩ (Nat.le_of_ble_eq_true rfl) rfl dX10_readsSeen_73 (fun z73 => ?_)
    refine im_ws (w_Model ct aM z73.2 LM) rfl ?_
    refine im_iast X 2 0 (wx_Model ct aM (z73.2 0 0) (z73.2 0 4) (z73.2 0 6) (z73.2 0 7) (z73.2 0 8) (z73.2 0 9) (z73.2 0 24) (z73.2 0 27) (z73.2 0 29) (z73.2 0 31) (z73.2 0 32) (z73.2 0 33) (z73.2 0 34) (z73.2 0 35) (z73.2 1) (upd (z73.2 2) (((178 + (4 * ((z20 2) (177 : Int32).toNatClampNeg))) + 1)).toNatClampNeg z73.1) (z73.2 3) (z73.2 4) (z73.2 5) (z73.2 9) (z73.2 10) (z73.2 11) (z73.2 12) (z73.2 13) (z73.2 14) (z73.2 15) (z73.2 16) (z73.2 17) (z73.2 18) (z73.2 19) (z73.2 20) (z73.2 21) (z73.2 22) (LM 6) (LM 7) (LM 8)) (f := (z73.2 2)) rfl rfl rfl dX10_readsSeen_76 ?_
    refine im_aload_n X 0 dX10_readsSeen_77 rfl rfl ?_
    refine im_get X 0 (v := .ref (aM 2)) fl_X10_17 rfl rfl dX10_readsSeen_78 ?_
    refine im_iload_n X 2 dX10_readsSeen_81 rfl rfl ?_
    refine im_iconst X 2 dX10_readsSeen_82 (by decide) ?_
    refine im_iadd X dX10_readsSeen_83 ?_
    refine im_aload_n X 0 dX10_readsSeen_84 rfl rfl ?_
    refine im_iconst X 0 dX10_readsSeen_85 (by decide) ?_
    refine im_aload_n X 0 dX10_readsSeen_86 rfl rfl ?_
    refine im_get X 0 (v := .ref (aM 2)) fl_X10_17 rfl rfl dX10_readsSeen_87 ?_
    refine im_iconst X 0 dX10_readsSeen_90 (by decide) ?_
    refine im_iald X 2 0 (f := (upd (z73.2 2) (((178 + (4 * ((z20 2) (177 : Int32).toNatClampNeg))) + 1)).toNatClampNeg z73.1)) rfl rfl dX10_readsSeen_91 ?_
    refine im_iconst X 1 dX10_readsSeen_92 (by decide) ?_
    refine im_isub X dX10_readsSeen_93 ?_
    refine im_cciV X [.int 0, .int (((upd (z73.2 2) (((178 + (4 * ((z20 2) (177 : Int32).toNatClampNeg))) + 1)).toNatClampNeg z73.1) (0 : Int32).toNatClampNeg) - 1)] [.int ((178 + (4 * ((z20 2) (177 : Int32).toNatClampNeg))) + 2), .ref (aM 2)] [wx_Model ct aM (z73.2 0 0) (z73.2 0 4) (z73.2 0 6) (z73.2 0 7) (z73.2 0 8) (z73.2 0 9) (z73.2 0 24) (z73.2 0 27) (z73.2 0 29) (z73.2 0 31) (z73.2 0 32) (z73.2 0 33) (z73.2 0 34) (z73.2 0 35) (z73.2 1) (upd (z73.2 2) (((178 + (4 * ((z20 2) (177 : Int32).toNatClampNeg))) + 1)).toNatClampNeg z73.1) (z73.2 3) (z73.2 4) (z73.2 5) (z73.2 9) (z73.2 10) (z73.2 11) (z73.2 12) (z73.2 13) (z73.2 14) (z73.2 15) (z73.2 16) (z73.2 17) (z73.2 18) (z73.2 19) (z73.2 20) (z73.2 21) (z73.2 22) (LM 6) (LM 7) (LM 8)] [w_Model ct aM (mr z73.2 2 (upd (z73.2 2) (((178 + (4 * ((z20 2) (177 : Int32).toNatClampNeg))) + 1)).toNatClampNeg z73.1)) LM] [0] (fun z94 => [w_Model ct aM z94.2 LM]) 0 10 rfl rfl cl_X10_351 (c_X10_needsNumber l D ct F aM (mr z73.2 2 (upd (z73.2 2) (((178 + (4 * ((z20 2) (177 : Int32).toNatClampNeg))) + 1)).toNatClampNeg z73.1)) LM 0 (((upd (z73.2 2) (((178 + (4 * ((z20 2) (177 : Int32).toNatClampNeg))) + 1)).toNatClampNeg z73.1) (0 : Int32).toNatClampNeg) - 1)) rfl rfl (by decide) (fun _ => lc fa_Model (rfl)) rfl ⟨by decide, by decide⟩ (Nat.le_of_ble_eq_true rfl) rfl dX10_readsSeen_94 (fun z94 => ?_)
    refine im_ws (w_Model ct aM z94.2 LM) rfl ?_
    refine im_iast X 2 0 (wx_Model ct aM (z94.2 0 0) (z94.2 0 4) (z94.2 0 6) (z94.2 0 7) (z94.2 0 8) (z94.2 0 9) (z94.2 0 24) (z94.2 0 27) (z94.2 0 29) (z94.2 0 31) (z94.2 0 32) (z94.2 0 33) (z94.2 0 34) (z94.2 0 35) (z94.2 1) (upd (z94.2 2) (((178 + (4 * ((z20 2) (177 : Int32).toNatClampNeg))) + 2)).toNatClampNeg z94.1) (z94.2 3) (z94.2 4) (z94.2 5) (z94.2 9) (z94.2 10) (z94.2 11) (z94.2 12) (z94.2 13) (z94.2 14) (z94.2 15) (z94.2 16) (z94.2 17) (z94.2 18) (z94.2 19) (z94.2 20) (z94.2 21) (z94.2 22) (LM 6) (LM 7) (LM 8)) (f := (z94.2 2)) rfl rfl rfl dX10_readsSeen_97 ?_
    refine im_aload_n X 0 dX10_readsSeen_98 rfl rfl ?_
    refine im_get X 0 (v := .ref (aM 2)) fl_X10_17 rfl rfl dX10_readsSeen_99 ?_
    refine im_iload_n X 2 dX10_readsSeen_102 rfl rfl ?_
    refine im_iconst X 3 dX10_readsSeen_103 (by decide) ?_
    refine im_iadd X dX10_readsSeen_104 ?_
    refine im_aload_n X 0 dX10_readsSeen_105 rfl rfl ?_
    refine im_iconst X 0 dX10_readsSeen_106 (by decide) ?_
    refine im_bipush X 99 dX10_readsSeen_107 (by decide) ?_
    refine im_cciV X [.int 0, .int 99] [.int ((178 + (4 * ((z20 2) (177 : Int32).toNatClampNeg))) + 3), .ref (aM 2)] [wx_Model ct aM (z94.2 0 0) (z94.2 0 4) (z94.2 0 6) (z94.2 0 7) (z94.2 0 8) (z94.2 0 9) (z94.2 0 24) (z94.2 0 27) (z94.2 0 29) (z94.2 0 31) (z94.2 0 32) (z94.2 0 33) (z94.2 0 34) (z94.2 0 35) (z94.2 1) (upd (z94.2 2) (((178 + (4 * ((z20 2) (177 : Int32).toNatClampNeg))) + 2)).toNatClampNeg z94.1) (z94.2 3) (z94.2 4) (z94.2 5) (z94.2 9) (z94.2 10) (z94.2 11) (z94.2 12) (z94.2 13) (z94.2 14) (z94.2 15) (z94.2 16) (z94.2 17) (z94.2 18) (z94.2 19) (z94.2 20) (z94.2 21) (z94.2 22) (LM 6) (LM 7) (LM 8)] [w_Model ct aM (mr z94.2 2 (upd (z94.2 2) (((178 + (4 * ((z20 2) (177 : Int32).toNatClampNeg))) + 2)).toNatClampNeg z94.1)) LM] [0] (fun z109 => [w_Model ct aM z109.2 LM]) 0 10 rfl rfl cl_X10_351 (c_X10_needsNumber l D ct F aM (mr z94.2 2 (upd (z94.2 2) (((178 + (4 * ((z20 2) (177 : Int32).toNatClampNeg))) + 2)).toNatClampNeg z94.1)) LM 0 99) rfl rfl (by decide) (fun _ => lc fa_Model (rfl)) rfl ⟨by decide, by decide⟩ (Nat.le_of_ble_eq_true rfl) rfl dX10_readsSeen_109 (fun z109 => ?_)
    refine im_ws (w_Model ct aM z109.2 LM) rfl ?_
    refine im_iast X 2 0 (wx_Model ct aM (z109.2 0 0) (z109.2 0 4) (z109.2 0 6) (z109.2 0 7) (z109.2 0 8) (z109.2 0 9) (z109.2 0 24) (z109.2 0 27) (z109.2 0 29) (z109.2 0 31) (z109.2 0 32) (z109.2 0 33) (z109.2 0 34) (z109.2 0 35) (z109.2 1) (upd (z109.2 2) (((178 + (4 * ((z20 2) (177 : Int32).toNatClampNeg))) + 3)).toNatClampNeg z109.1) (z109.2 3) (z109.2 4) (z109.2 5) (z109.2 9) (z109.2 10) (z109.2 11) (z109.2 12) (z109.2 13) (z109.2 14) (z109.2 15) (z109.2 16) (z109.2 17) (z109.2 18) (z109.2 19) (z109.2 20) (z109.2 21) (z109.2 22) (LM 6) (LM 7) (LM 8)) (f := (z109.2 2)) rfl rfl rfl dX10_readsSeen_112 ?_
    refine im_aload_n X 0 dX10_readsSeen_113 rfl rfl ?_
    refine im_ccvV X [] [] [wx_Model ct aM (z109.2 0 0) (z109.2 0 4) (z109.2 0 6) (z109.2 0 7) (z109.2 0 8) (z109.2 0 9) (z109.2 0 24) (z109.2 0 27) (z109.2 0 29) (z109.2 0 31) (z109.2 0 32) (z109.2 0 33) (z109.2 0 34) (z109.2 0 35) (z109.2 1) (upd (z109.2 2) (((178 + (4 * ((z20 2) (177 : Int32).toNatClampNeg))) + 3)).toNatClampNeg z109.1) (z109.2 3) (z109.2 4) (z109.2 5) (z109.2 9) (z109.2 10) (z109.2 11) (z109.2 12) (z109.2 13) (z109.2 14) (z109.2 15) (z109.2 16) (z109.2 17) (z109.2 18) (z109.2 19) (z109.2 20) (z109.2 21) (z109.2 22) (LM 6) (LM 7) (LM 8)] [w_Model ct aM (mr z109.2 2 (upd (z109.2 2) (((178 + (4 * ((z20 2) (177 : Int32).toNatClampNeg))) + 3)).toNatClampNeg z109.1)) LM] [0] (fun z114 => [w_Model ct aM z114 LM]) 0 10 rfl rfl cl_X10_354 (c_X10_needsClose l D ct F aM (mr z109.2 2 (upd (z109.2 2) (((178 + (4 * ((z20 2) (177 : Int32).toNatClampNeg))) + 3)).toNatClampNeg z109.1)) LM) rfl rfl (by decide) (fun _ => lc fa_Model (rfl)) rfl ⟨by decide, by decide⟩ (Nat.le_of_ble_eq_true rfl) rfl dX10_readsSeen_114 (fun z114 => ?_)
    refine im_ws (w_Model ct aM z114 LM) rfl ?_
    refine im_aload_n X 0 dX10_readsSeen_117 rfl rfl ?_
    refine im_get X 0 (v := .ref (aM 2)) fl_X10_17 rfl rfl dX10_readsSeen_118 ?_
    refine im_sipush X 177 dX10_readsSeen_121 (by decide) ?_
    refine im_dup2_11 X rfl rfl dX10_readsSeen_124 ?_
    refine im_iald X 2 0 (f := (z114 2)) rfl rfl dX10_readsSeen_125 ?_
    refine im_iconst X 1 dX10_readsSeen_126 (by decide) ?_
    refine im_iadd X dX10_readsSeen_127 ?_
    refine im_iast X 2 0 (wx_Model ct aM (z114 0 0) (z114 0 4) (z114 0 6) (z114 0 7) (z114 0 8) (z114 0 9) (z114 0 24) (z114 0 27) (z114 0 29) (z114 0 31) (z114 0 32) (z114 0 33) (z114 0 34) (z114 0 35) (z114 1) (upd (z114 2) (177 : Int32).toNatClampNeg (((z114 2) (177 : Int32).toNatClampNeg) + 1)) (z114 3) (z114 4) (z114 5) (z114 9) (z114 10) (z114 11) (z114 12) (z114 13) (z114 14) (z114 15) (z114 16) (z114 17) (z114 18) (z114 19) (z114 20) (z114 21) (z114 22) (LM 6) (LM 7) (LM 8)) (f := (z114 2)) rfl rfl rfl dX10_readsSeen_128 ?_
    exact im_return X (mr z114 2 (upd (z114 2) (177 : Int32).toNatClampNeg (((z114 2) (177 : Int32).toNatClampNeg) + 1))) rfl dX10_readsSeen_129
  · refine im_aload_n X 0 dX10_readsSeen_13 rfl rfl ?_
    refine im_iload_n X 1 dX10_readsSeen_14 rfl rfl ?_
    refine im_ccvV X [.int x1] [] [w_Model ct aM M LM] [w_Model ct aM M LM] [0] (fun z15 => [w_Model ct aM z15 LM]) 0 10 rfl rfl cl_X10_345 (c_X10_fails l D ct F aM M LM x1) rfl rfl (by decide) (fun _ => lc fa_Model (rfl)) rfl ⟨by decide, by decide⟩ (Nat.le_of_ble_eq_true rfl) rfl dX10_readsSeen_15 (fun z15 => ?_)
    refine im_ws (w_Model ct aM z15 LM) rfl ?_
    exact im_return X z15 rfl dX10_readsSeen_18
theorem c_X10_readsSeen (l : Launch) (D : va_G) (ct : im_ct) (F : Nat) (aM : Nat → Nat) (M : Mem) (LM : MemL) (x1 : Int32) : CMv l D ct yX10_readsSeen cX10_readsSeen 3 none 3 [.ref (aM 0), .int x1] (w_Model ct aM M LM) (f_X10_readsSeen F M LM x1) (fun z : Mem => (w_Model ct aM z LM)) :=
  im_met (Qb := fun A => QV D A (fun z : Mem => (w_Model ct aM z LM))) (by decide +kernel) (Nat.le_of_ble_eq_true rfl) (fun p e s m args below meth c A X => i_X10_readsSeen X F aM M LM x1)

noncomputable def f_X10_stage (F : Nat) (x0 : Int32) : Option (Int32) :=
  (if 2 ≤ x0 then (if 7 ≤ x0 then (some 3) else (some 2)) else (some x0))
set_option maxRecDepth 100000 in
set_option maxHeartbeats 4000000 in
theorem i_X10_stage {p : Program} {l : Launch} {e : Env} {s : State} {m : MethodId} {args : Array Value} {below : List Frame} {meth : Method} {c : Code} {D : va_G} {ct : im_ct} {A : Nat → Prop} (X : im_X p (im_rm 0) s m args meth c D ct A RX10 cX10_stage 1 (some .int)) (F : Nat) (x0 : Int32) : Im p l e (im_rm 0) s m args below meth c D A 1 (QI D A (fun z : Int32 => z) (fun z : Int32 => ([] : va_W))) 0 [(0, .int x0)] [] ([] : va_W) (f_X10_stage F x0) := by
  unfold f_X10_stage
  refine im_iload_n X 0 dX10_stage_0 rfl rfl ?_
  refine im_iconst X 2 dX10_stage_1 (by decide) ?_
  refine im_icmp_ge (tgt := 9) X dX10_stage_2 rfl ?_ ?_
  · refine im_iload_n X 0 dX10_stage_9 rfl rfl ?_
    refine im_bipush X 7 dX10_stage_10 (by decide) ?_
    refine im_icmp_ge (tgt := 19) X dX10_stage_12 rfl ?_ ?_
    · refine im_iconst X 3 dX10_stage_19 (by decide) ?_
      exact im_ireturn X 3 rfl rfl dX10_stage_20
    · refine im_iconst X 2 dX10_stage_15 (by decide) ?_
      refine im_goto (tgt := 20) X dX10_stage_16 rfl ?_
      exact im_ireturn X 2 rfl rfl dX10_stage_20
  · refine im_iload_n X 0 dX10_stage_5 rfl rfl ?_
    refine im_goto (tgt := 20) X dX10_stage_6 rfl ?_
    exact im_ireturn X x0 rfl rfl dX10_stage_20
theorem c_X10_stage (l : Launch) (D : va_G) (ct : im_ct) (F : Nat) (x0 : Int32) : CMi l D ct yX10_stage cX10_stage 1 (some .int) 0 [.int x0] ([] : va_W) (f_X10_stage F x0) (fun z : Int32 => z) (fun z : Int32 => ([] : va_W)) :=
  im_met (Qb := fun A => QI D A (fun z : Int32 => z) (fun z : Int32 => ([] : va_W))) (by decide +kernel) (Nat.le_of_ble_eq_true rfl) (fun p e s m args below meth c A X => i_X10_stage X F x0)

noncomputable def f_X10_lineHere_2 (F : Nat) (M : Mem) (LM : MemL) (k16 : Int32 → Option (Int32)) (k24 : Option (Int32)) : Nat → Int32 → Option (Int32)
  | 0, _ => none
  | n + 1, x1 =>
  (if 8 ≤ x1 then k24 else (f_X10_isWord F M LM x1).bind (fun z10 => (if z10 = 0 then f_X10_lineHere_2 F M LM k16 k24 n (x1 + 1) else k16 x1)))
set_option maxRecDepth 100000 in
set_option maxHeartbeats 4000000 in
theorem i_X10_lineHere_2 {p : Program} {l : Launch} {e : Env} {s : State} {m : MethodId} {args : Array Value} {below : List Frame} {meth : Method} {c : Code} {D : va_G} {ct : im_ct} {A : Nat → Prop} (X : im_X p (im_rm 2) s m args meth c D ct A RX10 cX10_lineHere 2 (some .int)) (F : Nat) (aM : Nat → Nat) (M : Mem) (LM : MemL) (k16 : Int32 → Option (Int32)) (hk16 : ∀ (x1 : Int32), Im p l e (im_rm 2) s m args below meth c D A 2 (QI D A (fun z : Int32 => z) (fun z : Int32 => (w_Model ct aM M LM))) 16 [(1, .int x1)] [] (w_Model ct aM M LM) (k16 x1)) (k24 : Option (Int32)) (hk24 : Im p l e (im_rm 2) s m args below meth c D A 2 (QI D A (fun z : Int32 => z) (fun z : Int32 => (w_Model ct aM M LM))) 24 [] [] (w_Model ct aM M LM) (k24)) : ∀ (n : Nat) (x1 : Int32), Im p l e (im_rm 2) s m args below meth c D A 2 (QI D A (fun z : Int32 => z) (fun z : Int32 => (w_Model ct aM M LM))) 2 [(0, .ref (aM 0)), (1, .int x1)] [] (w_Model ct aM M LM) (f_X10_lineHere_2 F M LM k16 k24 n x1) := by
  intro n
  induction n with
  | zero => intros; exact im_none
  | succ n ih =>
    intro x1
    unfold f_X10_lineHere_2
    refine im_iload_n X 1 dX10_lineHere_2 rfl rfl ?_
    refine im_bipush X 8 dX10_lineHere_3 (by decide) ?_
    refine im_icmp_ge (tgt := 24) X dX10_lineHere_5 rfl ?_ ?_
    · refine im_lv [] [] rfl ?_
      exact hk24
    · refine im_aload_n X 0 dX10_lineHere_8 rfl rfl ?_
      refine im_iload_n X 1 dX10_lineHere_9 rfl rfl ?_
      refine im_cciV X [.int x1] [] [w_Model ct aM M LM] [w_Model ct aM M LM] [0] (fun z10 => [w_Model ct aM M LM]) 0 10 rfl rfl cl_X10_360 (c_X10_isWord l D ct F aM M LM x1) rfl rfl (by decide) (fun _ => lc rfl (rfl)) rfl ⟨by decide, by decide⟩ (Nat.le_of_ble_eq_true rfl) rfl dX10_lineHere_10 (fun z10 => ?_)
      refine im_ws (w_Model ct aM M LM) rfl ?_
      refine im_if_eq (tgt := 18) X dX10_lineHere_13 rfl ?_ ?_
      · refine im_iinc X 1 1 [1, 0] [(0, .ref (aM 0)), (1, .int (x1 + 1))] dX10_lineHere_18 (by decide) rfl (by decide) rfl ?_
        refine im_goto (tgt := 2) X dX10_lineHere_21 rfl ?_
        exact ih (x1 + 1)
      · refine im_lv [1] [(1, .int x1)] rfl ?_
        exact hk16 x1
noncomputable def f_X10_lineHere (F : Nat) (M : Mem) (LM : MemL) : Option (Int32) :=
  f_X10_lineHere_2 F M LM (fun x1_16 => (some x1_16)) ((some (-1))) F 0
set_option maxRecDepth 100000 in
set_option maxHeartbeats 4000000 in
theorem i_X10_lineHere {p : Program} {l : Launch} {e : Env} {s : State} {m : MethodId} {args : Array Value} {below : List Frame} {meth : Method} {c : Code} {D : va_G} {ct : im_ct} {A : Nat → Prop} (X : im_X p (im_rm 2) s m args meth c D ct A RX10 cX10_lineHere 2 (some .int)) (F : Nat) (aM : Nat → Nat) (M : Mem) (LM : MemL) : Im p l e (im_rm 2) s m args below meth c D A 2 (QI D A (fun z : Int32 => z) (fun z : Int32 => (w_Model ct aM M LM))) 0 [(0, .ref (aM 0))] [] (w_Model ct aM M LM) (f_X10_lineHere F M LM) := by
  unfold f_X10_lineHere
  refine im_iconst X 0 dX10_lineHere_0 (by decide) ?_
  refine im_istore_n X [1, 0] [(0, .ref (aM 0)), (1, .int 0)] dX10_lineHere_1 rfl (by decide) rfl ?_
  refine i_X10_lineHere_2 X F aM M LM  _ (fun x1_16 => ?_) _ ?_ F 0
  · refine im_iload_n X 0 dX10_lineHere_16 rfl rfl ?_
    exact im_ireturn X x1_16 rfl rfl dX10_lineHere_17
  · refine im_iconst X (-1) dX10_lineHere_24 (by decide) ?_
    exact im_ireturn X (-1) rfl rfl dX10_lineHere_25
theorem c_X10_lineHere (l : Launch) (D : va_G) (ct : im_ct) (F : Nat) (aM : Nat → Nat) (M : Mem) (LM : MemL) : CMi l D ct yX10_lineHere cX10_lineHere 2 (some .int) 2 [.ref (aM 0)] (w_Model ct aM M LM) (f_X10_lineHere F M LM) (fun z : Int32 => z) (fun z : Int32 => (w_Model ct aM M LM)) :=
  im_met (Qb := fun A => QI D A (fun z : Int32 => z) (fun z : Int32 => (w_Model ct aM M LM))) (by decide +kernel) (Nat.le_of_ble_eq_true rfl) (fun p e s m args below meth c A X => i_X10_lineHere X F aM M LM)

noncomputable def f_X10_readsAll_95 (F : Nat) (M : Mem) (LM : MemL) (x2 : Int32) (x3 : Int32) (k2 : Mem → Int32 → Option (Mem)) : Option (Mem) :=
  (f_X10_stage F x3).bind (fun z96 => (if x3 = 0 then (f_X10_readsColumn F M LM x2).bind (fun z106 => k2 z106 z96) else (if x3 = 1 then (f_X10_readsRow F M LM x2).bind (fun z119 => k2 z119 z96) else (if x3 = 7 then (f_X10_readsSeen F M LM x2).bind (fun z133 => k2 z133 z96) else (f_X10_readsMove F M LM x2 (x3 - 2)).bind (fun z144 => k2 z144 z96)))))
set_option maxRecDepth 100000 in
set_option maxHeartbeats 4000000 in
theorem i_X10_readsAll_95 {p : Program} {l : Launch} {e : Env} {s : State} {m : MethodId} {args : Array Value} {below : List Frame} {meth : Method} {c : Code} {D : va_G} {ct : im_ct} {A : Nat → Prop} (X : im_X p (im_rm 6) s m args meth c D ct A RX10 cX10_readsAll 5 none) (F : Nat) (aM : Nat → Nat) (M : Mem) (LM : MemL) (x2 : Int32) (x3 : Int32) (k2 : Mem → Int32 → Option (Mem)) (hk2 : ∀ (M : Mem) (x1 : Int32), Im p l e (im_rm 6) s m args below meth c D A 5 (QV D A (fun z : Mem => (w_Model ct aM z LM))) 2 [(0, .ref (aM 0)), (1, .int x1)] [] (w_Model ct aM M LM) (k2 M x1)) : Im p l e (im_rm 6) s m args below meth c D A 5 (QV D A (fun z : Mem => (w_Model ct aM z LM))) 95 [(0, .ref (aM 0)), (2, .int x2), (3, .int x3)] [] (w_Model ct aM M LM) (f_X10_readsAll_95 F M LM x2 x3 k2) := by
  unfold f_X10_readsAll_95
  refine im_iload_n X 2 dX10_readsAll_95 rfl rfl ?_
  refine im_cciS X [.int x3] [] [w_Model ct aM M LM] [] [] (fun z96 => []) cl_X10_366 (c_X10_stage l D ct F x3) rfl rfl (by decide) (fun _ => rfl) rfl ⟨by decide, by decide⟩ (Nat.le_of_ble_eq_true rfl) rfl dX10_readsAll_96 (fun z96 => ?_)
  refine im_ws (w_Model ct aM M LM) rfl ?_
  refine im_istore_n X [1, 0, 2, 3] [(0, .ref (aM 0)), (1, .int z96), (2, .int x2), (3, .int x3)] dX10_readsAll_99 rfl (by decide) rfl ?_
  refine im_iload_n X 3 dX10_readsAll_100 rfl rfl ?_
  refine im_if_ne (tgt := 112) X dX10_readsAll_101 rfl ?_ ?_
  · refine im_iload_n X 3 dX10_readsAll_112 rfl rfl ?_
    refine im_iconst X 1 dX10_readsAll_113 (by decide) ?_
    refine im_icmp_ne (tgt := 125) X dX10_readsAll_114 rfl ?_ ?_
    · refine im_iload_n X 3 dX10_readsAll_125 rfl rfl ?_
      refine im_bipush X 7 dX10_readsAll_126 (by decide) ?_
      refine im_icmp_ne (tgt := 139) X dX10_readsAll_128 rfl ?_ ?_
      · refine im_aload_n X 0 dX10_readsAll_139 rfl rfl ?_
        refine im_iload_n X 2 dX10_readsAll_140 rfl rfl ?_
        refine im_iload_n X 3 dX10_readsAll_141 rfl rfl ?_
        refine im_iconst X 2 dX10_readsAll_142 (by decide) ?_
        refine im_isub X dX10_readsAll_143 ?_
        refine im_ccvV X [.int x2, .int (x3 - 2)] [] [w_Model ct aM M LM] [w_Model ct aM M LM] [0] (fun z144 => [w_Model ct aM z144 LM]) 0 10 rfl rfl cl_X10_378 (c_X10_readsMove l D ct F aM M LM x2 (x3 - 2)) rfl rfl (by decide) (fun _ => lc fa_Model (rfl)) rfl ⟨by decide, by decide⟩ (Nat.le_of_ble_eq_true rfl) rfl dX10_readsAll_144 (fun z144 => ?_)
        refine im_ws (w_Model ct aM z144 LM) rfl ?_
        refine im_goto (tgt := 2) X dX10_readsAll_147 rfl ?_
        refine im_lv [0, 1] [(0, .ref (aM 0)), (1, .int z96)] rfl ?_
        exact hk2 z144 z96
      · refine im_aload_n X 0 dX10_readsAll_131 rfl rfl ?_
        refine im_iload_n X 2 dX10_readsAll_132 rfl rfl ?_
        refine im_ccvV X [.int x2] [] [w_Model ct aM M LM] [w_Model ct aM M LM] [0] (fun z133 => [w_Model ct aM z133 LM]) 0 10 rfl rfl cl_X10_375 (c_X10_readsSeen l D ct F aM M LM x2) rfl rfl (by decide) (fun _ => lc fa_Model (rfl)) rfl ⟨by decide, by decide⟩ (Nat.le_of_ble_eq_true rfl) rfl dX10_readsAll_133 (fun z133 => ?_)
        refine im_ws (w_Model ct aM z133 LM) rfl ?_
        refine im_goto (tgt := 147) X dX10_readsAll_136 rfl ?_
        refine im_goto (tgt := 2) X dX10_readsAll_147 rfl ?_
        refine im_lv [0, 1] [(0, .ref (aM 0)), (1, .int z96)] rfl ?_
        exact hk2 z133 z96
    · refine im_aload_n X 0 dX10_readsAll_117 rfl rfl ?_
      refine im_iload_n X 2 dX10_readsAll_118 rfl rfl ?_
      refine im_ccvV X [.int x2] [] [w_Model ct aM M LM] [w_Model ct aM M LM] [0] (fun z119 => [w_Model ct aM z119 LM]) 0 10 rfl rfl cl_X10_372 (c_X10_readsRow l D ct F aM M LM x2) rfl rfl (by decide) (fun _ => lc fa_Model (rfl)) rfl ⟨by decide, by decide⟩ (Nat.le_of_ble_eq_true rfl) rfl dX10_readsAll_119 (fun z119 => ?_)
      refine im_ws (w_Model ct aM z119 LM) rfl ?_
      refine im_goto (tgt := 147) X dX10_readsAll_122 rfl ?_
      refine im_goto (tgt := 2) X dX10_readsAll_147 rfl ?_
      refine im_lv [0, 1] [(0, .ref (aM 0)), (1, .int z96)] rfl ?_
      exact hk2 z119 z96
  · refine im_aload_n X 0 dX10_readsAll_104 rfl rfl ?_
    refine im_iload_n X 2 dX10_readsAll_105 rfl rfl ?_
    refine im_ccvV X [.int x2] [] [w_Model ct aM M LM] [w_Model ct aM M LM] [0] (fun z106 => [w_Model ct aM z106 LM]) 0 10 rfl rfl cl_X10_369 (c_X10_readsColumn l D ct F aM M LM x2) rfl rfl (by decide) (fun _ => lc fa_Model (rfl)) rfl ⟨by decide, by decide⟩ (Nat.le_of_ble_eq_true rfl) rfl dX10_readsAll_106 (fun z106 => ?_)
    refine im_ws (w_Model ct aM z106 LM) rfl ?_
    refine im_goto (tgt := 147) X dX10_readsAll_109 rfl ?_
    refine im_goto (tgt := 2) X dX10_readsAll_147 rfl ?_
    refine im_lv [0, 1] [(0, .ref (aM 0)), (1, .int z96)] rfl ?_
    exact hk2 z106 z96
noncomputable def f_X10_readsAll_62 (F : Nat) (LM : MemL) (x2 : Int32) (x3 : Int32) (k95 : Mem → Option (Mem)) : Nat → Mem → Int32 → Option (Mem)
  | 0, _, _ => none
  | n + 1, M, x4 =>
  (if 24 ≤ x4 then k95 M else ck (8 + x4) 226 (ck (32 + x4) 226 (f_X10_readsAll_62 F LM x2 x3 k95 n (mr M 2 (upd (M 2) ((32 + x4)).toNatClampNeg ((M 2) ((8 + x4)).toNatClampNeg))) (x4 + 1))))
set_option maxRecDepth 100000 in
set_option maxHeartbeats 4000000 in
theorem i_X10_readsAll_62 {p : Program} {l : Launch} {e : Env} {s : State} {m : MethodId} {args : Array Value} {below : List Frame} {meth : Method} {c : Code} {D : va_G} {ct : im_ct} {A : Nat → Prop} (X : im_X p (im_rm 6) s m args meth c D ct A RX10 cX10_readsAll 5 none) (F : Nat) (aM : Nat → Nat) (LM : MemL) (x2 : Int32) (x3 : Int32) (k95 : Mem → Option (Mem)) (hk95 : ∀ (M : Mem), Im p l e (im_rm 6) s m args below meth c D A 5 (QV D A (fun z : Mem => (w_Model ct aM z LM))) 95 [(0, .ref (aM 0)), (2, .int x2), (3, .int x3)] [] (w_Model ct aM M LM) (k95 M)) : ∀ (n : Nat) (M : Mem) (x4 : Int32), Im p l e (im_rm 6) s m args below meth c D A 5 (QV D A (fun z : Mem => (w_Model ct aM z LM))) 62 [(0, .ref (aM 0)), (2, .int x2), (3, .int x3), (4, .int x4)] [] (w_Model ct aM M LM) (f_X10_readsAll_62 F LM x2 x3 k95 n M x4) := by
  intro n
  induction n with
  | zero => intros; exact im_none
  | succ n ih =>
    intro M x4
    unfold f_X10_readsAll_62
    refine im_iload X 3 dX10_readsAll_62 rfl ?_
    refine im_bipush X 24 dX10_readsAll_64 (by decide) ?_
    refine im_icmp_ge (tgt := 95) X dX10_readsAll_66 rfl ?_ ?_
    · refine im_lv [0, 1, 2] [(0, .ref (aM 0)), (2, .int x2), (3, .int x3)] rfl ?_
      exact hk95 M
    · refine im_aload_n X 0 dX10_readsAll_69 rfl rfl ?_
      refine im_get X 0 (v := .ref (aM 2)) fl_X10_17 rfl rfl dX10_readsAll_70 ?_
      refine im_bipush X 32 dX10_readsAll_73 (by decide) ?_
      refine im_iload X 3 dX10_readsAll_75 rfl ?_
      refine im_iadd X dX10_readsAll_77 ?_
      refine im_aload_n X 0 dX10_readsAll_78 rfl rfl ?_
      refine im_get X 0 (v := .ref (aM 2)) fl_X10_17 rfl rfl dX10_readsAll_79 ?_
      refine im_bipush X 8 dX10_readsAll_82 (by decide) ?_
      refine im_iload X 3 dX10_readsAll_84 rfl ?_
      refine im_iadd X dX10_readsAll_86 ?_
      refine im_iald X 2 0 (f := (M 2)) rfl rfl dX10_readsAll_87 ?_
      refine im_iast X 2 0 (wx_Model ct aM (M 0 0) (M 0 4) (M 0 6) (M 0 7) (M 0 8) (M 0 9) (M 0 24) (M 0 27) (M 0 29) (M 0 31) (M 0 32) (M 0 33) (M 0 34) (M 0 35) (M 1) (upd (M 2) ((32 + x4)).toNatClampNeg ((M 2) ((8 + x4)).toNatClampNeg)) (M 3) (M 4) (M 5) (M 9) (M 10) (M 11) (M 12) (M 13) (M 14) (M 15) (M 16) (M 17) (M 18) (M 19) (M 20) (M 21) (M 22) (LM 6) (LM 7) (LM 8)) (f := (M 2)) rfl rfl rfl dX10_readsAll_88 ?_
      refine im_iinc X 3 1 [1, 2, 3, 0] [(0, .ref (aM 0)), (2, .int x2), (3, .int x3), (4, .int (x4 + 1))] dX10_readsAll_89 (by decide) rfl (by decide) rfl ?_
      refine im_goto (tgt := 62) X dX10_readsAll_92 rfl ?_
      exact ih (mr M 2 (upd (M 2) ((32 + x4)).toNatClampNeg ((M 2) ((8 + x4)).toNatClampNeg))) (x4 + 1)
noncomputable def f_X10_readsAll_2 (F : Nat) (LM : MemL) (k40 : Mem → Int32 → Option (Mem)) (k150 : Mem → Int32 → Option (Mem)) : Nat → Mem → Int32 → Option (Mem)
  | 0, _, _ => none
  | n + 1, M, x1 =>
  (if (M 0 35) = (-1) then (if (M 0 32) = 0 then k150 M x1 else (f_X10_lineHere F M LM).bind (fun z23 => (if z23 = (-1) then k40 M (M 0 33) else (f_X10_stage F z23).bind (fun z33 => (if x1 ≤ z33 then (if 2 ≤ x1 then f_X10_readsAll_95 F M LM (M 0 33) z23 (f_X10_readsAll_2 F LM k40 k150 n) else (f_X10_stage F z23).bind (fun z52 => (if z52 < 2 then f_X10_readsAll_95 F M LM (M 0 33) z23 (f_X10_readsAll_2 F LM k40 k150 n) else f_X10_readsAll_62 F LM (M 0 33) z23 (fun M_95 => f_X10_readsAll_95 F M_95 LM (M 0 33) z23 (f_X10_readsAll_2 F LM k40 k150 n)) F M 0))) else k40 M (M 0 33)))))) else k150 M x1)
set_option maxRecDepth 100000 in
set_option maxHeartbeats 4000000 in
theorem i_X10_readsAll_2 {p : Program} {l : Launch} {e : Env} {s : State} {m : MethodId} {args : Array Value} {below : List Frame} {meth : Method} {c : Code} {D : va_G} {ct : im_ct} {A : Nat → Prop} (X : im_X p (im_rm 6) s m args meth c D ct A RX10 cX10_readsAll 5 none) (F : Nat) (aM : Nat → Nat) (LM : MemL) (k40 : Mem → Int32 → Option (Mem)) (hk40 : ∀ (M : Mem) (x2 : Int32), Im p l e (im_rm 6) s m args below meth c D A 5 (QV D A (fun z : Mem => (w_Model ct aM z LM))) 40 [(0, .ref (aM 0)), (2, .int x2)] [] (w_Model ct aM M LM) (k40 M x2)) (k150 : Mem → Int32 → Option (Mem)) (hk150 : ∀ (M : Mem) (x1 : Int32), Im p l e (im_rm 6) s m args below meth c D A 5 (QV D A (fun z : Mem => (w_Model ct aM z LM))) 150 [(0, .ref (aM 0)), (1, .int x1)] [] (w_Model ct aM M LM) (k150 M x1)) : ∀ (n : Nat) (M : Mem) (x1 : Int32), Im p l e (im_rm 6) s m args below meth c D A 5 (QV D A (fun z : Mem => (w_Model ct aM z LM))) 2 [(0, .ref (aM 0)), (1, .int x1)] [] (w_Model ct aM M LM) (f_X10_readsAll_2 F LM k40 k150 n M x1) := by
  intro n
  induction n with
  | zero => intros; exact im_none
  | succ n ih =>
    intro M x1
    unfold f_X10_readsAll_2
    refine im_aload_n X 0 dX10_readsAll_2 rfl rfl ?_
    refine im_get X 0 (v := .int (M 0 35)) fl_X10_342 rfl rfl dX10_readsAll_3 ?_
    refine im_iconst X (-1) dX10_readsAll_6 (by decide) ?_
    refine im_icmp_ne (tgt := 150) X dX10_readsAll_7 rfl ?_ ?_
    · exact hk150 M x1
    · refine im_aload_n X 0 dX10_readsAll_10 rfl rfl ?_
      refine im_get X 0 (v := .int (M 0 32)) fl_X10_322 rfl rfl dX10_readsAll_11 ?_
      refine im_if_eq (tgt := 150) X dX10_readsAll_14 rfl ?_ ?_
      · exact hk150 M x1
      · refine im_aload_n X 0 dX10_readsAll_17 rfl rfl ?_
        refine im_get X 0 (v := .int (M 0 33)) fl_X10_328 rfl rfl dX10_readsAll_18 ?_
        refine im_istore_n X [1, 2, 0] [(0, .ref (aM 0)), (1, .int x1), (2, .int (M 0 33))] dX10_readsAll_21 rfl (by decide) rfl ?_
        refine im_aload_n X 0 dX10_readsAll_22 rfl rfl ?_
        refine im_cciV X [] [] [w_Model ct aM M LM] [w_Model ct aM M LM] [0] (fun z23 => [w_Model ct aM M LM]) 0 10 rfl rfl cl_X10_363 (c_X10_lineHere l D ct F aM M LM) rfl rfl (by decide) (fun _ => lc rfl (rfl)) rfl ⟨by decide, by decide⟩ (Nat.le_of_ble_eq_true rfl) rfl dX10_readsAll_23 (fun z23 => ?_)
        refine im_ws (w_Model ct aM M LM) rfl ?_
        refine im_istore_n X [1, 2, 3, 0] [(0, .ref (aM 0)), (1, .int x1), (2, .int (M 0 33)), (3, .int z23)] dX10_readsAll_26 rfl (by decide) rfl ?_
        refine im_iload_n X 3 dX10_readsAll_27 rfl rfl ?_
        refine im_iconst X (-1) dX10_readsAll_28 (by decide) ?_
        refine im_icmp_eq (tgt := 40) X dX10_readsAll_29 rfl ?_ ?_
        · refine im_lv [0, 2] [(0, .ref (aM 0)), (2, .int (M 0 33))] rfl ?_
          exact hk40 M (M 0 33)
        · refine im_iload_n X 3 dX10_readsAll_32 rfl rfl ?_
          refine im_cciS X [.int z23] [] [w_Model ct aM M LM] [] [] (fun z33 => []) cl_X10_366 (c_X10_stage l D ct F z23) rfl rfl (by decide) (fun _ => rfl) rfl ⟨by decide, by decide⟩ (Nat.le_of_ble_eq_true rfl) rfl dX10_readsAll_33 (fun z33 => ?_)
          refine im_ws (w_Model ct aM M LM) rfl ?_
          refine im_iload_n X 1 dX10_readsAll_36 rfl rfl ?_
          refine im_icmp_ge (tgt := 46) X dX10_readsAll_37 rfl ?_ ?_
          · refine im_iload_n X 1 dX10_readsAll_46 rfl rfl ?_
            refine im_iconst X 2 dX10_readsAll_47 (by decide) ?_
            refine im_icmp_ge (tgt := 95) X dX10_readsAll_48 rfl ?_ ?_
            · refine im_lv [0, 2, 3] [(0, .ref (aM 0)), (2, .int (M 0 33)), (3, .int z23)] rfl ?_
              exact i_X10_readsAll_95 X F aM M LM (M 0 33) z23 _ ih
            · refine im_iload_n X 3 dX10_readsAll_51 rfl rfl ?_
              refine im_cciS X [.int z23] [] [w_Model ct aM M LM] [] [] (fun z52 => []) cl_X10_366 (c_X10_stage l D ct F z23) rfl rfl (by decide) (fun _ => rfl) rfl ⟨by decide, by decide⟩ (Nat.le_of_ble_eq_true rfl) rfl dX10_readsAll_52 (fun z52 => ?_)
              refine im_ws (w_Model ct aM M LM) rfl ?_
              refine im_iconst X 2 dX10_readsAll_55 (by decide) ?_
              refine im_icmp_lt (tgt := 95) X dX10_readsAll_56 rfl ?_ ?_
              · refine im_lv [0, 2, 3] [(0, .ref (aM 0)), (2, .int (M 0 33)), (3, .int z23)] rfl ?_
                exact i_X10_readsAll_95 X F aM M LM (M 0 33) z23 _ ih
              · refine im_iconst X 0 dX10_readsAll_59 (by decide) ?_
                refine im_istore X [1, 2, 3, 4, 0] [(0, .ref (aM 0)), (1, .int x1), (2, .int (M 0 33)), (3, .int z23), (4, .int 0)] dX10_readsAll_60 (by decide) rfl ?_
                refine im_lv [0, 2, 3, 4] [(0, .ref (aM 0)), (2, .int (M 0 33)), (3, .int z23), (4, .int 0)] rfl ?_
                refine i_X10_readsAll_62 X F aM LM (M 0 33) z23 _ (fun M_95 => ?_) F M 0
                exact i_X10_readsAll_95 X F aM M_95 LM (M 0 33) z23 _ ih
          · refine im_lv [0, 2] [(0, .ref (aM 0)), (2, .int (M 0 33))] rfl ?_
            exact hk40 M (M 0 33)
noncomputable def f_X10_readsAll_40 (F : Nat) (M : Mem) (LM : MemL) (x2 : Int32) : Option (Mem) :=
  (f_X10_fails F M LM x2).bind (fun z42 => (some z42))
set_option maxRecDepth 100000 in
set_option maxHeartbeats 4000000 in
theorem i_X10_readsAll_40 {p : Program} {l : Launch} {e : Env} {s : State} {m : MethodId} {args : Array Value} {below : List Frame} {meth : Method} {c : Code} {D : va_G} {ct : im_ct} {A : Nat → Prop} (X : im_X p (im_rm 6) s m args meth c D ct A RX10 cX10_readsAll 5 none) (F : Nat) (aM : Nat → Nat) (M : Mem) (LM : MemL) (x2 : Int32) : Im p l e (im_rm 6) s m args below meth c D A 5 (QV D A (fun z : Mem => (w_Model ct aM z LM))) 40 [(0, .ref (aM 0)), (2, .int x2)] [] (w_Model ct aM M LM) (f_X10_readsAll_40 F M LM x2) := by
  unfold f_X10_readsAll_40
  refine im_aload_n X 0 dX10_readsAll_40 rfl rfl ?_
  refine im_iload_n X 1 dX10_readsAll_41 rfl rfl ?_
  refine im_ccvV X [.int x2] [] [w_Model ct aM M LM] [w_Model ct aM M LM] [0] (fun z42 => [w_Model ct aM z42 LM]) 0 10 rfl rfl cl_X10_345 (c_X10_fails l D ct F aM M LM x2) rfl rfl (by decide) (fun _ => lc fa_Model (rfl)) rfl ⟨by decide, by decide⟩ (Nat.le_of_ble_eq_true rfl) rfl dX10_readsAll_42 (fun z42 => ?_)
  refine im_ws (w_Model ct aM z42 LM) rfl ?_
  exact im_return X z42 rfl dX10_readsAll_45
noncomputable def f_X10_readsAll_157 (F : Nat) (LM : MemL) (k187 : Mem → Option (Mem)) : Nat → Mem → Int32 → Option (Mem)
  | 0, _, _ => none
  | n + 1, M, x2 =>
  (if 24 ≤ x2 then k187 M else ck (8 + x2) 226 (ck (32 + x2) 226 (f_X10_readsAll_157 F LM k187 n (mr M 2 (upd (M 2) ((32 + x2)).toNatClampNeg ((M 2) ((8 + x2)).toNatClampNeg))) (x2 + 1))))
set_option maxRecDepth 100000 in
set_option maxHeartbeats 4000000 in
theorem i_X10_readsAll_157 {p : Program} {l : Launch} {e : Env} {s : State} {m : MethodId} {args : Array Value} {below : List Frame} {meth : Method} {c : Code} {D : va_G} {ct : im_ct} {A : Nat → Prop} (X : im_X p (im_rm 6) s m args meth c D ct A RX10 cX10_readsAll 5 none) (F : Nat) (aM : Nat → Nat) (LM : MemL) (k187 : Mem → Option (Mem)) (hk187 : ∀ (M : Mem), Im p l e (im_rm 6) s m args below meth c D A 5 (QV D A (fun z : Mem => (w_Model ct aM z LM))) 187 [] [] (w_Model ct aM M LM) (k187 M)) : ∀ (n : Nat) (M : Mem) (x2 : Int32), Im p l e (im_rm 6) s m args below meth c D A 5 (QV D A (fun z : Mem => (w_Model ct aM z LM))) 157 [(0, .ref (aM 0)), (2, .int x2)] [] (w_Model ct aM M LM) (f_X10_readsAll_157 F LM k187 n M x2) := by
  intro n
  induction n with
  | zero => intros; exact im_none
  | succ n ih =>
    intro M x2
    unfold f_X10_readsAll_157
    refine im_iload_n X 1 dX10_readsAll_157 rfl rfl ?_
    refine im_bipush X 24 dX10_readsAll_158 (by decide) ?_
    refine im_icmp_ge (tgt := 187) X dX10_readsAll_160 rfl ?_ ?_
    · refine im_lv [] [] rfl ?_
      exact hk187 M
    · refine im_aload_n X 0 dX10_readsAll_163 rfl rfl ?_
      refine im_get X 0 (v := .ref (aM 2)) fl_X10_17 rfl rfl dX10_readsAll_164 ?_
      refine im_bipush X 32 dX10_readsAll_167 (by decide) ?_
      refine im_iload_n X 1 dX10_readsAll_169 rfl rfl ?_
      refine im_iadd X dX10_readsAll_170 ?_
      refine im_aload_n X 0 dX10_readsAll_171 rfl rfl ?_
      refine im_get X 0 (v := .ref (aM 2)) fl_X10_17 rfl rfl dX10_readsAll_172 ?_
      refine im_bipush X 8 dX10_readsAll_175 (by decide) ?_
      refine im_iload_n X 1 dX10_readsAll_177 rfl rfl ?_
      refine im_iadd X dX10_readsAll_178 ?_
      refine im_iald X 2 0 (f := (M 2)) rfl rfl dX10_readsAll_179 ?_
      refine im_iast X 2 0 (wx_Model ct aM (M 0 0) (M 0 4) (M 0 6) (M 0 7) (M 0 8) (M 0 9) (M 0 24) (M 0 27) (M 0 29) (M 0 31) (M 0 32) (M 0 33) (M 0 34) (M 0 35) (M 1) (upd (M 2) ((32 + x2)).toNatClampNeg ((M 2) ((8 + x2)).toNatClampNeg)) (M 3) (M 4) (M 5) (M 9) (M 10) (M 11) (M 12) (M 13) (M 14) (M 15) (M 16) (M 17) (M 18) (M 19) (M 20) (M 21) (M 22) (LM 6) (LM 7) (LM 8)) (f := (M 2)) rfl rfl rfl dX10_readsAll_180 ?_
      refine im_iinc X 1 1 [1, 0] [(0, .ref (aM 0)), (2, .int (x2 + 1))] dX10_readsAll_181 (by decide) rfl (by decide) rfl ?_
      refine im_goto (tgt := 157) X dX10_readsAll_184 rfl ?_
      exact ih (mr M 2 (upd (M 2) ((32 + x2)).toNatClampNeg ((M 2) ((8 + x2)).toNatClampNeg))) (x2 + 1)
noncomputable def f_X10_readsAll_150 (F : Nat) (M : Mem) (LM : MemL) (x1 : Int32) : Option (Mem) :=
  (if 2 ≤ x1 then (some M) else f_X10_readsAll_157 F LM (fun M_187 => (some M_187)) F M 0)
set_option maxRecDepth 100000 in
set_option maxHeartbeats 4000000 in
theorem i_X10_readsAll_150 {p : Program} {l : Launch} {e : Env} {s : State} {m : MethodId} {args : Array Value} {below : List Frame} {meth : Method} {c : Code} {D : va_G} {ct : im_ct} {A : Nat → Prop} (X : im_X p (im_rm 6) s m args meth c D ct A RX10 cX10_readsAll 5 none) (F : Nat) (aM : Nat → Nat) (M : Mem) (LM : MemL) (x1 : Int32) : Im p l e (im_rm 6) s m args below meth c D A 5 (QV D A (fun z : Mem => (w_Model ct aM z LM))) 150 [(0, .ref (aM 0)), (1, .int x1)] [] (w_Model ct aM M LM) (f_X10_readsAll_150 F M LM x1) := by
  unfold f_X10_readsAll_150
  refine im_iload_n X 1 dX10_readsAll_150 rfl rfl ?_
  refine im_iconst X 2 dX10_readsAll_151 (by decide) ?_
  refine im_icmp_ge (tgt := 187) X dX10_readsAll_152 rfl ?_ ?_
  · exact im_return X M rfl dX10_readsAll_187
  · refine im_iconst X 0 dX10_readsAll_155 (by decide) ?_
    refine im_istore_n X [1, 2, 0] [(0, .ref (aM 0)), (1, .int x1), (2, .int 0)] dX10_readsAll_156 rfl (by decide) rfl ?_
    refine im_lv [0, 2] [(0, .ref (aM 0)), (2, .int 0)] rfl ?_
    refine i_X10_readsAll_157 X F aM LM  _ (fun M_187 => ?_) F M 0
    exact im_return X M_187 rfl dX10_readsAll_187
noncomputable def f_X10_readsAll (F : Nat) (M : Mem) (LM : MemL) : Option (Mem) :=
  f_X10_readsAll_2 F LM (fun M_40 x2_40 => f_X10_readsAll_40 F M_40 LM x2_40) (fun M_150 x1_150 => f_X10_readsAll_150 F M_150 LM x1_150) F M 0
set_option maxRecDepth 100000 in
set_option maxHeartbeats 4000000 in
theorem i_X10_readsAll {p : Program} {l : Launch} {e : Env} {s : State} {m : MethodId} {args : Array Value} {below : List Frame} {meth : Method} {c : Code} {D : va_G} {ct : im_ct} {A : Nat → Prop} (X : im_X p (im_rm 6) s m args meth c D ct A RX10 cX10_readsAll 5 none) (F : Nat) (aM : Nat → Nat) (M : Mem) (LM : MemL) : Im p l e (im_rm 6) s m args below meth c D A 5 (QV D A (fun z : Mem => (w_Model ct aM z LM))) 0 [(0, .ref (aM 0))] [] (w_Model ct aM M LM) (f_X10_readsAll F M LM) := by
  unfold f_X10_readsAll
  refine im_iconst X 0 dX10_readsAll_0 (by decide) ?_
  refine im_istore_n X [1, 0] [(0, .ref (aM 0)), (1, .int 0)] dX10_readsAll_1 rfl (by decide) rfl ?_
  refine i_X10_readsAll_2 X F aM LM  _ (fun M_40 x2_40 => ?_) _ (fun M_150 x1_150 => ?_) F M 0
  · exact i_X10_readsAll_40 X F aM M_40 LM x2_40 
  · exact i_X10_readsAll_150 X F aM M_150 LM x1_150 
theorem c_X10_readsAll (l : Launch) (D : va_G) (ct : im_ct) (F : Nat) (aM : Nat → Nat) (M : Mem) (LM : MemL) : CMv l D ct yX10_readsAll cX10_readsAll 5 none 6 [.ref (aM 0)] (w_Model ct aM M LM) (f_X10_readsAll F M LM) (fun z : Mem => (w_Model ct aM z LM)) :=
  im_met (Qb := fun A => QV D A (fun z : Mem => (w_Model ct aM z LM))) (by decide +kernel) (Nat.le_of_ble_eq_true rfl) (fun p e s m args below meth c A X => i_X10_readsAll X F aM M LM)

noncomputable def f_X10_text_2 (F : Nat) (LM : MemL) (k22 : Mem → Option (Int32 × Mem)) : Nat → Mem → Int32 → Option (Int32 × Mem)
  | 0, _, _ => none
  | n + 1, M, x1 =>
  (if 226 ≤ x1 then k22 M else ck x1 226 (f_X10_text_2 F LM k22 n (mr M 2 (upd (M 2) x1.toNatClampNeg 0)) (x1 + 1)))
set_option maxRecDepth 100000 in
set_option maxHeartbeats 4000000 in
theorem i_X10_text_2 {p : Program} {l : Launch} {e : Env} {s : State} {m : MethodId} {args : Array Value} {below : List Frame} {meth : Method} {c : Code} {D : va_G} {ct : im_ct} {A : Nat → Prop} (X : im_X p (im_rm 7) s m args meth c D ct A RX10 cX10_text 2 (some .int)) (F : Nat) (aM : Nat → Nat) (LM : MemL) (k22 : Mem → Option (Int32 × Mem)) (hk22 : ∀ (M : Mem), Im p l e (im_rm 7) s m args below meth c D A 2 (QI D A (fun z : Int32 × Mem => z.1) (fun z : Int32 × Mem => (w_Model ct aM z.2 LM))) 22 [(0, .ref (aM 0))] [] (w_Model ct aM M LM) (k22 M)) : ∀ (n : Nat) (M : Mem) (x1 : Int32), Im p l e (im_rm 7) s m args below meth c D A 2 (QI D A (fun z : Int32 × Mem => z.1) (fun z : Int32 × Mem => (w_Model ct aM z.2 LM))) 2 [(0, .ref (aM 0)), (1, .int x1)] [] (w_Model ct aM M LM) (f_X10_text_2 F LM k22 n M x1) := by
  intro n
  induction n with
  | zero => intros; exact im_none
  | succ n ih =>
    intro M x1
    unfold f_X10_text_2
    refine im_iload_n X 1 dX10_text_2 rfl rfl ?_
    refine im_sipush X 226 dX10_text_3 (by decide) ?_
    refine im_icmp_ge (tgt := 22) X dX10_text_6 rfl ?_ ?_
    · refine im_lv [0] [(0, .ref (aM 0))] rfl ?_
      exact hk22 M
    · refine im_aload_n X 0 dX10_text_9 rfl rfl ?_
      refine im_get X 0 (v := .ref (aM 2)) fl_X10_17 rfl rfl dX10_text_10 ?_
      refine im_iload_n X 1 dX10_text_13 rfl rfl ?_
      refine im_iconst X 0 dX10_text_14 (by decide) ?_
      refine im_iast X 2 0 (wx_Model ct aM (M 0 0) (M 0 4) (M 0 6) (M 0 7) (M 0 8) (M 0 9) (M 0 24) (M 0 27) (M 0 29) (M 0 31) (M 0 32) (M 0 33) (M 0 34) (M 0 35) (M 1) (upd (M 2) x1.toNatClampNeg 0) (M 3) (M 4) (M 5) (M 9) (M 10) (M 11) (M 12) (M 13) (M 14) (M 15) (M 16) (M 17) (M 18) (M 19) (M 20) (M 21) (M 22) (LM 6) (LM 7) (LM 8)) (f := (M 2)) rfl rfl rfl dX10_text_15 ?_
      refine im_iinc X 1 1 [1, 0] [(0, .ref (aM 0)), (1, .int (x1 + 1))] dX10_text_16 (by decide) rfl (by decide) rfl ?_
      refine im_goto (tgt := 2) X dX10_text_19 rfl ?_
      exact ih (mr M 2 (upd (M 2) x1.toNatClampNeg 0)) (x1 + 1)
noncomputable def f_X10_text_68 (F : Nat) (LM : MemL) (k93 : Mem → Option (Int32 × Mem)) : Nat → Mem → Int32 → Option (Int32 × Mem)
  | 0, _, _ => none
  | n + 1, M, x1 =>
  (if 226 ≤ x1 then k93 M else ck x1 226 (ck x1 226 (f_X10_text_68 F LM k93 n (mr M 1 (upd (M 1) x1.toNatClampNeg ((M 2) x1.toNatClampNeg))) (x1 + 1))))
set_option maxRecDepth 100000 in
set_option maxHeartbeats 4000000 in
theorem i_X10_text_68 {p : Program} {l : Launch} {e : Env} {s : State} {m : MethodId} {args : Array Value} {below : List Frame} {meth : Method} {c : Code} {D : va_G} {ct : im_ct} {A : Nat → Prop} (X : im_X p (im_rm 7) s m args meth c D ct A RX10 cX10_text 2 (some .int)) (F : Nat) (aM : Nat → Nat) (LM : MemL) (k93 : Mem → Option (Int32 × Mem)) (hk93 : ∀ (M : Mem), Im p l e (im_rm 7) s m args below meth c D A 2 (QI D A (fun z : Int32 × Mem => z.1) (fun z : Int32 × Mem => (w_Model ct aM z.2 LM))) 93 [(0, .ref (aM 0))] [] (w_Model ct aM M LM) (k93 M)) : ∀ (n : Nat) (M : Mem) (x1 : Int32), Im p l e (im_rm 7) s m args below meth c D A 2 (QI D A (fun z : Int32 × Mem => z.1) (fun z : Int32 × Mem => (w_Model ct aM z.2 LM))) 68 [(0, .ref (aM 0)), (1, .int x1)] [] (w_Model ct aM M LM) (f_X10_text_68 F LM k93 n M x1) := by
  intro n
  induction n with
  | zero => intros; exact im_none
  | succ n ih =>
    intro M x1
    unfold f_X10_text_68
    refine im_iload_n X 1 dX10_text_68 rfl rfl ?_
    refine im_sipush X 226 dX10_text_69 (by decide) ?_
    refine im_icmp_ge (tgt := 93) X dX10_text_72 rfl ?_ ?_
    · refine im_lv [0] [(0, .ref (aM 0))] rfl ?_
      exact hk93 M
    · refine im_aload_n X 0 dX10_text_75 rfl rfl ?_
      refine im_get X 0 (v := .ref (aM 1)) fl_X10_13 rfl rfl dX10_text_76 ?_
      refine im_iload_n X 1 dX10_text_79 rfl rfl ?_
      refine im_aload_n X 0 dX10_text_80 rfl rfl ?_
      refine im_get X 0 (v := .ref (aM 2)) fl_X10_17 rfl rfl dX10_text_81 ?_
      refine im_iload_n X 1 dX10_text_84 rfl rfl ?_
      refine im_iald X 2 0 (f := (M 2)) rfl rfl dX10_text_85 ?_
      refine im_iast X 1 0 (wx_Model ct aM (M 0 0) (M 0 4) (M 0 6) (M 0 7) (M 0 8) (M 0 9) (M 0 24) (M 0 27) (M 0 29) (M 0 31) (M 0 32) (M 0 33) (M 0 34) (M 0 35) (upd (M 1) x1.toNatClampNeg ((M 2) x1.toNatClampNeg)) (M 2) (M 3) (M 4) (M 5) (M 9) (M 10) (M 11) (M 12) (M 13) (M 14) (M 15) (M 16) (M 17) (M 18) (M 19) (M 20) (M 21) (M 22) (LM 6) (LM 7) (LM 8)) (f := (M 1)) rfl rfl rfl dX10_text_86 ?_
      refine im_iinc X 1 1 [1, 0] [(0, .ref (aM 0)), (1, .int (x1 + 1))] dX10_text_87 (by decide) rfl (by decide) rfl ?_
      refine im_goto (tgt := 68) X dX10_text_90 rfl ?_
      exact ih (mr M 1 (upd (M 1) x1.toNatClampNeg ((M 2) x1.toNatClampNeg))) (x1 + 1)
noncomputable def f_X10_text (F : Nat) (M : Mem) (LM : MemL) : Option (Int32 × Mem) :=
  f_X10_text_2 F LM (fun M_22 => (f_X10_goesOn F (mr M_22 0 (fu (fu (fu (M_22 0) 31 0) 32 3) 35 (-1))) LM).bind (fun z38 => (f_X10_readsAll F z38 LM).bind (fun z42 => (if (z42 0 35) = (-1) then f_X10_text_68 F LM (fun M_93 => ck 1 226 ((some (((M_93 1) (1 : Int32).toNatClampNeg), (mr M_93 0 (fu (M_93 0) 4 0)))))) F (mr z42 0 (fu (z42 0) 29 0)) 0 else (some (((-4) - (z42 0 35)), (mr z42 0 (fu (z42 0) 29 0)))))))) F M 0
set_option maxRecDepth 100000 in
set_option maxHeartbeats 4000000 in
theorem i_X10_text {p : Program} {l : Launch} {e : Env} {s : State} {m : MethodId} {args : Array Value} {below : List Frame} {meth : Method} {c : Code} {D : va_G} {ct : im_ct} {A : Nat → Prop} (X : im_X p (im_rm 7) s m args meth c D ct A RX10 cX10_text 2 (some .int)) (F : Nat) (aM : Nat → Nat) (M : Mem) (LM : MemL) : Im p l e (im_rm 7) s m args below meth c D A 2 (QI D A (fun z : Int32 × Mem => z.1) (fun z : Int32 × Mem => (w_Model ct aM z.2 LM))) 0 [(0, .ref (aM 0))] [] (w_Model ct aM M LM) (f_X10_text F M LM) := by
  unfold f_X10_text
  refine im_iconst X 0 dX10_text_0 (by decide) ?_
  refine im_istore_n X [1, 0] [(0, .ref (aM 0)), (1, .int 0)] dX10_text_1 rfl (by decide) rfl ?_
  refine i_X10_text_2 X F aM LM  _ (fun M_22 => ?_) F M 0
  refine im_aload_n X 0 dX10_text_22 rfl rfl ?_
  refine im_iconst X 0 dX10_text_23 (by decide) ?_
  refine im_put X 0 (wx_Model ct aM (M_22 0 0) (M_22 0 4) (M_22 0 6) (M_22 0 7) (M_22 0 8) (M_22 0 9) (M_22 0 24) (M_22 0 27) (M_22 0 29) 0 (M_22 0 32) (M_22 0 33) (M_22 0 34) (M_22 0 35) (M_22 1) (M_22 2) (M_22 3) (M_22 4) (M_22 5) (M_22 9) (M_22 10) (M_22 11) (M_22 12) (M_22 13) (M_22 14) (M_22 15) (M_22 16) (M_22 17) (M_22 18) (M_22 19) (M_22 20) (M_22 21) (M_22 22) (LM 6) (LM 7) (LM 8)) fl_X10_319 rfl rfl rfl (Nat.le_of_ble_eq_true rfl) rfl dX10_text_24 ?_
  refine im_aload_n X 0 dX10_text_27 rfl rfl ?_
  refine im_iconst X 3 dX10_text_28 (by decide) ?_
  refine im_put X 0 (wx_Model ct aM (M_22 0 0) (M_22 0 4) (M_22 0 6) (M_22 0 7) (M_22 0 8) (M_22 0 9) (M_22 0 24) (M_22 0 27) (M_22 0 29) 0 3 (M_22 0 33) (M_22 0 34) (M_22 0 35) (M_22 1) (M_22 2) (M_22 3) (M_22 4) (M_22 5) (M_22 9) (M_22 10) (M_22 11) (M_22 12) (M_22 13) (M_22 14) (M_22 15) (M_22 16) (M_22 17) (M_22 18) (M_22 19) (M_22 20) (M_22 21) (M_22 22) (LM 6) (LM 7) (LM 8)) fl_X10_322 rfl rfl rfl (Nat.le_of_ble_eq_true rfl) rfl dX10_text_29 ?_
  refine im_aload_n X 0 dX10_text_32 rfl rfl ?_
  refine im_iconst X (-1) dX10_text_33 (by decide) ?_
  refine im_put X 0 (wx_Model ct aM (M_22 0 0) (M_22 0 4) (M_22 0 6) (M_22 0 7) (M_22 0 8) (M_22 0 9) (M_22 0 24) (M_22 0 27) (M_22 0 29) 0 3 (M_22 0 33) (M_22 0 34) (-1) (M_22 1) (M_22 2) (M_22 3) (M_22 4) (M_22 5) (M_22 9) (M_22 10) (M_22 11) (M_22 12) (M_22 13) (M_22 14) (M_22 15) (M_22 16) (M_22 17) (M_22 18) (M_22 19) (M_22 20) (M_22 21) (M_22 22) (LM 6) (LM 7) (LM 8)) fl_X10_342 rfl rfl rfl (Nat.le_of_ble_eq_true rfl) rfl dX10_text_34 ?_
  refine im_aload_n X 0 dX10_text_37 rfl rfl ?_
  refine im_ccvV X [] [] [wx_Model ct aM (M_22 0 0) (M_22 0 4) (M_22 0 6) (M_22 0 7) (M_22 0 8) (M_22 0 9) (M_22 0 24) (M_22 0 27) (M_22 0 29) 0 3 (M_22 0 33) (M_22 0 34) (-1) (M_22 1) (M_22 2) (M_22 3) (M_22 4) (M_22 5) (M_22 9) (M_22 10) (M_22 11) (M_22 12) (M_22 13) (M_22 14) (M_22 15) (M_22 16) (M_22 17) (M_22 18) (M_22 19) (M_22 20) (M_22 21) (M_22 22) (LM 6) (LM 7) (LM 8)] [w_Model ct aM (mr M_22 0 (fu (fu (fu (M_22 0) 31 0) 32 3) 35 (-1))) LM] [0] (fun z38 => [w_Model ct aM z38 LM]) 0 10 rfl rfl cl_X10_348 (c_X10_goesOn l D ct F aM (mr M_22 0 (fu (fu (fu (M_22 0) 31 0) 32 3) 35 (-1))) LM) rfl rfl (by decide) (fun _ => lc fa_Model (rfl)) rfl ⟨by decide, by decide⟩ (Nat.le_of_ble_eq_true rfl) rfl dX10_text_38 (fun z38 => ?_)
  refine im_ws (w_Model ct aM z38 LM) rfl ?_
  refine im_aload_n X 0 dX10_text_41 rfl rfl ?_
  refine im_ccvV X [] [] [w_Model ct aM z38 LM] [w_Model ct aM z38 LM] [0] (fun z42 => [w_Model ct aM z42 LM]) 0 10 rfl rfl cl_X10_382 (c_X10_readsAll l D ct F aM z38 LM) rfl rfl (by decide) (fun _ => lc fa_Model (rfl)) rfl ⟨by decide, by decide⟩ (Nat.le_of_ble_eq_true rfl) rfl dX10_text_42 (fun z42 => ?_)
  refine im_ws (w_Model ct aM z42 LM) rfl ?_
  refine im_aload_n X 0 dX10_text_45 rfl rfl ?_
  refine im_iconst X 0 dX10_text_46 (by decide) ?_
  refine im_put X 0 (wx_Model ct aM (z42 0 0) (z42 0 4) (z42 0 6) (z42 0 7) (z42 0 8) (z42 0 9) (z42 0 24) (z42 0 27) 0 (z42 0 31) (z42 0 32) (z42 0 33) (z42 0 34) (z42 0 35) (z42 1) (z42 2) (z42 3) (z42 4) (z42 5) (z42 9) (z42 10) (z42 11) (z42 12) (z42 13) (z42 14) (z42 15) (z42 16) (z42 17) (z42 18) (z42 19) (z42 20) (z42 21) (z42 22) (LM 6) (LM 7) (LM 8)) fl_X10_309 rfl rfl rfl (Nat.le_of_ble_eq_true rfl) rfl dX10_text_47 ?_
  refine im_aload_n X 0 dX10_text_50 rfl rfl ?_
  refine im_get X 0 (v := .int (z42 0 35)) fl_X10_342 rfl rfl dX10_text_51 ?_
  refine im_iconst X (-1) dX10_text_54 (by decide) ?_
  refine im_icmp_eq (tgt := 66) X dX10_text_55 rfl ?_ ?_
  · refine im_iconst X 0 dX10_text_66 (by decide) ?_
    refine im_istore_n X [1, 0] [(0, .ref (aM 0)), (1, .int 0)] dX10_text_67 rfl (by decide) rfl ?_
    refine i_X10_text_68 X F aM LM  _ (fun M_93 => ?_) F (mr z42 0 (fu (z42 0) 29 0)) 0
    refine im_aload_n X 0 dX10_text_93 rfl rfl ?_
    refine im_iconst X 0 dX10_text_94 (by decide) ?_
    refine im_put X 0 (wx_Model ct aM (M_93 0 0) 0 (M_93 0 6) (M_93 0 7) (M_93 0 8) (M_93 0 9) (M_93 0 24) (M_93 0 27) (M_93 0 29) (M_93 0 31) (M_93 0 32) (M_93 0 33) (M_93 0 34) (M_93 0 35) (M_93 1) (M_93 2) (M_93 3) (M_93 4) (M_93 5) (M_93 9) (M_93 10) (M_93 11) (M_93 12) (M_93 13) (M_93 14) (M_93 15) (M_93 16) (M_93 17) (M_93 18) (M_93 19) (M_93 20) (M_93 21) (M_93 22) (LM 6) (LM 7) (LM 8)) fl_X10_83 rfl rfl rfl (Nat.le_of_ble_eq_true rfl) rfl dX10_text_95 ?_
    refine im_aload_n X 0 dX10_text_98 rfl rfl ?_
    refine im_get X 0 (v := .ref (aM 1)) fl_X10_13 rfl rfl dX10_text_99 ?_
    refine im_iconst X 1 dX10_text_102 (by decide) ?_
    refine im_iald X 1 0 (f := (M_93 1)) rfl rfl dX10_text_103 ?_
    exact im_ireturn X (((M_93 1) (1 : Int32).toNatClampNeg), (mr M_93 0 (fu (M_93 0) 4 0))) rfl rfl dX10_text_104
  · refine im_bipush X (-4) dX10_text_58 (by decide) ?_
    refine im_aload_n X 0 dX10_text_60 rfl rfl ?_
    refine im_get X 0 (v := .int (z42 0 35)) fl_X10_342 rfl rfl dX10_text_61 ?_
    refine im_isub X dX10_text_64 ?_
    exact im_ireturn X (((-4) - (z42 0 35)), (mr z42 0 (fu (z42 0) 29 0))) rfl rfl dX10_text_65
theorem c_X10_text (l : Launch) (D : va_G) (ct : im_ct) (F : Nat) (aM : Nat → Nat) (M : Mem) (LM : MemL) : CMi l D ct yX10_text cX10_text 2 (some .int) 7 [.ref (aM 0)] (w_Model ct aM M LM) (f_X10_text F M LM) (fun z : Int32 × Mem => z.1) (fun z : Int32 × Mem => (w_Model ct aM z.2 LM)) :=
  im_met (Qb := fun A => QI D A (fun z : Int32 × Mem => z.1) (fun z : Int32 × Mem => (w_Model ct aM z.2 LM))) (by decide +kernel) (Nat.le_of_ble_eq_true rfl) (fun p e s m args below meth c A X => i_X10_text X F aM M LM)

