noncomputable def f_X10_sum_28 (F : Nat) (M : Mem) (LM : MemL) (k52 : Int32 → Option (Int32)) : Nat → Int32 → Int32 → Option (Int32)
  | 0, _, _ => none
  | n + 1, x2, x3 =>
  ck 1 226 ((if ((M 1) (1 : Int32).toNatClampNeg) ≤ x3 then k52 x2 else (f_X10_sumOf F M LM x3).bind (fun z41 => f_X10_sum_28 F M LM k52 n (x2 + z41) (x3 + 1))))
set_option maxRecDepth 100000 in
set_option maxHeartbeats 4000000 in
theorem i_X10_sum_28 {p : Program} {l : Launch} {e : Env} {s : State} {m : MethodId} {args : Array Value} {below : List Frame} {meth : Method} {c : Code} {D : va_G} {ct : im_ct} {A : Nat → Prop} (X : im_X p (im_rm 3) s m args meth c D ct A RX10 cX10_sum 4 (some .int)) (F : Nat) (aM : Nat → Nat) (M : Mem) (LM : MemL) (k52 : Int32 → Option (Int32)) (hk52 : ∀ (x2 : Int32), Im p l e (im_rm 3) s m args below meth c D A 4 (QI D A (fun z : Int32 => z) (fun z : Int32 => (cat [w_Model ct aM M LM]))) 52 [(2, .int x2)] [] (cat [w_Model ct aM M LM]) (k52 x2)) : ∀ (n : Nat) (x2 : Int32) (x3 : Int32), Im p l e (im_rm 3) s m args below meth c D A 4 (QI D A (fun z : Int32 => z) (fun z : Int32 => (cat [w_Model ct aM M LM]))) 28 [(0, .ref (aM 0)), (2, .int x2), (3, .int x3)] [] (cat [w_Model ct aM M LM]) (f_X10_sum_28 F M LM k52 n x2 x3) := by
  intro n
  induction n with
  | zero => intros; exact im_none
  | succ n ih =>
    intro x2 x3
    unfold f_X10_sum_28
    refine im_iload_n X 2 dX10_sum_28 rfl rfl ?_
    refine im_aload_n X 0 dX10_sum_29 rfl rfl ?_
    refine im_cget X 0 0 (v := .ref (aM 1)) fl_X10_13 rfl rfl rfl dX10_sum_30 ?_
    refine im_iconst X 1 dX10_sum_33 (by decide) ?_
    refine im_ciald X 0 1 0 (f := (M 1)) rfl rfl rfl dX10_sum_34 ?_
    refine im_icmp_ge (tgt := 52) X dX10_sum_35 rfl ?_ ?_
    · refine im_lv [1] [(2, .int x2)] rfl ?_
      exact hk52 x2
    · refine im_iload_n X 1 dX10_sum_38 rfl rfl ?_
      refine im_aload_n X 0 dX10_sum_39 rfl rfl ?_
      refine im_iload_n X 2 dX10_sum_40 rfl rfl ?_
      refine im_cciV X [.int x3] [.int x2] [w_Model ct aM M LM] [w_Model ct aM M LM] [0] (fun z41 => [w_Model ct aM M LM]) 0 0 10 rfl rfl rfl cl_X10_121 (c_X10_sumOf l D ct F aM M LM x3) rfl (by decide) (fun _ => lc rfl (rfl)) rfl ⟨by decide, by decide⟩ (Nat.le_of_ble_eq_true rfl) rfl dX10_sum_41 (fun z41 => ?_)
      refine im_ws (cat [w_Model ct aM M LM]) rfl ?_
      refine im_iadd X dX10_sum_44 ?_
      refine im_istore_n X [1, 0, 2] [(0, .ref (aM 0)), (2, .int (x2 + z41)), (3, .int x3)] dX10_sum_45 rfl (by decide) rfl ?_
      refine im_iinc X 2 1 [1, 2, 0] [(0, .ref (aM 0)), (2, .int (x2 + z41)), (3, .int (x3 + 1))] dX10_sum_46 (by decide) rfl (by decide) rfl ?_
      refine im_goto (tgt := 28) X dX10_sum_49 rfl ?_
      exact ih (x2 + z41) (x3 + 1)
noncomputable def f_X10_sum (F : Nat) (M : Mem) (LM : MemL) (x1 : Int32) : Option (Int32) :=
  (if x1 = (-1) then f_X10_sum_28 F M LM (fun x2_52 => (some x2_52)) F 0 0 else (f_X10_isRow F M LM x1).bind (fun z7 => (if z7 = 0 then (some (-2)) else (f_X10_sumOf F M LM x1).bind (fun z15 => (some z15)))))
set_option maxRecDepth 100000 in
set_option maxHeartbeats 4000000 in
theorem i_X10_sum {p : Program} {l : Launch} {e : Env} {s : State} {m : MethodId} {args : Array Value} {below : List Frame} {meth : Method} {c : Code} {D : va_G} {ct : im_ct} {A : Nat → Prop} (X : im_X p (im_rm 3) s m args meth c D ct A RX10 cX10_sum 4 (some .int)) (F : Nat) (aM : Nat → Nat) (M : Mem) (LM : MemL) (x1 : Int32) : Im p l e (im_rm 3) s m args below meth c D A 4 (QI D A (fun z : Int32 => z) (fun z : Int32 => (cat [w_Model ct aM M LM]))) 0 [(0, .ref (aM 0)), (1, .int x1)] [] (cat [w_Model ct aM M LM]) (f_X10_sum F M LM x1) := by
  unfold f_X10_sum
  refine im_iload_n X 1 dX10_sum_0 rfl rfl ?_
  refine im_iconst X (-1) dX10_sum_1 (by decide) ?_
  refine im_icmp_eq (tgt := 24) X dX10_sum_2 rfl ?_ ?_
  · refine im_iconst X 0 dX10_sum_24 (by decide) ?_
    refine im_istore_n X [1, 2, 0] [(0, .ref (aM 0)), (1, .int x1), (2, .int 0)] dX10_sum_25 rfl (by decide) rfl ?_
    refine im_iconst X 0 dX10_sum_26 (by decide) ?_
    refine im_istore_n X [1, 2, 3, 0] [(0, .ref (aM 0)), (1, .int x1), (2, .int 0), (3, .int 0)] dX10_sum_27 rfl (by decide) rfl ?_
    refine im_lv [0, 2, 3] [(0, .ref (aM 0)), (2, .int 0), (3, .int 0)] rfl ?_
    refine i_X10_sum_28 X F aM M LM  _ (fun x2_52 => ?_) F 0 0
    refine im_iload_n X 0 dX10_sum_52 rfl rfl ?_
    exact im_ireturn X x2_52 rfl rfl dX10_sum_53
  · refine im_aload_n X 0 dX10_sum_5 rfl rfl ?_
    refine im_iload_n X 1 dX10_sum_6 rfl rfl ?_
    refine im_cciV X [.int x1] [] [w_Model ct aM M LM] [w_Model ct aM M LM] [0] (fun z7 => [w_Model ct aM M LM]) 0 0 10 rfl rfl rfl cl_X10_90 (c_X10_isRow l D ct F aM M LM x1) rfl (by decide) (fun _ => lc rfl (rfl)) rfl ⟨by decide, by decide⟩ (Nat.le_of_ble_eq_true rfl) rfl dX10_sum_7 (fun z7 => ?_)
    refine im_ws (cat [w_Model ct aM M LM]) rfl ?_
    refine im_if_eq (tgt := 21) X dX10_sum_10 rfl ?_ ?_
    · refine im_bipush X (-2) dX10_sum_21 (by decide) ?_
      exact im_ireturn X (-2) rfl rfl dX10_sum_23
    · refine im_aload_n X 0 dX10_sum_13 rfl rfl ?_
      refine im_iload_n X 1 dX10_sum_14 rfl rfl ?_
      refine im_cciV X [.int x1] [] [w_Model ct aM M LM] [w_Model ct aM M LM] [0] (fun z15 => [w_Model ct aM M LM]) 0 0 10 rfl rfl rfl cl_X10_121 (c_X10_sumOf l D ct F aM M LM x1) rfl (by decide) (fun _ => lc rfl (rfl)) rfl ⟨by decide, by decide⟩ (Nat.le_of_ble_eq_true rfl) rfl dX10_sum_15 (fun z15 => ?_)
      refine im_ws (cat [w_Model ct aM M LM]) rfl ?_
      refine im_goto (tgt := 23) X dX10_sum_18 rfl ?_
      exact im_ireturn X z15 rfl rfl dX10_sum_23
theorem c_X10_sum (l : Launch) (D : va_G) (ct : im_ct) (F : Nat) (aM : Nat → Nat) (M : Mem) (LM : MemL) (x1 : Int32) : CMi l D ct yX10_sum cX10_sum 4 (some .int) 3 [.ref (aM 0), .int x1] (cat [w_Model ct aM M LM]) (f_X10_sum F M LM x1) (fun z : Int32 => z) (fun z : Int32 => (cat [w_Model ct aM M LM])) :=
  im_met (Qb := fun A => QI D A (fun z : Int32 => z) (fun z : Int32 => (cat [w_Model ct aM M LM]))) (by decide +kernel) (Nat.le_of_ble_eq_true rfl) (fun p e s m args below meth c A X => i_X10_sum X F aM M LM x1)

noncomputable def f_X10_counters_28 (F : Nat) (M : Mem) (LM : MemL) (k52 : Int32 → Option (Int32)) : Nat → Int32 → Int32 → Option (Int32)
  | 0, _, _ => none
  | n + 1, x2, x3 =>
  ck 1 226 ((if ((M 1) (1 : Int32).toNatClampNeg) ≤ x3 then k52 x2 else (f_X10_countersOf F M LM x3).bind (fun z41 => f_X10_counters_28 F M LM k52 n (x2 + z41) (x3 + 1))))
set_option maxRecDepth 100000 in
set_option maxHeartbeats 4000000 in
theorem i_X10_counters_28 {p : Program} {l : Launch} {e : Env} {s : State} {m : MethodId} {args : Array Value} {below : List Frame} {meth : Method} {c : Code} {D : va_G} {ct : im_ct} {A : Nat → Prop} (X : im_X p (im_rm 3) s m args meth c D ct A RX10 cX10_counters 4 (some .int)) (F : Nat) (aM : Nat → Nat) (M : Mem) (LM : MemL) (k52 : Int32 → Option (Int32)) (hk52 : ∀ (x2 : Int32), Im p l e (im_rm 3) s m args below meth c D A 4 (QI D A (fun z : Int32 => z) (fun z : Int32 => (cat [w_Model ct aM M LM]))) 52 [(2, .int x2)] [] (cat [w_Model ct aM M LM]) (k52 x2)) : ∀ (n : Nat) (x2 : Int32) (x3 : Int32), Im p l e (im_rm 3) s m args below meth c D A 4 (QI D A (fun z : Int32 => z) (fun z : Int32 => (cat [w_Model ct aM M LM]))) 28 [(0, .ref (aM 0)), (2, .int x2), (3, .int x3)] [] (cat [w_Model ct aM M LM]) (f_X10_counters_28 F M LM k52 n x2 x3) := by
  intro n
  induction n with
  | zero => intros; exact im_none
  | succ n ih =>
    intro x2 x3
    unfold f_X10_counters_28
    refine im_iload_n X 2 dX10_counters_28 rfl rfl ?_
    refine im_aload_n X 0 dX10_counters_29 rfl rfl ?_
    refine im_cget X 0 0 (v := .ref (aM 1)) fl_X10_13 rfl rfl rfl dX10_counters_30 ?_
    refine im_iconst X 1 dX10_counters_33 (by decide) ?_
    refine im_ciald X 0 1 0 (f := (M 1)) rfl rfl rfl dX10_counters_34 ?_
    refine im_icmp_ge (tgt := 52) X dX10_counters_35 rfl ?_ ?_
    · refine im_lv [1] [(2, .int x2)] rfl ?_
      exact hk52 x2
    · refine im_iload_n X 1 dX10_counters_38 rfl rfl ?_
      refine im_aload_n X 0 dX10_counters_39 rfl rfl ?_
      refine im_iload_n X 2 dX10_counters_40 rfl rfl ?_
      refine im_cciV X [.int x3] [.int x2] [w_Model ct aM M LM] [w_Model ct aM M LM] [0] (fun z41 => [w_Model ct aM M LM]) 0 0 10 rfl rfl rfl cl_X10_199 (c_X10_countersOf l D ct F aM M LM x3) rfl (by decide) (fun _ => lc rfl (rfl)) rfl ⟨by decide, by decide⟩ (Nat.le_of_ble_eq_true rfl) rfl dX10_counters_41 (fun z41 => ?_)
      refine im_ws (cat [w_Model ct aM M LM]) rfl ?_
      refine im_iadd X dX10_counters_44 ?_
      refine im_istore_n X [1, 0, 2] [(0, .ref (aM 0)), (2, .int (x2 + z41)), (3, .int x3)] dX10_counters_45 rfl (by decide) rfl ?_
      refine im_iinc X 2 1 [1, 2, 0] [(0, .ref (aM 0)), (2, .int (x2 + z41)), (3, .int (x3 + 1))] dX10_counters_46 (by decide) rfl (by decide) rfl ?_
      refine im_goto (tgt := 28) X dX10_counters_49 rfl ?_
      exact ih (x2 + z41) (x3 + 1)
noncomputable def f_X10_counters (F : Nat) (M : Mem) (LM : MemL) (x1 : Int32) : Option (Int32) :=
  (if x1 = (-1) then f_X10_counters_28 F M LM (fun x2_52 => (some x2_52)) F 0 0 else (f_X10_isRow F M LM x1).bind (fun z7 => (if z7 = 0 then (some (-2)) else (f_X10_countersOf F M LM x1).bind (fun z15 => (some z15)))))
set_option maxRecDepth 100000 in
set_option maxHeartbeats 4000000 in
theorem i_X10_counters {p : Program} {l : Launch} {e : Env} {s : State} {m : MethodId} {args : Array Value} {below : List Frame} {meth : Method} {c : Code} {D : va_G} {ct : im_ct} {A : Nat → Prop} (X : im_X p (im_rm 3) s m args meth c D ct A RX10 cX10_counters 4 (some .int)) (F : Nat) (aM : Nat → Nat) (M : Mem) (LM : MemL) (x1 : Int32) : Im p l e (im_rm 3) s m args below meth c D A 4 (QI D A (fun z : Int32 => z) (fun z : Int32 => (cat [w_Model ct aM M LM]))) 0 [(0, .ref (aM 0)), (1, .int x1)] [] (cat [w_Model ct aM M LM]) (f_X10_counters F M LM x1) := by
  unfold f_X10_counters
  refine im_iload_n X 1 dX10_counters_0 rfl rfl ?_
  refine im_iconst X (-1) dX10_counters_1 (by decide) ?_
  refine im_icmp_eq (tgt := 24) X dX10_counters_2 rfl ?_ ?_
  · refine im_iconst X 0 dX10_counters_24 (by decide) ?_
    refine im_istore_n X [1, 2, 0] [(0, .ref (aM 0)), (1, .int x1), (2, .int 0)] dX10_counters_25 rfl (by decide) rfl ?_
    refine im_iconst X 0 dX10_counters_26 (by decide) ?_
    refine im_istore_n X [1, 2, 3, 0] [(0, .ref (aM 0)), (1, .int x1), (2, .int 0), (3, .int 0)] dX10_counters_27 rfl (by decide) rfl ?_
    refine im_lv [0, 2, 3] [(0, .ref (aM 0)), (2, .int 0), (3, .int 0)] rfl ?_
    refine i_X10_counters_28 X F aM M LM  _ (fun x2_52 => ?_) F 0 0
    refine im_iload_n X 0 dX10_counters_52 rfl rfl ?_
    exact im_ireturn X x2_52 rfl rfl dX10_counters_53
  · refine im_aload_n X 0 dX10_counters_5 rfl rfl ?_
    refine im_iload_n X 1 dX10_counters_6 rfl rfl ?_
    refine im_cciV X [.int x1] [] [w_Model ct aM M LM] [w_Model ct aM M LM] [0] (fun z7 => [w_Model ct aM M LM]) 0 0 10 rfl rfl rfl cl_X10_90 (c_X10_isRow l D ct F aM M LM x1) rfl (by decide) (fun _ => lc rfl (rfl)) rfl ⟨by decide, by decide⟩ (Nat.le_of_ble_eq_true rfl) rfl dX10_counters_7 (fun z7 => ?_)
    refine im_ws (cat [w_Model ct aM M LM]) rfl ?_
    refine im_if_eq (tgt := 21) X dX10_counters_10 rfl ?_ ?_
    · refine im_bipush X (-2) dX10_counters_21 (by decide) ?_
      exact im_ireturn X (-2) rfl rfl dX10_counters_23
    · refine im_aload_n X 0 dX10_counters_13 rfl rfl ?_
      refine im_iload_n X 1 dX10_counters_14 rfl rfl ?_
      refine im_cciV X [.int x1] [] [w_Model ct aM M LM] [w_Model ct aM M LM] [0] (fun z15 => [w_Model ct aM M LM]) 0 0 10 rfl rfl rfl cl_X10_199 (c_X10_countersOf l D ct F aM M LM x1) rfl (by decide) (fun _ => lc rfl (rfl)) rfl ⟨by decide, by decide⟩ (Nat.le_of_ble_eq_true rfl) rfl dX10_counters_15 (fun z15 => ?_)
      refine im_ws (cat [w_Model ct aM M LM]) rfl ?_
      refine im_goto (tgt := 23) X dX10_counters_18 rfl ?_
      exact im_ireturn X z15 rfl rfl dX10_counters_23
theorem c_X10_counters (l : Launch) (D : va_G) (ct : im_ct) (F : Nat) (aM : Nat → Nat) (M : Mem) (LM : MemL) (x1 : Int32) : CMi l D ct yX10_counters cX10_counters 4 (some .int) 3 [.ref (aM 0), .int x1] (cat [w_Model ct aM M LM]) (f_X10_counters F M LM x1) (fun z : Int32 => z) (fun z : Int32 => (cat [w_Model ct aM M LM])) :=
  im_met (Qb := fun A => QI D A (fun z : Int32 => z) (fun z : Int32 => (cat [w_Model ct aM M LM]))) (by decide +kernel) (Nat.le_of_ble_eq_true rfl) (fun p e s m args below meth c A X => i_X10_counters X F aM M LM x1)

noncomputable def f_X10_worth_27 (F : Nat) (M : Mem) (LM : MemL) (x1 : Int32) (x2 : Int32) (k54 : Int32 → Option (Int32)) : Nat → Int32 → Int32 → Option (Int32)
  | 0, _, _ => none
  | n + 1, x3, x4 =>
  ck 1 226 ((if ((M 1) (1 : Int32).toNatClampNeg) ≤ x4 then k54 x3 else (f_X10_now F M LM x4 x1).bind (fun z43 => f_X10_worth_27 F M LM x1 x2 k54 n (x3 + z43) (x4 + 1))))
set_option maxRecDepth 100000 in
set_option maxHeartbeats 4000000 in
theorem i_X10_worth_27 {p : Program} {l : Launch} {e : Env} {s : State} {m : MethodId} {args : Array Value} {below : List Frame} {meth : Method} {c : Code} {D : va_G} {ct : im_ct} {A : Nat → Prop} (X : im_X p (im_rm 2) s m args meth c D ct A RX10 cX10_worth 5 (some .int)) (F : Nat) (aM : Nat → Nat) (M : Mem) (LM : MemL) (x1 : Int32) (x2 : Int32) (k54 : Int32 → Option (Int32)) (hk54 : ∀ (x3 : Int32), Im p l e (im_rm 2) s m args below meth c D A 5 (QI D A (fun z : Int32 => z) (fun z : Int32 => (cat [w_Model ct aM M LM]))) 54 [(0, .ref (aM 0)), (1, .int x1), (2, .int x2), (3, .int x3)] [] (cat [w_Model ct aM M LM]) (k54 x3)) : ∀ (n : Nat) (x3 : Int32) (x4 : Int32), Im p l e (im_rm 2) s m args below meth c D A 5 (QI D A (fun z : Int32 => z) (fun z : Int32 => (cat [w_Model ct aM M LM]))) 27 [(0, .ref (aM 0)), (1, .int x1), (2, .int x2), (3, .int x3), (4, .int x4)] [] (cat [w_Model ct aM M LM]) (f_X10_worth_27 F M LM x1 x2 k54 n x3 x4) := by
  intro n
  induction n with
  | zero => intros; exact im_none
  | succ n ih =>
    intro x3 x4
    unfold f_X10_worth_27
    refine im_iload X 4 dX10_worth_27 rfl ?_
    refine im_aload_n X 0 dX10_worth_29 rfl rfl ?_
    refine im_cget X 0 0 (v := .ref (aM 1)) fl_X10_13 rfl rfl rfl dX10_worth_30 ?_
    refine im_iconst X 1 dX10_worth_33 (by decide) ?_
    refine im_ciald X 0 1 0 (f := (M 1)) rfl rfl rfl dX10_worth_34 ?_
    refine im_icmp_ge (tgt := 54) X dX10_worth_35 rfl ?_ ?_
    · refine im_lv [0, 1, 2, 3] [(0, .ref (aM 0)), (1, .int x1), (2, .int x2), (3, .int x3)] rfl ?_
      exact hk54 x3
    · refine im_iload_n X 3 dX10_worth_38 rfl rfl ?_
      refine im_aload_n X 0 dX10_worth_39 rfl rfl ?_
      refine im_iload X 4 dX10_worth_40 rfl ?_
      refine im_iload_n X 1 dX10_worth_42 rfl rfl ?_
      refine im_cciV X [.int x4, .int x1] [.int x3] [w_Model ct aM M LM] [w_Model ct aM M LM] [0] (fun z43 => [w_Model ct aM M LM]) 0 0 10 rfl rfl rfl cl_X10_105 (c_X10_now l D ct F aM M LM x4 x1) rfl (by decide) (fun _ => lc rfl (rfl)) rfl ⟨by decide, by decide⟩ (Nat.le_of_ble_eq_true rfl) rfl dX10_worth_43 (fun z43 => ?_)
      refine im_ws (cat [w_Model ct aM M LM]) rfl ?_
      refine im_iadd X dX10_worth_46 ?_
      refine im_istore_n X [1, 2, 3, 0, 4] [(0, .ref (aM 0)), (1, .int x1), (2, .int x2), (3, .int (x3 + z43)), (4, .int x4)] dX10_worth_47 rfl (by decide) rfl ?_
      refine im_iinc X 4 1 [1, 2, 3, 4, 0] [(0, .ref (aM 0)), (1, .int x1), (2, .int x2), (3, .int (x3 + z43)), (4, .int (x4 + 1))] dX10_worth_48 (by decide) rfl (by decide) rfl ?_
      refine im_goto (tgt := 27) X dX10_worth_51 rfl ?_
      exact ih (x3 + z43) (x4 + 1)
noncomputable def f_X10_worth (F : Nat) (M : Mem) (LM : MemL) (x1 : Int32) (x2 : Int32) : Option (Int32) :=
  (f_X10_isColumn F M LM x1).bind (fun z2 => (if z2 = 0 then (some (-1)) else (f_X10_in F (x2).toInt64 0 2).bind (fun z14 => (if z14 = 0 then (some (-1)) else f_X10_worth_27 F M LM x1 x2 (fun x3_54 => (if x2 = 0 then (f_X10_ratio F M LM x1).bind (fun z60 => (some z60)) else (if x2 = 1 then (f_X10_worthOf F M LM x1).bind (fun z73 => (some z73)) else (some x3_54)))) F 0 0))))
set_option maxRecDepth 100000 in
set_option maxHeartbeats 4000000 in
theorem i_X10_worth {p : Program} {l : Launch} {e : Env} {s : State} {m : MethodId} {args : Array Value} {below : List Frame} {meth : Method} {c : Code} {D : va_G} {ct : im_ct} {A : Nat → Prop} (X : im_X p (im_rm 2) s m args meth c D ct A RX10 cX10_worth 5 (some .int)) (F : Nat) (aM : Nat → Nat) (M : Mem) (LM : MemL) (x1 : Int32) (x2 : Int32) : Im p l e (im_rm 2) s m args below meth c D A 5 (QI D A (fun z : Int32 => z) (fun z : Int32 => (cat [w_Model ct aM M LM]))) 0 [(0, .ref (aM 0)), (1, .int x1), (2, .int x2)] [] (cat [w_Model ct aM M LM]) (f_X10_worth F M LM x1 x2) := by
  unfold f_X10_worth
  refine im_aload_n X 0 dX10_worth_0 rfl rfl ?_
  refine im_iload_n X 1 dX10_worth_1 rfl rfl ?_
  refine im_cciV X [.int x1] [] [w_Model ct aM M LM] [w_Model ct aM M LM] [0] (fun z2 => [w_Model ct aM M LM]) 0 0 10 rfl rfl rfl cl_X10_94 (c_X10_isColumn l D ct F aM M LM x1) rfl (by decide) (fun _ => lc rfl (rfl)) rfl ⟨by decide, by decide⟩ (Nat.le_of_ble_eq_true rfl) rfl dX10_worth_2 (fun z2 => ?_)
  refine im_ws (cat [w_Model ct aM M LM]) rfl ?_
  refine im_if_eq (tgt := 20) X dX10_worth_5 rfl ?_ ?_
  · refine im_iconst X (-1) dX10_worth_20 (by decide) ?_
    exact im_ireturn X (-1) rfl rfl dX10_worth_21
  · refine im_iload_n X 2 dX10_worth_8 rfl rfl ?_
    refine im_i2l X dX10_worth_9 ?_
    refine im_lconst X 0 dX10_worth_10 (by decide) ?_
    refine im_ldc2 X kc_X10_111 dX10_worth_11 ?_
    refine im_cciS X [.long (x2).toInt64, .long 0, .long 2] [] [w_Model ct aM M LM] [] [] (fun z14 => []) cl_X10_86 (c_X10_in l D ct F (x2).toInt64 0 2) rfl (by decide) (fun _ => rfl) rfl ⟨by decide, by decide⟩ (Nat.le_of_ble_eq_true rfl) rfl dX10_worth_14 (fun z14 => ?_)
    refine im_ws (cat [w_Model ct aM M LM]) rfl ?_
    refine im_if_ne (tgt := 22) X dX10_worth_17 rfl ?_ ?_
    · refine im_iconst X 0 dX10_worth_22 (by decide) ?_
      refine im_istore_n X [1, 2, 3, 0] [(0, .ref (aM 0)), (1, .int x1), (2, .int x2), (3, .int 0)] dX10_worth_23 rfl (by decide) rfl ?_
      refine im_iconst X 0 dX10_worth_24 (by decide) ?_
      refine im_istore X [1, 2, 3, 4, 0] [(0, .ref (aM 0)), (1, .int x1), (2, .int x2), (3, .int 0), (4, .int 0)] dX10_worth_25 (by decide) rfl ?_
      refine i_X10_worth_27 X F aM M LM x1 x2 _ (fun x3_54 => ?_) F 0 0
      refine im_iload_n X 2 dX10_worth_54 rfl rfl ?_
      refine im_if_ne (tgt := 66) X dX10_worth_55 rfl ?_ ?_
      · refine im_iload_n X 2 dX10_worth_66 rfl rfl ?_
        refine im_iconst X 1 dX10_worth_67 (by decide) ?_
        refine im_icmp_ne (tgt := 79) X dX10_worth_68 rfl ?_ ?_
        · refine im_iload_n X 3 dX10_worth_79 rfl rfl ?_
          exact im_ireturn X x3_54 rfl rfl dX10_worth_80
        · refine im_aload_n X 0 dX10_worth_71 rfl rfl ?_
          refine im_iload_n X 1 dX10_worth_72 rfl rfl ?_
          refine im_cciV X [.int x1] [] [w_Model ct aM M LM] [w_Model ct aM M LM] [0] (fun z73 => [w_Model ct aM M LM]) 0 0 10 rfl rfl rfl cl_X10_108 (c_X10_worthOf l D ct F aM M LM x1) rfl (by decide) (fun _ => lc rfl (rfl)) rfl ⟨by decide, by decide⟩ (Nat.le_of_ble_eq_true rfl) rfl dX10_worth_73 (fun z73 => ?_)
          refine im_ws (cat [w_Model ct aM M LM]) rfl ?_
          refine im_goto (tgt := 80) X dX10_worth_76 rfl ?_
          exact im_ireturn X z73 rfl rfl dX10_worth_80
      · refine im_aload_n X 0 dX10_worth_58 rfl rfl ?_
        refine im_iload_n X 1 dX10_worth_59 rfl rfl ?_
        refine im_cciV X [.int x1] [] [w_Model ct aM M LM] [w_Model ct aM M LM] [0] (fun z60 => [w_Model ct aM M LM]) 0 0 10 rfl rfl rfl cl_X10_97 (c_X10_ratio l D ct F aM M LM x1) rfl (by decide) (fun _ => lc rfl (rfl)) rfl ⟨by decide, by decide⟩ (Nat.le_of_ble_eq_true rfl) rfl dX10_worth_60 (fun z60 => ?_)
        refine im_ws (cat [w_Model ct aM M LM]) rfl ?_
        refine im_goto (tgt := 80) X dX10_worth_63 rfl ?_
        exact im_ireturn X z60 rfl rfl dX10_worth_80
    · refine im_iconst X (-1) dX10_worth_20 (by decide) ?_
      exact im_ireturn X (-1) rfl rfl dX10_worth_21
theorem c_X10_worth (l : Launch) (D : va_G) (ct : im_ct) (F : Nat) (aM : Nat → Nat) (M : Mem) (LM : MemL) (x1 : Int32) (x2 : Int32) : CMi l D ct yX10_worth cX10_worth 5 (some .int) 2 [.ref (aM 0), .int x1, .int x2] (cat [w_Model ct aM M LM]) (f_X10_worth F M LM x1 x2) (fun z : Int32 => z) (fun z : Int32 => (cat [w_Model ct aM M LM])) :=
  im_met (Qb := fun A => QI D A (fun z : Int32 => z) (fun z : Int32 => (cat [w_Model ct aM M LM]))) (by decide +kernel) (Nat.le_of_ble_eq_true rfl) (fun p e s m args below meth c A X => i_X10_worth X F aM M LM x1 x2)

noncomputable def f_X10_plainOf_51 (F : Nat) (M : Mem) (LM : MemL) (k78 : Int32 → Option (Int32 × Mem)) : Nat → Int32 → Int32 → Option (Int32 × Mem)
  | 0, _, _ => none
  | n + 1, x3, x4 =>
  ck 0 226 ((if ((M 1) (0 : Int32).toNatClampNeg) ≤ x4 then k78 x3 else ck x4 6 (f_X10_plainOf_51 F M LM k78 n (x3 + ((M 5) x4.toNatClampNeg)) (x4 + 1))))
set_option maxRecDepth 100000 in
set_option maxHeartbeats 4000000 in
theorem i_X10_plainOf_51 {p : Program} {l : Launch} {e : Env} {s : State} {m : MethodId} {args : Array Value} {below : List Frame} {meth : Method} {c : Code} {D : va_G} {ct : im_ct} {A : Nat → Prop} (X : im_X p (im_rm 3) s m args meth c D ct A RX10 cX10_plainOf 5 (some .int)) (F : Nat) (aM : Nat → Nat) (M : Mem) (LM : MemL) (k78 : Int32 → Option (Int32 × Mem)) (hk78 : ∀ (x3 : Int32), Im p l e (im_rm 3) s m args below meth c D A 5 (QI D A (fun z : Int32 × Mem => z.1) (fun z : Int32 × Mem => (cat [w_Model ct aM z.2 LM]))) 78 [(3, .int x3)] [] (cat [w_Model ct aM M LM]) (k78 x3)) : ∀ (n : Nat) (x3 : Int32) (x4 : Int32), Im p l e (im_rm 3) s m args below meth c D A 5 (QI D A (fun z : Int32 × Mem => z.1) (fun z : Int32 × Mem => (cat [w_Model ct aM z.2 LM]))) 51 [(0, .ref (aM 0)), (3, .int x3), (4, .int x4)] [] (cat [w_Model ct aM M LM]) (f_X10_plainOf_51 F M LM k78 n x3 x4) := by
  intro n
  induction n with
  | zero => intros; exact im_none
  | succ n ih =>
    intro x3 x4
    unfold f_X10_plainOf_51
    refine im_iload X 2 dX10_plainOf_51 rfl ?_
    refine im_aload_n X 0 dX10_plainOf_53 rfl rfl ?_
    refine im_cget X 0 0 (v := .ref (aM 1)) fl_X10_13 rfl rfl rfl dX10_plainOf_54 ?_
    refine im_iconst X 0 dX10_plainOf_57 (by decide) ?_
    refine im_ciald X 0 1 0 (f := (M 1)) rfl rfl rfl dX10_plainOf_58 ?_
    refine im_icmp_ge (tgt := 78) X dX10_plainOf_59 rfl ?_ ?_
    · refine im_lv [1] [(3, .int x3)] rfl ?_
      exact hk78 x3
    · refine im_iload_n X 1 dX10_plainOf_62 rfl rfl ?_
      refine im_aload_n X 0 dX10_plainOf_63 rfl rfl ?_
      refine im_cget X 0 0 (v := .ref (aM 5)) fl_X10_26 rfl rfl rfl dX10_plainOf_64 ?_
      refine im_iload X 2 dX10_plainOf_67 rfl ?_
      refine im_ciald X 0 5 0 (f := (M 5)) rfl rfl rfl dX10_plainOf_69 ?_
      refine im_iadd X dX10_plainOf_70 ?_
      refine im_istore_n X [1, 0, 2] [(0, .ref (aM 0)), (3, .int (x3 + ((M 5) x4.toNatClampNeg))), (4, .int x4)] dX10_plainOf_71 rfl (by decide) rfl ?_
      refine im_iinc X 2 1 [1, 2, 0] [(0, .ref (aM 0)), (3, .int (x3 + ((M 5) x4.toNatClampNeg))), (4, .int (x4 + 1))] dX10_plainOf_72 (by decide) rfl (by decide) rfl ?_
      refine im_goto (tgt := 51) X dX10_plainOf_75 rfl ?_
      exact ih (x3 + ((M 5) x4.toNatClampNeg)) (x4 + 1)
noncomputable def f_X10_plainOf_29 (F : Nat) (M : Mem) (LM : MemL) (x1 : Int32) (x2 : Int32) : Option (Int32 × Mem) :=
  (f_X10_laysPlain F M LM x1).bind (fun z31 => (if x2 = (-1) then f_X10_plainOf_51 F z31 LM (fun x3_78 => (some (x3_78, z31))) F 0 0 else ck x2 6 ((some (((z31 5) x2.toNatClampNeg), z31)))))
set_option maxRecDepth 100000 in
set_option maxHeartbeats 4000000 in
theorem i_X10_plainOf_29 {p : Program} {l : Launch} {e : Env} {s : State} {m : MethodId} {args : Array Value} {below : List Frame} {meth : Method} {c : Code} {D : va_G} {ct : im_ct} {A : Nat → Prop} (X : im_X p (im_rm 3) s m args meth c D ct A RX10 cX10_plainOf 5 (some .int)) (F : Nat) (aM : Nat → Nat) (M : Mem) (LM : MemL) (x1 : Int32) (x2 : Int32) : Im p l e (im_rm 3) s m args below meth c D A 5 (QI D A (fun z : Int32 × Mem => z.1) (fun z : Int32 × Mem => (cat [w_Model ct aM z.2 LM]))) 29 [(0, .ref (aM 0)), (1, .int x1), (2, .int x2)] [] (cat [w_Model ct aM M LM]) (f_X10_plainOf_29 F M LM x1 x2) := by
  unfold f_X10_plainOf_29
  refine im_aload_n X 0 dX10_plainOf_29 rfl rfl ?_
  refine im_iload_n X 1 dX10_plainOf_30 rfl rfl ?_
  refine im_ccvV X [.int x1] [] [w_Model ct aM M LM] [w_Model ct aM M LM] [0] (fun z31 => [w_Model ct aM z31 LM]) 0 0 10 rfl rfl rfl cl_X10_190 (c_X10_laysPlain l D ct F aM M LM x1) rfl (by decide) (fun _ => lc fa_Model (rfl)) rfl ⟨by decide, by decide⟩ (Nat.le_of_ble_eq_true rfl) rfl dX10_plainOf_31 (fun z31 => ?_)
  refine im_ws (cat [w_Model ct aM z31 LM]) rfl ?_
  refine im_iload_n X 2 dX10_plainOf_34 rfl rfl ?_
  refine im_iconst X (-1) dX10_plainOf_35 (by decide) ?_
  refine im_icmp_eq (tgt := 46) X dX10_plainOf_36 rfl ?_ ?_
  · refine im_iconst X 0 dX10_plainOf_46 (by decide) ?_
    refine im_istore_n X [1, 2, 3, 0] [(0, .ref (aM 0)), (1, .int x1), (2, .int x2), (3, .int 0)] dX10_plainOf_47 rfl (by decide) rfl ?_
    refine im_iconst X 0 dX10_plainOf_48 (by decide) ?_
    refine im_istore X [1, 2, 3, 4, 0] [(0, .ref (aM 0)), (1, .int x1), (2, .int x2), (3, .int 0), (4, .int 0)] dX10_plainOf_49 (by decide) rfl ?_
    refine im_lv [0, 3, 4] [(0, .ref (aM 0)), (3, .int 0), (4, .int 0)] rfl ?_
    refine i_X10_plainOf_51 X F aM z31 LM  _ (fun x3_78 => ?_) F 0 0
    refine im_iload_n X 0 dX10_plainOf_78 rfl rfl ?_
    exact im_ireturn X (x3_78, z31) rfl rfl dX10_plainOf_79
  · refine im_aload_n X 0 dX10_plainOf_39 rfl rfl ?_
    refine im_cget X 0 0 (v := .ref (aM 5)) fl_X10_26 rfl rfl rfl dX10_plainOf_40 ?_
    refine im_iload_n X 2 dX10_plainOf_43 rfl rfl ?_
    refine im_ciald X 0 5 0 (f := (z31 5)) rfl rfl rfl dX10_plainOf_44 ?_
    exact im_ireturn X (((z31 5) x2.toNatClampNeg), z31) rfl rfl dX10_plainOf_45
noncomputable def f_X10_plainOf (F : Nat) (M : Mem) (LM : MemL) (x1 : Int32) (x2 : Int32) : Option (Int32 × Mem) :=
  (if x1 < 0 then (some ((-2), M)) else ck 0 226 ((if ((M 1) (0 : Int32).toNatClampNeg) = 0 then (some ((-2), M)) else (if x2 = (-1) then f_X10_plainOf_29 F M LM x1 x2 else (f_X10_isColumn F M LM x2).bind (fun z20 => (if z20 = 0 then (some ((-2), M)) else f_X10_plainOf_29 F M LM x1 x2))))))
set_option maxRecDepth 100000 in
set_option maxHeartbeats 4000000 in
theorem i_X10_plainOf {p : Program} {l : Launch} {e : Env} {s : State} {m : MethodId} {args : Array Value} {below : List Frame} {meth : Method} {c : Code} {D : va_G} {ct : im_ct} {A : Nat → Prop} (X : im_X p (im_rm 3) s m args meth c D ct A RX10 cX10_plainOf 5 (some .int)) (F : Nat) (aM : Nat → Nat) (M : Mem) (LM : MemL) (x1 : Int32) (x2 : Int32) : Im p l e (im_rm 3) s m args below meth c D A 5 (QI D A (fun z : Int32 × Mem => z.1) (fun z : Int32 × Mem => (cat [w_Model ct aM z.2 LM]))) 0 [(0, .ref (aM 0)), (1, .int x1), (2, .int x2)] [] (cat [w_Model ct aM M LM]) (f_X10_plainOf F M LM x1 x2) := by
  unfold f_X10_plainOf
  refine im_iload_n X 1 dX10_plainOf_0 rfl rfl ?_
  refine im_if_lt (tgt := 26) X dX10_plainOf_1 rfl ?_ ?_
  · refine im_bipush X (-2) dX10_plainOf_26 (by decide) ?_
    exact im_ireturn X ((-2), M) rfl rfl dX10_plainOf_28
  · refine im_aload_n X 0 dX10_plainOf_4 rfl rfl ?_
    refine im_cget X 0 0 (v := .ref (aM 1)) fl_X10_13 rfl rfl rfl dX10_plainOf_5 ?_
    refine im_iconst X 0 dX10_plainOf_8 (by decide) ?_
    refine im_ciald X 0 1 0 (f := (M 1)) rfl rfl rfl dX10_plainOf_9 ?_
    refine im_if_eq (tgt := 26) X dX10_plainOf_10 rfl ?_ ?_
    · refine im_bipush X (-2) dX10_plainOf_26 (by decide) ?_
      exact im_ireturn X ((-2), M) rfl rfl dX10_plainOf_28
    · refine im_iload_n X 2 dX10_plainOf_13 rfl rfl ?_
      refine im_iconst X (-1) dX10_plainOf_14 (by decide) ?_
      refine im_icmp_eq (tgt := 29) X dX10_plainOf_15 rfl ?_ ?_
      · exact i_X10_plainOf_29 X F aM M LM x1 x2 
      · refine im_aload_n X 0 dX10_plainOf_18 rfl rfl ?_
        refine im_iload_n X 2 dX10_plainOf_19 rfl rfl ?_
        refine im_cciV X [.int x2] [] [w_Model ct aM M LM] [w_Model ct aM M LM] [0] (fun z20 => [w_Model ct aM M LM]) 0 0 10 rfl rfl rfl cl_X10_94 (c_X10_isColumn l D ct F aM M LM x2) rfl (by decide) (fun _ => lc rfl (rfl)) rfl ⟨by decide, by decide⟩ (Nat.le_of_ble_eq_true rfl) rfl dX10_plainOf_20 (fun z20 => ?_)
        refine im_ws (cat [w_Model ct aM M LM]) rfl ?_
        refine im_if_ne (tgt := 29) X dX10_plainOf_23 rfl ?_ ?_
        · exact i_X10_plainOf_29 X F aM M LM x1 x2 
        · refine im_bipush X (-2) dX10_plainOf_26 (by decide) ?_
          exact im_ireturn X ((-2), M) rfl rfl dX10_plainOf_28
theorem c_X10_plainOf (l : Launch) (D : va_G) (ct : im_ct) (F : Nat) (aM : Nat → Nat) (M : Mem) (LM : MemL) (x1 : Int32) (x2 : Int32) : CMi l D ct yX10_plainOf cX10_plainOf 5 (some .int) 3 [.ref (aM 0), .int x1, .int x2] (cat [w_Model ct aM M LM]) (f_X10_plainOf F M LM x1 x2) (fun z : Int32 × Mem => z.1) (fun z : Int32 × Mem => (cat [w_Model ct aM z.2 LM])) :=
  im_met (Qb := fun A => QI D A (fun z : Int32 × Mem => z.1) (fun z : Int32 × Mem => (cat [w_Model ct aM z.2 LM]))) (by decide +kernel) (Nat.le_of_ble_eq_true rfl) (fun p e s m args below meth c A X => i_X10_plainOf X F aM M LM x1 x2)

noncomputable def f_X10_carries_17 (F : Nat) (M : Mem) (LM : MemL) (x1 : Int32) (k59 : Int32 → Option (Int32)) : Nat → Int32 → Int32 → Int32 → Option (Int32)
  | 0, _, _, _ => none
  | n + 1, x2, x3, x4 =>
  ck 0 226 ((if ((M 1) (0 : Int32).toNatClampNeg) ≤ (x4 + 1) then k59 x2 else (f_X10_now F M LM x1 x4).bind (fun z34 => (f_X10_ratio F M LM (x4 + 1)).bind (fun z44 => dv z44 (f_X10_carries_17 F M LM x1 k59 n (x2 + ((z34 + x3) / z44)) ((z34 + x3) / z44) (x4 + 1))))))
set_option maxRecDepth 100000 in
set_option maxHeartbeats 4000000 in
theorem i_X10_carries_17 {p : Program} {l : Launch} {e : Env} {s : State} {m : MethodId} {args : Array Value} {below : List Frame} {meth : Method} {c : Code} {D : va_G} {ct : im_ct} {A : Nat → Prop} (X : im_X p (im_rm 2) s m args meth c D ct A RX10 cX10_carries 5 (some .int)) (F : Nat) (aM : Nat → Nat) (M : Mem) (LM : MemL) (x1 : Int32) (k59 : Int32 → Option (Int32)) (hk59 : ∀ (x2 : Int32), Im p l e (im_rm 2) s m args below meth c D A 5 (QI D A (fun z : Int32 => z) (fun z : Int32 => (cat [w_Model ct aM M LM]))) 59 [(2, .int x2)] [] (cat [w_Model ct aM M LM]) (k59 x2)) : ∀ (n : Nat) (x2 : Int32) (x3 : Int32) (x4 : Int32), Im p l e (im_rm 2) s m args below meth c D A 5 (QI D A (fun z : Int32 => z) (fun z : Int32 => (cat [w_Model ct aM M LM]))) 17 [(0, .ref (aM 0)), (1, .int x1), (2, .int x2), (3, .int x3), (4, .int x4)] [] (cat [w_Model ct aM M LM]) (f_X10_carries_17 F M LM x1 k59 n x2 x3 x4) := by
  intro n
  induction n with
  | zero => intros; exact im_none
  | succ n ih =>
    intro x2 x3 x4
    unfold f_X10_carries_17
    refine im_iload X 4 dX10_carries_17 rfl ?_
    refine im_iconst X 1 dX10_carries_19 (by decide) ?_
    refine im_iadd X dX10_carries_20 ?_
    refine im_aload_n X 0 dX10_carries_21 rfl rfl ?_
    refine im_cget X 0 0 (v := .ref (aM 1)) fl_X10_13 rfl rfl rfl dX10_carries_22 ?_
    refine im_iconst X 0 dX10_carries_25 (by decide) ?_
    refine im_ciald X 0 1 0 (f := (M 1)) rfl rfl rfl dX10_carries_26 ?_
    refine im_icmp_ge (tgt := 59) X dX10_carries_27 rfl ?_ ?_
    · refine im_lv [2] [(2, .int x2)] rfl ?_
      exact hk59 x2
    · refine im_aload_n X 0 dX10_carries_30 rfl rfl ?_
      refine im_iload_n X 1 dX10_carries_31 rfl rfl ?_
      refine im_iload X 4 dX10_carries_32 rfl ?_
      refine im_cciV X [.int x1, .int x4] [] [w_Model ct aM M LM] [w_Model ct aM M LM] [0] (fun z34 => [w_Model ct aM M LM]) 0 0 10 rfl rfl rfl cl_X10_105 (c_X10_now l D ct F aM M LM x1 x4) rfl (by decide) (fun _ => lc rfl (rfl)) rfl ⟨by decide, by decide⟩ (Nat.le_of_ble_eq_true rfl) rfl dX10_carries_34 (fun z34 => ?_)
      refine im_ws (cat [w_Model ct aM M LM]) rfl ?_
      refine im_iload_n X 3 dX10_carries_37 rfl rfl ?_
      refine im_iadd X dX10_carries_38 ?_
      refine im_aload_n X 0 dX10_carries_39 rfl rfl ?_
      refine im_iload X 4 dX10_carries_40 rfl ?_
      refine im_iconst X 1 dX10_carries_42 (by decide) ?_
      refine im_iadd X dX10_carries_43 ?_
      refine im_cciV X [.int (x4 + 1)] [.int (z34 + x3)] [w_Model ct aM M LM] [w_Model ct aM M LM] [0] (fun z44 => [w_Model ct aM M LM]) 0 0 10 rfl rfl rfl cl_X10_97 (c_X10_ratio l D ct F aM M LM (x4 + 1)) rfl (by decide) (fun _ => lc rfl (rfl)) rfl ⟨by decide, by decide⟩ (Nat.le_of_ble_eq_true rfl) rfl dX10_carries_44 (fun z44 => ?_)
      refine im_ws (cat [w_Model ct aM M LM]) rfl ?_
      refine im_idiv X dX10_carries_47 ?_
      refine im_istore_n X [1, 2, 3, 0, 4] [(0, .ref (aM 0)), (1, .int x1), (2, .int x2), (3, .int ((z34 + x3) / z44)), (4, .int x4)] dX10_carries_48 rfl (by decide) rfl ?_
      refine im_iload_n X 2 dX10_carries_49 rfl rfl ?_
      refine im_iload_n X 3 dX10_carries_50 rfl rfl ?_
      refine im_iadd X dX10_carries_51 ?_
      refine im_istore_n X [1, 2, 0, 3, 4] [(0, .ref (aM 0)), (1, .int x1), (2, .int (x2 + ((z34 + x3) / z44))), (3, .int ((z34 + x3) / z44)), (4, .int x4)] dX10_carries_52 rfl (by decide) rfl ?_
      refine im_iinc X 4 1 [1, 2, 3, 4, 0] [(0, .ref (aM 0)), (1, .int x1), (2, .int (x2 + ((z34 + x3) / z44))), (3, .int ((z34 + x3) / z44)), (4, .int (x4 + 1))] dX10_carries_53 (by decide) rfl (by decide) rfl ?_
      refine im_goto (tgt := 17) X dX10_carries_56 rfl ?_
      exact ih (x2 + ((z34 + x3) / z44)) ((z34 + x3) / z44) (x4 + 1)
noncomputable def f_X10_carries (F : Nat) (M : Mem) (LM : MemL) (x1 : Int32) : Option (Int32) :=
  (f_X10_isRow F M LM x1).bind (fun z2 => (if z2 = 0 then (some (-1)) else f_X10_carries_17 F M LM x1 (fun x2_59 => (some x2_59)) F 0 0 0))
set_option maxRecDepth 100000 in
set_option maxHeartbeats 4000000 in
theorem i_X10_carries {p : Program} {l : Launch} {e : Env} {s : State} {m : MethodId} {args : Array Value} {below : List Frame} {meth : Method} {c : Code} {D : va_G} {ct : im_ct} {A : Nat → Prop} (X : im_X p (im_rm 2) s m args meth c D ct A RX10 cX10_carries 5 (some .int)) (F : Nat) (aM : Nat → Nat) (M : Mem) (LM : MemL) (x1 : Int32) : Im p l e (im_rm 2) s m args below meth c D A 5 (QI D A (fun z : Int32 => z) (fun z : Int32 => (cat [w_Model ct aM M LM]))) 0 [(0, .ref (aM 0)), (1, .int x1)] [] (cat [w_Model ct aM M LM]) (f_X10_carries F M LM x1) := by
  unfold f_X10_carries
  refine im_aload_n X 0 dX10_carries_0 rfl rfl ?_
  refine im_iload_n X 1 dX10_carries_1 rfl rfl ?_
  refine im_cciV X [.int x1] [] [w_Model ct aM M LM] [w_Model ct aM M LM] [0] (fun z2 => [w_Model ct aM M LM]) 0 0 10 rfl rfl rfl cl_X10_90 (c_X10_isRow l D ct F aM M LM x1) rfl (by decide) (fun _ => lc rfl (rfl)) rfl ⟨by decide, by decide⟩ (Nat.le_of_ble_eq_true rfl) rfl dX10_carries_2 (fun z2 => ?_)
  refine im_ws (cat [w_Model ct aM M LM]) rfl ?_
  refine im_if_ne (tgt := 10) X dX10_carries_5 rfl ?_ ?_
  · refine im_iconst X 0 dX10_carries_10 (by decide) ?_
    refine im_istore_n X [1, 2, 0] [(0, .ref (aM 0)), (1, .int x1), (2, .int 0)] dX10_carries_11 rfl (by decide) rfl ?_
    refine im_iconst X 0 dX10_carries_12 (by decide) ?_
    refine im_istore_n X [1, 2, 3, 0] [(0, .ref (aM 0)), (1, .int x1), (2, .int 0), (3, .int 0)] dX10_carries_13 rfl (by decide) rfl ?_
    refine im_iconst X 0 dX10_carries_14 (by decide) ?_
    refine im_istore X [1, 2, 3, 4, 0] [(0, .ref (aM 0)), (1, .int x1), (2, .int 0), (3, .int 0), (4, .int 0)] dX10_carries_15 (by decide) rfl ?_
    refine i_X10_carries_17 X F aM M LM x1 _ (fun x2_59 => ?_) F 0 0 0
    refine im_iload_n X 0 dX10_carries_59 rfl rfl ?_
    exact im_ireturn X x2_59 rfl rfl dX10_carries_60
  · refine im_iconst X (-1) dX10_carries_8 (by decide) ?_
    exact im_ireturn X (-1) rfl rfl dX10_carries_9
theorem c_X10_carries (l : Launch) (D : va_G) (ct : im_ct) (F : Nat) (aM : Nat → Nat) (M : Mem) (LM : MemL) (x1 : Int32) : CMi l D ct yX10_carries cX10_carries 5 (some .int) 2 [.ref (aM 0), .int x1] (cat [w_Model ct aM M LM]) (f_X10_carries F M LM x1) (fun z : Int32 => z) (fun z : Int32 => (cat [w_Model ct aM M LM])) :=
  im_met (Qb := fun A => QI D A (fun z : Int32 => z) (fun z : Int32 => (cat [w_Model ct aM M LM]))) (by decide +kernel) (Nat.le_of_ble_eq_true rfl) (fun p e s m args below meth c A X => i_X10_carries X F aM M LM x1)

noncomputable def f_X10_compare (F : Nat) (M : Mem) (LM : MemL) (x1 : Int32) (x2 : Int32) : Option (Int32) :=
  (f_X10_isRow F M LM x1).bind (fun z2 => (if z2 = 0 then (some (-2)) else (f_X10_isRow F M LM x2).bind (fun z10 => (if z10 = 0 then (some (-2)) else (f_X10_sumOf F M LM x1).bind (fun z21 => (f_X10_sumOf F M LM x2).bind (fun z27 => (if z21 ≤ z27 then (if z21 = z27 then (some 0) else (some (-1))) else (some 1))))))))
set_option maxRecDepth 100000 in
set_option maxHeartbeats 4000000 in
theorem i_X10_compare {p : Program} {l : Launch} {e : Env} {s : State} {m : MethodId} {args : Array Value} {below : List Frame} {meth : Method} {c : Code} {D : va_G} {ct : im_ct} {A : Nat → Prop} (X : im_X p (im_rm 3) s m args meth c D ct A RX10 cX10_compare 5 (some .int)) (F : Nat) (aM : Nat → Nat) (M : Mem) (LM : MemL) (x1 : Int32) (x2 : Int32) : Im p l e (im_rm 3) s m args below meth c D A 5 (QI D A (fun z : Int32 => z) (fun z : Int32 => (cat [w_Model ct aM M LM]))) 0 [(0, .ref (aM 0)), (1, .int x1), (2, .int x2)] [] (cat [w_Model ct aM M LM]) (f_X10_compare F M LM x1 x2) := by
  unfold f_X10_compare
  refine im_aload_n X 0 dX10_compare_0 rfl rfl ?_
  refine im_iload_n X 1 dX10_compare_1 rfl rfl ?_
  refine im_cciV X [.int x1] [] [w_Model ct aM M LM] [w_Model ct aM M LM] [0] (fun z2 => [w_Model ct aM M LM]) 0 0 10 rfl rfl rfl cl_X10_90 (c_X10_isRow l D ct F aM M LM x1) rfl (by decide) (fun _ => lc rfl (rfl)) rfl ⟨by decide, by decide⟩ (Nat.le_of_ble_eq_true rfl) rfl dX10_compare_2 (fun z2 => ?_)
  refine im_ws (cat [w_Model ct aM M LM]) rfl ?_
  refine im_if_eq (tgt := 16) X dX10_compare_5 rfl ?_ ?_
  · refine im_bipush X (-2) dX10_compare_16 (by decide) ?_
    exact im_ireturn X (-2) rfl rfl dX10_compare_18
  · refine im_aload_n X 0 dX10_compare_8 rfl rfl ?_
    refine im_iload_n X 2 dX10_compare_9 rfl rfl ?_
    refine im_cciV X [.int x2] [] [w_Model ct aM M LM] [w_Model ct aM M LM] [0] (fun z10 => [w_Model ct aM M LM]) 0 0 10 rfl rfl rfl cl_X10_90 (c_X10_isRow l D ct F aM M LM x2) rfl (by decide) (fun _ => lc rfl (rfl)) rfl ⟨by decide, by decide⟩ (Nat.le_of_ble_eq_true rfl) rfl dX10_compare_10 (fun z10 => ?_)
    refine im_ws (cat [w_Model ct aM M LM]) rfl ?_
    refine im_if_ne (tgt := 19) X dX10_compare_13 rfl ?_ ?_
    · refine im_aload_n X 0 dX10_compare_19 rfl rfl ?_
      refine im_iload_n X 1 dX10_compare_20 rfl rfl ?_
      refine im_cciV X [.int x1] [] [w_Model ct aM M LM] [w_Model ct aM M LM] [0] (fun z21 => [w_Model ct aM M LM]) 0 0 10 rfl rfl rfl cl_X10_121 (c_X10_sumOf l D ct F aM M LM x1) rfl (by decide) (fun _ => lc rfl (rfl)) rfl ⟨by decide, by decide⟩ (Nat.le_of_ble_eq_true rfl) rfl dX10_compare_21 (fun z21 => ?_)
      refine im_ws (cat [w_Model ct aM M LM]) rfl ?_
      refine im_istore_n X [1, 2, 3, 0] [(0, .ref (aM 0)), (1, .int x1), (2, .int x2), (3, .int z21)] dX10_compare_24 rfl (by decide) rfl ?_
      refine im_aload_n X 0 dX10_compare_25 rfl rfl ?_
      refine im_iload_n X 2 dX10_compare_26 rfl rfl ?_
      refine im_cciV X [.int x2] [] [w_Model ct aM M LM] [w_Model ct aM M LM] [0] (fun z27 => [w_Model ct aM M LM]) 0 0 10 rfl rfl rfl cl_X10_121 (c_X10_sumOf l D ct F aM M LM x2) rfl (by decide) (fun _ => lc rfl (rfl)) rfl ⟨by decide, by decide⟩ (Nat.le_of_ble_eq_true rfl) rfl dX10_compare_27 (fun z27 => ?_)
      refine im_ws (cat [w_Model ct aM M LM]) rfl ?_
      refine im_istore X [1, 2, 3, 4, 0] [(0, .ref (aM 0)), (1, .int x1), (2, .int x2), (3, .int z21), (4, .int z27)] dX10_compare_30 (by decide) rfl ?_
      refine im_iload_n X 3 dX10_compare_32 rfl rfl ?_
      refine im_iload X 4 dX10_compare_33 rfl ?_
      refine im_icmp_le (tgt := 42) X dX10_compare_35 rfl ?_ ?_
      · refine im_iload_n X 3 dX10_compare_42 rfl rfl ?_
        refine im_iload X 4 dX10_compare_43 rfl ?_
        refine im_icmp_ne (tgt := 52) X dX10_compare_45 rfl ?_ ?_
        · refine im_iconst X (-1) dX10_compare_52 (by decide) ?_
          exact im_ireturn X (-1) rfl rfl dX10_compare_53
        · refine im_iconst X 0 dX10_compare_48 (by decide) ?_
          refine im_goto (tgt := 53) X dX10_compare_49 rfl ?_
          exact im_ireturn X 0 rfl rfl dX10_compare_53
      · refine im_iconst X 1 dX10_compare_38 (by decide) ?_
        refine im_goto (tgt := 53) X dX10_compare_39 rfl ?_
        exact im_ireturn X 1 rfl rfl dX10_compare_53
    · refine im_bipush X (-2) dX10_compare_16 (by decide) ?_
      exact im_ireturn X (-2) rfl rfl dX10_compare_18
theorem c_X10_compare (l : Launch) (D : va_G) (ct : im_ct) (F : Nat) (aM : Nat → Nat) (M : Mem) (LM : MemL) (x1 : Int32) (x2 : Int32) : CMi l D ct yX10_compare cX10_compare 5 (some .int) 3 [.ref (aM 0), .int x1, .int x2] (cat [w_Model ct aM M LM]) (f_X10_compare F M LM x1 x2) (fun z : Int32 => z) (fun z : Int32 => (cat [w_Model ct aM M LM])) :=
  im_met (Qb := fun A => QI D A (fun z : Int32 => z) (fun z : Int32 => (cat [w_Model ct aM M LM]))) (by decide +kernel) (Nat.le_of_ble_eq_true rfl) (fun p e s m args below meth c A X => i_X10_compare X F aM M LM x1 x2)

noncomputable def f_X10_apart_42 (F : Nat) (M : Mem) (LM : MemL) (x1 : Int32) (x2 : Int32) (k106 : Int32 → Option (Int32)) : Nat → Int32 → Int32 → Int32 → Option (Int32)
  | 0, _, _, _ => none
  | n + 1, x3, x4, x5 =>
  ck 0 226 ((if ((M 1) (0 : Int32).toNatClampNeg) ≤ (x5 + 1) then k106 x3 else (f_X10_now F M LM x1 x5).bind (fun z59 => (f_X10_now F M LM x2 x5).bind (fun z69 => (f_X10_ratio F M LM (x5 + 1)).bind (fun z78 => dv z78 ((if 0 ≤ (((z59 + x4) - z69) / z78) then f_X10_apart_42 F M LM x1 x2 k106 n (x3 + (((z59 + x4) - z69) / z78)) (((z59 + x4) - z69) / z78) (x5 + 1) else f_X10_apart_42 F M LM x1 x2 k106 n (x3 + (-(((z59 + x4) - z69) / z78))) (((z59 + x4) - z69) / z78) (x5 + 1))))))))
set_option maxRecDepth 100000 in
set_option maxHeartbeats 4000000 in
theorem i_X10_apart_42 {p : Program} {l : Launch} {e : Env} {s : State} {m : MethodId} {args : Array Value} {below : List Frame} {meth : Method} {c : Code} {D : va_G} {ct : im_ct} {A : Nat → Prop} (X : im_X p (im_rm 3) s m args meth c D ct A RX10 cX10_apart 6 (some .int)) (F : Nat) (aM : Nat → Nat) (M : Mem) (LM : MemL) (x1 : Int32) (x2 : Int32) (k106 : Int32 → Option (Int32)) (hk106 : ∀ (x3 : Int32), Im p l e (im_rm 3) s m args below meth c D A 6 (QI D A (fun z : Int32 => z) (fun z : Int32 => (cat [w_Model ct aM M LM]))) 106 [(3, .int x3)] [] (cat [w_Model ct aM M LM]) (k106 x3)) : ∀ (n : Nat) (x3 : Int32) (x4 : Int32) (x5 : Int32), Im p l e (im_rm 3) s m args below meth c D A 6 (QI D A (fun z : Int32 => z) (fun z : Int32 => (cat [w_Model ct aM M LM]))) 42 [(0, .ref (aM 0)), (1, .int x1), (2, .int x2), (3, .int x3), (4, .int x4), (5, .int x5)] [] (cat [w_Model ct aM M LM]) (f_X10_apart_42 F M LM x1 x2 k106 n x3 x4 x5) := by
  intro n
  induction n with
  | zero => intros; exact im_none
  | succ n ih =>
    intro x3 x4 x5
    unfold f_X10_apart_42
    refine im_iload X 5 dX10_apart_42 rfl ?_
    refine im_iconst X 1 dX10_apart_44 (by decide) ?_
    refine im_iadd X dX10_apart_45 ?_
    refine im_aload_n X 0 dX10_apart_46 rfl rfl ?_
    refine im_cget X 0 0 (v := .ref (aM 1)) fl_X10_13 rfl rfl rfl dX10_apart_47 ?_
    refine im_iconst X 0 dX10_apart_50 (by decide) ?_
    refine im_ciald X 0 1 0 (f := (M 1)) rfl rfl rfl dX10_apart_51 ?_
    refine im_icmp_ge (tgt := 106) X dX10_apart_52 rfl ?_ ?_
    · refine im_lv [3] [(3, .int x3)] rfl ?_
      exact hk106 x3
    · refine im_aload_n X 0 dX10_apart_55 rfl rfl ?_
      refine im_iload_n X 1 dX10_apart_56 rfl rfl ?_
      refine im_iload X 5 dX10_apart_57 rfl ?_
      refine im_cciV X [.int x1, .int x5] [] [w_Model ct aM M LM] [w_Model ct aM M LM] [0] (fun z59 => [w_Model ct aM M LM]) 0 0 10 rfl rfl rfl cl_X10_105 (c_X10_now l D ct F aM M LM x1 x5) rfl (by decide) (fun _ => lc rfl (rfl)) rfl ⟨by decide, by decide⟩ (Nat.le_of_ble_eq_true rfl) rfl dX10_apart_59 (fun z59 => ?_)
      refine im_ws (cat [w_Model ct aM M LM]) rfl ?_
      refine im_iload X 4 dX10_apart_62 rfl ?_
      refine im_iadd X dX10_apart_64 ?_
      refine im_aload_n X 0 dX10_apart_65 rfl rfl ?_
      refine im_iload_n X 2 dX10_apart_66 rfl rfl ?_
      refine im_iload X 5 dX10_apart_67 rfl ?_
      refine im_cciV X [.int x2, .int x5] [.int (z59 + x4)] [w_Model ct aM M LM] [w_Model ct aM M LM] [0] (fun z69 => [w_Model ct aM M LM]) 0 0 10 rfl rfl rfl cl_X10_105 (c_X10_now l D ct F aM M LM x2 x5) rfl (by decide) (fun _ => lc rfl (rfl)) rfl ⟨by decide, by decide⟩ (Nat.le_of_ble_eq_true rfl) rfl dX10_apart_69 (fun z69 => ?_)
      refine im_ws (cat [w_Model ct aM M LM]) rfl ?_
      refine im_isub X dX10_apart_72 ?_
      refine im_aload_n X 0 dX10_apart_73 rfl rfl ?_
      refine im_iload X 5 dX10_apart_74 rfl ?_
      refine im_iconst X 1 dX10_apart_76 (by decide) ?_
      refine im_iadd X dX10_apart_77 ?_
      refine im_cciV X [.int (x5 + 1)] [.int ((z59 + x4) - z69)] [w_Model ct aM M LM] [w_Model ct aM M LM] [0] (fun z78 => [w_Model ct aM M LM]) 0 0 10 rfl rfl rfl cl_X10_97 (c_X10_ratio l D ct F aM M LM (x5 + 1)) rfl (by decide) (fun _ => lc rfl (rfl)) rfl ⟨by decide, by decide⟩ (Nat.le_of_ble_eq_true rfl) rfl dX10_apart_78 (fun z78 => ?_)
      refine im_ws (cat [w_Model ct aM M LM]) rfl ?_
      refine im_idiv X dX10_apart_81 ?_
      refine im_istore X [1, 2, 3, 4, 0, 5] [(0, .ref (aM 0)), (1, .int x1), (2, .int x2), (3, .int x3), (4, .int (((z59 + x4) - z69) / z78)), (5, .int x5)] dX10_apart_82 (by decide) rfl ?_
      refine im_iload_n X 3 dX10_apart_84 rfl rfl ?_
      refine im_iload X 4 dX10_apart_85 rfl ?_
      refine im_if_ge (tgt := 96) X dX10_apart_87 rfl ?_ ?_
      · refine im_iload X 4 dX10_apart_96 rfl ?_
        refine im_iadd X dX10_apart_98 ?_
        refine im_istore_n X [1, 2, 3, 0, 4, 5] [(0, .ref (aM 0)), (1, .int x1), (2, .int x2), (3, .int (x3 + (((z59 + x4) - z69) / z78))), (4, .int (((z59 + x4) - z69) / z78)), (5, .int x5)] dX10_apart_99 rfl (by decide) rfl ?_
        refine im_iinc X 5 1 [1, 2, 3, 4, 5, 0] [(0, .ref (aM 0)), (1, .int x1), (2, .int x2), (3, .int (x3 + (((z59 + x4) - z69) / z78))), (4, .int (((z59 + x4) - z69) / z78)), (5, .int (x5 + 1))] dX10_apart_100 (by decide) rfl (by decide) rfl ?_
        refine im_goto (tgt := 42) X dX10_apart_103 rfl ?_
        exact ih (x3 + (((z59 + x4) - z69) / z78)) (((z59 + x4) - z69) / z78) (x5 + 1)
      · refine im_iload X 4 dX10_apart_90 rfl ?_
        refine im_ineg X dX10_apart_92 ?_
        refine im_goto (tgt := 98) X dX10_apart_93 rfl ?_
        refine im_iadd X dX10_apart_98 ?_
        refine im_istore_n X [1, 2, 3, 0, 4, 5] [(0, .ref (aM 0)), (1, .int x1), (2, .int x2), (3, .int (x3 + (-(((z59 + x4) - z69) / z78)))), (4, .int (((z59 + x4) - z69) / z78)), (5, .int x5)] dX10_apart_99 rfl (by decide) rfl ?_
        refine im_iinc X 5 1 [1, 2, 3, 4, 5, 0] [(0, .ref (aM 0)), (1, .int x1), (2, .int x2), (3, .int (x3 + (-(((z59 + x4) - z69) / z78)))), (4, .int (((z59 + x4) - z69) / z78)), (5, .int (x5 + 1))] dX10_apart_100 (by decide) rfl (by decide) rfl ?_
        refine im_goto (tgt := 42) X dX10_apart_103 rfl ?_
        exact ih (x3 + (-(((z59 + x4) - z69) / z78))) (((z59 + x4) - z69) / z78) (x5 + 1)
noncomputable def f_X10_apart (F : Nat) (M : Mem) (LM : MemL) (x1 : Int32) (x2 : Int32) : Option (Int32) :=
  (f_X10_isRow F M LM x1).bind (fun z2 => (if z2 = 0 then (some (-1)) else (f_X10_isRow F M LM x2).bind (fun z10 => (if z10 = 0 then (some (-1)) else (f_X10_sumOf F M LM x1).bind (fun z20 => (f_X10_sumOf F M LM x2).bind (fun z25 => (if z20 = z25 then f_X10_apart_42 F M LM x1 x2 (fun x3_106 => (some x3_106)) F 0 0 0 else (some (-2)))))))))
set_option maxRecDepth 100000 in
set_option maxHeartbeats 4000000 in
theorem i_X10_apart {p : Program} {l : Launch} {e : Env} {s : State} {m : MethodId} {args : Array Value} {below : List Frame} {meth : Method} {c : Code} {D : va_G} {ct : im_ct} {A : Nat → Prop} (X : im_X p (im_rm 3) s m args meth c D ct A RX10 cX10_apart 6 (some .int)) (F : Nat) (aM : Nat → Nat) (M : Mem) (LM : MemL) (x1 : Int32) (x2 : Int32) : Im p l e (im_rm 3) s m args below meth c D A 6 (QI D A (fun z : Int32 => z) (fun z : Int32 => (cat [w_Model ct aM M LM]))) 0 [(0, .ref (aM 0)), (1, .int x1), (2, .int x2)] [] (cat [w_Model ct aM M LM]) (f_X10_apart F M LM x1 x2) := by
  unfold f_X10_apart
  refine im_aload_n X 0 dX10_apart_0 rfl rfl ?_
  refine im_iload_n X 1 dX10_apart_1 rfl rfl ?_
  refine im_cciV X [.int x1] [] [w_Model ct aM M LM] [w_Model ct aM M LM] [0] (fun z2 => [w_Model ct aM M LM]) 0 0 10 rfl rfl rfl cl_X10_90 (c_X10_isRow l D ct F aM M LM x1) rfl (by decide) (fun _ => lc rfl (rfl)) rfl ⟨by decide, by decide⟩ (Nat.le_of_ble_eq_true rfl) rfl dX10_apart_2 (fun z2 => ?_)
  refine im_ws (cat [w_Model ct aM M LM]) rfl ?_
  refine im_if_eq (tgt := 16) X dX10_apart_5 rfl ?_ ?_
  · refine im_iconst X (-1) dX10_apart_16 (by decide) ?_
    exact im_ireturn X (-1) rfl rfl dX10_apart_17
  · refine im_aload_n X 0 dX10_apart_8 rfl rfl ?_
    refine im_iload_n X 2 dX10_apart_9 rfl rfl ?_
    refine im_cciV X [.int x2] [] [w_Model ct aM M LM] [w_Model ct aM M LM] [0] (fun z10 => [w_Model ct aM M LM]) 0 0 10 rfl rfl rfl cl_X10_90 (c_X10_isRow l D ct F aM M LM x2) rfl (by decide) (fun _ => lc rfl (rfl)) rfl ⟨by decide, by decide⟩ (Nat.le_of_ble_eq_true rfl) rfl dX10_apart_10 (fun z10 => ?_)
    refine im_ws (cat [w_Model ct aM M LM]) rfl ?_
    refine im_if_ne (tgt := 18) X dX10_apart_13 rfl ?_ ?_
    · refine im_aload_n X 0 dX10_apart_18 rfl rfl ?_
      refine im_iload_n X 1 dX10_apart_19 rfl rfl ?_
      refine im_cciV X [.int x1] [] [w_Model ct aM M LM] [w_Model ct aM M LM] [0] (fun z20 => [w_Model ct aM M LM]) 0 0 10 rfl rfl rfl cl_X10_121 (c_X10_sumOf l D ct F aM M LM x1) rfl (by decide) (fun _ => lc rfl (rfl)) rfl ⟨by decide, by decide⟩ (Nat.le_of_ble_eq_true rfl) rfl dX10_apart_20 (fun z20 => ?_)
      refine im_ws (cat [w_Model ct aM M LM]) rfl ?_
      refine im_aload_n X 0 dX10_apart_23 rfl rfl ?_
      refine im_iload_n X 2 dX10_apart_24 rfl rfl ?_
      refine im_cciV X [.int x2] [.int z20] [w_Model ct aM M LM] [w_Model ct aM M LM] [0] (fun z25 => [w_Model ct aM M LM]) 0 0 10 rfl rfl rfl cl_X10_121 (c_X10_sumOf l D ct F aM M LM x2) rfl (by decide) (fun _ => lc rfl (rfl)) rfl ⟨by decide, by decide⟩ (Nat.le_of_ble_eq_true rfl) rfl dX10_apart_25 (fun z25 => ?_)
      refine im_ws (cat [w_Model ct aM M LM]) rfl ?_
      refine im_icmp_eq (tgt := 34) X dX10_apart_28 rfl ?_ ?_
      · refine im_iconst X 0 dX10_apart_34 (by decide) ?_
        refine im_istore_n X [1, 2, 3, 0] [(0, .ref (aM 0)), (1, .int x1), (2, .int x2), (3, .int 0)] dX10_apart_35 rfl (by decide) rfl ?_
        refine im_iconst X 0 dX10_apart_36 (by decide) ?_
        refine im_istore X [1, 2, 3, 4, 0] [(0, .ref (aM 0)), (1, .int x1), (2, .int x2), (3, .int 0), (4, .int 0)] dX10_apart_37 (by decide) rfl ?_
        refine im_iconst X 0 dX10_apart_39 (by decide) ?_
        refine im_istore X [1, 2, 3, 4, 5, 0] [(0, .ref (aM 0)), (1, .int x1), (2, .int x2), (3, .int 0), (4, .int 0), (5, .int 0)] dX10_apart_40 (by decide) rfl ?_
        refine i_X10_apart_42 X F aM M LM x1 x2 _ (fun x3_106 => ?_) F 0 0 0
        refine im_iload_n X 0 dX10_apart_106 rfl rfl ?_
        exact im_ireturn X x3_106 rfl rfl dX10_apart_107
      · refine im_bipush X (-2) dX10_apart_31 (by decide) ?_
        exact im_ireturn X (-2) rfl rfl dX10_apart_33
    · refine im_iconst X (-1) dX10_apart_16 (by decide) ?_
      exact im_ireturn X (-1) rfl rfl dX10_apart_17
theorem c_X10_apart (l : Launch) (D : va_G) (ct : im_ct) (F : Nat) (aM : Nat → Nat) (M : Mem) (LM : MemL) (x1 : Int32) (x2 : Int32) : CMi l D ct yX10_apart cX10_apart 6 (some .int) 3 [.ref (aM 0), .int x1, .int x2] (cat [w_Model ct aM M LM]) (f_X10_apart F M LM x1 x2) (fun z : Int32 => z) (fun z : Int32 => (cat [w_Model ct aM M LM])) :=
  im_met (Qb := fun A => QI D A (fun z : Int32 => z) (fun z : Int32 => (cat [w_Model ct aM M LM]))) (by decide +kernel) (Nat.le_of_ble_eq_true rfl) (fun p e s m args below meth c A X => i_X10_apart X F aM M LM x1 x2)

noncomputable def f_X10_fullest_19 (F : Nat) (M : Mem) (LM : MemL) (x3 : Int32) (k66 : Int32 → Int32 → Option (Int32)) : Nat → Int32 → Int32 → Int32 → Option (Int32)
  | 0, _, _, _ => none
  | n + 1, x1, x2, x4 =>
  ck 0 226 ((if ((M 1) (0 : Int32).toNatClampNeg) ≤ x4 then k66 x1 x2 else (f_X10_now F M LM x3 x4).bind (fun z34 => (if x2 < z34 then (f_X10_now F M LM x3 x4).bind (fun z48 => f_X10_fullest_19 F M LM x3 k66 n ((10 * x3) + x4) z48 (x4 + 1)) else f_X10_fullest_19 F M LM x3 k66 n x1 x2 (x4 + 1)))))
set_option maxRecDepth 100000 in
set_option maxHeartbeats 4000000 in
theorem i_X10_fullest_19 {p : Program} {l : Launch} {e : Env} {s : State} {m : MethodId} {args : Array Value} {below : List Frame} {meth : Method} {c : Code} {D : va_G} {ct : im_ct} {A : Nat → Prop} (X : im_X p (im_rm 2) s m args meth c D ct A RX10 cX10_fullest 5 (some .int)) (F : Nat) (aM : Nat → Nat) (M : Mem) (LM : MemL) (x3 : Int32) (k66 : Int32 → Int32 → Option (Int32)) (hk66 : ∀ (x1 : Int32) (x2 : Int32), Im p l e (im_rm 2) s m args below meth c D A 5 (QI D A (fun z : Int32 => z) (fun z : Int32 => (cat [w_Model ct aM M LM]))) 66 [(0, .ref (aM 0)), (1, .int x1), (2, .int x2), (3, .int x3)] [] (cat [w_Model ct aM M LM]) (k66 x1 x2)) : ∀ (n : Nat) (x1 : Int32) (x2 : Int32) (x4 : Int32), Im p l e (im_rm 2) s m args below meth c D A 5 (QI D A (fun z : Int32 => z) (fun z : Int32 => (cat [w_Model ct aM M LM]))) 19 [(0, .ref (aM 0)), (1, .int x1), (2, .int x2), (3, .int x3), (4, .int x4)] [] (cat [w_Model ct aM M LM]) (f_X10_fullest_19 F M LM x3 k66 n x1 x2 x4) := by
  intro n
  induction n with
  | zero => intros; exact im_none
  | succ n ih =>
    intro x1 x2 x4
    unfold f_X10_fullest_19
    refine im_iload X 4 dX10_fullest_19 rfl ?_
    refine im_aload_n X 0 dX10_fullest_21 rfl rfl ?_
    refine im_cget X 0 0 (v := .ref (aM 1)) fl_X10_13 rfl rfl rfl dX10_fullest_22 ?_
    refine im_iconst X 0 dX10_fullest_25 (by decide) ?_
    refine im_ciald X 0 1 0 (f := (M 1)) rfl rfl rfl dX10_fullest_26 ?_
    refine im_icmp_ge (tgt := 66) X dX10_fullest_27 rfl ?_ ?_
    · refine im_lv [0, 1, 2, 3] [(0, .ref (aM 0)), (1, .int x1), (2, .int x2), (3, .int x3)] rfl ?_
      exact hk66 x1 x2
    · refine im_aload_n X 0 dX10_fullest_30 rfl rfl ?_
      refine im_iload_n X 3 dX10_fullest_31 rfl rfl ?_
      refine im_iload X 4 dX10_fullest_32 rfl ?_
      refine im_cciV X [.int x3, .int x4] [] [w_Model ct aM M LM] [w_Model ct aM M LM] [0] (fun z34 => [w_Model ct aM M LM]) 0 0 10 rfl rfl rfl cl_X10_105 (c_X10_now l D ct F aM M LM x3 x4) rfl (by decide) (fun _ => lc rfl (rfl)) rfl ⟨by decide, by decide⟩ (Nat.le_of_ble_eq_true rfl) rfl dX10_fullest_34 (fun z34 => ?_)
      refine im_ws (cat [w_Model ct aM M LM]) rfl ?_
      refine im_iload_n X 2 dX10_fullest_37 rfl rfl ?_
      refine im_icmp_gt (tgt := 44) X dX10_fullest_38 rfl ?_ ?_
      · refine im_aload_n X 0 dX10_fullest_44 rfl rfl ?_
        refine im_iload_n X 3 dX10_fullest_45 rfl rfl ?_
        refine im_iload X 4 dX10_fullest_46 rfl ?_
        refine im_cciV X [.int x3, .int x4] [] [w_Model ct aM M LM] [w_Model ct aM M LM] [0] (fun z48 => [w_Model ct aM M LM]) 0 0 10 rfl rfl rfl cl_X10_105 (c_X10_now l D ct F aM M LM x3 x4) rfl (by decide) (fun _ => lc rfl (rfl)) rfl ⟨by decide, by decide⟩ (Nat.le_of_ble_eq_true rfl) rfl dX10_fullest_48 (fun z48 => ?_)
        refine im_ws (cat [w_Model ct aM M LM]) rfl ?_
        refine im_istore_n X [1, 2, 0, 3, 4] [(0, .ref (aM 0)), (1, .int x1), (2, .int z48), (3, .int x3), (4, .int x4)] dX10_fullest_51 rfl (by decide) rfl ?_
        refine im_bipush X 10 dX10_fullest_52 (by decide) ?_
        refine im_iload_n X 3 dX10_fullest_54 rfl rfl ?_
        refine im_imul X dX10_fullest_55 ?_
        refine im_iload X 4 dX10_fullest_56 rfl ?_
        refine im_iadd X dX10_fullest_58 ?_
        refine im_istore_n X [1, 0, 2, 3, 4] [(0, .ref (aM 0)), (1, .int ((10 * x3) + x4)), (2, .int z48), (3, .int x3), (4, .int x4)] dX10_fullest_59 rfl (by decide) rfl ?_
        refine im_iinc X 4 1 [1, 2, 3, 4, 0] [(0, .ref (aM 0)), (1, .int ((10 * x3) + x4)), (2, .int z48), (3, .int x3), (4, .int (x4 + 1))] dX10_fullest_60 (by decide) rfl (by decide) rfl ?_
        refine im_goto (tgt := 19) X dX10_fullest_63 rfl ?_
        exact ih ((10 * x3) + x4) z48 (x4 + 1)
      · refine im_goto (tgt := 60) X dX10_fullest_41 rfl ?_
        refine im_iinc X 4 1 [1, 2, 3, 4, 0] [(0, .ref (aM 0)), (1, .int x1), (2, .int x2), (3, .int x3), (4, .int (x4 + 1))] dX10_fullest_60 (by decide) rfl (by decide) rfl ?_
        refine im_goto (tgt := 19) X dX10_fullest_63 rfl ?_
        exact ih x1 x2 (x4 + 1)
noncomputable def f_X10_fullest_6 (F : Nat) (M : Mem) (LM : MemL) (k72 : Int32 → Option (Int32)) : Nat → Int32 → Int32 → Int32 → Option (Int32)
  | 0, _, _, _ => none
  | n + 1, x1, x2, x3 =>
  ck 1 226 ((if ((M 1) (1 : Int32).toNatClampNeg) ≤ x3 then k72 x1 else f_X10_fullest_19 F M LM x3 (fun x1_66 x2_66 => f_X10_fullest_6 F M LM k72 n x1_66 x2_66 (x3 + 1)) F x1 x2 0))
set_option maxRecDepth 100000 in
set_option maxHeartbeats 4000000 in
theorem i_X10_fullest_6 {p : Program} {l : Launch} {e : Env} {s : State} {m : MethodId} {args : Array Value} {below : List Frame} {meth : Method} {c : Code} {D : va_G} {ct : im_ct} {A : Nat → Prop} (X : im_X p (im_rm 2) s m args meth c D ct A RX10 cX10_fullest 5 (some .int)) (F : Nat) (aM : Nat → Nat) (M : Mem) (LM : MemL) (k72 : Int32 → Option (Int32)) (hk72 : ∀ (x1 : Int32), Im p l e (im_rm 2) s m args below meth c D A 5 (QI D A (fun z : Int32 => z) (fun z : Int32 => (cat [w_Model ct aM M LM]))) 72 [(1, .int x1)] [] (cat [w_Model ct aM M LM]) (k72 x1)) : ∀ (n : Nat) (x1 : Int32) (x2 : Int32) (x3 : Int32), Im p l e (im_rm 2) s m args below meth c D A 5 (QI D A (fun z : Int32 => z) (fun z : Int32 => (cat [w_Model ct aM M LM]))) 6 [(0, .ref (aM 0)), (1, .int x1), (2, .int x2), (3, .int x3)] [] (cat [w_Model ct aM M LM]) (f_X10_fullest_6 F M LM k72 n x1 x2 x3) := by
  intro n
  induction n with
  | zero => intros; exact im_none
  | succ n ih =>
    intro x1 x2 x3
    unfold f_X10_fullest_6
    refine im_iload_n X 3 dX10_fullest_6 rfl rfl ?_
    refine im_aload_n X 0 dX10_fullest_7 rfl rfl ?_
    refine im_cget X 0 0 (v := .ref (aM 1)) fl_X10_13 rfl rfl rfl dX10_fullest_8 ?_
    refine im_iconst X 1 dX10_fullest_11 (by decide) ?_
    refine im_ciald X 0 1 0 (f := (M 1)) rfl rfl rfl dX10_fullest_12 ?_
    refine im_icmp_ge (tgt := 72) X dX10_fullest_13 rfl ?_ ?_
    · refine im_lv [1] [(1, .int x1)] rfl ?_
      exact hk72 x1
    · refine im_iconst X 0 dX10_fullest_16 (by decide) ?_
      refine im_istore X [1, 2, 3, 4, 0] [(0, .ref (aM 0)), (1, .int x1), (2, .int x2), (3, .int x3), (4, .int 0)] dX10_fullest_17 (by decide) rfl ?_
      refine i_X10_fullest_19 X F aM M LM x3 _ (fun x1_66 x2_66 => ?_) F x1 x2 0
      refine im_iinc X 3 1 [1, 2, 3, 0] [(0, .ref (aM 0)), (1, .int x1_66), (2, .int x2_66), (3, .int (x3 + 1))] dX10_fullest_66 (by decide) rfl (by decide) rfl ?_
      refine im_goto (tgt := 6) X dX10_fullest_69 rfl ?_
      exact ih x1_66 x2_66 (x3 + 1)
noncomputable def f_X10_fullest (F : Nat) (M : Mem) (LM : MemL) : Option (Int32) :=
  f_X10_fullest_6 F M LM (fun x1_72 => (some x1_72)) F (-1) (-1) 0
set_option maxRecDepth 100000 in
set_option maxHeartbeats 4000000 in
theorem i_X10_fullest {p : Program} {l : Launch} {e : Env} {s : State} {m : MethodId} {args : Array Value} {below : List Frame} {meth : Method} {c : Code} {D : va_G} {ct : im_ct} {A : Nat → Prop} (X : im_X p (im_rm 2) s m args meth c D ct A RX10 cX10_fullest 5 (some .int)) (F : Nat) (aM : Nat → Nat) (M : Mem) (LM : MemL) : Im p l e (im_rm 2) s m args below meth c D A 5 (QI D A (fun z : Int32 => z) (fun z : Int32 => (cat [w_Model ct aM M LM]))) 0 [(0, .ref (aM 0))] [] (cat [w_Model ct aM M LM]) (f_X10_fullest F M LM) := by
  unfold f_X10_fullest
  refine im_iconst X (-1) dX10_fullest_0 (by decide) ?_
  refine im_istore_n X [1, 0] [(0, .ref (aM 0)), (1, .int (-1))] dX10_fullest_1 rfl (by decide) rfl ?_
  refine im_iconst X (-1) dX10_fullest_2 (by decide) ?_
  refine im_istore_n X [1, 2, 0] [(0, .ref (aM 0)), (1, .int (-1)), (2, .int (-1))] dX10_fullest_3 rfl (by decide) rfl ?_
  refine im_iconst X 0 dX10_fullest_4 (by decide) ?_
  refine im_istore_n X [1, 2, 3, 0] [(0, .ref (aM 0)), (1, .int (-1)), (2, .int (-1)), (3, .int 0)] dX10_fullest_5 rfl (by decide) rfl ?_
  refine i_X10_fullest_6 X F aM M LM  _ (fun x1_72 => ?_) F (-1) (-1) 0
  refine im_iload_n X 0 dX10_fullest_72 rfl rfl ?_
  exact im_ireturn X x1_72 rfl rfl dX10_fullest_73
theorem c_X10_fullest (l : Launch) (D : va_G) (ct : im_ct) (F : Nat) (aM : Nat → Nat) (M : Mem) (LM : MemL) : CMi l D ct yX10_fullest cX10_fullest 5 (some .int) 2 [.ref (aM 0)] (cat [w_Model ct aM M LM]) (f_X10_fullest F M LM) (fun z : Int32 => z) (fun z : Int32 => (cat [w_Model ct aM M LM])) :=
  im_met (Qb := fun A => QI D A (fun z : Int32 => z) (fun z : Int32 => (cat [w_Model ct aM M LM]))) (by decide +kernel) (Nat.le_of_ble_eq_true rfl) (fun p e s m args below meth c A X => i_X10_fullest X F aM M LM)

noncomputable def f_X10_ways_18 (F : Nat) (M : Mem) (x1 : Int32) (x2 : Int32) (k38 : MemL → Option (Int64 × MemL)) : Nat → MemL → Int32 → Option (Int64 × MemL)
  | 0, _, _ => none
  | n + 1, LM, x3 =>
  (if 420 ≤ x3 then k38 LM else ck x3 420 (f_X10_ways_18 F M x1 x2 k38 n (mr LM 7 (vp_updL (LM 7) x3.toNatClampNeg 0)) (x3 + 1)))
set_option maxRecDepth 100000 in
set_option maxHeartbeats 4000000 in
theorem i_X10_ways_18 {p : Program} {l : Launch} {e : Env} {s : State} {m : MethodId} {args : Array Value} {below : List Frame} {meth : Method} {c : Code} {D : va_G} {ct : im_ct} {A : Nat → Prop} (X : im_X p (im_rm 2) s m args meth c D ct A RX10 cX10_ways 14 (some .long)) (F : Nat) (aM : Nat → Nat) (M : Mem) (x1 : Int32) (x2 : Int32) (k38 : MemL → Option (Int64 × MemL)) (hk38 : ∀ (LM : MemL), Im p l e (im_rm 2) s m args below meth c D A 14 (QL D A (fun z : Int64 × MemL => z.1) (fun z : Int64 × MemL => (cat [w_Model ct aM M z.2]))) 38 [(0, .ref (aM 0)), (1, .int x1), (2, .int x2)] [] (cat [w_Model ct aM M LM]) (k38 LM)) : ∀ (n : Nat) (LM : MemL) (x3 : Int32), Im p l e (im_rm 2) s m args below meth c D A 14 (QL D A (fun z : Int64 × MemL => z.1) (fun z : Int64 × MemL => (cat [w_Model ct aM M z.2]))) 18 [(0, .ref (aM 0)), (1, .int x1), (2, .int x2), (3, .int x3)] [] (cat [w_Model ct aM M LM]) (f_X10_ways_18 F M x1 x2 k38 n LM x3) := by
  intro n
  induction n with
  | zero => intros; exact im_none
  | succ n ih =>
    intro LM x3
    unfold f_X10_ways_18
    refine im_iload_n X 3 dX10_ways_18 rfl rfl ?_
    refine im_sipush X 420 dX10_ways_19 (by decide) ?_
    refine im_icmp_ge (tgt := 38) X dX10_ways_22 rfl ?_ ?_
    · refine im_lv [0, 1, 2] [(0, .ref (aM 0)), (1, .int x1), (2, .int x2)] rfl ?_
      exact hk38 LM
    · refine im_aload_n X 0 dX10_ways_25 rfl rfl ?_
      refine im_cget X 0 0 (v := .ref (aM 7)) fl_X10_33 rfl rfl rfl dX10_ways_26 ?_
      refine im_iload_n X 3 dX10_ways_29 rfl rfl ?_
      refine im_lconst X 0 dX10_ways_30 (by decide) ?_
      refine im_clast X 0 7 1 (wx_Model ct aM (M 0 0) (M 0 4) (M 0 6) (M 0 7) (M 0 8) (M 0 9) (M 0 24) (M 0 27) (M 0 29) (M 0 31) (M 0 32) (M 0 33) (M 0 34) (M 0 35) (M 1) (M 2) (M 3) (M 4) (M 5) (M 9) (M 10) (M 11) (M 12) (M 13) (M 14) (M 15) (M 16) (M 17) (M 18) (M 19) (M 20) (M 21) (M 22) (LM 6) (vp_updL (LM 7) x3.toNatClampNeg 0) (LM 8)) [wx_Model ct aM (M 0 0) (M 0 4) (M 0 6) (M 0 7) (M 0 8) (M 0 9) (M 0 24) (M 0 27) (M 0 29) (M 0 31) (M 0 32) (M 0 33) (M 0 34) (M 0 35) (M 1) (M 2) (M 3) (M 4) (M 5) (M 9) (M 10) (M 11) (M 12) (M 13) (M 14) (M 15) (M 16) (M 17) (M 18) (M 19) (M 20) (M 21) (M 22) (LM 6) (vp_updL (LM 7) x3.toNatClampNeg 0) (LM 8)] (f := (LM 7)) rfl rfl rfl rfl rfl dX10_ways_31 ?_
      refine im_iinc X 3 1 [1, 2, 3, 0] [(0, .ref (aM 0)), (1, .int x1), (2, .int x2), (3, .int (x3 + 1))] dX10_ways_32 (by decide) rfl (by decide) rfl ?_
      refine im_goto (tgt := 18) X dX10_ways_35 rfl ?_
      exact ih (mr LM 7 (vp_updL (LM 7) x3.toNatClampNeg 0)) (x3 + 1)
noncomputable def f_X10_ways_84 (F : Nat) (M : Mem) (x1 : Int32) (x3 : Int64) (x5 : Int32) (x6 : Int32) (x7 : Int64) (k106 : MemL → Option (Int64 × MemL)) : Nat → MemL → Int32 → Option (Int64 × MemL)
  | 0, _, _ => none
  | n + 1, LM, x9 =>
  (if 420 ≤ x9 then k106 LM else ck x9 420 (f_X10_ways_84 F M x1 x3 x5 x6 x7 k106 n (mr LM 8 (vp_updL (LM 8) x9.toNatClampNeg 0)) (x9 + 1)))
set_option maxRecDepth 100000 in
set_option maxHeartbeats 4000000 in
theorem i_X10_ways_84 {p : Program} {l : Launch} {e : Env} {s : State} {m : MethodId} {args : Array Value} {below : List Frame} {meth : Method} {c : Code} {D : va_G} {ct : im_ct} {A : Nat → Prop} (X : im_X p (im_rm 2) s m args meth c D ct A RX10 cX10_ways 14 (some .long)) (F : Nat) (aM : Nat → Nat) (M : Mem) (x1 : Int32) (x3 : Int64) (x5 : Int32) (x6 : Int32) (x7 : Int64) (k106 : MemL → Option (Int64 × MemL)) (hk106 : ∀ (LM : MemL), Im p l e (im_rm 2) s m args below meth c D A 14 (QL D A (fun z : Int64 × MemL => z.1) (fun z : Int64 × MemL => (cat [w_Model ct aM M z.2]))) 106 [(0, .ref (aM 0)), (1, .int x1), (3, .long x3), (5, .int x5), (6, .int x6), (7, .long x7)] [] (cat [w_Model ct aM M LM]) (k106 LM)) : ∀ (n : Nat) (LM : MemL) (x9 : Int32), Im p l e (im_rm 2) s m args below meth c D A 14 (QL D A (fun z : Int64 × MemL => z.1) (fun z : Int64 × MemL => (cat [w_Model ct aM M z.2]))) 84 [(0, .ref (aM 0)), (1, .int x1), (3, .long x3), (5, .int x5), (6, .int x6), (7, .long x7), (9, .int x9)] [] (cat [w_Model ct aM M LM]) (f_X10_ways_84 F M x1 x3 x5 x6 x7 k106 n LM x9) := by
  intro n
  induction n with
  | zero => intros; exact im_none
  | succ n ih =>
    intro LM x9
    unfold f_X10_ways_84
    refine im_iload X 6 dX10_ways_84 rfl ?_
    refine im_sipush X 420 dX10_ways_86 (by decide) ?_
    refine im_icmp_ge (tgt := 106) X dX10_ways_89 rfl ?_ ?_
    · refine im_lv [0, 1, 2, 3, 4, 5] [(0, .ref (aM 0)), (1, .int x1), (3, .long x3), (5, .int x5), (6, .int x6), (7, .long x7)] rfl ?_
      exact hk106 LM
    · refine im_aload_n X 0 dX10_ways_92 rfl rfl ?_
      refine im_cget X 0 0 (v := .ref (aM 8)) fl_X10_36 rfl rfl rfl dX10_ways_93 ?_
      refine im_iload X 6 dX10_ways_96 rfl ?_
      refine im_lconst X 0 dX10_ways_98 (by decide) ?_
      refine im_clast X 0 8 1 (wx_Model ct aM (M 0 0) (M 0 4) (M 0 6) (M 0 7) (M 0 8) (M 0 9) (M 0 24) (M 0 27) (M 0 29) (M 0 31) (M 0 32) (M 0 33) (M 0 34) (M 0 35) (M 1) (M 2) (M 3) (M 4) (M 5) (M 9) (M 10) (M 11) (M 12) (M 13) (M 14) (M 15) (M 16) (M 17) (M 18) (M 19) (M 20) (M 21) (M 22) (LM 6) (LM 7) (vp_updL (LM 8) x9.toNatClampNeg 0)) [wx_Model ct aM (M 0 0) (M 0 4) (M 0 6) (M 0 7) (M 0 8) (M 0 9) (M 0 24) (M 0 27) (M 0 29) (M 0 31) (M 0 32) (M 0 33) (M 0 34) (M 0 35) (M 1) (M 2) (M 3) (M 4) (M 5) (M 9) (M 10) (M 11) (M 12) (M 13) (M 14) (M 15) (M 16) (M 17) (M 18) (M 19) (M 20) (M 21) (M 22) (LM 6) (LM 7) (vp_updL (LM 8) x9.toNatClampNeg 0)] (f := (LM 8)) rfl rfl rfl rfl rfl dX10_ways_99 ?_
      refine im_iinc X 6 1 [1, 2, 3, 4, 5, 6, 0] [(0, .ref (aM 0)), (1, .int x1), (3, .long x3), (5, .int x5), (6, .int x6), (7, .long x7), (9, .int (x9 + 1))] dX10_ways_100 (by decide) rfl (by decide) rfl ?_
      refine im_goto (tgt := 84) X dX10_ways_103 rfl ?_
      exact ih (mr LM 8 (vp_updL (LM 8) x9.toNatClampNeg 0)) (x9 + 1)
noncomputable def f_X10_ways_154 (F : Nat) (M : Mem) (x1 : Int32) (x3 : Int64) (x5 : Int32) (x6 : Int32) (x7 : Int64) (x9 : Int32) (x10 : Int64) (k215 : MemL → Option (Int64 × MemL)) : Nat → MemL → Int64 → Option (Int64 × MemL)
  | 0, _, _ => none
  | n + 1, LM, x12 =>
  (f_X10_now F M LM x1 x5).bind (fun z160 => (if 0 < (lg_cmp x12 (z160).toInt64) then k215 LM else (if 0 < (lg_cmp x12 x10) then k215 LM else dvL (x6).toInt64 (ck ((x7 - ((x10 - x12) / (x6).toInt64))).toInt32 420 (ck x9 420 (ck ((x7 - ((x10 - x12) / (x6).toInt64))).toInt32 420 (f_X10_ways_154 F M x1 x3 x5 x6 x7 x9 x10 k215 n (mr LM 8 (vp_updL (LM 8) (((x7 - ((x10 - x12) / (x6).toInt64))).toInt32).toNatClampNeg (((LM 8) (((x7 - ((x10 - x12) / (x6).toInt64))).toInt32).toNatClampNeg) + ((LM 7) x9.toNatClampNeg)))) (x12 + (x6).toInt64))))))))
set_option maxRecDepth 100000 in
set_option maxHeartbeats 4000000 in
theorem i_X10_ways_154 {p : Program} {l : Launch} {e : Env} {s : State} {m : MethodId} {args : Array Value} {below : List Frame} {meth : Method} {c : Code} {D : va_G} {ct : im_ct} {A : Nat → Prop} (X : im_X p (im_rm 2) s m args meth c D ct A RX10 cX10_ways 14 (some .long)) (F : Nat) (aM : Nat → Nat) (M : Mem) (x1 : Int32) (x3 : Int64) (x5 : Int32) (x6 : Int32) (x7 : Int64) (x9 : Int32) (x10 : Int64) (k215 : MemL → Option (Int64 × MemL)) (hk215 : ∀ (LM : MemL), Im p l e (im_rm 2) s m args below meth c D A 14 (QL D A (fun z : Int64 × MemL => z.1) (fun z : Int64 × MemL => (cat [w_Model ct aM M z.2]))) 215 [(0, .ref (aM 0)), (1, .int x1), (3, .long x3), (5, .int x5), (6, .int x6), (7, .long x7), (9, .int x9)] [] (cat [w_Model ct aM M LM]) (k215 LM)) : ∀ (n : Nat) (LM : MemL) (x12 : Int64), Im p l e (im_rm 2) s m args below meth c D A 14 (QL D A (fun z : Int64 × MemL => z.1) (fun z : Int64 × MemL => (cat [w_Model ct aM M z.2]))) 154 [(0, .ref (aM 0)), (1, .int x1), (3, .long x3), (5, .int x5), (6, .int x6), (7, .long x7), (9, .int x9), (10, .long x10), (12, .long x12)] [] (cat [w_Model ct aM M LM]) (f_X10_ways_154 F M x1 x3 x5 x6 x7 x9 x10 k215 n LM x12) := by
  intro n
  induction n with
  | zero => intros; exact im_none
  | succ n ih =>
    intro LM x12
    unfold f_X10_ways_154
    refine im_lload X 8 dX10_ways_154 rfl ?_
    refine im_aload_n X 0 dX10_ways_156 rfl rfl ?_
    refine im_iload_n X 1 dX10_ways_157 rfl rfl ?_
    refine im_iload X 3 dX10_ways_158 rfl ?_
    refine im_cciV X [.int x1, .int x5] [.long x12] [w_Model ct aM M LM] [w_Model ct aM M LM] [0] (fun z160 => [w_Model ct aM M LM]) 0 0 10 rfl rfl rfl cl_X10_105 (c_X10_now l D ct F aM M LM x1 x5) rfl (by decide) (fun _ => lc rfl (rfl)) rfl ⟨by decide, by decide⟩ (Nat.le_of_ble_eq_true rfl) rfl dX10_ways_160 (fun z160 => ?_)
    refine im_ws (cat [w_Model ct aM M LM]) rfl ?_
    refine im_i2l X dX10_ways_163 ?_
    refine im_lcmp X dX10_ways_164 ?_
    refine im_if_gt (tgt := 215) X dX10_ways_165 rfl ?_ ?_
    · refine im_lv [0, 1, 2, 3, 4, 5, 6] [(0, .ref (aM 0)), (1, .int x1), (3, .long x3), (5, .int x5), (6, .int x6), (7, .long x7), (9, .int x9)] rfl ?_
      exact hk215 LM
    · refine im_lload X 8 dX10_ways_168 rfl ?_
      refine im_lload X 7 dX10_ways_170 rfl ?_
      refine im_lcmp X dX10_ways_172 ?_
      refine im_if_gt (tgt := 215) X dX10_ways_173 rfl ?_ ?_
      · refine im_lv [0, 1, 2, 3, 4, 5, 6] [(0, .ref (aM 0)), (1, .int x1), (3, .long x3), (5, .int x5), (6, .int x6), (7, .long x7), (9, .int x9)] rfl ?_
        exact hk215 LM
      · refine im_aload_n X 0 dX10_ways_176 rfl rfl ?_
        refine im_cget X 0 0 (v := .ref (aM 8)) fl_X10_36 rfl rfl rfl dX10_ways_177 ?_
        refine im_lload X 5 dX10_ways_180 rfl ?_
        refine im_lload X 7 dX10_ways_182 rfl ?_
        refine im_lload X 8 dX10_ways_184 rfl ?_
        refine im_lsub X dX10_ways_186 ?_
        refine im_iload X 4 dX10_ways_187 rfl ?_
        refine im_i2l X dX10_ways_189 ?_
        refine im_ldiv X dX10_ways_190 ?_
        refine im_lsub X dX10_ways_191 ?_
        refine im_l2i X dX10_ways_192 ?_
        refine im_dup2_11 X rfl rfl dX10_ways_193 ?_
        refine im_clald X 0 8 1 (f := (LM 8)) rfl rfl rfl dX10_ways_194 ?_
        refine im_aload_n X 0 dX10_ways_195 rfl rfl ?_
        refine im_cget X 0 0 (v := .ref (aM 7)) fl_X10_33 rfl rfl rfl dX10_ways_196 ?_
        refine im_iload X 6 dX10_ways_199 rfl ?_
        refine im_clald X 0 7 1 (f := (LM 7)) rfl rfl rfl dX10_ways_201 ?_
        refine im_ladd X dX10_ways_202 ?_
        refine im_clast X 0 8 1 (wx_Model ct aM (M 0 0) (M 0 4) (M 0 6) (M 0 7) (M 0 8) (M 0 9) (M 0 24) (M 0 27) (M 0 29) (M 0 31) (M 0 32) (M 0 33) (M 0 34) (M 0 35) (M 1) (M 2) (M 3) (M 4) (M 5) (M 9) (M 10) (M 11) (M 12) (M 13) (M 14) (M 15) (M 16) (M 17) (M 18) (M 19) (M 20) (M 21) (M 22) (LM 6) (LM 7) (vp_updL (LM 8) (((x7 - ((x10 - x12) / (x6).toInt64))).toInt32).toNatClampNeg (((LM 8) (((x7 - ((x10 - x12) / (x6).toInt64))).toInt32).toNatClampNeg) + ((LM 7) x9.toNatClampNeg)))) [wx_Model ct aM (M 0 0) (M 0 4) (M 0 6) (M 0 7) (M 0 8) (M 0 9) (M 0 24) (M 0 27) (M 0 29) (M 0 31) (M 0 32) (M 0 33) (M 0 34) (M 0 35) (M 1) (M 2) (M 3) (M 4) (M 5) (M 9) (M 10) (M 11) (M 12) (M 13) (M 14) (M 15) (M 16) (M 17) (M 18) (M 19) (M 20) (M 21) (M 22) (LM 6) (LM 7) (vp_updL (LM 8) (((x7 - ((x10 - x12) / (x6).toInt64))).toInt32).toNatClampNeg (((LM 8) (((x7 - ((x10 - x12) / (x6).toInt64))).toInt32).toNatClampNeg) + ((LM 7) x9.toNatClampNeg)))] (f := (LM 8)) rfl rfl rfl rfl rfl dX10_ways_203 ?_
        refine im_lload X 8 dX10_ways_204 rfl ?_
        refine im_iload X 4 dX10_ways_206 rfl ?_
        refine im_i2l X dX10_ways_208 ?_
        refine im_ladd X dX10_ways_209 ?_
        refine im_lstore X [1, 2, 3, 4, 5, 6, 7, 8, 0] [(0, .ref (aM 0)), (1, .int x1), (3, .long x3), (5, .int x5), (6, .int x6), (7, .long x7), (9, .int x9), (10, .long x10), (12, .long (x12 + (x6).toInt64))] dX10_ways_210 (by decide) rfl ?_
        refine im_goto (tgt := 154) X dX10_ways_212 rfl ?_
        exact ih (mr LM 8 (vp_updL (LM 8) (((x7 - ((x10 - x12) / (x6).toInt64))).toInt32).toNatClampNeg (((LM 8) (((x7 - ((x10 - x12) / (x6).toInt64))).toInt32).toNatClampNeg) + ((LM 7) x9.toNatClampNeg)))) (x12 + (x6).toInt64)
noncomputable def f_X10_ways_109 (F : Nat) (M : Mem) (x1 : Int32) (x3 : Int64) (x5 : Int32) (x6 : Int32) (x7 : Int64) (k221 : MemL → Option (Int64 × MemL)) : Nat → MemL → Int32 → Option (Int64 × MemL)
  | 0, _, _ => none
  | n + 1, LM, x9 =>
  (if 420 ≤ x9 then k221 LM else ck x9 420 ((if (lg_cmp ((LM 7) x9.toNatClampNeg) 0) = 0 then f_X10_ways_109 F M x1 x3 x5 x6 x7 k221 n LM (x9 + 1) else (if 0 ≤ (lg_cmp (x3 - (x9).toInt64) 0) then dvL (x6).toInt64 (f_X10_ways_154 F M x1 x3 x5 x6 x7 x9 (x3 - (x9).toInt64) (fun LM_215 => f_X10_ways_109 F M x1 x3 x5 x6 x7 k221 n LM_215 (x9 + 1)) F LM ((x3 - (x9).toInt64) - (x3 - (x9).toInt64) / (x6).toInt64 * (x6).toInt64)) else f_X10_ways_109 F M x1 x3 x5 x6 x7 k221 n LM (x9 + 1)))))
set_option maxRecDepth 100000 in
set_option maxHeartbeats 4000000 in
theorem i_X10_ways_109 {p : Program} {l : Launch} {e : Env} {s : State} {m : MethodId} {args : Array Value} {below : List Frame} {meth : Method} {c : Code} {D : va_G} {ct : im_ct} {A : Nat → Prop} (X : im_X p (im_rm 2) s m args meth c D ct A RX10 cX10_ways 14 (some .long)) (F : Nat) (aM : Nat → Nat) (M : Mem) (x1 : Int32) (x3 : Int64) (x5 : Int32) (x6 : Int32) (x7 : Int64) (k221 : MemL → Option (Int64 × MemL)) (hk221 : ∀ (LM : MemL), Im p l e (im_rm 2) s m args below meth c D A 14 (QL D A (fun z : Int64 × MemL => z.1) (fun z : Int64 × MemL => (cat [w_Model ct aM M z.2]))) 221 [(0, .ref (aM 0)), (1, .int x1), (5, .int x5), (7, .long x7)] [] (cat [w_Model ct aM M LM]) (k221 LM)) : ∀ (n : Nat) (LM : MemL) (x9 : Int32), Im p l e (im_rm 2) s m args below meth c D A 14 (QL D A (fun z : Int64 × MemL => z.1) (fun z : Int64 × MemL => (cat [w_Model ct aM M z.2]))) 109 [(0, .ref (aM 0)), (1, .int x1), (3, .long x3), (5, .int x5), (6, .int x6), (7, .long x7), (9, .int x9)] [] (cat [w_Model ct aM M LM]) (f_X10_ways_109 F M x1 x3 x5 x6 x7 k221 n LM x9) := by
  intro n
  induction n with
  | zero => intros; exact im_none
  | succ n ih =>
    intro LM x9
    unfold f_X10_ways_109
    refine im_iload X 6 dX10_ways_109 rfl ?_
    refine im_sipush X 420 dX10_ways_111 (by decide) ?_
    refine im_icmp_ge (tgt := 221) X dX10_ways_114 rfl ?_ ?_
    · refine im_lv [0, 1, 3, 5] [(0, .ref (aM 0)), (1, .int x1), (5, .int x5), (7, .long x7)] rfl ?_
      exact hk221 LM
    · refine im_lload_n X 2 dX10_ways_117 rfl rfl ?_
      refine im_iload X 6 dX10_ways_118 rfl ?_
      refine im_i2l X dX10_ways_120 ?_
      refine im_lsub X dX10_ways_121 ?_
      refine im_lstore X [1, 2, 3, 4, 5, 6, 7, 0] [(0, .ref (aM 0)), (1, .int x1), (3, .long x3), (5, .int x5), (6, .int x6), (7, .long x7), (9, .int x9), (10, .long (x3 - (x9).toInt64))] dX10_ways_122 (by decide) rfl ?_
      refine im_aload_n X 0 dX10_ways_124 rfl rfl ?_
      refine im_cget X 0 0 (v := .ref (aM 7)) fl_X10_33 rfl rfl rfl dX10_ways_125 ?_
      refine im_iload X 6 dX10_ways_128 rfl ?_
      refine im_clald X 0 7 1 (f := (LM 7)) rfl rfl rfl dX10_ways_130 ?_
      refine im_lconst X 0 dX10_ways_131 (by decide) ?_
      refine im_lcmp X dX10_ways_132 ?_
      refine im_if_eq (tgt := 215) X dX10_ways_133 rfl ?_ ?_
      · refine im_iinc X 6 1 [1, 2, 3, 4, 5, 6, 0, 7] [(0, .ref (aM 0)), (1, .int x1), (3, .long x3), (5, .int x5), (6, .int x6), (7, .long x7), (9, .int (x9 + 1)), (10, .long (x3 - (x9).toInt64))] dX10_ways_215 (by decide) rfl (by decide) rfl ?_
        refine im_goto (tgt := 109) X dX10_ways_218 rfl ?_
        refine im_lv [0, 1, 2, 3, 4, 5, 6] [(0, .ref (aM 0)), (1, .int x1), (3, .long x3), (5, .int x5), (6, .int x6), (7, .long x7), (9, .int (x9 + 1))] rfl ?_
        exact ih LM (x9 + 1)
      · refine im_lload X 7 dX10_ways_136 rfl ?_
        refine im_lconst X 0 dX10_ways_138 (by decide) ?_
        refine im_lcmp X dX10_ways_139 ?_
        refine im_if_ge (tgt := 146) X dX10_ways_140 rfl ?_ ?_
        · refine im_lload X 7 dX10_ways_146 rfl ?_
          refine im_iload X 4 dX10_ways_148 rfl ?_
          refine im_i2l X dX10_ways_150 ?_
          refine im_lrem X dX10_ways_151 ?_
          refine im_lstore X [1, 2, 3, 4, 5, 6, 7, 8, 0] [(0, .ref (aM 0)), (1, .int x1), (3, .long x3), (5, .int x5), (6, .int x6), (7, .long x7), (9, .int x9), (10, .long (x3 - (x9).toInt64)), (12, .long ((x3 - (x9).toInt64) - (x3 - (x9).toInt64) / (x6).toInt64 * (x6).toInt64))] dX10_ways_152 (by decide) rfl ?_
          refine i_X10_ways_154 X F aM M x1 x3 x5 x6 x7 x9 (x3 - (x9).toInt64) _ (fun LM_215 => ?_) F LM ((x3 - (x9).toInt64) - (x3 - (x9).toInt64) / (x6).toInt64 * (x6).toInt64)
          refine im_iinc X 6 1 [1, 2, 3, 4, 5, 6, 0] [(0, .ref (aM 0)), (1, .int x1), (3, .long x3), (5, .int x5), (6, .int x6), (7, .long x7), (9, .int (x9 + 1))] dX10_ways_215 (by decide) rfl (by decide) rfl ?_
          refine im_goto (tgt := 109) X dX10_ways_218 rfl ?_
          exact ih LM_215 (x9 + 1)
        · refine im_goto (tgt := 215) X dX10_ways_143 rfl ?_
          refine im_iinc X 6 1 [1, 2, 3, 4, 5, 6, 0, 7] [(0, .ref (aM 0)), (1, .int x1), (3, .long x3), (5, .int x5), (6, .int x6), (7, .long x7), (9, .int (x9 + 1)), (10, .long (x3 - (x9).toInt64))] dX10_ways_215 (by decide) rfl (by decide) rfl ?_
          refine im_goto (tgt := 109) X dX10_ways_218 rfl ?_
          refine im_lv [0, 1, 2, 3, 4, 5, 6] [(0, .ref (aM 0)), (1, .int x1), (3, .long x3), (5, .int x5), (6, .int x6), (7, .long x7), (9, .int (x9 + 1))] rfl ?_
          exact ih LM (x9 + 1)
noncomputable def f_X10_ways_227 (F : Nat) (M : Mem) (x1 : Int32) (x3 : Int64) (x5 : Int32) (k255 : MemL → Option (Int64 × MemL)) : Nat → MemL → Int32 → Option (Int64 × MemL)
  | 0, _, _ => none
  | n + 1, LM, x9 =>
  (if 420 ≤ x9 then k255 LM else ck x9 420 (ck x9 420 (f_X10_ways_227 F M x1 x3 x5 k255 n (mr LM 7 (vp_updL (LM 7) x9.toNatClampNeg ((LM 8) x9.toNatClampNeg))) (x9 + 1))))
set_option maxRecDepth 100000 in
set_option maxHeartbeats 4000000 in
theorem i_X10_ways_227 {p : Program} {l : Launch} {e : Env} {s : State} {m : MethodId} {args : Array Value} {below : List Frame} {meth : Method} {c : Code} {D : va_G} {ct : im_ct} {A : Nat → Prop} (X : im_X p (im_rm 2) s m args meth c D ct A RX10 cX10_ways 14 (some .long)) (F : Nat) (aM : Nat → Nat) (M : Mem) (x1 : Int32) (x3 : Int64) (x5 : Int32) (k255 : MemL → Option (Int64 × MemL)) (hk255 : ∀ (LM : MemL), Im p l e (im_rm 2) s m args below meth c D A 14 (QL D A (fun z : Int64 × MemL => z.1) (fun z : Int64 × MemL => (cat [w_Model ct aM M z.2]))) 255 [(0, .ref (aM 0)), (1, .int x1), (3, .long x3), (5, .int x5)] [] (cat [w_Model ct aM M LM]) (k255 LM)) : ∀ (n : Nat) (LM : MemL) (x9 : Int32), Im p l e (im_rm 2) s m args below meth c D A 14 (QL D A (fun z : Int64 × MemL => z.1) (fun z : Int64 × MemL => (cat [w_Model ct aM M z.2]))) 227 [(0, .ref (aM 0)), (1, .int x1), (3, .long x3), (5, .int x5), (9, .int x9)] [] (cat [w_Model ct aM M LM]) (f_X10_ways_227 F M x1 x3 x5 k255 n LM x9) := by
  intro n
  induction n with
  | zero => intros; exact im_none
  | succ n ih =>
    intro LM x9
    unfold f_X10_ways_227
    refine im_iload X 4 dX10_ways_227 rfl ?_
    refine im_sipush X 420 dX10_ways_229 (by decide) ?_
    refine im_icmp_ge (tgt := 255) X dX10_ways_232 rfl ?_ ?_
    · refine im_lv [0, 1, 2, 3] [(0, .ref (aM 0)), (1, .int x1), (3, .long x3), (5, .int x5)] rfl ?_
      exact hk255 LM
    · refine im_aload_n X 0 dX10_ways_235 rfl rfl ?_
      refine im_cget X 0 0 (v := .ref (aM 7)) fl_X10_33 rfl rfl rfl dX10_ways_236 ?_
      refine im_iload X 4 dX10_ways_239 rfl ?_
      refine im_aload_n X 0 dX10_ways_241 rfl rfl ?_
      refine im_cget X 0 0 (v := .ref (aM 8)) fl_X10_36 rfl rfl rfl dX10_ways_242 ?_
      refine im_iload X 4 dX10_ways_245 rfl ?_
      refine im_clald X 0 8 1 (f := (LM 8)) rfl rfl rfl dX10_ways_247 ?_
      refine im_clast X 0 7 1 (wx_Model ct aM (M 0 0) (M 0 4) (M 0 6) (M 0 7) (M 0 8) (M 0 9) (M 0 24) (M 0 27) (M 0 29) (M 0 31) (M 0 32) (M 0 33) (M 0 34) (M 0 35) (M 1) (M 2) (M 3) (M 4) (M 5) (M 9) (M 10) (M 11) (M 12) (M 13) (M 14) (M 15) (M 16) (M 17) (M 18) (M 19) (M 20) (M 21) (M 22) (LM 6) (vp_updL (LM 7) x9.toNatClampNeg ((LM 8) x9.toNatClampNeg)) (LM 8)) [wx_Model ct aM (M 0 0) (M 0 4) (M 0 6) (M 0 7) (M 0 8) (M 0 9) (M 0 24) (M 0 27) (M 0 29) (M 0 31) (M 0 32) (M 0 33) (M 0 34) (M 0 35) (M 1) (M 2) (M 3) (M 4) (M 5) (M 9) (M 10) (M 11) (M 12) (M 13) (M 14) (M 15) (M 16) (M 17) (M 18) (M 19) (M 20) (M 21) (M 22) (LM 6) (vp_updL (LM 7) x9.toNatClampNeg ((LM 8) x9.toNatClampNeg)) (LM 8)] (f := (LM 7)) rfl rfl rfl rfl rfl dX10_ways_248 ?_
      refine im_iinc X 4 1 [1, 2, 3, 4, 0] [(0, .ref (aM 0)), (1, .int x1), (3, .long x3), (5, .int x5), (9, .int (x9 + 1))] dX10_ways_249 (by decide) rfl (by decide) rfl ?_
      refine im_goto (tgt := 227) X dX10_ways_252 rfl ?_
      exact ih (mr LM 7 (vp_updL (LM 7) x9.toNatClampNeg ((LM 8) x9.toNatClampNeg))) (x9 + 1)
noncomputable def f_X10_ways_51 (F : Nat) (M : Mem) (x1 : Int32) (k261 : MemL → Int64 → Option (Int64 × MemL)) : Nat → MemL → Int64 → Int32 → Option (Int64 × MemL)
  | 0, _, _, _ => none
  | n + 1, LM, x3, x5 =>
  ck 0 226 ((if ((M 1) (0 : Int32).toNatClampNeg) ≤ (x5 + 1) then k261 LM x3 else (f_X10_ratio F M LM (x5 + 1)).bind (fun z69 => dvL (z69).toInt64 (f_X10_ways_84 F M x1 x3 x5 z69 (x3 / (z69).toInt64) (fun LM_106 => f_X10_ways_109 F M x1 x3 x5 z69 (x3 / (z69).toInt64) (fun LM_221 => f_X10_ways_227 F M x1 (x3 / (z69).toInt64) x5 (fun LM_255 => f_X10_ways_51 F M x1 k261 n LM_255 (x3 / (z69).toInt64) (x5 + 1)) F LM_221 0) F LM_106 0) F LM 0))))
set_option maxRecDepth 100000 in
set_option maxHeartbeats 4000000 in
theorem i_X10_ways_51 {p : Program} {l : Launch} {e : Env} {s : State} {m : MethodId} {args : Array Value} {below : List Frame} {meth : Method} {c : Code} {D : va_G} {ct : im_ct} {A : Nat → Prop} (X : im_X p (im_rm 2) s m args meth c D ct A RX10 cX10_ways 14 (some .long)) (F : Nat) (aM : Nat → Nat) (M : Mem) (x1 : Int32) (k261 : MemL → Int64 → Option (Int64 × MemL)) (hk261 : ∀ (LM : MemL) (x3 : Int64), Im p l e (im_rm 2) s m args below meth c D A 14 (QL D A (fun z : Int64 × MemL => z.1) (fun z : Int64 × MemL => (cat [w_Model ct aM M z.2]))) 261 [(0, .ref (aM 0)), (1, .int x1), (3, .long x3)] [] (cat [w_Model ct aM M LM]) (k261 LM x3)) : ∀ (n : Nat) (LM : MemL) (x3 : Int64) (x5 : Int32), Im p l e (im_rm 2) s m args below meth c D A 14 (QL D A (fun z : Int64 × MemL => z.1) (fun z : Int64 × MemL => (cat [w_Model ct aM M z.2]))) 51 [(0, .ref (aM 0)), (1, .int x1), (3, .long x3), (5, .int x5)] [] (cat [w_Model ct aM M LM]) (f_X10_ways_51 F M x1 k261 n LM x3 x5) := by
  intro n
  induction n with
  | zero => intros; exact im_none
  | succ n ih =>
    intro LM x3 x5
    unfold f_X10_ways_51
    refine im_iload X 3 dX10_ways_51 rfl ?_
    refine im_iconst X 1 dX10_ways_53 (by decide) ?_
    refine im_iadd X dX10_ways_54 ?_
    refine im_aload_n X 0 dX10_ways_55 rfl rfl ?_
    refine im_cget X 0 0 (v := .ref (aM 1)) fl_X10_13 rfl rfl rfl dX10_ways_56 ?_
    refine im_iconst X 0 dX10_ways_59 (by decide) ?_
    refine im_ciald X 0 1 0 (f := (M 1)) rfl rfl rfl dX10_ways_60 ?_
    refine im_icmp_ge (tgt := 261) X dX10_ways_61 rfl ?_ ?_
    · refine im_lv [0, 1, 2] [(0, .ref (aM 0)), (1, .int x1), (3, .long x3)] rfl ?_
      exact hk261 LM x3
    · refine im_aload_n X 0 dX10_ways_64 rfl rfl ?_
      refine im_iload X 3 dX10_ways_65 rfl ?_
      refine im_iconst X 1 dX10_ways_67 (by decide) ?_
      refine im_iadd X dX10_ways_68 ?_
      refine im_cciV X [.int (x5 + 1)] [] [w_Model ct aM M LM] [w_Model ct aM M LM] [0] (fun z69 => [w_Model ct aM M LM]) 0 0 10 rfl rfl rfl cl_X10_97 (c_X10_ratio l D ct F aM M LM (x5 + 1)) rfl (by decide) (fun _ => lc rfl (rfl)) rfl ⟨by decide, by decide⟩ (Nat.le_of_ble_eq_true rfl) rfl dX10_ways_69 (fun z69 => ?_)
      refine im_ws (cat [w_Model ct aM M LM]) rfl ?_
      refine im_istore X [1, 2, 3, 4, 0] [(0, .ref (aM 0)), (1, .int x1), (3, .long x3), (5, .int x5), (6, .int z69)] dX10_ways_72 (by decide) rfl ?_
      refine im_lload_n X 2 dX10_ways_74 rfl rfl ?_
      refine im_iload X 4 dX10_ways_75 rfl ?_
      refine im_i2l X dX10_ways_77 ?_
      refine im_ldiv X dX10_ways_78 ?_
      refine im_lstore X [1, 2, 3, 4, 5, 0] [(0, .ref (aM 0)), (1, .int x1), (3, .long x3), (5, .int x5), (6, .int z69), (7, .long (x3 / (z69).toInt64))] dX10_ways_79 (by decide) rfl ?_
      refine im_iconst X 0 dX10_ways_81 (by decide) ?_
      refine im_istore X [1, 2, 3, 4, 5, 6, 0] [(0, .ref (aM 0)), (1, .int x1), (3, .long x3), (5, .int x5), (6, .int z69), (7, .long (x3 / (z69).toInt64)), (9, .int 0)] dX10_ways_82 (by decide) rfl ?_
      refine i_X10_ways_84 X F aM M x1 x3 x5 z69 (x3 / (z69).toInt64) _ (fun LM_106 => ?_) F LM 0
      refine im_iconst X 0 dX10_ways_106 (by decide) ?_
      refine im_istore X [1, 2, 3, 4, 5, 6, 0] [(0, .ref (aM 0)), (1, .int x1), (3, .long x3), (5, .int x5), (6, .int z69), (7, .long (x3 / (z69).toInt64)), (9, .int 0)] dX10_ways_107 (by decide) rfl ?_
      refine i_X10_ways_109 X F aM M x1 x3 x5 z69 (x3 / (z69).toInt64) _ (fun LM_221 => ?_) F LM_106 0
      refine im_lload X 3 dX10_ways_221 rfl ?_
      refine im_lstore_n X [1, 2, 0, 3, 4] [(0, .ref (aM 0)), (1, .int x1), (3, .long (x3 / (z69).toInt64)), (5, .int x5), (7, .long (x3 / (z69).toInt64))] dX10_ways_223 rfl (by decide) rfl ?_
      refine im_iconst X 0 dX10_ways_224 (by decide) ?_
      refine im_istore X [1, 2, 3, 4, 5, 0] [(0, .ref (aM 0)), (1, .int x1), (3, .long (x3 / (z69).toInt64)), (5, .int x5), (7, .long (x3 / (z69).toInt64)), (9, .int 0)] dX10_ways_225 (by decide) rfl ?_
      refine im_lv [0, 1, 2, 3, 5] [(0, .ref (aM 0)), (1, .int x1), (3, .long (x3 / (z69).toInt64)), (5, .int x5), (9, .int 0)] rfl ?_
      refine i_X10_ways_227 X F aM M x1 (x3 / (z69).toInt64) x5 _ (fun LM_255 => ?_) F LM_221 0
      refine im_iinc X 3 1 [1, 2, 3, 0] [(0, .ref (aM 0)), (1, .int x1), (3, .long (x3 / (z69).toInt64)), (5, .int (x5 + 1))] dX10_ways_255 (by decide) rfl (by decide) rfl ?_
      refine im_goto (tgt := 51) X dX10_ways_258 rfl ?_
      exact ih LM_255 (x3 / (z69).toInt64) (x5 + 1)
noncomputable def f_X10_ways_267 (F : Nat) (M : Mem) (LM : MemL) (x1 : Int32) (x3 : Int64) (k331 : Int64 → Option (Int64 × MemL)) : Nat → Int64 → Int32 → Option (Int64 × MemL)
  | 0, _, _ => none
  | n + 1, x5, x7 =>
  (if 420 ≤ x7 then k331 x5 else ck x7 420 ((if (lg_cmp ((LM 7) x7.toNatClampNeg) 0) ≤ 0 then f_X10_ways_267 F M LM x1 x3 k331 n x5 (x7 + 1) else ck 0 226 ((f_X10_now F M LM x1 (((M 1) (0 : Int32).toNatClampNeg) - 1)).bind (fun z303 => (f_X10_in F (x3 - (x7).toInt64) 0 (z303).toInt64).bind (fun z307 => (if z307 = 0 then f_X10_ways_267 F M LM x1 x3 k331 n x5 (x7 + 1) else ck x7 420 (f_X10_ways_267 F M LM x1 x3 k331 n (x5 + ((LM 7) x7.toNatClampNeg)) (x7 + 1)))))))))
set_option maxRecDepth 100000 in
set_option maxHeartbeats 4000000 in
theorem i_X10_ways_267 {p : Program} {l : Launch} {e : Env} {s : State} {m : MethodId} {args : Array Value} {below : List Frame} {meth : Method} {c : Code} {D : va_G} {ct : im_ct} {A : Nat → Prop} (X : im_X p (im_rm 2) s m args meth c D ct A RX10 cX10_ways 14 (some .long)) (F : Nat) (aM : Nat → Nat) (M : Mem) (LM : MemL) (x1 : Int32) (x3 : Int64) (k331 : Int64 → Option (Int64 × MemL)) (hk331 : ∀ (x5 : Int64), Im p l e (im_rm 2) s m args below meth c D A 14 (QL D A (fun z : Int64 × MemL => z.1) (fun z : Int64 × MemL => (cat [w_Model ct aM M z.2]))) 331 [(5, .long x5)] [] (cat [w_Model ct aM M LM]) (k331 x5)) : ∀ (n : Nat) (x5 : Int64) (x7 : Int32), Im p l e (im_rm 2) s m args below meth c D A 14 (QL D A (fun z : Int64 × MemL => z.1) (fun z : Int64 × MemL => (cat [w_Model ct aM M z.2]))) 267 [(0, .ref (aM 0)), (1, .int x1), (3, .long x3), (5, .long x5), (7, .int x7)] [] (cat [w_Model ct aM M LM]) (f_X10_ways_267 F M LM x1 x3 k331 n x5 x7) := by
  intro n
  induction n with
  | zero => intros; exact im_none
  | succ n ih =>
    intro x5 x7
    unfold f_X10_ways_267
    refine im_iload X 4 dX10_ways_267 rfl ?_
    refine im_sipush X 420 dX10_ways_269 (by decide) ?_
    refine im_icmp_ge (tgt := 331) X dX10_ways_272 rfl ?_ ?_
    · refine im_lv [3] [(5, .long x5)] rfl ?_
      exact hk331 x5
    · refine im_aload_n X 0 dX10_ways_275 rfl rfl ?_
      refine im_cget X 0 0 (v := .ref (aM 7)) fl_X10_33 rfl rfl rfl dX10_ways_276 ?_
      refine im_iload X 4 dX10_ways_279 rfl ?_
      refine im_clald X 0 7 1 (f := (LM 7)) rfl rfl rfl dX10_ways_281 ?_
      refine im_lconst X 0 dX10_ways_282 (by decide) ?_
      refine im_lcmp X dX10_ways_283 ?_
      refine im_if_le (tgt := 325) X dX10_ways_284 rfl ?_ ?_
      · refine im_iinc X 4 1 [1, 2, 3, 4, 0] [(0, .ref (aM 0)), (1, .int x1), (3, .long x3), (5, .long x5), (7, .int (x7 + 1))] dX10_ways_325 (by decide) rfl (by decide) rfl ?_
        refine im_goto (tgt := 267) X dX10_ways_328 rfl ?_
        exact ih x5 (x7 + 1)
      · refine im_lload_n X 2 dX10_ways_287 rfl rfl ?_
        refine im_iload X 4 dX10_ways_288 rfl ?_
        refine im_i2l X dX10_ways_290 ?_
        refine im_lsub X dX10_ways_291 ?_
        refine im_lconst X 0 dX10_ways_292 (by decide) ?_
        refine im_aload_n X 0 dX10_ways_293 rfl rfl ?_
        refine im_iload_n X 1 dX10_ways_294 rfl rfl ?_
        refine im_aload_n X 0 dX10_ways_295 rfl rfl ?_
        refine im_cget X 0 0 (v := .ref (aM 1)) fl_X10_13 rfl rfl rfl dX10_ways_296 ?_
        refine im_iconst X 0 dX10_ways_299 (by decide) ?_
        refine im_ciald X 0 1 0 (f := (M 1)) rfl rfl rfl dX10_ways_300 ?_
        refine im_iconst X 1 dX10_ways_301 (by decide) ?_
        refine im_isub X dX10_ways_302 ?_
        refine im_cciV X [.int x1, .int (((M 1) (0 : Int32).toNatClampNeg) - 1)] [.long 0, .long (x3 - (x7).toInt64)] [w_Model ct aM M LM] [w_Model ct aM M LM] [0] (fun z303 => [w_Model ct aM M LM]) 0 0 10 rfl rfl rfl cl_X10_105 (c_X10_now l D ct F aM M LM x1 (((M 1) (0 : Int32).toNatClampNeg) - 1)) rfl (by decide) (fun _ => lc rfl (rfl)) rfl ⟨by decide, by decide⟩ (Nat.le_of_ble_eq_true rfl) rfl dX10_ways_303 (fun z303 => ?_)
        refine im_ws (cat [w_Model ct aM M LM]) rfl ?_
        refine im_i2l X dX10_ways_306 ?_
        refine im_cciS X [.long (x3 - (x7).toInt64), .long 0, .long (z303).toInt64] [] [w_Model ct aM M LM] [] [] (fun z307 => []) cl_X10_86 (c_X10_in l D ct F (x3 - (x7).toInt64) 0 (z303).toInt64) rfl (by decide) (fun _ => rfl) rfl ⟨by decide, by decide⟩ (Nat.le_of_ble_eq_true rfl) rfl dX10_ways_307 (fun z307 => ?_)
        refine im_ws (cat [w_Model ct aM M LM]) rfl ?_
        refine im_if_eq (tgt := 325) X dX10_ways_310 rfl ?_ ?_
        · refine im_iinc X 4 1 [1, 2, 3, 4, 0] [(0, .ref (aM 0)), (1, .int x1), (3, .long x3), (5, .long x5), (7, .int (x7 + 1))] dX10_ways_325 (by decide) rfl (by decide) rfl ?_
          refine im_goto (tgt := 267) X dX10_ways_328 rfl ?_
          exact ih x5 (x7 + 1)
        · refine im_lload X 3 dX10_ways_313 rfl ?_
          refine im_aload_n X 0 dX10_ways_315 rfl rfl ?_
          refine im_cget X 0 0 (v := .ref (aM 7)) fl_X10_33 rfl rfl rfl dX10_ways_316 ?_
          refine im_iload X 4 dX10_ways_319 rfl ?_
          refine im_clald X 0 7 1 (f := (LM 7)) rfl rfl rfl dX10_ways_321 ?_
          refine im_ladd X dX10_ways_322 ?_
          refine im_lstore X [1, 2, 3, 0, 4] [(0, .ref (aM 0)), (1, .int x1), (3, .long x3), (5, .long (x5 + ((LM 7) x7.toNatClampNeg))), (7, .int x7)] dX10_ways_323 (by decide) rfl ?_
          refine im_iinc X 4 1 [1, 2, 3, 4, 0] [(0, .ref (aM 0)), (1, .int x1), (3, .long x3), (5, .long (x5 + ((LM 7) x7.toNatClampNeg))), (7, .int (x7 + 1))] dX10_ways_325 (by decide) rfl (by decide) rfl ?_
          refine im_goto (tgt := 267) X dX10_ways_328 rfl ?_
          exact ih (x5 + ((LM 7) x7.toNatClampNeg)) (x7 + 1)
noncomputable def f_X10_ways (F : Nat) (M : Mem) (LM : MemL) (x1 : Int32) (x2 : Int32) : Option (Int64 × MemL) :=
  (f_X10_isRow F M LM x1).bind (fun z2 => (if z2 = 0 then (some ((-1), LM)) else (if 0 ≤ x2 then f_X10_ways_18 F M x1 x2 (fun LM_38 => ck 0 420 (f_X10_ways_51 F M x1 (fun LM_261 x3_261 => f_X10_ways_267 F M LM_261 x1 x3_261 (fun x5_331 => (some (x5_331, LM_261))) F 0 0) F (mr LM_38 7 (vp_updL (LM_38 7) (0 : Int32).toNatClampNeg 1)) (x2).toInt64 0)) F LM 0 else (some ((-1), LM)))))
set_option maxRecDepth 100000 in
set_option maxHeartbeats 4000000 in
theorem i_X10_ways {p : Program} {l : Launch} {e : Env} {s : State} {m : MethodId} {args : Array Value} {below : List Frame} {meth : Method} {c : Code} {D : va_G} {ct : im_ct} {A : Nat → Prop} (X : im_X p (im_rm 2) s m args meth c D ct A RX10 cX10_ways 14 (some .long)) (F : Nat) (aM : Nat → Nat) (M : Mem) (LM : MemL) (x1 : Int32) (x2 : Int32) : Im p l e (im_rm 2) s m args below meth c D A 14 (QL D A (fun z : Int64 × MemL => z.1) (fun z : Int64 × MemL => (cat [w_Model ct aM M z.2]))) 0 [(0, .ref (aM 0)), (1, .int x1), (2, .int x2)] [] (cat [w_Model ct aM M LM]) (f_X10_ways F M LM x1 x2) := by
  unfold f_X10_ways
  refine im_aload_n X 0 dX10_ways_0 rfl rfl ?_
  refine im_iload_n X 1 dX10_ways_1 rfl rfl ?_
  refine im_cciV X [.int x1] [] [w_Model ct aM M LM] [w_Model ct aM M LM] [0] (fun z2 => [w_Model ct aM M LM]) 0 0 10 rfl rfl rfl cl_X10_90 (c_X10_isRow l D ct F aM M LM x1) rfl (by decide) (fun _ => lc rfl (rfl)) rfl ⟨by decide, by decide⟩ (Nat.le_of_ble_eq_true rfl) rfl dX10_ways_2 (fun z2 => ?_)
  refine im_ws (cat [w_Model ct aM M LM]) rfl ?_
  refine im_if_eq (tgt := 12) X dX10_ways_5 rfl ?_ ?_
  · refine im_ldc2 X kc_X10_219 dX10_ways_12 ?_
    exact im_lreturn X ((-1), LM) rfl rfl dX10_ways_15
  · refine im_iload_n X 2 dX10_ways_8 rfl rfl ?_
    refine im_if_ge (tgt := 16) X dX10_ways_9 rfl ?_ ?_
    · refine im_iconst X 0 dX10_ways_16 (by decide) ?_
      refine im_istore_n X [1, 2, 3, 0] [(0, .ref (aM 0)), (1, .int x1), (2, .int x2), (3, .int 0)] dX10_ways_17 rfl (by decide) rfl ?_
      refine i_X10_ways_18 X F aM M x1 x2 _ (fun LM_38 => ?_) F LM 0
      refine im_aload_n X 0 dX10_ways_38 rfl rfl ?_
      refine im_cget X 0 0 (v := .ref (aM 7)) fl_X10_33 rfl rfl rfl dX10_ways_39 ?_
      refine im_iconst X 0 dX10_ways_42 (by decide) ?_
      refine im_lconst X 1 dX10_ways_43 (by decide) ?_
      refine im_clast X 0 7 1 (wx_Model ct aM (M 0 0) (M 0 4) (M 0 6) (M 0 7) (M 0 8) (M 0 9) (M 0 24) (M 0 27) (M 0 29) (M 0 31) (M 0 32) (M 0 33) (M 0 34) (M 0 35) (M 1) (M 2) (M 3) (M 4) (M 5) (M 9) (M 10) (M 11) (M 12) (M 13) (M 14) (M 15) (M 16) (M 17) (M 18) (M 19) (M 20) (M 21) (M 22) (LM_38 6) (vp_updL (LM_38 7) (0 : Int32).toNatClampNeg 1) (LM_38 8)) [wx_Model ct aM (M 0 0) (M 0 4) (M 0 6) (M 0 7) (M 0 8) (M 0 9) (M 0 24) (M 0 27) (M 0 29) (M 0 31) (M 0 32) (M 0 33) (M 0 34) (M 0 35) (M 1) (M 2) (M 3) (M 4) (M 5) (M 9) (M 10) (M 11) (M 12) (M 13) (M 14) (M 15) (M 16) (M 17) (M 18) (M 19) (M 20) (M 21) (M 22) (LM_38 6) (vp_updL (LM_38 7) (0 : Int32).toNatClampNeg 1) (LM_38 8)] (f := (LM_38 7)) rfl rfl rfl rfl rfl dX10_ways_44 ?_
      refine im_iload_n X 2 dX10_ways_45 rfl rfl ?_
      refine im_i2l X dX10_ways_46 ?_
      refine im_lstore_n X [1, 2, 3, 0] [(0, .ref (aM 0)), (1, .int x1), (2, .int x2), (3, .long (x2).toInt64)] dX10_ways_47 rfl (by decide) rfl ?_
      refine im_iconst X 0 dX10_ways_48 (by decide) ?_
      refine im_istore X [1, 2, 3, 4, 0] [(0, .ref (aM 0)), (1, .int x1), (2, .int x2), (3, .long (x2).toInt64), (5, .int 0)] dX10_ways_49 (by decide) rfl ?_
      refine im_lv [0, 1, 3, 4] [(0, .ref (aM 0)), (1, .int x1), (3, .long (x2).toInt64), (5, .int 0)] rfl ?_
      refine i_X10_ways_51 X F aM M x1 _ (fun LM_261 x3_261 => ?_) F (mr LM_38 7 (vp_updL (LM_38 7) (0 : Int32).toNatClampNeg 1)) (x2).toInt64 0
      refine im_lconst X 0 dX10_ways_261 (by decide) ?_
      refine im_lstore X [1, 2, 3, 0] [(0, .ref (aM 0)), (1, .int x1), (3, .long x3_261), (5, .long 0)] dX10_ways_262 (by decide) rfl ?_
      refine im_iconst X 0 dX10_ways_264 (by decide) ?_
      refine im_istore X [1, 2, 3, 4, 0] [(0, .ref (aM 0)), (1, .int x1), (3, .long x3_261), (5, .long 0), (7, .int 0)] dX10_ways_265 (by decide) rfl ?_
      refine i_X10_ways_267 X F aM M LM_261 x1 x3_261 _ (fun x5_331 => ?_) F 0 0
      refine im_lload X 0 dX10_ways_331 rfl ?_
      exact im_lreturn X (x5_331, LM_261) rfl rfl dX10_ways_333
    · refine im_ldc2 X kc_X10_219 dX10_ways_12 ?_
      exact im_lreturn X ((-1), LM) rfl rfl dX10_ways_15
theorem c_X10_ways (l : Launch) (D : va_G) (ct : im_ct) (F : Nat) (aM : Nat → Nat) (M : Mem) (LM : MemL) (x1 : Int32) (x2 : Int32) : CMl l D ct yX10_ways cX10_ways 14 (some .long) 2 [.ref (aM 0), .int x1, .int x2] (cat [w_Model ct aM M LM]) (f_X10_ways F M LM x1 x2) (fun z : Int64 × MemL => z.1) (fun z : Int64 × MemL => (cat [w_Model ct aM M z.2])) :=
  im_met (Qb := fun A => QL D A (fun z : Int64 × MemL => z.1) (fun z : Int64 × MemL => (cat [w_Model ct aM M z.2]))) (by decide +kernel) (Nat.le_of_ble_eq_true rfl) (fun p e s m args below meth c A X => i_X10_ways X F aM M LM x1 x2)

noncomputable def f_X10_taken_31 (F : Nat) (LM : MemL) (x1 : Int32) (x2 : Int32) (x3 : Int32) (k70 : Mem → Option (Int32 × Mem × MemL)) : Nat → Mem → Int32 → Option (Int32 × Mem × MemL)
  | 0, _, _ => none
  | n + 1, M, x4 =>
  ck 0 226 ((if ((M 1) (0 : Int32).toNatClampNeg) ≤ x4 then k70 M else ck x4 6 ((f_X10_now F (mr M 9 (upd (M 9) x4.toNatClampNeg 0)) LM x1 x4).bind (fun z60 => ck x4 6 (f_X10_taken_31 F LM x1 x2 x3 k70 n (mr (mr M 9 (upd (M 9) x4.toNatClampNeg 0)) 10 (upd (M 10) x4.toNatClampNeg z60)) (x4 + 1))))))
set_option maxRecDepth 100000 in
set_option maxHeartbeats 4000000 in
theorem i_X10_taken_31 {p : Program} {l : Launch} {e : Env} {s : State} {m : MethodId} {args : Array Value} {below : List Frame} {meth : Method} {c : Code} {D : va_G} {ct : im_ct} {A : Nat → Prop} (X : im_X p (im_rm 3) s m args meth c D ct A RX10 cX10_taken 5 (some .int)) (F : Nat) (aM : Nat → Nat) (LM : MemL) (x1 : Int32) (x2 : Int32) (x3 : Int32) (k70 : Mem → Option (Int32 × Mem × MemL)) (hk70 : ∀ (M : Mem), Im p l e (im_rm 3) s m args below meth c D A 5 (QI D A (fun z : Int32 × Mem × MemL => z.1) (fun z : Int32 × Mem × MemL => (cat [w_Model ct aM z.2.1 z.2.2]))) 70 [(0, .ref (aM 0)), (2, .int x2), (3, .int x3)] [] (cat [w_Model ct aM M LM]) (k70 M)) : ∀ (n : Nat) (M : Mem) (x4 : Int32), Im p l e (im_rm 3) s m args below meth c D A 5 (QI D A (fun z : Int32 × Mem × MemL => z.1) (fun z : Int32 × Mem × MemL => (cat [w_Model ct aM z.2.1 z.2.2]))) 31 [(0, .ref (aM 0)), (1, .int x1), (2, .int x2), (3, .int x3), (4, .int x4)] [] (cat [w_Model ct aM M LM]) (f_X10_taken_31 F LM x1 x2 x3 k70 n M x4) := by
  intro n
  induction n with
  | zero => intros; exact im_none
  | succ n ih =>
    intro M x4
    unfold f_X10_taken_31
    refine im_iload X 4 dX10_taken_31 rfl ?_
    refine im_aload_n X 0 dX10_taken_33 rfl rfl ?_
    refine im_cget X 0 0 (v := .ref (aM 1)) fl_X10_13 rfl rfl rfl dX10_taken_34 ?_
    refine im_iconst X 0 dX10_taken_37 (by decide) ?_
    refine im_ciald X 0 1 0 (f := (M 1)) rfl rfl rfl dX10_taken_38 ?_
    refine im_icmp_ge (tgt := 70) X dX10_taken_39 rfl ?_ ?_
    · refine im_lv [0, 2, 3] [(0, .ref (aM 0)), (2, .int x2), (3, .int x3)] rfl ?_
      exact hk70 M
    · refine im_aload_n X 0 dX10_taken_42 rfl rfl ?_
      refine im_cget X 0 0 (v := .ref (aM 9)) fl_X10_39 rfl rfl rfl dX10_taken_43 ?_
      refine im_iload X 4 dX10_taken_46 rfl ?_
      refine im_iconst X 0 dX10_taken_48 (by decide) ?_
      refine im_ciast X 0 9 0 (wx_Model ct aM (M 0 0) (M 0 4) (M 0 6) (M 0 7) (M 0 8) (M 0 9) (M 0 24) (M 0 27) (M 0 29) (M 0 31) (M 0 32) (M 0 33) (M 0 34) (M 0 35) (M 1) (M 2) (M 3) (M 4) (M 5) (upd (M 9) x4.toNatClampNeg 0) (M 10) (M 11) (M 12) (M 13) (M 14) (M 15) (M 16) (M 17) (M 18) (M 19) (M 20) (M 21) (M 22) (LM 6) (LM 7) (LM 8)) [wx_Model ct aM (M 0 0) (M 0 4) (M 0 6) (M 0 7) (M 0 8) (M 0 9) (M 0 24) (M 0 27) (M 0 29) (M 0 31) (M 0 32) (M 0 33) (M 0 34) (M 0 35) (M 1) (M 2) (M 3) (M 4) (M 5) (upd (M 9) x4.toNatClampNeg 0) (M 10) (M 11) (M 12) (M 13) (M 14) (M 15) (M 16) (M 17) (M 18) (M 19) (M 20) (M 21) (M 22) (LM 6) (LM 7) (LM 8)] (f := (M 9)) rfl rfl rfl rfl rfl dX10_taken_49 ?_
      refine im_aload_n X 0 dX10_taken_50 rfl rfl ?_
      refine im_cget X 0 0 (v := .ref (aM 10)) fl_X10_42 rfl rfl rfl dX10_taken_51 ?_
      refine im_iload X 4 dX10_taken_54 rfl ?_
      refine im_aload_n X 0 dX10_taken_56 rfl rfl ?_
      refine im_iload_n X 1 dX10_taken_57 rfl rfl ?_
      refine im_iload X 4 dX10_taken_58 rfl ?_
      refine im_cciV X [.int x1, .int x4] [.int x4, .ref (aM 10)] [wx_Model ct aM (M 0 0) (M 0 4) (M 0 6) (M 0 7) (M 0 8) (M 0 9) (M 0 24) (M 0 27) (M 0 29) (M 0 31) (M 0 32) (M 0 33) (M 0 34) (M 0 35) (M 1) (M 2) (M 3) (M 4) (M 5) (upd (M 9) x4.toNatClampNeg 0) (M 10) (M 11) (M 12) (M 13) (M 14) (M 15) (M 16) (M 17) (M 18) (M 19) (M 20) (M 21) (M 22) (LM 6) (LM 7) (LM 8)] [w_Model ct aM (mr M 9 (upd (M 9) x4.toNatClampNeg 0)) LM] [0] (fun z60 => [w_Model ct aM (mr M 9 (upd (M 9) x4.toNatClampNeg 0)) LM]) 0 0 10 rfl rfl rfl cl_X10_105 (c_X10_now l D ct F aM (mr M 9 (upd (M 9) x4.toNatClampNeg 0)) LM x1 x4) rfl (by decide) (fun _ => lc rfl (rfl)) rfl ⟨by decide, by decide⟩ (Nat.le_of_ble_eq_true rfl) rfl dX10_taken_60 (fun z60 => ?_)
      refine im_ws (cat [wx_Model ct aM (M 0 0) (M 0 4) (M 0 6) (M 0 7) (M 0 8) (M 0 9) (M 0 24) (M 0 27) (M 0 29) (M 0 31) (M 0 32) (M 0 33) (M 0 34) (M 0 35) (M 1) (M 2) (M 3) (M 4) (M 5) (upd (M 9) x4.toNatClampNeg 0) (M 10) (M 11) (M 12) (M 13) (M 14) (M 15) (M 16) (M 17) (M 18) (M 19) (M 20) (M 21) (M 22) (LM 6) (LM 7) (LM 8)]) rfl ?_
      refine im_ciast X 0 10 0 (wx_Model ct aM (M 0 0) (M 0 4) (M 0 6) (M 0 7) (M 0 8) (M 0 9) (M 0 24) (M 0 27) (M 0 29) (M 0 31) (M 0 32) (M 0 33) (M 0 34) (M 0 35) (M 1) (M 2) (M 3) (M 4) (M 5) (upd (M 9) x4.toNatClampNeg 0) (upd (M 10) x4.toNatClampNeg z60) (M 11) (M 12) (M 13) (M 14) (M 15) (M 16) (M 17) (M 18) (M 19) (M 20) (M 21) (M 22) (LM 6) (LM 7) (LM 8)) [wx_Model ct aM (M 0 0) (M 0 4) (M 0 6) (M 0 7) (M 0 8) (M 0 9) (M 0 24) (M 0 27) (M 0 29) (M 0 31) (M 0 32) (M 0 33) (M 0 34) (M 0 35) (M 1) (M 2) (M 3) (M 4) (M 5) (upd (M 9) x4.toNatClampNeg 0) (upd (M 10) x4.toNatClampNeg z60) (M 11) (M 12) (M 13) (M 14) (M 15) (M 16) (M 17) (M 18) (M 19) (M 20) (M 21) (M 22) (LM 6) (LM 7) (LM 8)] (f := (M 10)) rfl rfl rfl rfl rfl dX10_taken_63 ?_
      refine im_iinc X 4 1 [1, 2, 3, 4, 0] [(0, .ref (aM 0)), (1, .int x1), (2, .int x2), (3, .int x3), (4, .int (x4 + 1))] dX10_taken_64 (by decide) rfl (by decide) rfl ?_
      refine im_goto (tgt := 31) X dX10_taken_67 rfl ?_
      exact ih (mr (mr M 9 (upd (M 9) x4.toNatClampNeg 0)) 10 (upd (M 10) x4.toNatClampNeg z60)) (x4 + 1)
noncomputable def f_X10_taken (F : Nat) (M : Mem) (LM : MemL) (x1 : Int32) (x2 : Int32) (x3 : Int32) : Option (Int32 × Mem × MemL) :=
  (f_X10_isRow F M LM x1).bind (fun z2 => (if z2 = 0 then (some ((-3), M, LM)) else (if x2 < 0 then (some ((-3), M, LM)) else (if x3 = (-1) then f_X10_taken_31 F LM x1 x2 x3 (fun M_70 => (f_X10_fewest F M_70 LM (x2).toInt64).bind (fun z73 => (if z73.1 = (-2) then (some (z73.1, z73.2.1, z73.2.2)) else (if x3 = (-1) then (some (z73.1, z73.2.1, z73.2.2)) else ck x3 6 ((some (((z73.2.1 11) x3.toNatClampNeg), z73.2.1, z73.2.2))))))) F M 0 else (f_X10_isColumn F M LM x3).bind (fun z19 => (if z19 = 0 then (some ((-3), M, LM)) else f_X10_taken_31 F LM x1 x2 x3 (fun M_70 => (f_X10_fewest F M_70 LM (x2).toInt64).bind (fun z73 => (if z73.1 = (-2) then (some (z73.1, z73.2.1, z73.2.2)) else (if x3 = (-1) then (some (z73.1, z73.2.1, z73.2.2)) else ck x3 6 ((some (((z73.2.1 11) x3.toNatClampNeg), z73.2.1, z73.2.2))))))) F M 0))))))
set_option maxRecDepth 100000 in
set_option maxHeartbeats 4000000 in
theorem i_X10_taken {p : Program} {l : Launch} {e : Env} {s : State} {m : MethodId} {args : Array Value} {below : List Frame} {meth : Method} {c : Code} {D : va_G} {ct : im_ct} {A : Nat → Prop} (X : im_X p (im_rm 3) s m args meth c D ct A RX10 cX10_taken 5 (some .int)) (F : Nat) (aM : Nat → Nat) (M : Mem) (LM : MemL) (x1 : Int32) (x2 : Int32) (x3 : Int32) : Im p l e (im_rm 3) s m args below meth c D A 5 (QI D A (fun z : Int32 × Mem × MemL => z.1) (fun z : Int32 × Mem × MemL => (cat [w_Model ct aM z.2.1 z.2.2]))) 0 [(0, .ref (aM 0)), (1, .int x1), (2, .int x2), (3, .int x3)] [] (cat [w_Model ct aM M LM]) (f_X10_taken F M LM x1 x2 x3) := by
  unfold f_X10_taken
  refine im_aload_n X 0 dX10_taken_0 rfl rfl ?_
  refine im_iload_n X 1 dX10_taken_1 rfl rfl ?_
  refine im_cciV X [.int x1] [] [w_Model ct aM M LM] [w_Model ct aM M LM] [0] (fun z2 => [w_Model ct aM M LM]) 0 0 10 rfl rfl rfl cl_X10_90 (c_X10_isRow l D ct F aM M LM x1) rfl (by decide) (fun _ => lc rfl (rfl)) rfl ⟨by decide, by decide⟩ (Nat.le_of_ble_eq_true rfl) rfl dX10_taken_2 (fun z2 => ?_)
  refine im_ws (cat [w_Model ct aM M LM]) rfl ?_
  refine im_if_eq (tgt := 25) X dX10_taken_5 rfl ?_ ?_
  · refine im_bipush X (-3) dX10_taken_25 (by decide) ?_
    exact im_ireturn X ((-3), M, LM) rfl rfl dX10_taken_27
  · refine im_iload_n X 2 dX10_taken_8 rfl rfl ?_
    refine im_if_lt (tgt := 25) X dX10_taken_9 rfl ?_ ?_
    · refine im_bipush X (-3) dX10_taken_25 (by decide) ?_
      exact im_ireturn X ((-3), M, LM) rfl rfl dX10_taken_27
    · refine im_iload_n X 3 dX10_taken_12 rfl rfl ?_
      refine im_iconst X (-1) dX10_taken_13 (by decide) ?_
      refine im_icmp_eq (tgt := 28) X dX10_taken_14 rfl ?_ ?_
      · refine im_iconst X 0 dX10_taken_28 (by decide) ?_
        refine im_istore X [1, 2, 3, 4, 0] [(0, .ref (aM 0)), (1, .int x1), (2, .int x2), (3, .int x3), (4, .int 0)] dX10_taken_29 (by decide) rfl ?_
        refine i_X10_taken_31 X F aM LM x1 x2 x3 _ (fun M_70 => ?_) F M 0
        refine im_aload_n X 0 dX10_taken_70 rfl rfl ?_
        refine im_iload_n X 1 dX10_taken_71 rfl rfl ?_
        refine im_i2l X dX10_taken_72 ?_
        refine im_cciV X [.long (x2).toInt64] [] [w_Model ct aM M_70 LM] [w_Model ct aM M_70 LM] [0] (fun z73 => [w_Model ct aM z73.2.1 z73.2.2]) 0 0 10 rfl rfl rfl cl_X10_236 (c_X10_fewest l D ct F aM M_70 LM (x2).toInt64) rfl (by decide) (fun _ => lc fa_Model (rfl)) rfl ⟨by decide, by decide⟩ (Nat.le_of_ble_eq_true rfl) rfl dX10_taken_73 (fun z73 => ?_)
        refine im_ws (cat [w_Model ct aM z73.2.1 z73.2.2]) rfl ?_
        refine im_istore X [1, 2, 3, 0] [(0, .ref (aM 0)), (2, .int x2), (3, .int x3), (4, .int z73.1)] dX10_taken_76 (by decide) rfl ?_
        refine im_iload X 3 dX10_taken_78 rfl ?_
        refine im_bipush X (-2) dX10_taken_80 (by decide) ?_
        refine im_icmp_eq (tgt := 90) X dX10_taken_82 rfl ?_ ?_
        · refine im_iload X 3 dX10_taken_90 rfl ?_
          refine im_goto (tgt := 101) X dX10_taken_92 rfl ?_
          exact im_ireturn X (z73.1, z73.2.1, z73.2.2) rfl rfl dX10_taken_101
        · refine im_iload_n X 2 dX10_taken_85 rfl rfl ?_
          refine im_iconst X (-1) dX10_taken_86 (by decide) ?_
          refine im_icmp_ne (tgt := 95) X dX10_taken_87 rfl ?_ ?_
          · refine im_aload_n X 0 dX10_taken_95 rfl rfl ?_
            refine im_cget X 0 0 (v := .ref (aM 11)) fl_X10_45 rfl rfl rfl dX10_taken_96 ?_
            refine im_iload_n X 2 dX10_taken_99 rfl rfl ?_
            refine im_ciald X 0 11 0 (f := (z73.2.1 11)) rfl rfl rfl dX10_taken_100 ?_
            exact im_ireturn X (((z73.2.1 11) x3.toNatClampNeg), z73.2.1, z73.2.2) rfl rfl dX10_taken_101
          · refine im_iload X 3 dX10_taken_90 rfl ?_
            refine im_goto (tgt := 101) X dX10_taken_92 rfl ?_
            exact im_ireturn X (z73.1, z73.2.1, z73.2.2) rfl rfl dX10_taken_101
      · refine im_aload_n X 0 dX10_taken_17 rfl rfl ?_
        refine im_iload_n X 3 dX10_taken_18 rfl rfl ?_
        refine im_cciV X [.int x3] [] [w_Model ct aM M LM] [w_Model ct aM M LM] [0] (fun z19 => [w_Model ct aM M LM]) 0 0 10 rfl rfl rfl cl_X10_94 (c_X10_isColumn l D ct F aM M LM x3) rfl (by decide) (fun _ => lc rfl (rfl)) rfl ⟨by decide, by decide⟩ (Nat.le_of_ble_eq_true rfl) rfl dX10_taken_19 (fun z19 => ?_)
        refine im_ws (cat [w_Model ct aM M LM]) rfl ?_
        refine im_if_ne (tgt := 28) X dX10_taken_22 rfl ?_ ?_
        · refine im_iconst X 0 dX10_taken_28 (by decide) ?_
          refine im_istore X [1, 2, 3, 4, 0] [(0, .ref (aM 0)), (1, .int x1), (2, .int x2), (3, .int x3), (4, .int 0)] dX10_taken_29 (by decide) rfl ?_
          refine i_X10_taken_31 X F aM LM x1 x2 x3 _ (fun M_70 => ?_) F M 0
          refine im_aload_n X 0 dX10_taken_70 rfl rfl ?_
          refine im_iload_n X 1 dX10_taken_71 rfl rfl ?_
          refine im_i2l X dX10_taken_72 ?_
          refine im_cciV X [.long (x2).toInt64] [] [w_Model ct aM M_70 LM] [w_Model ct aM M_70 LM] [0] (fun z73 => [w_Model ct aM z73.2.1 z73.2.2]) 0 0 10 rfl rfl rfl cl_X10_236 (c_X10_fewest l D ct F aM M_70 LM (x2).toInt64) rfl (by decide) (fun _ => lc fa_Model (rfl)) rfl ⟨by decide, by decide⟩ (Nat.le_of_ble_eq_true rfl) rfl dX10_taken_73 (fun z73 => ?_)
          refine im_ws (cat [w_Model ct aM z73.2.1 z73.2.2]) rfl ?_
          refine im_istore X [1, 2, 3, 0] [(0, .ref (aM 0)), (2, .int x2), (3, .int x3), (4, .int z73.1)] dX10_taken_76 (by decide) rfl ?_
          refine im_iload X 3 dX10_taken_78 rfl ?_
          refine im_bipush X (-2) dX10_taken_80 (by decide) ?_
          refine im_icmp_eq (tgt := 90) X dX10_taken_82 rfl ?_ ?_
          · refine im_iload X 3 dX10_taken_90 rfl ?_
            refine im_goto (tgt := 101) X dX10_taken_92 rfl ?_
            exact im_ireturn X (z73.1, z73.2.1, z73.2.2) rfl rfl dX10_taken_101
          · refine im_iload_n X 2 dX10_taken_85 rfl rfl ?_
            refine im_iconst X (-1) dX10_taken_86 (by decide) ?_
            refine im_icmp_ne (tgt := 95) X dX10_taken_87 rfl ?_ ?_
            · refine im_aload_n X 0 dX10_taken_95 rfl rfl ?_
              refine im_cget X 0 0 (v := .ref (aM 11)) fl_X10_45 rfl rfl rfl dX10_taken_96 ?_
              refine im_iload_n X 2 dX10_taken_99 rfl rfl ?_
              refine im_ciald X 0 11 0 (f := (z73.2.1 11)) rfl rfl rfl dX10_taken_100 ?_
              exact im_ireturn X (((z73.2.1 11) x3.toNatClampNeg), z73.2.1, z73.2.2) rfl rfl dX10_taken_101
            · refine im_iload X 3 dX10_taken_90 rfl ?_
              refine im_goto (tgt := 101) X dX10_taken_92 rfl ?_
              exact im_ireturn X (z73.1, z73.2.1, z73.2.2) rfl rfl dX10_taken_101
        · refine im_bipush X (-3) dX10_taken_25 (by decide) ?_
          exact im_ireturn X ((-3), M, LM) rfl rfl dX10_taken_27
theorem c_X10_taken (l : Launch) (D : va_G) (ct : im_ct) (F : Nat) (aM : Nat → Nat) (M : Mem) (LM : MemL) (x1 : Int32) (x2 : Int32) (x3 : Int32) : CMi l D ct yX10_taken cX10_taken 5 (some .int) 3 [.ref (aM 0), .int x1, .int x2, .int x3] (cat [w_Model ct aM M LM]) (f_X10_taken F M LM x1 x2 x3) (fun z : Int32 × Mem × MemL => z.1) (fun z : Int32 × Mem × MemL => (cat [w_Model ct aM z.2.1 z.2.2])) :=
  im_met (Qb := fun A => QI D A (fun z : Int32 × Mem × MemL => z.1) (fun z : Int32 × Mem × MemL => (cat [w_Model ct aM z.2.1 z.2.2]))) (by decide +kernel) (Nat.le_of_ble_eq_true rfl) (fun p e s m args below meth c A X => i_X10_taken X F aM M LM x1 x2 x3)

noncomputable def f_X10_pays (F : Nat) (M : Mem) (LM : MemL) (x1 : Int32) (x2 : Int32) (x3 : Int32) : Option (Int32 × Mem × MemL) :=
  (f_X10_canPay F M LM x1 x2 x3).bind (fun z4 => (if z4 = 0 then (some ((-1), M, LM)) else (f_X10_payment F M LM x1 x2 x3).bind (fun z14 => (some (z14.1, z14.2.1, z14.2.2)))))
set_option maxRecDepth 100000 in
set_option maxHeartbeats 4000000 in
theorem i_X10_pays {p : Program} {l : Launch} {e : Env} {s : State} {m : MethodId} {args : Array Value} {below : List Frame} {meth : Method} {c : Code} {D : va_G} {ct : im_ct} {A : Nat → Prop} (X : im_X p (im_rm 4) s m args meth c D ct A RX10 cX10_pays 4 (some .int)) (F : Nat) (aM : Nat → Nat) (M : Mem) (LM : MemL) (x1 : Int32) (x2 : Int32) (x3 : Int32) : Im p l e (im_rm 4) s m args below meth c D A 4 (QI D A (fun z : Int32 × Mem × MemL => z.1) (fun z : Int32 × Mem × MemL => (cat [w_Model ct aM z.2.1 z.2.2]))) 0 [(0, .ref (aM 0)), (1, .int x1), (2, .int x2), (3, .int x3)] [] (cat [w_Model ct aM M LM]) (f_X10_pays F M LM x1 x2 x3) := by
  unfold f_X10_pays
  refine im_aload_n X 0 dX10_pays_0 rfl rfl ?_
  refine im_iload_n X 1 dX10_pays_1 rfl rfl ?_
  refine im_iload_n X 2 dX10_pays_2 rfl rfl ?_
  refine im_iload_n X 3 dX10_pays_3 rfl rfl ?_
  refine im_cciV X [.int x1, .int x2, .int x3] [] [w_Model ct aM M LM] [w_Model ct aM M LM] [0] (fun z4 => [w_Model ct aM M LM]) 0 0 10 rfl rfl rfl cl_X10_205 (c_X10_canPay l D ct F aM M LM x1 x2 x3) rfl (by decide) (fun _ => lc rfl (rfl)) rfl ⟨by decide, by decide⟩ (Nat.le_of_ble_eq_true rfl) rfl dX10_pays_4 (fun z4 => ?_)
  refine im_ws (cat [w_Model ct aM M LM]) rfl ?_
  refine im_if_eq (tgt := 20) X dX10_pays_7 rfl ?_ ?_
  · refine im_iconst X (-1) dX10_pays_20 (by decide) ?_
    exact im_ireturn X ((-1), M, LM) rfl rfl dX10_pays_21
  · refine im_aload_n X 0 dX10_pays_10 rfl rfl ?_
    refine im_iload_n X 1 dX10_pays_11 rfl rfl ?_
    refine im_iload_n X 2 dX10_pays_12 rfl rfl ?_
    refine im_iload_n X 3 dX10_pays_13 rfl rfl ?_
    refine im_cciV X [.int x1, .int x2, .int x3] [] [w_Model ct aM M LM] [w_Model ct aM M LM] [0] (fun z14 => [w_Model ct aM z14.2.1 z14.2.2]) 0 0 10 rfl rfl rfl cl_X10_209 (c_X10_payment l D ct F aM M LM x1 x2 x3) rfl (by decide) (fun _ => lc fa_Model (rfl)) rfl ⟨by decide, by decide⟩ (Nat.le_of_ble_eq_true rfl) rfl dX10_pays_14 (fun z14 => ?_)
    refine im_ws (cat [w_Model ct aM z14.2.1 z14.2.2]) rfl ?_
    refine im_goto (tgt := 21) X dX10_pays_17 rfl ?_
    exact im_ireturn X (z14.1, z14.2.1, z14.2.2) rfl rfl dX10_pays_21
theorem c_X10_pays (l : Launch) (D : va_G) (ct : im_ct) (F : Nat) (aM : Nat → Nat) (M : Mem) (LM : MemL) (x1 : Int32) (x2 : Int32) (x3 : Int32) : CMi l D ct yX10_pays cX10_pays 4 (some .int) 4 [.ref (aM 0), .int x1, .int x2, .int x3] (cat [w_Model ct aM M LM]) (f_X10_pays F M LM x1 x2 x3) (fun z : Int32 × Mem × MemL => z.1) (fun z : Int32 × Mem × MemL => (cat [w_Model ct aM z.2.1 z.2.2])) :=
  im_met (Qb := fun A => QI D A (fun z : Int32 × Mem × MemL => z.1) (fun z : Int32 × Mem × MemL => (cat [w_Model ct aM z.2.1 z.2.2]))) (by decide +kernel) (Nat.le_of_ble_eq_true rfl) (fun p e s m args below meth c A X => i_X10_pays X F aM M LM x1 x2 x3)

noncomputable def f_X10_paysOf (F : Nat) (M : Mem) (LM : MemL) (x1 : Int32) (x2 : Int32) (x3 : Int32) (x4 : Int32) : Option (Int32 × Mem × MemL) :=
  (f_X10_canPay F M LM x1 x2 x3).bind (fun z4 => (if z4 = 0 then (some ((-1000), M, LM)) else (f_X10_isColumn F M LM x4).bind (fun z13 => (if z13 = 0 then (some ((-1000), M, LM)) else (f_X10_payment F M LM x1 x2 x3).bind (fun z23 => (if z23.1 = (-2) then (some ((-1000), z23.2.1, z23.2.2)) else ck x4 6 ((some (((z23.2.1 11) x4.toNatClampNeg), z23.2.1, z23.2.2)))))))))
set_option maxRecDepth 100000 in
set_option maxHeartbeats 4000000 in
theorem i_X10_paysOf {p : Program} {l : Launch} {e : Env} {s : State} {m : MethodId} {args : Array Value} {below : List Frame} {meth : Method} {c : Code} {D : va_G} {ct : im_ct} {A : Nat → Prop} (X : im_X p (im_rm 4) s m args meth c D ct A RX10 cX10_paysOf 5 (some .int)) (F : Nat) (aM : Nat → Nat) (M : Mem) (LM : MemL) (x1 : Int32) (x2 : Int32) (x3 : Int32) (x4 : Int32) : Im p l e (im_rm 4) s m args below meth c D A 5 (QI D A (fun z : Int32 × Mem × MemL => z.1) (fun z : Int32 × Mem × MemL => (cat [w_Model ct aM z.2.1 z.2.2]))) 0 [(0, .ref (aM 0)), (1, .int x1), (2, .int x2), (3, .int x3), (4, .int x4)] [] (cat [w_Model ct aM M LM]) (f_X10_paysOf F M LM x1 x2 x3 x4) := by
  unfold f_X10_paysOf
  refine im_aload_n X 0 dX10_paysOf_0 rfl rfl ?_
  refine im_iload_n X 1 dX10_paysOf_1 rfl rfl ?_
  refine im_iload_n X 2 dX10_paysOf_2 rfl rfl ?_
  refine im_iload_n X 3 dX10_paysOf_3 rfl rfl ?_
  refine im_cciV X [.int x1, .int x2, .int x3] [] [w_Model ct aM M LM] [w_Model ct aM M LM] [0] (fun z4 => [w_Model ct aM M LM]) 0 0 10 rfl rfl rfl cl_X10_205 (c_X10_canPay l D ct F aM M LM x1 x2 x3) rfl (by decide) (fun _ => lc rfl (rfl)) rfl ⟨by decide, by decide⟩ (Nat.le_of_ble_eq_true rfl) rfl dX10_paysOf_4 (fun z4 => ?_)
  refine im_ws (cat [w_Model ct aM M LM]) rfl ?_
  refine im_if_eq (tgt := 31) X dX10_paysOf_7 rfl ?_ ?_
  · refine im_sipush X (-1000) dX10_paysOf_31 (by decide) ?_
    exact im_ireturn X ((-1000), M, LM) rfl rfl dX10_paysOf_34
  · refine im_aload_n X 0 dX10_paysOf_10 rfl rfl ?_
    refine im_iload X 4 dX10_paysOf_11 rfl ?_
    refine im_cciV X [.int x4] [] [w_Model ct aM M LM] [w_Model ct aM M LM] [0] (fun z13 => [w_Model ct aM M LM]) 0 0 10 rfl rfl rfl cl_X10_94 (c_X10_isColumn l D ct F aM M LM x4) rfl (by decide) (fun _ => lc rfl (rfl)) rfl ⟨by decide, by decide⟩ (Nat.le_of_ble_eq_true rfl) rfl dX10_paysOf_13 (fun z13 => ?_)
    refine im_ws (cat [w_Model ct aM M LM]) rfl ?_
    refine im_if_eq (tgt := 31) X dX10_paysOf_16 rfl ?_ ?_
    · refine im_sipush X (-1000) dX10_paysOf_31 (by decide) ?_
      exact im_ireturn X ((-1000), M, LM) rfl rfl dX10_paysOf_34
    · refine im_aload_n X 0 dX10_paysOf_19 rfl rfl ?_
      refine im_iload_n X 1 dX10_paysOf_20 rfl rfl ?_
      refine im_iload_n X 2 dX10_paysOf_21 rfl rfl ?_
      refine im_iload_n X 3 dX10_paysOf_22 rfl rfl ?_
      refine im_cciV X [.int x1, .int x2, .int x3] [] [w_Model ct aM M LM] [w_Model ct aM M LM] [0] (fun z23 => [w_Model ct aM z23.2.1 z23.2.2]) 0 0 10 rfl rfl rfl cl_X10_209 (c_X10_payment l D ct F aM M LM x1 x2 x3) rfl (by decide) (fun _ => lc fa_Model (rfl)) rfl ⟨by decide, by decide⟩ (Nat.le_of_ble_eq_true rfl) rfl dX10_paysOf_23 (fun z23 => ?_)
      refine im_ws (cat [w_Model ct aM z23.2.1 z23.2.2]) rfl ?_
      refine im_bipush X (-2) dX10_paysOf_26 (by decide) ?_
      refine im_icmp_ne (tgt := 35) X dX10_paysOf_28 rfl ?_ ?_
      · refine im_aload_n X 0 dX10_paysOf_35 rfl rfl ?_
        refine im_cget X 0 0 (v := .ref (aM 11)) fl_X10_45 rfl rfl rfl dX10_paysOf_36 ?_
        refine im_iload X 4 dX10_paysOf_39 rfl ?_
        refine im_ciald X 0 11 0 (f := (z23.2.1 11)) rfl rfl rfl dX10_paysOf_41 ?_
        exact im_ireturn X (((z23.2.1 11) x4.toNatClampNeg), z23.2.1, z23.2.2) rfl rfl dX10_paysOf_42
      · refine im_sipush X (-1000) dX10_paysOf_31 (by decide) ?_
        exact im_ireturn X ((-1000), z23.2.1, z23.2.2) rfl rfl dX10_paysOf_34
theorem c_X10_paysOf (l : Launch) (D : va_G) (ct : im_ct) (F : Nat) (aM : Nat → Nat) (M : Mem) (LM : MemL) (x1 : Int32) (x2 : Int32) (x3 : Int32) (x4 : Int32) : CMi l D ct yX10_paysOf cX10_paysOf 5 (some .int) 4 [.ref (aM 0), .int x1, .int x2, .int x3, .int x4] (cat [w_Model ct aM M LM]) (f_X10_paysOf F M LM x1 x2 x3 x4) (fun z : Int32 × Mem × MemL => z.1) (fun z : Int32 × Mem × MemL => (cat [w_Model ct aM z.2.1 z.2.2])) :=
  im_met (Qb := fun A => QI D A (fun z : Int32 × Mem × MemL => z.1) (fun z : Int32 × Mem × MemL => (cat [w_Model ct aM z.2.1 z.2.2]))) (by decide +kernel) (Nat.le_of_ble_eq_true rfl) (fun p e s m args below meth c A X => i_X10_paysOf X F aM M LM x1 x2 x3 x4)

noncomputable def f_X10_brings (F : Nat) (M : Mem) (LM : MemL) (x1 : Int32) (x2 : Int32) (x3 : Int32) : Option (Mem) :=
  ck ((2 * x1) + x2) 840 ((if ((M 14) (((2 * x1) + x2)).toNatClampNeg) ≤ x3 then (some M) else ck ((2 * x1) + x2) 840 ((some (mr M 14 (upd (M 14) (((2 * x1) + x2)).toNatClampNeg x3))))))
set_option maxRecDepth 100000 in
set_option maxHeartbeats 4000000 in
theorem i_X10_brings {p : Program} {l : Launch} {e : Env} {s : State} {m : MethodId} {args : Array Value} {below : List Frame} {meth : Method} {c : Code} {D : va_G} {ct : im_ct} {A : Nat → Prop} (X : im_X p (im_rm 0) s m args meth c D ct A RX10 cX10_brings 5 none) (F : Nat) (aM : Nat → Nat) (M : Mem) (LM : MemL) (x1 : Int32) (x2 : Int32) (x3 : Int32) : Im p l e (im_rm 0) s m args below meth c D A 5 (QV D A (fun z : Mem => (cat [w_Model ct aM z LM]))) 0 [(0, .ref (aM 0)), (1, .int x1), (2, .int x2), (3, .int x3)] [] (cat [w_Model ct aM M LM]) (f_X10_brings F M LM x1 x2 x3) := by
  unfold f_X10_brings
  refine im_iconst X 2 dX10_brings_0 (by decide) ?_
  refine im_iload_n X 1 dX10_brings_1 rfl rfl ?_
  refine im_imul X dX10_brings_2 ?_
  refine im_iload_n X 2 dX10_brings_3 rfl rfl ?_
  refine im_iadd X dX10_brings_4 ?_
  refine im_istore X [1, 2, 3, 4, 0] [(0, .ref (aM 0)), (1, .int x1), (2, .int x2), (3, .int x3), (4, .int ((2 * x1) + x2))] dX10_brings_5 (by decide) rfl ?_
  refine im_iload_n X 3 dX10_brings_7 rfl rfl ?_
  refine im_aload_n X 0 dX10_brings_8 rfl rfl ?_
  refine im_cget X 0 0 (v := .ref (aM 14)) fl_X10_54 rfl rfl rfl dX10_brings_9 ?_
  refine im_iload X 4 dX10_brings_12 rfl ?_
  refine im_ciald X 0 14 0 (f := (M 14)) rfl rfl rfl dX10_brings_14 ?_
  refine im_icmp_ge (tgt := 26) X dX10_brings_15 rfl ?_ ?_
  · exact im_return X M rfl dX10_brings_26
  · refine im_aload_n X 0 dX10_brings_18 rfl rfl ?_
    refine im_cget X 0 0 (v := .ref (aM 14)) fl_X10_54 rfl rfl rfl dX10_brings_19 ?_
    refine im_iload X 4 dX10_brings_22 rfl ?_
    refine im_iload_n X 3 dX10_brings_24 rfl rfl ?_
    refine im_ciast X 0 14 0 (wx_Model ct aM (M 0 0) (M 0 4) (M 0 6) (M 0 7) (M 0 8) (M 0 9) (M 0 24) (M 0 27) (M 0 29) (M 0 31) (M 0 32) (M 0 33) (M 0 34) (M 0 35) (M 1) (M 2) (M 3) (M 4) (M 5) (M 9) (M 10) (M 11) (M 12) (M 13) (upd (M 14) (((2 * x1) + x2)).toNatClampNeg x3) (M 15) (M 16) (M 17) (M 18) (M 19) (M 20) (M 21) (M 22) (LM 6) (LM 7) (LM 8)) [wx_Model ct aM (M 0 0) (M 0 4) (M 0 6) (M 0 7) (M 0 8) (M 0 9) (M 0 24) (M 0 27) (M 0 29) (M 0 31) (M 0 32) (M 0 33) (M 0 34) (M 0 35) (M 1) (M 2) (M 3) (M 4) (M 5) (M 9) (M 10) (M 11) (M 12) (M 13) (upd (M 14) (((2 * x1) + x2)).toNatClampNeg x3) (M 15) (M 16) (M 17) (M 18) (M 19) (M 20) (M 21) (M 22) (LM 6) (LM 7) (LM 8)] (f := (M 14)) rfl rfl rfl rfl rfl dX10_brings_25 ?_
    exact im_return X (mr M 14 (upd (M 14) (((2 * x1) + x2)).toNatClampNeg x3)) rfl dX10_brings_26
theorem c_X10_brings (l : Launch) (D : va_G) (ct : im_ct) (F : Nat) (aM : Nat → Nat) (M : Mem) (LM : MemL) (x1 : Int32) (x2 : Int32) (x3 : Int32) : CMv l D ct yX10_brings cX10_brings 5 none 0 [.ref (aM 0), .int x1, .int x2, .int x3] (cat [w_Model ct aM M LM]) (f_X10_brings F M LM x1 x2 x3) (fun z : Mem => (cat [w_Model ct aM z LM])) :=
  im_met (Qb := fun A => QV D A (fun z : Mem => (cat [w_Model ct aM z LM]))) (by decide +kernel) (Nat.le_of_ble_eq_true rfl) (fun p e s m args below meth c A X => i_X10_brings X F aM M LM x1 x2 x3)

noncomputable def f_X10_breaksOn_96 (F : Nat) (LM : MemL) (x5 : Int64) (x9 : Int32) (x10 : Int64) (x12 : Int32) (x13 : Int32) (k144 : Mem → Option (Mem)) : Nat → Mem → Int64 → Option (Mem)
  | 0, _, _ => none
  | n + 1, M, x14 =>
  (if 0 < (lg_cmp x14 (x13).toInt64) then k144 M else (if 0 < (lg_cmp x14 x10) then k144 M else dvL (x12).toInt64 ((f_X10_brings F M LM ((x5 - ((x10 - x14) / (x12).toInt64))).toInt32 0 x9).bind (fun z130 => f_X10_breaksOn_96 F LM x5 x9 x10 x12 x13 k144 n z130 (x14 + (x12).toInt64)))))
set_option maxRecDepth 100000 in
set_option maxHeartbeats 4000000 in
theorem i_X10_breaksOn_96 {p : Program} {l : Launch} {e : Env} {s : State} {m : MethodId} {args : Array Value} {below : List Frame} {meth : Method} {c : Code} {D : va_G} {ct : im_ct} {A : Nat → Prop} (X : im_X p (im_rm 2) s m args meth c D ct A RX10 cX10_breaksOn 16 none) (F : Nat) (aM : Nat → Nat) (LM : MemL) (x5 : Int64) (x9 : Int32) (x10 : Int64) (x12 : Int32) (x13 : Int32) (k144 : Mem → Option (Mem)) (hk144 : ∀ (M : Mem), Im p l e (im_rm 2) s m args below meth c D A 16 (QV D A (fun z : Mem => (cat [w_Model ct aM z LM]))) 144 [] [] (cat [w_Model ct aM M LM]) (k144 M)) : ∀ (n : Nat) (M : Mem) (x14 : Int64), Im p l e (im_rm 2) s m args below meth c D A 16 (QV D A (fun z : Mem => (cat [w_Model ct aM z LM]))) 96 [(0, .ref (aM 0)), (5, .long x5), (9, .int x9), (10, .long x10), (12, .int x12), (13, .int x13), (14, .long x14)] [] (cat [w_Model ct aM M LM]) (f_X10_breaksOn_96 F LM x5 x9 x10 x12 x13 k144 n M x14) := by
  intro n
  induction n with
  | zero => intros; exact im_none
  | succ n ih =>
    intro M x14
    unfold f_X10_breaksOn_96
    refine im_lload X 6 dX10_breaksOn_96 rfl ?_
    refine im_iload X 5 dX10_breaksOn_98 rfl ?_
    refine im_i2l X dX10_breaksOn_100 ?_
    refine im_lcmp X dX10_breaksOn_101 ?_
    refine im_if_gt (tgt := 144) X dX10_breaksOn_102 rfl ?_ ?_
    · refine im_lv [] [] rfl ?_
      exact hk144 M
    · refine im_lload X 6 dX10_breaksOn_105 rfl ?_
      refine im_lload X 3 dX10_breaksOn_107 rfl ?_
      refine im_lcmp X dX10_breaksOn_109 ?_
      refine im_if_gt (tgt := 144) X dX10_breaksOn_110 rfl ?_ ?_
      · refine im_lv [] [] rfl ?_
        exact hk144 M
      · refine im_aload_n X 0 dX10_breaksOn_113 rfl rfl ?_
        refine im_lload X 1 dX10_breaksOn_114 rfl ?_
        refine im_lload X 3 dX10_breaksOn_116 rfl ?_
        refine im_lload X 6 dX10_breaksOn_118 rfl ?_
        refine im_lsub X dX10_breaksOn_120 ?_
        refine im_iload X 4 dX10_breaksOn_121 rfl ?_
        refine im_i2l X dX10_breaksOn_123 ?_
        refine im_ldiv X dX10_breaksOn_124 ?_
        refine im_lsub X dX10_breaksOn_125 ?_
        refine im_l2i X dX10_breaksOn_126 ?_
        refine im_iconst X 0 dX10_breaksOn_127 (by decide) ?_
        refine im_iload X 2 dX10_breaksOn_128 rfl ?_
        refine im_ccvV X [.int ((x5 - ((x10 - x14) / (x12).toInt64))).toInt32, .int 0, .int x9] [] [w_Model ct aM M LM] [w_Model ct aM M LM] [0] (fun z130 => [w_Model ct aM z130 LM]) 0 0 10 rfl rfl rfl cl_X10_243 (c_X10_brings l D ct F aM M LM ((x5 - ((x10 - x14) / (x12).toInt64))).toInt32 0 x9) rfl (by decide) (fun _ => lc fa_Model (rfl)) rfl ⟨by decide, by decide⟩ (Nat.le_of_ble_eq_true rfl) rfl dX10_breaksOn_130 (fun z130 => ?_)
        refine im_ws (cat [w_Model ct aM z130 LM]) rfl ?_
        refine im_lload X 6 dX10_breaksOn_133 rfl ?_
        refine im_iload X 4 dX10_breaksOn_135 rfl ?_
        refine im_i2l X dX10_breaksOn_137 ?_
        refine im_ladd X dX10_breaksOn_138 ?_
        refine im_lstore X [1, 2, 3, 4, 5, 6, 0] [(0, .ref (aM 0)), (5, .long x5), (9, .int x9), (10, .long x10), (12, .int x12), (13, .int x13), (14, .long (x14 + (x12).toInt64))] dX10_breaksOn_139 (by decide) rfl ?_
        refine im_goto (tgt := 96) X dX10_breaksOn_141 rfl ?_
        exact ih z130 (x14 + (x12).toInt64)
noncomputable def f_X10_breaksOn (F : Nat) (M : Mem) (LM : MemL) (x1 : Int32) (x2 : Int32) (x3 : Int64) (x5 : Int64) (x7 : Int32) (x8 : Int32) : Option (Mem) :=
  ck ((2 * x7) + x8) 840 ((if 1000000 ≤ ((M 13) (((2 * x7) + x8)).toNatClampNeg) then (some M) else (if 0 ≤ (lg_cmp (x3 - (x7).toInt64) 0) then (f_X10_ratio F M LM (x2 + 1)).bind (fun z40 => (f_X10_now F M LM x1 x2).bind (fun z48 => dvL (z40).toInt64 ((if (lg_cmp ((x3 - (x7).toInt64) - (x3 - (x7).toInt64) / (z40).toInt64 * (z40).toInt64) ((z48 - x8)).toInt64) ≤ 0 then f_X10_breaksOn_96 F LM x5 ((M 13) (((2 * x7) + x8)).toNatClampNeg) (x3 - (x7).toInt64) z40 (z48 - x8) (fun M_144 => (some M_144)) F M ((x3 - (x7).toInt64) - (x3 - (x7).toInt64) / (z40).toInt64 * (z40).toInt64) else dvL (z40).toInt64 ((f_X10_brings F M LM ((x5 - (((x3 - (x7).toInt64) - ((x3 - (x7).toInt64) - (x3 - (x7).toInt64) / (z40).toInt64 * (z40).toInt64)) / (z40).toInt64))).toInt32 1 (((M 13) (((2 * x7) + x8)).toNatClampNeg) + 1)).bind (fun z92 => (some z92))))))) else (some M))))
set_option maxRecDepth 100000 in
set_option maxHeartbeats 4000000 in
theorem i_X10_breaksOn {p : Program} {l : Launch} {e : Env} {s : State} {m : MethodId} {args : Array Value} {below : List Frame} {meth : Method} {c : Code} {D : va_G} {ct : im_ct} {A : Nat → Prop} (X : im_X p (im_rm 2) s m args meth c D ct A RX10 cX10_breaksOn 16 none) (F : Nat) (aM : Nat → Nat) (M : Mem) (LM : MemL) (x1 : Int32) (x2 : Int32) (x3 : Int64) (x5 : Int64) (x7 : Int32) (x8 : Int32) : Im p l e (im_rm 2) s m args below meth c D A 16 (QV D A (fun z : Mem => (cat [w_Model ct aM z LM]))) 0 [(0, .ref (aM 0)), (1, .int x1), (2, .int x2), (3, .long x3), (5, .long x5), (7, .int x7), (8, .int x8)] [] (cat [w_Model ct aM M LM]) (f_X10_breaksOn F M LM x1 x2 x3 x5 x7 x8) := by
  unfold f_X10_breaksOn
  refine im_aload_n X 0 dX10_breaksOn_0 rfl rfl ?_
  refine im_cget X 0 0 (v := .ref (aM 13)) fl_X10_51 rfl rfl rfl dX10_breaksOn_1 ?_
  refine im_iconst X 2 dX10_breaksOn_4 (by decide) ?_
  refine im_iload X 5 dX10_breaksOn_5 rfl ?_
  refine im_imul X dX10_breaksOn_7 ?_
  refine im_iload X 6 dX10_breaksOn_8 rfl ?_
  refine im_iadd X dX10_breaksOn_10 ?_
  refine im_ciald X 0 13 0 (f := (M 13)) rfl rfl rfl dX10_breaksOn_11 ?_
  refine im_istore X [1, 2, 3, 4, 5, 6, 7, 0] [(0, .ref (aM 0)), (1, .int x1), (2, .int x2), (3, .long x3), (5, .long x5), (7, .int x7), (8, .int x8), (9, .int ((M 13) (((2 * x7) + x8)).toNatClampNeg))] dX10_breaksOn_12 (by decide) rfl ?_
  refine im_lload_n X 3 dX10_breaksOn_14 rfl rfl ?_
  refine im_iload X 5 dX10_breaksOn_15 rfl ?_
  refine im_i2l X dX10_breaksOn_17 ?_
  refine im_lsub X dX10_breaksOn_18 ?_
  refine im_lstore X [1, 2, 3, 4, 5, 6, 7, 8, 0] [(0, .ref (aM 0)), (1, .int x1), (2, .int x2), (3, .long x3), (5, .long x5), (7, .int x7), (8, .int x8), (9, .int ((M 13) (((2 * x7) + x8)).toNatClampNeg)), (10, .long (x3 - (x7).toInt64))] dX10_breaksOn_19 (by decide) rfl ?_
  refine im_iload X 7 dX10_breaksOn_21 rfl ?_
  refine im_ldc X kc_X10_221 dX10_breaksOn_23 ?_
  refine im_icmp_ge (tgt := 35) X dX10_breaksOn_25 rfl ?_ ?_
  · exact im_return X M rfl dX10_breaksOn_35
  · refine im_lload X 8 dX10_breaksOn_28 rfl ?_
    refine im_lconst X 0 dX10_breaksOn_30 (by decide) ?_
    refine im_lcmp X dX10_breaksOn_31 ?_
    refine im_if_ge (tgt := 36) X dX10_breaksOn_32 rfl ?_ ?_
    · refine im_aload_n X 0 dX10_breaksOn_36 rfl rfl ?_
      refine im_iload_n X 2 dX10_breaksOn_37 rfl rfl ?_
      refine im_iconst X 1 dX10_breaksOn_38 (by decide) ?_
      refine im_iadd X dX10_breaksOn_39 ?_
      refine im_cciV X [.int (x2 + 1)] [] [w_Model ct aM M LM] [w_Model ct aM M LM] [0] (fun z40 => [w_Model ct aM M LM]) 0 0 10 rfl rfl rfl cl_X10_97 (c_X10_ratio l D ct F aM M LM (x2 + 1)) rfl (by decide) (fun _ => lc rfl (rfl)) rfl ⟨by decide, by decide⟩ (Nat.le_of_ble_eq_true rfl) rfl dX10_breaksOn_40 (fun z40 => ?_)
      refine im_ws (cat [w_Model ct aM M LM]) rfl ?_
      refine im_istore X [1, 2, 3, 4, 5, 6, 7, 8, 9, 0] [(0, .ref (aM 0)), (1, .int x1), (2, .int x2), (3, .long x3), (5, .long x5), (7, .int x7), (8, .int x8), (9, .int ((M 13) (((2 * x7) + x8)).toNatClampNeg)), (10, .long (x3 - (x7).toInt64)), (12, .int z40)] dX10_breaksOn_43 (by decide) rfl ?_
      refine im_aload_n X 0 dX10_breaksOn_45 rfl rfl ?_
      refine im_iload_n X 1 dX10_breaksOn_46 rfl rfl ?_
      refine im_iload_n X 2 dX10_breaksOn_47 rfl rfl ?_
      refine im_cciV X [.int x1, .int x2] [] [w_Model ct aM M LM] [w_Model ct aM M LM] [0] (fun z48 => [w_Model ct aM M LM]) 0 0 10 rfl rfl rfl cl_X10_105 (c_X10_now l D ct F aM M LM x1 x2) rfl (by decide) (fun _ => lc rfl (rfl)) rfl ⟨by decide, by decide⟩ (Nat.le_of_ble_eq_true rfl) rfl dX10_breaksOn_48 (fun z48 => ?_)
      refine im_ws (cat [w_Model ct aM M LM]) rfl ?_
      refine im_iload X 6 dX10_breaksOn_51 rfl ?_
      refine im_isub X dX10_breaksOn_53 ?_
      refine im_istore X [1, 2, 3, 4, 5, 6, 7, 8, 9, 10, 0] [(0, .ref (aM 0)), (1, .int x1), (2, .int x2), (3, .long x3), (5, .long x5), (7, .int x7), (8, .int x8), (9, .int ((M 13) (((2 * x7) + x8)).toNatClampNeg)), (10, .long (x3 - (x7).toInt64)), (12, .int z40), (13, .int (z48 - x8))] dX10_breaksOn_54 (by decide) rfl ?_
      refine im_lload X 8 dX10_breaksOn_56 rfl ?_
      refine im_iload X 9 dX10_breaksOn_58 rfl ?_
      refine im_i2l X dX10_breaksOn_60 ?_
      refine im_lrem X dX10_breaksOn_61 ?_
      refine im_lstore X [1, 2, 3, 4, 5, 6, 7, 8, 9, 10, 11, 0] [(0, .ref (aM 0)), (1, .int x1), (2, .int x2), (3, .long x3), (5, .long x5), (7, .int x7), (8, .int x8), (9, .int ((M 13) (((2 * x7) + x8)).toNatClampNeg)), (10, .long (x3 - (x7).toInt64)), (12, .int z40), (13, .int (z48 - x8)), (14, .long ((x3 - (x7).toInt64) - (x3 - (x7).toInt64) / (z40).toInt64 * (z40).toInt64))] dX10_breaksOn_62 (by decide) rfl ?_
      refine im_lload X 11 dX10_breaksOn_64 rfl ?_
      refine im_iload X 10 dX10_breaksOn_66 rfl ?_
      refine im_i2l X dX10_breaksOn_68 ?_
      refine im_lcmp X dX10_breaksOn_69 ?_
      refine im_if_le (tgt := 96) X dX10_breaksOn_70 rfl ?_ ?_
      · refine im_lv [0, 4, 7, 8, 9, 10, 11] [(0, .ref (aM 0)), (5, .long x5), (9, .int ((M 13) (((2 * x7) + x8)).toNatClampNeg)), (10, .long (x3 - (x7).toInt64)), (12, .int z40), (13, .int (z48 - x8)), (14, .long ((x3 - (x7).toInt64) - (x3 - (x7).toInt64) / (z40).toInt64 * (z40).toInt64))] rfl ?_
        refine i_X10_breaksOn_96 X F aM LM x5 ((M 13) (((2 * x7) + x8)).toNatClampNeg) (x3 - (x7).toInt64) z40 (z48 - x8) _ (fun M_144 => ?_) F M ((x3 - (x7).toInt64) - (x3 - (x7).toInt64) / (z40).toInt64 * (z40).toInt64)
        exact im_return X M_144 rfl dX10_breaksOn_144
      · refine im_aload_n X 0 dX10_breaksOn_73 rfl rfl ?_
        refine im_lload X 4 dX10_breaksOn_74 rfl ?_
        refine im_lload X 8 dX10_breaksOn_76 rfl ?_
        refine im_lload X 11 dX10_breaksOn_78 rfl ?_
        refine im_lsub X dX10_breaksOn_80 ?_
        refine im_iload X 9 dX10_breaksOn_81 rfl ?_
        refine im_i2l X dX10_breaksOn_83 ?_
        refine im_ldiv X dX10_breaksOn_84 ?_
        refine im_lsub X dX10_breaksOn_85 ?_
        refine im_l2i X dX10_breaksOn_86 ?_
        refine im_iconst X 1 dX10_breaksOn_87 (by decide) ?_
        refine im_iload X 7 dX10_breaksOn_88 rfl ?_
        refine im_iconst X 1 dX10_breaksOn_90 (by decide) ?_
        refine im_iadd X dX10_breaksOn_91 ?_
        refine im_ccvV X [.int ((x5 - (((x3 - (x7).toInt64) - ((x3 - (x7).toInt64) - (x3 - (x7).toInt64) / (z40).toInt64 * (z40).toInt64)) / (z40).toInt64))).toInt32, .int 1, .int (((M 13) (((2 * x7) + x8)).toNatClampNeg) + 1)] [] [w_Model ct aM M LM] [w_Model ct aM M LM] [0] (fun z92 => [w_Model ct aM z92 LM]) 0 0 10 rfl rfl rfl cl_X10_243 (c_X10_brings l D ct F aM M LM ((x5 - (((x3 - (x7).toInt64) - ((x3 - (x7).toInt64) - (x3 - (x7).toInt64) / (z40).toInt64 * (z40).toInt64)) / (z40).toInt64))).toInt32 1 (((M 13) (((2 * x7) + x8)).toNatClampNeg) + 1)) rfl (by decide) (fun _ => lc fa_Model (rfl)) rfl ⟨by decide, by decide⟩ (Nat.le_of_ble_eq_true rfl) rfl dX10_breaksOn_92 (fun z92 => ?_)
        refine im_ws (cat [w_Model ct aM z92 LM]) rfl ?_
        exact im_return X z92 rfl dX10_breaksOn_95
    · exact im_return X M rfl dX10_breaksOn_35
theorem c_X10_breaksOn (l : Launch) (D : va_G) (ct : im_ct) (F : Nat) (aM : Nat → Nat) (M : Mem) (LM : MemL) (x1 : Int32) (x2 : Int32) (x3 : Int64) (x5 : Int64) (x7 : Int32) (x8 : Int32) : CMv l D ct yX10_breaksOn cX10_breaksOn 16 none 2 [.ref (aM 0), .int x1, .int x2, .long x3, .long x5, .int x7, .int x8] (cat [w_Model ct aM M LM]) (f_X10_breaksOn F M LM x1 x2 x3 x5 x7 x8) (fun z : Mem => (cat [w_Model ct aM z LM])) :=
  im_met (Qb := fun A => QV D A (fun z : Mem => (cat [w_Model ct aM z LM]))) (by decide +kernel) (Nat.le_of_ble_eq_true rfl) (fun p e s m args below meth c A X => i_X10_breaksOn X F aM M LM x1 x2 x3 x5 x7 x8)

