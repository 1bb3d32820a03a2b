noncomputable def f_X10_mostAlike_3 (F : Nat) (LM : MemL) (x1 : Int32) (x2 : Int32) (x3 : Int32) (k23 : Mem → Option (Int32 × Mem)) : Nat → Mem → Int32 → Option (Int32 × Mem)
  | 0, _, _ => none
  | n + 1, M, x4 =>
  (if 3 ≤ x4 then k23 M else ck x4 3 (f_X10_mostAlike_3 F LM x1 x2 x3 k23 n (mr M 19 (upd (M 19) x4.toNatClampNeg 0)) (x4 + 1)))
set_option maxRecDepth 100000 in
set_option maxHeartbeats 4000000 in
theorem i_X10_mostAlike_3 {p : Program} {l : Launch} {e : Env} {s : State} {m : MethodId} {args : Array Value} {below : List Frame} {meth : Method} {c : Code} {D : va_G} {ct : im_ct} {A : Nat → Prop} (X : im_X p (im_rm 1) s m args meth c D ct A RX10 cX10_mostAlike 5 (some .int)) (F : Nat) (aM : Nat → Nat) (LM : MemL) (x1 : Int32) (x2 : Int32) (x3 : Int32) (k23 : Mem → Option (Int32 × Mem)) (hk23 : ∀ (M : Mem), Im p l e (im_rm 1) s m args below meth c D A 5 (QI D A (fun z : Int32 × Mem => z.1) (fun z : Int32 × Mem => (cat [w_Model ct aM z.2 LM]))) 23 [(0, .ref (aM 0)), (1, .int x1), (2, .int x2), (3, .int x3)] [] (cat [w_Model ct aM M LM]) (k23 M)) : ∀ (n : Nat) (M : Mem) (x4 : Int32), Im p l e (im_rm 1) s m args below meth c D A 5 (QI D A (fun z : Int32 × Mem => z.1) (fun z : Int32 × Mem => (cat [w_Model ct aM z.2 LM]))) 3 [(0, .ref (aM 0)), (1, .int x1), (2, .int x2), (3, .int x3), (4, .int x4)] [] (cat [w_Model ct aM M LM]) (f_X10_mostAlike_3 F LM x1 x2 x3 k23 n M x4) := by
  intro n
  induction n with
  | zero => intros; exact im_none
  | succ n ih =>
    intro M x4
    unfold f_X10_mostAlike_3
    refine im_iload X 4 dX10_mostAlike_3 rfl ?_
    refine im_iconst X 3 dX10_mostAlike_5 (by decide) ?_
    refine im_icmp_ge (tgt := 23) X dX10_mostAlike_6 rfl ?_ ?_
    · refine im_lv [0, 1, 2, 3] [(0, .ref (aM 0)), (1, .int x1), (2, .int x2), (3, .int x3)] rfl ?_
      exact hk23 M
    · refine im_aload_n X 0 dX10_mostAlike_9 rfl rfl ?_
      refine im_cget X 0 0 (v := .ref (aM 19)) fl_X10_70 rfl rfl rfl dX10_mostAlike_10 ?_
      refine im_iload X 4 dX10_mostAlike_13 rfl ?_
      refine im_iconst X 0 dX10_mostAlike_15 (by decide) ?_
      refine im_ciast X 0 19 0 (wx_Model ct aM (M 0 0) (M 0 4) (M 0 6) (M 0 7) (M 0 8) (M 0 9) (M 0 24) (M 0 27) (M 0 29) (M 0 31) (M 0 32) (M 0 33) (M 0 34) (M 0 35) (M 1) (M 2) (M 3) (M 4) (M 5) (M 9) (M 10) (M 11) (M 12) (M 13) (M 14) (M 15) (M 16) (M 17) (M 18) (upd (M 19) x4.toNatClampNeg 0) (M 20) (M 21) (M 22) (LM 6) (LM 7) (LM 8)) [wx_Model ct aM (M 0 0) (M 0 4) (M 0 6) (M 0 7) (M 0 8) (M 0 9) (M 0 24) (M 0 27) (M 0 29) (M 0 31) (M 0 32) (M 0 33) (M 0 34) (M 0 35) (M 1) (M 2) (M 3) (M 4) (M 5) (M 9) (M 10) (M 11) (M 12) (M 13) (M 14) (M 15) (M 16) (M 17) (M 18) (upd (M 19) x4.toNatClampNeg 0) (M 20) (M 21) (M 22) (LM 6) (LM 7) (LM 8)] (f := (M 19)) rfl rfl rfl rfl rfl dX10_mostAlike_16 ?_
      refine im_iinc X 4 1 [1, 2, 3, 4, 0] [(0, .ref (aM 0)), (1, .int x1), (2, .int x2), (3, .int x3), (4, .int (x4 + 1))] dX10_mostAlike_17 (by decide) rfl (by decide) rfl ?_
      refine im_goto (tgt := 3) X dX10_mostAlike_20 rfl ?_
      exact ih (mr M 19 (upd (M 19) x4.toNatClampNeg 0)) (x4 + 1)
noncomputable def f_X10_mostAlike_26 (F : Nat) (LM : MemL) (x1 : Int32) (x2 : Int32) (x3 : Int32) (k61 : Mem → Option (Int32 × Mem)) : Nat → Mem → Int32 → Option (Int32 × Mem)
  | 0, _, _ => none
  | n + 1, M, x4 =>
  (if (M 0 24) ≤ x4 then k61 M else (f_X10_moreBy F M LM x4 x1 x2 x3).bind (fun z45 => ck (z45 + 1) 3 (ck (z45 + 1) 3 (f_X10_mostAlike_26 F LM x1 x2 x3 k61 n (mr M 19 (upd (M 19) ((z45 + 1)).toNatClampNeg (((M 19) ((z45 + 1)).toNatClampNeg) + 1))) (x4 + 1)))))
set_option maxRecDepth 100000 in
set_option maxHeartbeats 4000000 in
theorem i_X10_mostAlike_26 {p : Program} {l : Launch} {e : Env} {s : State} {m : MethodId} {args : Array Value} {below : List Frame} {meth : Method} {c : Code} {D : va_G} {ct : im_ct} {A : Nat → Prop} (X : im_X p (im_rm 1) s m args meth c D ct A RX10 cX10_mostAlike 5 (some .int)) (F : Nat) (aM : Nat → Nat) (LM : MemL) (x1 : Int32) (x2 : Int32) (x3 : Int32) (k61 : Mem → Option (Int32 × Mem)) (hk61 : ∀ (M : Mem), Im p l e (im_rm 1) s m args below meth c D A 5 (QI D A (fun z : Int32 × Mem => z.1) (fun z : Int32 × Mem => (cat [w_Model ct aM z.2 LM]))) 61 [(0, .ref (aM 0))] [] (cat [w_Model ct aM M LM]) (k61 M)) : ∀ (n : Nat) (M : Mem) (x4 : Int32), Im p l e (im_rm 1) s m args below meth c D A 5 (QI D A (fun z : Int32 × Mem => z.1) (fun z : Int32 × Mem => (cat [w_Model ct aM z.2 LM]))) 26 [(0, .ref (aM 0)), (1, .int x1), (2, .int x2), (3, .int x3), (4, .int x4)] [] (cat [w_Model ct aM M LM]) (f_X10_mostAlike_26 F LM x1 x2 x3 k61 n M x4) := by
  intro n
  induction n with
  | zero => intros; exact im_none
  | succ n ih =>
    intro M x4
    unfold f_X10_mostAlike_26
    refine im_iload X 4 dX10_mostAlike_26 rfl ?_
    refine im_aload_n X 0 dX10_mostAlike_28 rfl rfl ?_
    refine im_cget X 0 0 (v := .int (M 0 24)) fl_X10_263 rfl rfl rfl dX10_mostAlike_29 ?_
    refine im_icmp_ge (tgt := 61) X dX10_mostAlike_32 rfl ?_ ?_
    · refine im_lv [0] [(0, .ref (aM 0))] rfl ?_
      exact hk61 M
    · refine im_aload_n X 0 dX10_mostAlike_35 rfl rfl ?_
      refine im_cget X 0 0 (v := .ref (aM 19)) fl_X10_70 rfl rfl rfl dX10_mostAlike_36 ?_
      refine im_aload_n X 0 dX10_mostAlike_39 rfl rfl ?_
      refine im_iload X 4 dX10_mostAlike_40 rfl ?_
      refine im_iload_n X 1 dX10_mostAlike_42 rfl rfl ?_
      refine im_iload_n X 2 dX10_mostAlike_43 rfl rfl ?_
      refine im_iload_n X 3 dX10_mostAlike_44 rfl rfl ?_
      refine im_cciV X [.int x4, .int x1, .int x2, .int x3] [.ref (aM 19)] [w_Model ct aM M LM] [w_Model ct aM M LM] [0] (fun z45 => [w_Model ct aM M LM]) 0 0 10 rfl rfl rfl cl_X10_273 (c_X10_moreBy l D ct F aM M LM x4 x1 x2 x3) rfl (by decide) (fun _ => lc rfl (rfl)) rfl ⟨by decide, by decide⟩ (Nat.le_of_ble_eq_true rfl) rfl dX10_mostAlike_45 (fun z45 => ?_)
      refine im_ws (cat [w_Model ct aM M LM]) rfl ?_
      refine im_iconst X 1 dX10_mostAlike_48 (by decide) ?_
      refine im_iadd X dX10_mostAlike_49 ?_
      refine im_dup2_11 X rfl rfl dX10_mostAlike_50 ?_
      refine im_ciald X 0 19 0 (f := (M 19)) rfl rfl rfl dX10_mostAlike_51 ?_
      refine im_iconst X 1 dX10_mostAlike_52 (by decide) ?_
      refine im_iadd X dX10_mostAlike_53 ?_
      refine im_ciast X 0 19 0 (wx_Model ct aM (M 0 0) (M 0 4) (M 0 6) (M 0 7) (M 0 8) (M 0 9) (M 0 24) (M 0 27) (M 0 29) (M 0 31) (M 0 32) (M 0 33) (M 0 34) (M 0 35) (M 1) (M 2) (M 3) (M 4) (M 5) (M 9) (M 10) (M 11) (M 12) (M 13) (M 14) (M 15) (M 16) (M 17) (M 18) (upd (M 19) ((z45 + 1)).toNatClampNeg (((M 19) ((z45 + 1)).toNatClampNeg) + 1)) (M 20) (M 21) (M 22) (LM 6) (LM 7) (LM 8)) [wx_Model ct aM (M 0 0) (M 0 4) (M 0 6) (M 0 7) (M 0 8) (M 0 9) (M 0 24) (M 0 27) (M 0 29) (M 0 31) (M 0 32) (M 0 33) (M 0 34) (M 0 35) (M 1) (M 2) (M 3) (M 4) (M 5) (M 9) (M 10) (M 11) (M 12) (M 13) (M 14) (M 15) (M 16) (M 17) (M 18) (upd (M 19) ((z45 + 1)).toNatClampNeg (((M 19) ((z45 + 1)).toNatClampNeg) + 1)) (M 20) (M 21) (M 22) (LM 6) (LM 7) (LM 8)] (f := (M 19)) rfl rfl rfl rfl rfl dX10_mostAlike_54 ?_
      refine im_iinc X 4 1 [1, 2, 3, 4, 0] [(0, .ref (aM 0)), (1, .int x1), (2, .int x2), (3, .int x3), (4, .int (x4 + 1))] dX10_mostAlike_55 (by decide) rfl (by decide) rfl ?_
      refine im_goto (tgt := 26) X dX10_mostAlike_58 rfl ?_
      exact ih (mr M 19 (upd (M 19) ((z45 + 1)).toNatClampNeg (((M 19) ((z45 + 1)).toNatClampNeg) + 1))) (x4 + 1)
noncomputable def f_X10_mostAlike_91 (F : Nat) (M : Mem) (LM : MemL) (s0 : Int32) : Option (Int32 × Mem) :=
  ck 2 3 ((if s0 ≤ ((M 19) (2 : Int32).toNatClampNeg) then ck 2 3 ((some (((M 19) (2 : Int32).toNatClampNeg), M))) else (some (s0, M))))
set_option maxRecDepth 100000 in
set_option maxHeartbeats 4000000 in
theorem i_X10_mostAlike_91 {p : Program} {l : Launch} {e : Env} {s : State} {m : MethodId} {args : Array Value} {below : List Frame} {meth : Method} {c : Code} {D : va_G} {ct : im_ct} {A : Nat → Prop} (X : im_X p (im_rm 1) s m args meth c D ct A RX10 cX10_mostAlike 5 (some .int)) (F : Nat) (aM : Nat → Nat) (M : Mem) (LM : MemL) (s0 : Int32) : Im p l e (im_rm 1) s m args below meth c D A 5 (QI D A (fun z : Int32 × Mem => z.1) (fun z : Int32 × Mem => (cat [w_Model ct aM z.2 LM]))) 91 [(0, .ref (aM 0))] [.int s0] (cat [w_Model ct aM M LM]) (f_X10_mostAlike_91 F M LM s0) := by
  unfold f_X10_mostAlike_91
  refine im_istore X [1, 0] [(0, .ref (aM 0)), (4, .int s0)] dX10_mostAlike_91 (by decide) rfl ?_
  refine im_iload X 1 dX10_mostAlike_93 rfl ?_
  refine im_aload_n X 0 dX10_mostAlike_95 rfl rfl ?_
  refine im_cget X 0 0 (v := .ref (aM 19)) fl_X10_70 rfl rfl rfl dX10_mostAlike_96 ?_
  refine im_iconst X 2 dX10_mostAlike_99 (by decide) ?_
  refine im_ciald X 0 19 0 (f := (M 19)) rfl rfl rfl dX10_mostAlike_100 ?_
  refine im_icmp_le (tgt := 109) X dX10_mostAlike_101 rfl ?_ ?_
  · refine im_aload_n X 0 dX10_mostAlike_109 rfl rfl ?_
    refine im_cget X 0 0 (v := .ref (aM 19)) fl_X10_70 rfl rfl rfl dX10_mostAlike_110 ?_
    refine im_iconst X 2 dX10_mostAlike_113 (by decide) ?_
    refine im_ciald X 0 19 0 (f := (M 19)) rfl rfl rfl dX10_mostAlike_114 ?_
    exact im_ireturn X (((M 19) (2 : Int32).toNatClampNeg), M) rfl rfl dX10_mostAlike_115
  · refine im_iload X 1 dX10_mostAlike_104 rfl ?_
    refine im_goto (tgt := 115) X dX10_mostAlike_106 rfl ?_
    exact im_ireturn X (s0, M) rfl rfl dX10_mostAlike_115
noncomputable def f_X10_mostAlike (F : Nat) (M : Mem) (LM : MemL) (x1 : Int32) (x2 : Int32) (x3 : Int32) : Option (Int32 × Mem) :=
  f_X10_mostAlike_3 F LM x1 x2 x3 (fun M_23 => f_X10_mostAlike_26 F LM x1 x2 x3 (fun M_61 => ck 0 3 (ck 1 3 ((if ((M_61 19) (0 : Int32).toNatClampNeg) ≤ ((M_61 19) (1 : Int32).toNatClampNeg) then ck 1 3 (f_X10_mostAlike_91 F M_61 LM ((M_61 19) (1 : Int32).toNatClampNeg)) else ck 0 3 (f_X10_mostAlike_91 F M_61 LM ((M_61 19) (0 : Int32).toNatClampNeg)))))) F M_23 0) F M 0
set_option maxRecDepth 100000 in
set_option maxHeartbeats 4000000 in
theorem i_X10_mostAlike {p : Program} {l : Launch} {e : Env} {s : State} {m : MethodId} {args : Array Value} {below : List Frame} {meth : Method} {c : Code} {D : va_G} {ct : im_ct} {A : Nat → Prop} (X : im_X p (im_rm 1) s m args meth c D ct A RX10 cX10_mostAlike 5 (some .int)) (F : Nat) (aM : Nat → Nat) (M : Mem) (LM : MemL) (x1 : Int32) (x2 : Int32) (x3 : Int32) : Im p l e (im_rm 1) s m args below meth c D A 5 (QI D A (fun z : Int32 × Mem => z.1) (fun z : Int32 × Mem => (cat [w_Model ct aM z.2 LM]))) 0 [(0, .ref (aM 0)), (1, .int x1), (2, .int x2), (3, .int x3)] [] (cat [w_Model ct aM M LM]) (f_X10_mostAlike F M LM x1 x2 x3) := by
  unfold f_X10_mostAlike
  refine im_iconst X 0 dX10_mostAlike_0 (by decide) ?_
  refine im_istore X [1, 2, 3, 4, 0] [(0, .ref (aM 0)), (1, .int x1), (2, .int x2), (3, .int x3), (4, .int 0)] dX10_mostAlike_1 (by decide) rfl ?_
  refine i_X10_mostAlike_3 X F aM LM x1 x2 x3 _ (fun M_23 => ?_) F M 0
  refine im_iconst X 0 dX10_mostAlike_23 (by decide) ?_
  refine im_istore X [1, 2, 3, 4, 0] [(0, .ref (aM 0)), (1, .int x1), (2, .int x2), (3, .int x3), (4, .int 0)] dX10_mostAlike_24 (by decide) rfl ?_
  refine i_X10_mostAlike_26 X F aM LM x1 x2 x3 _ (fun M_61 => ?_) F M_23 0
  refine im_aload_n X 0 dX10_mostAlike_61 rfl rfl ?_
  refine im_cget X 0 0 (v := .ref (aM 19)) fl_X10_70 rfl rfl rfl dX10_mostAlike_62 ?_
  refine im_iconst X 0 dX10_mostAlike_65 (by decide) ?_
  refine im_ciald X 0 19 0 (f := (M_61 19)) rfl rfl rfl dX10_mostAlike_66 ?_
  refine im_aload_n X 0 dX10_mostAlike_67 rfl rfl ?_
  refine im_cget X 0 0 (v := .ref (aM 19)) fl_X10_70 rfl rfl rfl dX10_mostAlike_68 ?_
  refine im_iconst X 1 dX10_mostAlike_71 (by decide) ?_
  refine im_ciald X 0 19 0 (f := (M_61 19)) rfl rfl rfl dX10_mostAlike_72 ?_
  refine im_icmp_le (tgt := 85) X dX10_mostAlike_73 rfl ?_ ?_
  · refine im_aload_n X 0 dX10_mostAlike_85 rfl rfl ?_
    refine im_cget X 0 0 (v := .ref (aM 19)) fl_X10_70 rfl rfl rfl dX10_mostAlike_86 ?_
    refine im_iconst X 1 dX10_mostAlike_89 (by decide) ?_
    refine im_ciald X 0 19 0 (f := (M_61 19)) rfl rfl rfl dX10_mostAlike_90 ?_
    exact i_X10_mostAlike_91 X F aM M_61 LM ((M_61 19) (1 : Int32).toNatClampNeg) 
  · refine im_aload_n X 0 dX10_mostAlike_76 rfl rfl ?_
    refine im_cget X 0 0 (v := .ref (aM 19)) fl_X10_70 rfl rfl rfl dX10_mostAlike_77 ?_
    refine im_iconst X 0 dX10_mostAlike_80 (by decide) ?_
    refine im_ciald X 0 19 0 (f := (M_61 19)) rfl rfl rfl dX10_mostAlike_81 ?_
    refine im_goto (tgt := 91) X dX10_mostAlike_82 rfl ?_
    exact i_X10_mostAlike_91 X F aM M_61 LM ((M_61 19) (0 : Int32).toNatClampNeg) 
theorem c_X10_mostAlike (l : Launch) (D : va_G) (ct : im_ct) (F : Nat) (aM : Nat → Nat) (M : Mem) (LM : MemL) (x1 : Int32) (x2 : Int32) (x3 : Int32) : CMi l D ct yX10_mostAlike cX10_mostAlike 5 (some .int) 1 [.ref (aM 0), .int x1, .int x2, .int x3] (cat [w_Model ct aM M LM]) (f_X10_mostAlike F M LM x1 x2 x3) (fun z : Int32 × Mem => z.1) (fun z : Int32 × Mem => (cat [w_Model ct aM z.2 LM])) :=
  im_met (Qb := fun A => QI D A (fun z : Int32 × Mem => z.1) (fun z : Int32 × Mem => (cat [w_Model ct aM z.2 LM]))) (by decide +kernel) (Nat.le_of_ble_eq_true rfl) (fun p e s m args below meth c A X => i_X10_mostAlike X F aM M LM x1 x2 x3)

noncomputable def f_X10_look_105 (F : Nat) (M : Mem) (LM : MemL) (x1 : Int32) (x5 : Int32) (x6 : Int32) (x7 : Int32) (x8 : Int32) (k66 : Mem → Int32 → Int32 → Int32 → Int32 → Option (Int32 × Mem)) : Option (Int32 × Mem) :=
  (f_X10_cell F x6 x7).bind (fun z116 => k66 M x5 z116 x8 (x7 + 1))
set_option maxRecDepth 100000 in
set_option maxHeartbeats 4000000 in
theorem i_X10_look_105 {p : Program} {l : Launch} {e : Env} {s : State} {m : MethodId} {args : Array Value} {below : List Frame} {meth : Method} {c : Code} {D : va_G} {ct : im_ct} {A : Nat → Prop} (X : im_X p (im_rm 8) s m args meth c D ct A RX10 cX10_look 9 (some .int)) (F : Nat) (aM : Nat → Nat) (M : Mem) (LM : MemL) (x1 : Int32) (x5 : Int32) (x6 : Int32) (x7 : Int32) (x8 : Int32) (k66 : Mem → Int32 → Int32 → Int32 → Int32 → Option (Int32 × Mem)) (hk66 : ∀ (M : Mem) (x2 : Int32) (x3 : Int32) (x4 : Int32) (x7 : Int32), Im p l e (im_rm 8) s m args below meth c D A 9 (QI D A (fun z : Int32 × Mem => z.1) (fun z : Int32 × Mem => (cat [w_Model ct aM z.2 LM]))) 66 [(0, .ref (aM 0)), (1, .int x1), (2, .int x2), (3, .int x3), (4, .int x4), (5, .int x5), (6, .int x6), (7, .int x7)] [] (cat [w_Model ct aM M LM]) (k66 M x2 x3 x4 x7)) : Im p l e (im_rm 8) s m args below meth c D A 9 (QI D A (fun z : Int32 × Mem => z.1) (fun z : Int32 × Mem => (cat [w_Model ct aM z.2 LM]))) 105 [(0, .ref (aM 0)), (1, .int x1), (5, .int x5), (6, .int x6), (7, .int x7), (8, .int x8)] [] (cat [w_Model ct aM M LM]) (f_X10_look_105 F M LM x1 x5 x6 x7 x8 k66) := by
  unfold f_X10_look_105
  refine im_iload X 5 dX10_look_105 rfl ?_
  refine im_istore X [1, 2, 0, 3, 4, 5, 6] [(0, .ref (aM 0)), (1, .int x1), (4, .int x8), (5, .int x5), (6, .int x6), (7, .int x7), (8, .int x8)] dX10_look_107 (by decide) rfl ?_
  refine im_iload X 3 dX10_look_109 rfl ?_
  refine im_istore_n X [1, 2, 0, 3, 4, 5, 6, 7] [(0, .ref (aM 0)), (1, .int x1), (2, .int x5), (4, .int x8), (5, .int x5), (6, .int x6), (7, .int x7), (8, .int x8)] dX10_look_111 rfl (by decide) rfl ?_
  refine im_iload X 5 dX10_look_112 rfl ?_
  refine im_iload X 6 dX10_look_114 rfl ?_
  refine im_cciS X [.int x6, .int x7] [] [w_Model ct aM M LM] [] [] (fun z116 => []) cl_X10_101 (c_X10_cell l D ct F x6 x7) rfl (by decide) (fun _ => rfl) rfl ⟨by decide, by decide⟩ (Nat.le_of_ble_eq_true rfl) rfl dX10_look_116 (fun z116 => ?_)
  refine im_ws (cat [w_Model ct aM M LM]) rfl ?_
  refine im_istore_n X [1, 2, 3, 0, 4, 5, 6, 7, 8] [(0, .ref (aM 0)), (1, .int x1), (2, .int x5), (3, .int z116), (4, .int x8), (5, .int x5), (6, .int x6), (7, .int x7), (8, .int x8)] dX10_look_119 rfl (by decide) rfl ?_
  refine im_iinc X 7 1 [1, 2, 3, 4, 5, 6, 7, 0, 8] [(0, .ref (aM 0)), (1, .int x1), (2, .int x5), (3, .int z116), (4, .int x8), (5, .int x5), (6, .int x6), (7, .int (x7 + 1)), (8, .int x8)] dX10_look_120 (by decide) rfl (by decide) rfl ?_
  refine im_goto (tgt := 66) X dX10_look_123 rfl ?_
  refine im_lv [0, 1, 2, 3, 4, 5, 6, 7] [(0, .ref (aM 0)), (1, .int x1), (2, .int x5), (3, .int z116), (4, .int x8), (5, .int x5), (6, .int x6), (7, .int (x7 + 1))] rfl ?_
  exact hk66 M x5 z116 x8 (x7 + 1)
noncomputable def f_X10_look_66 (F : Nat) (LM : MemL) (x1 : Int32) (x5 : Int32) (x6 : Int32) (k126 : Mem → Int32 → Int32 → Int32 → Option (Int32 × Mem)) : Nat → Mem → Int32 → Int32 → Int32 → Int32 → Option (Int32 × Mem)
  | 0, _, _, _, _, _ => none
  | n + 1, M, x2, x3, x4, x7 =>
  ck 0 226 ((if ((M 1) (0 : Int32).toNatClampNeg) ≤ x7 then k126 M x2 x3 x4 else (f_X10_mostAlike F M LM x5 x6 x7).bind (fun z84 => (if x4 = (-1) then f_X10_look_105 F z84.2 LM x1 x5 x6 x7 z84.1 (f_X10_look_66 F LM x1 x5 x6 k126 n) else (if z84.1 < x4 then f_X10_look_105 F z84.2 LM x1 x5 x6 x7 z84.1 (f_X10_look_66 F LM x1 x5 x6 k126 n) else f_X10_look_66 F LM x1 x5 x6 k126 n z84.2 x2 x3 x4 (x7 + 1))))))
set_option maxRecDepth 100000 in
set_option maxHeartbeats 4000000 in
theorem i_X10_look_66 {p : Program} {l : Launch} {e : Env} {s : State} {m : MethodId} {args : Array Value} {below : List Frame} {meth : Method} {c : Code} {D : va_G} {ct : im_ct} {A : Nat → Prop} (X : im_X p (im_rm 8) s m args meth c D ct A RX10 cX10_look 9 (some .int)) (F : Nat) (aM : Nat → Nat) (LM : MemL) (x1 : Int32) (x5 : Int32) (x6 : Int32) (k126 : Mem → Int32 → Int32 → Int32 → Option (Int32 × Mem)) (hk126 : ∀ (M : Mem) (x2 : Int32) (x3 : Int32) (x4 : Int32), Im p l e (im_rm 8) s m args below meth c D A 9 (QI D A (fun z : Int32 × Mem => z.1) (fun z : Int32 × Mem => (cat [w_Model ct aM z.2 LM]))) 126 [(0, .ref (aM 0)), (1, .int x1), (2, .int x2), (3, .int x3), (4, .int x4), (5, .int x5), (6, .int x6)] [] (cat [w_Model ct aM M LM]) (k126 M x2 x3 x4)) : ∀ (n : Nat) (M : Mem) (x2 : Int32) (x3 : Int32) (x4 : Int32) (x7 : Int32), Im p l e (im_rm 8) s m args below meth c D A 9 (QI D A (fun z : Int32 × Mem => z.1) (fun z : Int32 × Mem => (cat [w_Model ct aM z.2 LM]))) 66 [(0, .ref (aM 0)), (1, .int x1), (2, .int x2), (3, .int x3), (4, .int x4), (5, .int x5), (6, .int x6), (7, .int x7)] [] (cat [w_Model ct aM M LM]) (f_X10_look_66 F LM x1 x5 x6 k126 n M x2 x3 x4 x7) := by
  intro n
  induction n with
  | zero => intros; exact im_none
  | succ n ih =>
    intro M x2 x3 x4 x7
    unfold f_X10_look_66
    refine im_iload X 7 dX10_look_66 rfl ?_
    refine im_aload_n X 0 dX10_look_68 rfl rfl ?_
    refine im_cget X 0 0 (v := .ref (aM 1)) fl_X10_13 rfl rfl rfl dX10_look_69 ?_
    refine im_iconst X 0 dX10_look_72 (by decide) ?_
    refine im_ciald X 0 1 0 (f := (M 1)) rfl rfl rfl dX10_look_73 ?_
    refine im_icmp_ge (tgt := 126) X dX10_look_74 rfl ?_ ?_
    · refine im_lv [0, 1, 2, 3, 4, 5, 6] [(0, .ref (aM 0)), (1, .int x1), (2, .int x2), (3, .int x3), (4, .int x4), (5, .int x5), (6, .int x6)] rfl ?_
      exact hk126 M x2 x3 x4
    · refine im_aload_n X 0 dX10_look_77 rfl rfl ?_
      refine im_iload X 5 dX10_look_78 rfl ?_
      refine im_iload X 6 dX10_look_80 rfl ?_
      refine im_iload X 7 dX10_look_82 rfl ?_
      refine im_cciV X [.int x5, .int x6, .int x7] [] [w_Model ct aM M LM] [w_Model ct aM M LM] [0] (fun z84 => [w_Model ct aM z84.2 LM]) 0 0 10 rfl rfl rfl cl_X10_279 (c_X10_mostAlike l D ct F aM M LM x5 x6 x7) rfl (by decide) (fun _ => lc fa_Model (rfl)) rfl ⟨by decide, by decide⟩ (Nat.le_of_ble_eq_true rfl) rfl dX10_look_84 (fun z84 => ?_)
      refine im_ws (cat [w_Model ct aM z84.2 LM]) rfl ?_
      refine im_istore X [1, 2, 3, 4, 5, 6, 7, 8, 0] [(0, .ref (aM 0)), (1, .int x1), (2, .int x2), (3, .int x3), (4, .int x4), (5, .int x5), (6, .int x6), (7, .int x7), (8, .int z84.1)] dX10_look_87 (by decide) rfl ?_
      refine im_iload X 4 dX10_look_89 rfl ?_
      refine im_iconst X (-1) dX10_look_91 (by decide) ?_
      refine im_icmp_eq (tgt := 105) X dX10_look_92 rfl ?_ ?_
      · refine im_lv [0, 1, 5, 6, 7, 8] [(0, .ref (aM 0)), (1, .int x1), (5, .int x5), (6, .int x6), (7, .int x7), (8, .int z84.1)] rfl ?_
        exact i_X10_look_105 X F aM z84.2 LM x1 x5 x6 x7 z84.1 _ ih
      · refine im_iload X 8 dX10_look_95 rfl ?_
        refine im_iload X 4 dX10_look_97 rfl ?_
        refine im_icmp_lt (tgt := 105) X dX10_look_99 rfl ?_ ?_
        · refine im_lv [0, 1, 5, 6, 7, 8] [(0, .ref (aM 0)), (1, .int x1), (5, .int x5), (6, .int x6), (7, .int x7), (8, .int z84.1)] rfl ?_
          exact i_X10_look_105 X F aM z84.2 LM x1 x5 x6 x7 z84.1 _ ih
        · refine im_goto (tgt := 120) X dX10_look_102 rfl ?_
          refine im_iinc X 7 1 [1, 2, 3, 4, 5, 6, 7, 0, 8] [(0, .ref (aM 0)), (1, .int x1), (2, .int x2), (3, .int x3), (4, .int x4), (5, .int x5), (6, .int x6), (7, .int (x7 + 1)), (8, .int z84.1)] dX10_look_120 (by decide) rfl (by decide) rfl ?_
          refine im_goto (tgt := 66) X dX10_look_123 rfl ?_
          refine im_lv [0, 1, 2, 3, 4, 5, 6, 7] [(0, .ref (aM 0)), (1, .int x1), (2, .int x2), (3, .int x3), (4, .int x4), (5, .int x5), (6, .int x6), (7, .int (x7 + 1))] rfl ?_
          exact ih z84.2 x2 x3 x4 (x7 + 1)
noncomputable def f_X10_look_52 (F : Nat) (LM : MemL) (x1 : Int32) (x5 : Int32) (k132 : Mem → Int32 → Int32 → Int32 → Option (Int32 × Mem)) : Nat → Mem → Int32 → Int32 → Int32 → Int32 → Option (Int32 × Mem)
  | 0, _, _, _, _, _ => none
  | n + 1, M, x2, x3, x4, x6 =>
  ck 1 226 ((if ((M 1) (1 : Int32).toNatClampNeg) ≤ x6 then k132 M x2 x3 x4 else f_X10_look_66 F LM x1 x5 x6 (fun M_126 x2_126 x3_126 x4_126 => f_X10_look_52 F LM x1 x5 k132 n M_126 x2_126 x3_126 x4_126 (x6 + 1)) F M x2 x3 x4 0))
set_option maxRecDepth 100000 in
set_option maxHeartbeats 4000000 in
theorem i_X10_look_52 {p : Program} {l : Launch} {e : Env} {s : State} {m : MethodId} {args : Array Value} {below : List Frame} {meth : Method} {c : Code} {D : va_G} {ct : im_ct} {A : Nat → Prop} (X : im_X p (im_rm 8) s m args meth c D ct A RX10 cX10_look 9 (some .int)) (F : Nat) (aM : Nat → Nat) (LM : MemL) (x1 : Int32) (x5 : Int32) (k132 : Mem → Int32 → Int32 → Int32 → Option (Int32 × Mem)) (hk132 : ∀ (M : Mem) (x2 : Int32) (x3 : Int32) (x4 : Int32), Im p l e (im_rm 8) s m args below meth c D A 9 (QI D A (fun z : Int32 × Mem => z.1) (fun z : Int32 × Mem => (cat [w_Model ct aM z.2 LM]))) 132 [(0, .ref (aM 0)), (1, .int x1), (2, .int x2), (3, .int x3), (4, .int x4), (5, .int x5)] [] (cat [w_Model ct aM M LM]) (k132 M x2 x3 x4)) : ∀ (n : Nat) (M : Mem) (x2 : Int32) (x3 : Int32) (x4 : Int32) (x6 : Int32), Im p l e (im_rm 8) s m args below meth c D A 9 (QI D A (fun z : Int32 × Mem => z.1) (fun z : Int32 × Mem => (cat [w_Model ct aM z.2 LM]))) 52 [(0, .ref (aM 0)), (1, .int x1), (2, .int x2), (3, .int x3), (4, .int x4), (5, .int x5), (6, .int x6)] [] (cat [w_Model ct aM M LM]) (f_X10_look_52 F LM x1 x5 k132 n M x2 x3 x4 x6) := by
  intro n
  induction n with
  | zero => intros; exact im_none
  | succ n ih =>
    intro M x2 x3 x4 x6
    unfold f_X10_look_52
    refine im_iload X 6 dX10_look_52 rfl ?_
    refine im_aload_n X 0 dX10_look_54 rfl rfl ?_
    refine im_cget X 0 0 (v := .ref (aM 1)) fl_X10_13 rfl rfl rfl dX10_look_55 ?_
    refine im_iconst X 1 dX10_look_58 (by decide) ?_
    refine im_ciald X 0 1 0 (f := (M 1)) rfl rfl rfl dX10_look_59 ?_
    refine im_icmp_ge (tgt := 132) X dX10_look_60 rfl ?_ ?_
    · refine im_lv [0, 1, 2, 3, 4, 5] [(0, .ref (aM 0)), (1, .int x1), (2, .int x2), (3, .int x3), (4, .int x4), (5, .int x5)] rfl ?_
      exact hk132 M x2 x3 x4
    · refine im_iconst X 0 dX10_look_63 (by decide) ?_
      refine im_istore X [1, 2, 3, 4, 5, 6, 7, 0] [(0, .ref (aM 0)), (1, .int x1), (2, .int x2), (3, .int x3), (4, .int x4), (5, .int x5), (6, .int x6), (7, .int 0)] dX10_look_64 (by decide) rfl ?_
      refine i_X10_look_66 X F aM LM x1 x5 x6 _ (fun M_126 x2_126 x3_126 x4_126 => ?_) F M x2 x3 x4 0
      refine im_iinc X 6 1 [1, 2, 3, 4, 5, 6, 0] [(0, .ref (aM 0)), (1, .int x1), (2, .int x2_126), (3, .int x3_126), (4, .int x4_126), (5, .int x5), (6, .int (x6 + 1))] dX10_look_126 (by decide) rfl (by decide) rfl ?_
      refine im_goto (tgt := 52) X dX10_look_129 rfl ?_
      exact ih M_126 x2_126 x3_126 x4_126 (x6 + 1)
noncomputable def f_X10_look_37 (F : Nat) (LM : MemL) (x1 : Int32) (k138 : Mem → Int32 → Int32 → Int32 → Option (Int32 × Mem)) : Nat → Mem → Int32 → Int32 → Int32 → Int32 → Option (Int32 × Mem)
  | 0, _, _, _, _, _ => none
  | n + 1, M, x2, x3, x4, x5 =>
  ck 56 226 ((if ((M 1) (56 : Int32).toNatClampNeg) < x5 then k138 M x2 x3 x4 else f_X10_look_52 F LM x1 x5 (fun M_132 x2_132 x3_132 x4_132 => f_X10_look_37 F LM x1 k138 n M_132 x2_132 x3_132 x4_132 (x5 + 1)) F M x2 x3 x4 0))
set_option maxRecDepth 100000 in
set_option maxHeartbeats 4000000 in
theorem i_X10_look_37 {p : Program} {l : Launch} {e : Env} {s : State} {m : MethodId} {args : Array Value} {below : List Frame} {meth : Method} {c : Code} {D : va_G} {ct : im_ct} {A : Nat → Prop} (X : im_X p (im_rm 8) s m args meth c D ct A RX10 cX10_look 9 (some .int)) (F : Nat) (aM : Nat → Nat) (LM : MemL) (x1 : Int32) (k138 : Mem → Int32 → Int32 → Int32 → Option (Int32 × Mem)) (hk138 : ∀ (M : Mem) (x2 : Int32) (x3 : Int32) (x4 : Int32), Im p l e (im_rm 8) s m args below meth c D A 9 (QI D A (fun z : Int32 × Mem => z.1) (fun z : Int32 × Mem => (cat [w_Model ct aM z.2 LM]))) 138 [(1, .int x1), (2, .int x2), (3, .int x3), (4, .int x4)] [] (cat [w_Model ct aM M LM]) (k138 M x2 x3 x4)) : ∀ (n : Nat) (M : Mem) (x2 : Int32) (x3 : Int32) (x4 : Int32) (x5 : Int32), Im p l e (im_rm 8) s m args below meth c D A 9 (QI D A (fun z : Int32 × Mem => z.1) (fun z : Int32 × Mem => (cat [w_Model ct aM z.2 LM]))) 37 [(0, .ref (aM 0)), (1, .int x1), (2, .int x2), (3, .int x3), (4, .int x4), (5, .int x5)] [] (cat [w_Model ct aM M LM]) (f_X10_look_37 F LM x1 k138 n M x2 x3 x4 x5) := by
  intro n
  induction n with
  | zero => intros; exact im_none
  | succ n ih =>
    intro M x2 x3 x4 x5
    unfold f_X10_look_37
    refine im_iload X 5 dX10_look_37 rfl ?_
    refine im_aload_n X 0 dX10_look_39 rfl rfl ?_
    refine im_cget X 0 0 (v := .ref (aM 1)) fl_X10_13 rfl rfl rfl dX10_look_40 ?_
    refine im_bipush X 56 dX10_look_43 (by decide) ?_
    refine im_ciald X 0 1 0 (f := (M 1)) rfl rfl rfl dX10_look_45 ?_
    refine im_icmp_gt (tgt := 138) X dX10_look_46 rfl ?_ ?_
    · refine im_lv [1, 2, 3, 4] [(1, .int x1), (2, .int x2), (3, .int x3), (4, .int x4)] rfl ?_
      exact hk138 M x2 x3 x4
    · refine im_iconst X 0 dX10_look_49 (by decide) ?_
      refine im_istore X [1, 2, 3, 4, 5, 6, 0] [(0, .ref (aM 0)), (1, .int x1), (2, .int x2), (3, .int x3), (4, .int x4), (5, .int x5), (6, .int 0)] dX10_look_50 (by decide) rfl ?_
      refine i_X10_look_52 X F aM LM x1 x5 _ (fun M_132 x2_132 x3_132 x4_132 => ?_) F M x2 x3 x4 0
      refine im_iinc X 5 1 [1, 2, 3, 4, 5, 0] [(0, .ref (aM 0)), (1, .int x1), (2, .int x2_132), (3, .int x3_132), (4, .int x4_132), (5, .int (x5 + 1))] dX10_look_132 (by decide) rfl (by decide) rfl ?_
      refine im_goto (tgt := 37) X dX10_look_135 rfl ?_
      exact ih M_132 x2_132 x3_132 x4_132 (x5 + 1)
noncomputable def f_X10_look (F : Nat) (M : Mem) (LM : MemL) (x1 : Int32) : Option (Int32 × Mem) :=
  (f_X10_in F (x1).toInt64 0 3).bind (fun z6 => (if z6 = 0 then (some ((-1), M)) else (f_X10_laysSlides F M LM).bind (fun z15 => (if (z15 0 24) = 0 then (some ((-1), z15)) else f_X10_look_37 F LM x1 (fun M_138 x2_138 x3_138 x4_138 => (if x1 = 0 then (some (x2_138, M_138)) else (if x1 = 1 then dv 6 ((some ((x3_138 / 6), M_138))) else (if x1 = 2 then dv 6 ((some ((x3_138 - x3_138 / 6 * 6), M_138))) else (some (x4_138, M_138)))))) F z15 (-1) (-1) (-1) 0))))
set_option maxRecDepth 100000 in
set_option maxHeartbeats 4000000 in
theorem i_X10_look {p : Program} {l : Launch} {e : Env} {s : State} {m : MethodId} {args : Array Value} {below : List Frame} {meth : Method} {c : Code} {D : va_G} {ct : im_ct} {A : Nat → Prop} (X : im_X p (im_rm 8) s m args meth c D ct A RX10 cX10_look 9 (some .int)) (F : Nat) (aM : Nat → Nat) (M : Mem) (LM : MemL) (x1 : Int32) : Im p l e (im_rm 8) s m args below meth c D A 9 (QI D A (fun z : Int32 × Mem => z.1) (fun z : Int32 × Mem => (cat [w_Model ct aM z.2 LM]))) 0 [(0, .ref (aM 0)), (1, .int x1)] [] (cat [w_Model ct aM M LM]) (f_X10_look F M LM x1) := by
  unfold f_X10_look
  refine im_iload_n X 1 dX10_look_0 rfl rfl ?_
  refine im_i2l X dX10_look_1 ?_
  refine im_lconst X 0 dX10_look_2 (by decide) ?_
  refine im_ldc2 X kc_X10_277 dX10_look_3 ?_
  refine im_cciS X [.long (x1).toInt64, .long 0, .long 3] [] [w_Model ct aM M LM] [] [] (fun z6 => []) cl_X10_86 (c_X10_in l D ct F (x1).toInt64 0 3) rfl (by decide) (fun _ => rfl) rfl ⟨by decide, by decide⟩ (Nat.le_of_ble_eq_true rfl) rfl dX10_look_6 (fun z6 => ?_)
  refine im_ws (cat [w_Model ct aM M LM]) rfl ?_
  refine im_if_ne (tgt := 14) X dX10_look_9 rfl ?_ ?_
  · refine im_aload_n X 0 dX10_look_14 rfl rfl ?_
    refine im_ccvV X [] [] [w_Model ct aM M LM] [w_Model ct aM M LM] [0] (fun z15 => [w_Model ct aM z15 LM]) 0 0 10 rfl rfl rfl cl_X10_270 (c_X10_laysSlides l D ct F aM M LM) rfl (by decide) (fun _ => lc fa_Model (rfl)) rfl ⟨by decide, by decide⟩ (Nat.le_of_ble_eq_true rfl) rfl dX10_look_15 (fun z15 => ?_)
    refine im_ws (cat [w_Model ct aM z15 LM]) rfl ?_
    refine im_iconst X (-1) dX10_look_18 (by decide) ?_
    refine im_istore_n X [1, 2, 0] [(0, .ref (aM 0)), (1, .int x1), (2, .int (-1))] dX10_look_19 rfl (by decide) rfl ?_
    refine im_iconst X (-1) dX10_look_20 (by decide) ?_
    refine im_istore_n X [1, 2, 3, 0] [(0, .ref (aM 0)), (1, .int x1), (2, .int (-1)), (3, .int (-1))] dX10_look_21 rfl (by decide) rfl ?_
    refine im_iconst X (-1) dX10_look_22 (by decide) ?_
    refine im_istore X [1, 2, 3, 4, 0] [(0, .ref (aM 0)), (1, .int x1), (2, .int (-1)), (3, .int (-1)), (4, .int (-1))] dX10_look_23 (by decide) rfl ?_
    refine im_aload_n X 0 dX10_look_25 rfl rfl ?_
    refine im_cget X 0 0 (v := .int (z15 0 24)) fl_X10_263 rfl rfl rfl dX10_look_26 ?_
    refine im_if_ne (tgt := 34) X dX10_look_29 rfl ?_ ?_
    · refine im_iconst X 0 dX10_look_34 (by decide) ?_
      refine im_istore X [1, 2, 3, 4, 5, 0] [(0, .ref (aM 0)), (1, .int x1), (2, .int (-1)), (3, .int (-1)), (4, .int (-1)), (5, .int 0)] dX10_look_35 (by decide) rfl ?_
      refine i_X10_look_37 X F aM LM x1 _ (fun M_138 x2_138 x3_138 x4_138 => ?_) F z15 (-1) (-1) (-1) 0
      refine im_iload_n X 0 dX10_look_138 rfl rfl ?_
      refine im_if_ne (tgt := 146) X dX10_look_139 rfl ?_ ?_
      · refine im_iload_n X 0 dX10_look_146 rfl rfl ?_
        refine im_iconst X 1 dX10_look_147 (by decide) ?_
        refine im_icmp_ne (tgt := 158) X dX10_look_148 rfl ?_ ?_
        · refine im_iload_n X 0 dX10_look_158 rfl rfl ?_
          refine im_iconst X 2 dX10_look_159 (by decide) ?_
          refine im_icmp_ne (tgt := 170) X dX10_look_160 rfl ?_ ?_
          · refine im_iload X 3 dX10_look_170 rfl ?_
            exact im_ireturn X (x4_138, M_138) rfl rfl dX10_look_172
          · refine im_iload_n X 2 dX10_look_163 rfl rfl ?_
            refine im_bipush X 6 dX10_look_164 (by decide) ?_
            refine im_irem X dX10_look_166 ?_
            refine im_goto (tgt := 172) X dX10_look_167 rfl ?_
            exact im_ireturn X ((x3_138 - x3_138 / 6 * 6), M_138) rfl rfl dX10_look_172
        · refine im_iload_n X 2 dX10_look_151 rfl rfl ?_
          refine im_bipush X 6 dX10_look_152 (by decide) ?_
          refine im_idiv X dX10_look_154 ?_
          refine im_goto (tgt := 172) X dX10_look_155 rfl ?_
          exact im_ireturn X ((x3_138 / 6), M_138) rfl rfl dX10_look_172
      · refine im_iload_n X 1 dX10_look_142 rfl rfl ?_
        refine im_goto (tgt := 172) X dX10_look_143 rfl ?_
        exact im_ireturn X (x2_138, M_138) rfl rfl dX10_look_172
    · refine im_iconst X (-1) dX10_look_32 (by decide) ?_
      exact im_ireturn X ((-1), z15) rfl rfl dX10_look_33
  · refine im_iconst X (-1) dX10_look_12 (by decide) ?_
    exact im_ireturn X ((-1), M) rfl rfl dX10_look_13
theorem c_X10_look (l : Launch) (D : va_G) (ct : im_ct) (F : Nat) (aM : Nat → Nat) (M : Mem) (LM : MemL) (x1 : Int32) : CMi l D ct yX10_look cX10_look 9 (some .int) 8 [.ref (aM 0), .int x1] (cat [w_Model ct aM M LM]) (f_X10_look F M LM x1) (fun z : Int32 × Mem => z.1) (fun z : Int32 × Mem => (cat [w_Model ct aM z.2 LM])) :=
  im_met (Qb := fun A => QI D A (fun z : Int32 × Mem => z.1) (fun z : Int32 × Mem => (cat [w_Model ct aM z.2 LM]))) (by decide +kernel) (Nat.le_of_ble_eq_true rfl) (fun p e s m args below meth c A X => i_X10_look X F aM M LM x1)

noncomputable def f_X10_isLeftOut_7 (F : Nat) (LM : MemL) (x1 : Int32) (k26 : Mem → Option (Int32 × Mem)) (k48 : Mem → Option (Int32 × Mem)) (k61 : Mem → Option (Int32 × Mem)) : Nat → Mem → Int32 → Option (Int32 × Mem)
  | 0, _, _ => none
  | n + 1, M, x2 =>
  ck 56 226 ((if ((M 1) (56 : Int32).toNatClampNeg) ≤ x2 then k61 M else (f_X10_areSo F M LM x2).bind (fun z20 => (if z20 = 0 then k26 M else (f_X10_laysLogged F M LM x2).bind (fun z30 => (if x2 = x1 then f_X10_isLeftOut_7 F LM x1 k26 k48 k61 n z30 (x2 + 1) else (f_X10_fits F z30 LM).bind (fun z42 => (if z42 = 0 then k48 z30 else (f_X10_goes F z30 LM 1).bind (fun z52 => f_X10_isLeftOut_7 F LM x1 k26 k48 k61 n z52 (x2 + 1))))))))))
set_option maxRecDepth 100000 in
set_option maxHeartbeats 4000000 in
theorem i_X10_isLeftOut_7 {p : Program} {l : Launch} {e : Env} {s : State} {m : MethodId} {args : Array Value} {below : List Frame} {meth : Method} {c : Code} {D : va_G} {ct : im_ct} {A : Nat → Prop} (X : im_X p (im_rm 6) s m args meth c D ct A RX10 cX10_isLeftOut 3 (some .boolean)) (F : Nat) (aM : Nat → Nat) (LM : MemL) (x1 : Int32) (k26 : Mem → Option (Int32 × Mem)) (hk26 : ∀ (M : Mem), Im p l e (im_rm 6) s m args below meth c D A 3 (QI D A (fun z : Int32 × Mem => z.1) (fun z : Int32 × Mem => (cat [w_Model ct aM z.2 LM]))) 26 [] [] (cat [w_Model ct aM M LM]) (k26 M)) (k48 : Mem → Option (Int32 × Mem)) (hk48 : ∀ (M : Mem), Im p l e (im_rm 6) s m args below meth c D A 3 (QI D A (fun z : Int32 × Mem => z.1) (fun z : Int32 × Mem => (cat [w_Model ct aM z.2 LM]))) 48 [] [] (cat [w_Model ct aM M LM]) (k48 M)) (k61 : Mem → Option (Int32 × Mem)) (hk61 : ∀ (M : Mem), Im p l e (im_rm 6) s m args below meth c D A 3 (QI D A (fun z : Int32 × Mem => z.1) (fun z : Int32 × Mem => (cat [w_Model ct aM z.2 LM]))) 61 [(0, .ref (aM 0))] [] (cat [w_Model ct aM M LM]) (k61 M)) : ∀ (n : Nat) (M : Mem) (x2 : Int32), Im p l e (im_rm 6) s m args below meth c D A 3 (QI D A (fun z : Int32 × Mem => z.1) (fun z : Int32 × Mem => (cat [w_Model ct aM z.2 LM]))) 7 [(0, .ref (aM 0)), (1, .int x1), (2, .int x2)] [] (cat [w_Model ct aM M LM]) (f_X10_isLeftOut_7 F LM x1 k26 k48 k61 n M x2) := by
  intro n
  induction n with
  | zero => intros; exact im_none
  | succ n ih =>
    intro M x2
    unfold f_X10_isLeftOut_7
    refine im_iload_n X 2 dX10_isLeftOut_7 rfl rfl ?_
    refine im_aload_n X 0 dX10_isLeftOut_8 rfl rfl ?_
    refine im_cget X 0 0 (v := .ref (aM 1)) fl_X10_13 rfl rfl rfl dX10_isLeftOut_9 ?_
    refine im_bipush X 56 dX10_isLeftOut_12 (by decide) ?_
    refine im_ciald X 0 1 0 (f := (M 1)) rfl rfl rfl dX10_isLeftOut_14 ?_
    refine im_icmp_ge (tgt := 61) X dX10_isLeftOut_15 rfl ?_ ?_
    · refine im_lv [0] [(0, .ref (aM 0))] rfl ?_
      exact hk61 M
    · refine im_aload_n X 0 dX10_isLeftOut_18 rfl rfl ?_
      refine im_iload_n X 2 dX10_isLeftOut_19 rfl rfl ?_
      refine im_cciV X [.int x2] [] [w_Model ct aM M LM] [w_Model ct aM M LM] [0] (fun z20 => [w_Model ct aM M LM]) 0 0 10 rfl rfl rfl cl_X10_260 (c_X10_areSo l D ct F aM M LM x2) rfl (by decide) (fun _ => lc rfl (rfl)) rfl ⟨by decide, by decide⟩ (Nat.le_of_ble_eq_true rfl) rfl dX10_isLeftOut_20 (fun z20 => ?_)
      refine im_ws (cat [w_Model ct aM M LM]) rfl ?_
      refine im_if_ne (tgt := 28) X dX10_isLeftOut_23 rfl ?_ ?_
      · refine im_aload_n X 0 dX10_isLeftOut_28 rfl rfl ?_
        refine im_iload_n X 2 dX10_isLeftOut_29 rfl rfl ?_
        refine im_ccvV X [.int x2] [] [w_Model ct aM M LM] [w_Model ct aM M LM] [0] (fun z30 => [w_Model ct aM z30 LM]) 0 0 10 rfl rfl rfl cl_X10_172 (c_X10_laysLogged l D ct F aM M LM x2) rfl (by decide) (fun _ => lc fa_Model (rfl)) rfl ⟨by decide, by decide⟩ (Nat.le_of_ble_eq_true rfl) rfl dX10_isLeftOut_30 (fun z30 => ?_)
        refine im_ws (cat [w_Model ct aM z30 LM]) rfl ?_
        refine im_iload_n X 2 dX10_isLeftOut_33 rfl rfl ?_
        refine im_iload_n X 1 dX10_isLeftOut_34 rfl rfl ?_
        refine im_icmp_ne (tgt := 41) X dX10_isLeftOut_35 rfl ?_ ?_
        · refine im_aload_n X 0 dX10_isLeftOut_41 rfl rfl ?_
          refine im_cciV X [] [] [w_Model ct aM z30 LM] [w_Model ct aM z30 LM] [0] (fun z42 => [w_Model ct aM z30 LM]) 0 0 10 rfl rfl rfl cl_X10_154 (c_X10_fits l D ct F aM z30 LM) rfl (by decide) (fun _ => lc rfl (rfl)) rfl ⟨by decide, by decide⟩ (Nat.le_of_ble_eq_true rfl) rfl dX10_isLeftOut_42 (fun z42 => ?_)
          refine im_ws (cat [w_Model ct aM z30 LM]) rfl ?_
          refine im_if_ne (tgt := 50) X dX10_isLeftOut_45 rfl ?_ ?_
          · refine im_aload_n X 0 dX10_isLeftOut_50 rfl rfl ?_
            refine im_iconst X 1 dX10_isLeftOut_51 (by decide) ?_
            refine im_ccvV X [.int 1] [] [w_Model ct aM z30 LM] [w_Model ct aM z30 LM] [0] (fun z52 => [w_Model ct aM z52 LM]) 0 0 10 rfl rfl rfl cl_X10_161 (c_X10_goes l D ct F aM z30 LM 1) rfl (by decide) (fun _ => lc fa_Model (rfl)) rfl ⟨by decide, by decide⟩ (Nat.le_of_ble_eq_true rfl) rfl dX10_isLeftOut_52 (fun z52 => ?_)
            refine im_ws (cat [w_Model ct aM z52 LM]) rfl ?_
            refine im_iinc X 2 1 [1, 2, 0] [(0, .ref (aM 0)), (1, .int x1), (2, .int (x2 + 1))] dX10_isLeftOut_55 (by decide) rfl (by decide) rfl ?_
            refine im_goto (tgt := 7) X dX10_isLeftOut_58 rfl ?_
            exact ih z52 (x2 + 1)
          · refine im_lv [] [] rfl ?_
            exact hk48 z30
        · refine im_goto (tgt := 55) X dX10_isLeftOut_38 rfl ?_
          refine im_iinc X 2 1 [1, 2, 0] [(0, .ref (aM 0)), (1, .int x1), (2, .int (x2 + 1))] dX10_isLeftOut_55 (by decide) rfl (by decide) rfl ?_
          refine im_goto (tgt := 7) X dX10_isLeftOut_58 rfl ?_
          exact ih z30 (x2 + 1)
      · refine im_lv [] [] rfl ?_
        exact hk26 M
noncomputable def f_X10_isLeftOut (F : Nat) (M : Mem) (LM : MemL) (x1 : Int32) : Option (Int32 × Mem) :=
  (f_X10_laysAt F M LM 0).bind (fun z2 => f_X10_isLeftOut_7 F LM x1 (fun M_26 => (some (0, M_26))) (fun M_48 => (some (0, M_48))) (fun M_61 => ck 56 226 ((f_X10_areSo F M_61 LM ((M_61 1) (56 : Int32).toNatClampNeg)).bind (fun z69 => (cb z69 (some (z69, M_61)))))) F z2 0)
set_option maxRecDepth 100000 in
set_option maxHeartbeats 4000000 in
theorem i_X10_isLeftOut {p : Program} {l : Launch} {e : Env} {s : State} {m : MethodId} {args : Array Value} {below : List Frame} {meth : Method} {c : Code} {D : va_G} {ct : im_ct} {A : Nat → Prop} (X : im_X p (im_rm 6) s m args meth c D ct A RX10 cX10_isLeftOut 3 (some .boolean)) (F : Nat) (aM : Nat → Nat) (M : Mem) (LM : MemL) (x1 : Int32) : Im p l e (im_rm 6) s m args below meth c D A 3 (QI D A (fun z : Int32 × Mem => z.1) (fun z : Int32 × Mem => (cat [w_Model ct aM z.2 LM]))) 0 [(0, .ref (aM 0)), (1, .int x1)] [] (cat [w_Model ct aM M LM]) (f_X10_isLeftOut F M LM x1) := by
  unfold f_X10_isLeftOut
  refine im_aload_n X 0 dX10_isLeftOut_0 rfl rfl ?_
  refine im_iconst X 0 dX10_isLeftOut_1 (by decide) ?_
  refine im_ccvV X [.int 0] [] [w_Model ct aM M LM] [w_Model ct aM M LM] [0] (fun z2 => [w_Model ct aM z2 LM]) 0 0 10 rfl rfl rfl cl_X10_253 (c_X10_laysAt l D ct F aM M LM 0) rfl (by decide) (fun _ => lc fa_Model (rfl)) rfl ⟨by decide, by decide⟩ (Nat.le_of_ble_eq_true rfl) rfl dX10_isLeftOut_2 (fun z2 => ?_)
  refine im_ws (cat [w_Model ct aM z2 LM]) rfl ?_
  refine im_iconst X 0 dX10_isLeftOut_5 (by decide) ?_
  refine im_istore_n X [1, 2, 0] [(0, .ref (aM 0)), (1, .int x1), (2, .int 0)] dX10_isLeftOut_6 rfl (by decide) rfl ?_
  refine i_X10_isLeftOut_7 X F aM LM x1 _ (fun M_26 => ?_) _ (fun M_48 => ?_) _ (fun M_61 => ?_) F z2 0
  · refine im_iconst X 0 dX10_isLeftOut_26 (by decide) ?_
    exact im_zreturn X (0, M_26) rfl rfl rfl dX10_isLeftOut_27
  · refine im_iconst X 0 dX10_isLeftOut_48 (by decide) ?_
    exact im_zreturn X (0, M_48) rfl rfl rfl dX10_isLeftOut_49
  · refine im_aload_n X 0 dX10_isLeftOut_61 rfl rfl ?_
    refine im_aload_n X 0 dX10_isLeftOut_62 rfl rfl ?_
    refine im_cget X 0 0 (v := .ref (aM 1)) fl_X10_13 rfl rfl rfl dX10_isLeftOut_63 ?_
    refine im_bipush X 56 dX10_isLeftOut_66 (by decide) ?_
    refine im_ciald X 0 1 0 (f := (M_61 1)) rfl rfl rfl dX10_isLeftOut_68 ?_
    refine im_cciV X [.int ((M_61 1) (56 : Int32).toNatClampNeg)] [] [w_Model ct aM M_61 LM] [w_Model ct aM M_61 LM] [0] (fun z69 => [w_Model ct aM M_61 LM]) 0 0 10 rfl rfl rfl cl_X10_260 (c_X10_areSo l D ct F aM M_61 LM ((M_61 1) (56 : Int32).toNatClampNeg)) rfl (by decide) (fun _ => lc rfl (rfl)) rfl ⟨by decide, by decide⟩ (Nat.le_of_ble_eq_true rfl) rfl dX10_isLeftOut_69 (fun z69 => ?_)
    refine im_ws (cat [w_Model ct aM M_61 LM]) rfl ?_
    exact im_zreturnc X (z69, M_61) rfl rfl dX10_isLeftOut_72
theorem c_X10_isLeftOut (l : Launch) (D : va_G) (ct : im_ct) (F : Nat) (aM : Nat → Nat) (M : Mem) (LM : MemL) (x1 : Int32) : CMi l D ct yX10_isLeftOut cX10_isLeftOut 3 (some .boolean) 6 [.ref (aM 0), .int x1] (cat [w_Model ct aM M LM]) (f_X10_isLeftOut F M LM x1) (fun z : Int32 × Mem => z.1) (fun z : Int32 × Mem => (cat [w_Model ct aM z.2 LM])) :=
  im_met (Qb := fun A => QI D A (fun z : Int32 × Mem => z.1) (fun z : Int32 × Mem => (cat [w_Model ct aM z.2 LM]))) (by decide +kernel) (Nat.le_of_ble_eq_true rfl) (fun p e s m args below meth c A X => i_X10_isLeftOut X F aM M LM x1)

noncomputable def f_X10_leftOut_4 (F : Nat) (LM : MemL) (k32 : Mem → Int32 → Option (Int32 × Mem)) : Nat → Mem → Int32 → Int32 → Option (Int32 × Mem)
  | 0, _, _, _ => none
  | n + 1, M, x1, x2 =>
  ck 56 226 ((if ((M 1) (56 : Int32).toNatClampNeg) ≤ x2 then k32 M x1 else (f_X10_isLeftOut F M LM x2).bind (fun z17 => (if z17.1 = 0 then f_X10_leftOut_4 F LM k32 n z17.2 x1 (x2 + 1) else f_X10_leftOut_4 F LM k32 n z17.2 (x1 + 1) (x2 + 1)))))
set_option maxRecDepth 100000 in
set_option maxHeartbeats 4000000 in
theorem i_X10_leftOut_4 {p : Program} {l : Launch} {e : Env} {s : State} {m : MethodId} {args : Array Value} {below : List Frame} {meth : Method} {c : Code} {D : va_G} {ct : im_ct} {A : Nat → Prop} (X : im_X p (im_rm 7) s m args meth c D ct A RX10 cX10_leftOut 3 (some .int)) (F : Nat) (aM : Nat → Nat) (LM : MemL) (k32 : Mem → Int32 → Option (Int32 × Mem)) (hk32 : ∀ (M : Mem) (x1 : Int32), Im p l e (im_rm 7) s m args below meth c D A 3 (QI D A (fun z : Int32 × Mem => z.1) (fun z : Int32 × Mem => (cat [w_Model ct aM z.2 LM]))) 32 [(1, .int x1)] [] (cat [w_Model ct aM M LM]) (k32 M x1)) : ∀ (n : Nat) (M : Mem) (x1 : Int32) (x2 : Int32), Im p l e (im_rm 7) s m args below meth c D A 3 (QI D A (fun z : Int32 × Mem => z.1) (fun z : Int32 × Mem => (cat [w_Model ct aM z.2 LM]))) 4 [(0, .ref (aM 0)), (1, .int x1), (2, .int x2)] [] (cat [w_Model ct aM M LM]) (f_X10_leftOut_4 F LM k32 n M x1 x2) := by
  intro n
  induction n with
  | zero => intros; exact im_none
  | succ n ih =>
    intro M x1 x2
    unfold f_X10_leftOut_4
    refine im_iload_n X 2 dX10_leftOut_4 rfl rfl ?_
    refine im_aload_n X 0 dX10_leftOut_5 rfl rfl ?_
    refine im_cget X 0 0 (v := .ref (aM 1)) fl_X10_13 rfl rfl rfl dX10_leftOut_6 ?_
    refine im_bipush X 56 dX10_leftOut_9 (by decide) ?_
    refine im_ciald X 0 1 0 (f := (M 1)) rfl rfl rfl dX10_leftOut_11 ?_
    refine im_icmp_ge (tgt := 32) X dX10_leftOut_12 rfl ?_ ?_
    · refine im_lv [1] [(1, .int x1)] rfl ?_
      exact hk32 M x1
    · refine im_aload_n X 0 dX10_leftOut_15 rfl rfl ?_
      refine im_iload_n X 2 dX10_leftOut_16 rfl rfl ?_
      refine im_cciV X [.int x2] [] [w_Model ct aM M LM] [w_Model ct aM M LM] [0] (fun z17 => [w_Model ct aM z17.2 LM]) 0 0 10 rfl rfl rfl cl_X10_282 (c_X10_isLeftOut l D ct F aM M LM x2) rfl (by decide) (fun _ => lc fa_Model (rfl)) rfl ⟨by decide, by decide⟩ (Nat.le_of_ble_eq_true rfl) rfl dX10_leftOut_17 (fun z17 => ?_)
      refine im_ws (cat [w_Model ct aM z17.2 LM]) rfl ?_
      refine im_if_eq (tgt := 26) X dX10_leftOut_20 rfl ?_ ?_
      · refine im_iinc X 2 1 [1, 2, 0] [(0, .ref (aM 0)), (1, .int x1), (2, .int (x2 + 1))] dX10_leftOut_26 (by decide) rfl (by decide) rfl ?_
        refine im_goto (tgt := 4) X dX10_leftOut_29 rfl ?_
        exact ih z17.2 x1 (x2 + 1)
      · refine im_iinc X 1 1 [1, 0, 2] [(0, .ref (aM 0)), (1, .int (x1 + 1)), (2, .int x2)] dX10_leftOut_23 (by decide) rfl (by decide) rfl ?_
        refine im_iinc X 2 1 [1, 2, 0] [(0, .ref (aM 0)), (1, .int (x1 + 1)), (2, .int (x2 + 1))] dX10_leftOut_26 (by decide) rfl (by decide) rfl ?_
        refine im_goto (tgt := 4) X dX10_leftOut_29 rfl ?_
        exact ih z17.2 (x1 + 1) (x2 + 1)
noncomputable def f_X10_leftOut (F : Nat) (M : Mem) (LM : MemL) : Option (Int32 × Mem) :=
  f_X10_leftOut_4 F LM (fun M_32 x1_32 => (some (x1_32, M_32))) F M 0 0
set_option maxRecDepth 100000 in
set_option maxHeartbeats 4000000 in
theorem i_X10_leftOut {p : Program} {l : Launch} {e : Env} {s : State} {m : MethodId} {args : Array Value} {below : List Frame} {meth : Method} {c : Code} {D : va_G} {ct : im_ct} {A : Nat → Prop} (X : im_X p (im_rm 7) s m args meth c D ct A RX10 cX10_leftOut 3 (some .int)) (F : Nat) (aM : Nat → Nat) (M : Mem) (LM : MemL) : Im p l e (im_rm 7) s m args below meth c D A 3 (QI D A (fun z : Int32 × Mem => z.1) (fun z : Int32 × Mem => (cat [w_Model ct aM z.2 LM]))) 0 [(0, .ref (aM 0))] [] (cat [w_Model ct aM M LM]) (f_X10_leftOut F M LM) := by
  unfold f_X10_leftOut
  refine im_iconst X 0 dX10_leftOut_0 (by decide) ?_
  refine im_istore_n X [1, 0] [(0, .ref (aM 0)), (1, .int 0)] dX10_leftOut_1 rfl (by decide) rfl ?_
  refine im_iconst X 0 dX10_leftOut_2 (by decide) ?_
  refine im_istore_n X [1, 2, 0] [(0, .ref (aM 0)), (1, .int 0), (2, .int 0)] dX10_leftOut_3 rfl (by decide) rfl ?_
  refine i_X10_leftOut_4 X F aM LM  _ (fun M_32 x1_32 => ?_) F M 0 0
  refine im_iload_n X 0 dX10_leftOut_32 rfl rfl ?_
  exact im_ireturn X (x1_32, M_32) rfl rfl dX10_leftOut_33
theorem c_X10_leftOut (l : Launch) (D : va_G) (ct : im_ct) (F : Nat) (aM : Nat → Nat) (M : Mem) (LM : MemL) : CMi l D ct yX10_leftOut cX10_leftOut 3 (some .int) 7 [.ref (aM 0)] (cat [w_Model ct aM M LM]) (f_X10_leftOut F M LM) (fun z : Int32 × Mem => z.1) (fun z : Int32 × Mem => (cat [w_Model ct aM z.2 LM])) :=
  im_met (Qb := fun A => QI D A (fun z : Int32 × Mem => z.1) (fun z : Int32 × Mem => (cat [w_Model ct aM z.2 LM]))) (by decide +kernel) (Nat.le_of_ble_eq_true rfl) (fun p e s m args below meth c A X => i_X10_leftOut X F aM M LM)

noncomputable def f_X10_leftOutAt_10 (F : Nat) (LM : MemL) (k36 : Mem → Int32 → Option (Int32 × Mem)) (k47 : Mem → Option (Int32 × Mem)) : Nat → Mem → Int32 → Int32 → Option (Int32 × Mem)
  | 0, _, _, _ => none
  | n + 1, M, x2, x3 =>
  ck 56 226 ((if ((M 1) (56 : Int32).toNatClampNeg) ≤ x3 then k47 M else (f_X10_isLeftOut F M LM x3).bind (fun z23 => (if z23.1 = 0 then f_X10_leftOutAt_10 F LM k36 k47 n z23.2 x2 (x3 + 1) else (if x2 = 0 then k36 z23.2 x3 else f_X10_leftOutAt_10 F LM k36 k47 n z23.2 (x2 + (-1)) (x3 + 1))))))
set_option maxRecDepth 100000 in
set_option maxHeartbeats 4000000 in
theorem i_X10_leftOutAt_10 {p : Program} {l : Launch} {e : Env} {s : State} {m : MethodId} {args : Array Value} {below : List Frame} {meth : Method} {c : Code} {D : va_G} {ct : im_ct} {A : Nat → Prop} (X : im_X p (im_rm 7) s m args meth c D ct A RX10 cX10_leftOutAt 4 (some .int)) (F : Nat) (aM : Nat → Nat) (LM : MemL) (k36 : Mem → Int32 → Option (Int32 × Mem)) (hk36 : ∀ (M : Mem) (x3 : Int32), Im p l e (im_rm 7) s m args below meth c D A 4 (QI D A (fun z : Int32 × Mem => z.1) (fun z : Int32 × Mem => (cat [w_Model ct aM z.2 LM]))) 36 [(3, .int x3)] [] (cat [w_Model ct aM M LM]) (k36 M x3)) (k47 : Mem → Option (Int32 × Mem)) (hk47 : ∀ (M : Mem), Im p l e (im_rm 7) s m args below meth c D A 4 (QI D A (fun z : Int32 × Mem => z.1) (fun z : Int32 × Mem => (cat [w_Model ct aM z.2 LM]))) 47 [] [] (cat [w_Model ct aM M LM]) (k47 M)) : ∀ (n : Nat) (M : Mem) (x2 : Int32) (x3 : Int32), Im p l e (im_rm 7) s m args below meth c D A 4 (QI D A (fun z : Int32 × Mem => z.1) (fun z : Int32 × Mem => (cat [w_Model ct aM z.2 LM]))) 10 [(0, .ref (aM 0)), (2, .int x2), (3, .int x3)] [] (cat [w_Model ct aM M LM]) (f_X10_leftOutAt_10 F LM k36 k47 n M x2 x3) := by
  intro n
  induction n with
  | zero => intros; exact im_none
  | succ n ih =>
    intro M x2 x3
    unfold f_X10_leftOutAt_10
    refine im_iload_n X 2 dX10_leftOutAt_10 rfl rfl ?_
    refine im_aload_n X 0 dX10_leftOutAt_11 rfl rfl ?_
    refine im_cget X 0 0 (v := .ref (aM 1)) fl_X10_13 rfl rfl rfl dX10_leftOutAt_12 ?_
    refine im_bipush X 56 dX10_leftOutAt_15 (by decide) ?_
    refine im_ciald X 0 1 0 (f := (M 1)) rfl rfl rfl dX10_leftOutAt_17 ?_
    refine im_icmp_ge (tgt := 47) X dX10_leftOutAt_18 rfl ?_ ?_
    · refine im_lv [] [] rfl ?_
      exact hk47 M
    · refine im_aload_n X 0 dX10_leftOutAt_21 rfl rfl ?_
      refine im_iload_n X 2 dX10_leftOutAt_22 rfl rfl ?_
      refine im_cciV X [.int x3] [] [w_Model ct aM M LM] [w_Model ct aM M LM] [0] (fun z23 => [w_Model ct aM z23.2 LM]) 0 0 10 rfl rfl rfl cl_X10_282 (c_X10_isLeftOut l D ct F aM M LM x3) rfl (by decide) (fun _ => lc fa_Model (rfl)) rfl ⟨by decide, by decide⟩ (Nat.le_of_ble_eq_true rfl) rfl dX10_leftOutAt_23 (fun z23 => ?_)
      refine im_ws (cat [w_Model ct aM z23.2 LM]) rfl ?_
      refine im_if_ne (tgt := 32) X dX10_leftOutAt_26 rfl ?_ ?_
      · refine im_iload_n X 1 dX10_leftOutAt_32 rfl rfl ?_
        refine im_if_ne (tgt := 38) X dX10_leftOutAt_33 rfl ?_ ?_
        · refine im_iinc X 1 (-1) [1, 0, 2] [(0, .ref (aM 0)), (2, .int (x2 + (-1))), (3, .int x3)] dX10_leftOutAt_38 (by decide) rfl (by decide) rfl ?_
          refine im_iinc X 2 1 [1, 2, 0] [(0, .ref (aM 0)), (2, .int (x2 + (-1))), (3, .int (x3 + 1))] dX10_leftOutAt_41 (by decide) rfl (by decide) rfl ?_
          refine im_goto (tgt := 10) X dX10_leftOutAt_44 rfl ?_
          exact ih z23.2 (x2 + (-1)) (x3 + 1)
        · refine im_lv [2] [(3, .int x3)] rfl ?_
          exact hk36 z23.2 x3
      · refine im_goto (tgt := 41) X dX10_leftOutAt_29 rfl ?_
        refine im_iinc X 2 1 [1, 2, 0] [(0, .ref (aM 0)), (2, .int x2), (3, .int (x3 + 1))] dX10_leftOutAt_41 (by decide) rfl (by decide) rfl ?_
        refine im_goto (tgt := 10) X dX10_leftOutAt_44 rfl ?_
        exact ih z23.2 x2 (x3 + 1)
noncomputable def f_X10_leftOutAt (F : Nat) (M : Mem) (LM : MemL) (x1 : Int32) : Option (Int32 × Mem) :=
  (if 0 ≤ x1 then f_X10_leftOutAt_10 F LM (fun M_36 x3_36 => (some (x3_36, M_36))) (fun M_47 => (some ((-2), M_47))) F M x1 0 else (some ((-1), M)))
set_option maxRecDepth 100000 in
set_option maxHeartbeats 4000000 in
theorem i_X10_leftOutAt {p : Program} {l : Launch} {e : Env} {s : State} {m : MethodId} {args : Array Value} {below : List Frame} {meth : Method} {c : Code} {D : va_G} {ct : im_ct} {A : Nat → Prop} (X : im_X p (im_rm 7) s m args meth c D ct A RX10 cX10_leftOutAt 4 (some .int)) (F : Nat) (aM : Nat → Nat) (M : Mem) (LM : MemL) (x1 : Int32) : Im p l e (im_rm 7) s m args below meth c D A 4 (QI D A (fun z : Int32 × Mem => z.1) (fun z : Int32 × Mem => (cat [w_Model ct aM z.2 LM]))) 0 [(0, .ref (aM 0)), (1, .int x1)] [] (cat [w_Model ct aM M LM]) (f_X10_leftOutAt F M LM x1) := by
  unfold f_X10_leftOutAt
  refine im_iload_n X 1 dX10_leftOutAt_0 rfl rfl ?_
  refine im_if_ge (tgt := 6) X dX10_leftOutAt_1 rfl ?_ ?_
  · refine im_iload_n X 1 dX10_leftOutAt_6 rfl rfl ?_
    refine im_istore_n X [1, 2, 0] [(0, .ref (aM 0)), (1, .int x1), (2, .int x1)] dX10_leftOutAt_7 rfl (by decide) rfl ?_
    refine im_iconst X 0 dX10_leftOutAt_8 (by decide) ?_
    refine im_istore_n X [1, 2, 3, 0] [(0, .ref (aM 0)), (1, .int x1), (2, .int x1), (3, .int 0)] dX10_leftOutAt_9 rfl (by decide) rfl ?_
    refine im_lv [0, 2, 3] [(0, .ref (aM 0)), (2, .int x1), (3, .int 0)] rfl ?_
    refine i_X10_leftOutAt_10 X F aM LM  _ (fun M_36 x3_36 => ?_) _ (fun M_47 => ?_) F M x1 0
    · refine im_iload_n X 0 dX10_leftOutAt_36 rfl rfl ?_
      exact im_ireturn X (x3_36, M_36) rfl rfl dX10_leftOutAt_37
    · refine im_bipush X (-2) dX10_leftOutAt_47 (by decide) ?_
      exact im_ireturn X ((-2), M_47) rfl rfl dX10_leftOutAt_49
  · refine im_iconst X (-1) dX10_leftOutAt_4 (by decide) ?_
    exact im_ireturn X ((-1), M) rfl rfl dX10_leftOutAt_5
theorem c_X10_leftOutAt (l : Launch) (D : va_G) (ct : im_ct) (F : Nat) (aM : Nat → Nat) (M : Mem) (LM : MemL) (x1 : Int32) : CMi l D ct yX10_leftOutAt cX10_leftOutAt 4 (some .int) 7 [.ref (aM 0), .int x1] (cat [w_Model ct aM M LM]) (f_X10_leftOutAt F M LM x1) (fun z : Int32 × Mem => z.1) (fun z : Int32 × Mem => (cat [w_Model ct aM z.2 LM])) :=
  im_met (Qb := fun A => QI D A (fun z : Int32 × Mem => z.1) (fun z : Int32 × Mem => (cat [w_Model ct aM z.2 LM]))) (by decide +kernel) (Nat.le_of_ble_eq_true rfl) (fun p e s m args below meth c A X => i_X10_leftOutAt X F aM M LM x1)

noncomputable def f_X10_writesSign (F : Nat) (M : Mem) (LM : MemL) (x1 : Int32) : Option (Mem) :=
  ck (M 0 27) 2000 ((some (mr (mr M 20 (upd (M 20) ((M 0 27)).toNatClampNeg x1)) 0 (fu (M 0) 27 ((M 0 27) + 1)))))
set_option maxRecDepth 100000 in
set_option maxHeartbeats 4000000 in
theorem i_X10_writesSign {p : Program} {l : Launch} {e : Env} {s : State} {m : MethodId} {args : Array Value} {below : List Frame} {meth : Method} {c : Code} {D : va_G} {ct : im_ct} {A : Nat → Prop} (X : im_X p (im_rm 0) s m args meth c D ct A RX10 cX10_writesSign 2 none) (F : Nat) (aM : Nat → Nat) (M : Mem) (LM : MemL) (x1 : Int32) : Im p l e (im_rm 0) s m args below meth c D A 2 (QV D A (fun z : Mem => (cat [w_Model ct aM z LM]))) 0 [(0, .ref (aM 0)), (1, .int x1)] [] (cat [w_Model ct aM M LM]) (f_X10_writesSign F M LM x1) := by
  unfold f_X10_writesSign
  refine im_aload_n X 0 dX10_writesSign_0 rfl rfl ?_
  refine im_cget X 0 0 (v := .ref (aM 20)) fl_X10_73 rfl rfl rfl dX10_writesSign_1 ?_
  refine im_aload_n X 0 dX10_writesSign_4 rfl rfl ?_
  refine im_cget X 0 0 (v := .int (M 0 27)) fl_X10_285 rfl rfl rfl dX10_writesSign_5 ?_
  refine im_iload_n X 1 dX10_writesSign_8 rfl rfl ?_
  refine im_ciast X 0 20 0 (wx_Model ct aM (M 0 0) (M 0 4) (M 0 6) (M 0 7) (M 0 8) (M 0 9) (M 0 24) (M 0 27) (M 0 29) (M 0 31) (M 0 32) (M 0 33) (M 0 34) (M 0 35) (M 1) (M 2) (M 3) (M 4) (M 5) (M 9) (M 10) (M 11) (M 12) (M 13) (M 14) (M 15) (M 16) (M 17) (M 18) (M 19) (upd (M 20) ((M 0 27)).toNatClampNeg x1) (M 21) (M 22) (LM 6) (LM 7) (LM 8)) [wx_Model ct aM (M 0 0) (M 0 4) (M 0 6) (M 0 7) (M 0 8) (M 0 9) (M 0 24) (M 0 27) (M 0 29) (M 0 31) (M 0 32) (M 0 33) (M 0 34) (M 0 35) (M 1) (M 2) (M 3) (M 4) (M 5) (M 9) (M 10) (M 11) (M 12) (M 13) (M 14) (M 15) (M 16) (M 17) (M 18) (M 19) (upd (M 20) ((M 0 27)).toNatClampNeg x1) (M 21) (M 22) (LM 6) (LM 7) (LM 8)] (f := (M 20)) rfl rfl rfl rfl rfl dX10_writesSign_9 ?_
  refine im_aload_n X 0 dX10_writesSign_10 rfl rfl ?_
  refine im_dup X rfl dX10_writesSign_11 ?_
  refine im_cget X 0 0 (v := .int (M 0 27)) fl_X10_285 rfl rfl rfl dX10_writesSign_12 ?_
  refine im_iconst X 1 dX10_writesSign_15 (by decide) ?_
  refine im_iadd X dX10_writesSign_16 ?_
  refine im_cput X 0 0 (wx_Model ct aM (M 0 0) (M 0 4) (M 0 6) (M 0 7) (M 0 8) (M 0 9) (M 0 24) ((M 0 27) + 1) (M 0 29) (M 0 31) (M 0 32) (M 0 33) (M 0 34) (M 0 35) (M 1) (M 2) (M 3) (M 4) (M 5) (M 9) (M 10) (M 11) (M 12) (M 13) (M 14) (M 15) (M 16) (M 17) (M 18) (M 19) (upd (M 20) ((M 0 27)).toNatClampNeg x1) (M 21) (M 22) (LM 6) (LM 7) (LM 8)) [wx_Model ct aM (M 0 0) (M 0 4) (M 0 6) (M 0 7) (M 0 8) (M 0 9) (M 0 24) ((M 0 27) + 1) (M 0 29) (M 0 31) (M 0 32) (M 0 33) (M 0 34) (M 0 35) (M 1) (M 2) (M 3) (M 4) (M 5) (M 9) (M 10) (M 11) (M 12) (M 13) (M 14) (M 15) (M 16) (M 17) (M 18) (M 19) (upd (M 20) ((M 0 27)).toNatClampNeg x1) (M 21) (M 22) (LM 6) (LM 7) (LM 8)] fl_X10_285 rfl rfl rfl rfl (Nat.le_of_ble_eq_true rfl) rfl rfl dX10_writesSign_17 ?_
  exact im_return X (mr (mr M 20 (upd (M 20) ((M 0 27)).toNatClampNeg x1)) 0 (fu (M 0) 27 ((M 0 27) + 1))) rfl dX10_writesSign_20
theorem c_X10_writesSign (l : Launch) (D : va_G) (ct : im_ct) (F : Nat) (aM : Nat → Nat) (M : Mem) (LM : MemL) (x1 : Int32) : CMv l D ct yX10_writesSign cX10_writesSign 2 none 0 [.ref (aM 0), .int x1] (cat [w_Model ct aM M LM]) (f_X10_writesSign F M LM x1) (fun z : Mem => (cat [w_Model ct aM z LM])) :=
  im_met (Qb := fun A => QV D A (fun z : Mem => (cat [w_Model ct aM z LM]))) (by decide +kernel) (Nat.le_of_ble_eq_true rfl) (fun p e s m args below meth c A X => i_X10_writesSign X F aM M LM x1)

noncomputable def f_X10_wordFrom_4 (F : Nat) (M : Mem) (LM : MemL) (k26 : Int32 → Option (Int32)) : Nat → Int32 → Int32 → Option (Int32)
  | 0, _, _ => none
  | n + 1, x2, x3 =>
  (if x3 ≤ 0 then k26 x2 else ck x2 50 ((if ((M 22) x2.toNatClampNeg) = 0 then f_X10_wordFrom_4 F M LM k26 n (x2 + 1) (x3 + (-1)) else f_X10_wordFrom_4 F M LM k26 n (x2 + 1) x3)))
set_option maxRecDepth 100000 in
set_option maxHeartbeats 4000000 in
theorem i_X10_wordFrom_4 {p : Program} {l : Launch} {e : Env} {s : State} {m : MethodId} {args : Array Value} {below : List Frame} {meth : Method} {c : Code} {D : va_G} {ct : im_ct} {A : Nat → Prop} (X : im_X p (im_rm 0) s m args meth c D ct A RX10 cX10_wordFrom 4 (some .int)) (F : Nat) (aM : Nat → Nat) (M : Mem) (LM : MemL) (k26 : Int32 → Option (Int32)) (hk26 : ∀ (x2 : Int32), Im p l e (im_rm 0) s m args below meth c D A 4 (QI D A (fun z : Int32 => z) (fun z : Int32 => (cat [w_Model ct aM M LM]))) 26 [(2, .int x2)] [] (cat [w_Model ct aM M LM]) (k26 x2)) : ∀ (n : Nat) (x2 : Int32) (x3 : Int32), Im p l e (im_rm 0) s m args below meth c D A 4 (QI D A (fun z : Int32 => z) (fun z : Int32 => (cat [w_Model ct aM M LM]))) 4 [(0, .ref (aM 0)), (2, .int x2), (3, .int x3)] [] (cat [w_Model ct aM M LM]) (f_X10_wordFrom_4 F M LM k26 n x2 x3) := by
  intro n
  induction n with
  | zero => intros; exact im_none
  | succ n ih =>
    intro x2 x3
    unfold f_X10_wordFrom_4
    refine im_iload_n X 2 dX10_wordFrom_4 rfl rfl ?_
    refine im_if_le (tgt := 26) X dX10_wordFrom_5 rfl ?_ ?_
    · refine im_lv [1] [(2, .int x2)] rfl ?_
      exact hk26 x2
    · refine im_aload_n X 0 dX10_wordFrom_8 rfl rfl ?_
      refine im_cget X 0 0 (v := .ref (aM 22)) fl_X10_79 rfl rfl rfl dX10_wordFrom_9 ?_
      refine im_iload_n X 1 dX10_wordFrom_12 rfl rfl ?_
      refine im_cbald X 0 22 2 (f := (M 22)) rfl rfl rfl dX10_wordFrom_13 ?_
      refine im_if_ne (tgt := 20) X dX10_wordFrom_14 rfl ?_ ?_
      · refine im_iinc X 1 1 [1, 0, 2] [(0, .ref (aM 0)), (2, .int (x2 + 1)), (3, .int x3)] dX10_wordFrom_20 (by decide) rfl (by decide) rfl ?_
        refine im_goto (tgt := 4) X dX10_wordFrom_23 rfl ?_
        exact ih (x2 + 1) x3
      · refine im_iinc X 2 (-1) [1, 2, 0] [(0, .ref (aM 0)), (2, .int x2), (3, .int (x3 + (-1)))] dX10_wordFrom_17 (by decide) rfl (by decide) rfl ?_
        refine im_iinc X 1 1 [1, 0, 2] [(0, .ref (aM 0)), (2, .int (x2 + 1)), (3, .int (x3 + (-1)))] dX10_wordFrom_20 (by decide) rfl (by decide) rfl ?_
        refine im_goto (tgt := 4) X dX10_wordFrom_23 rfl ?_
        exact ih (x2 + 1) (x3 + (-1))
noncomputable def f_X10_wordFrom (F : Nat) (M : Mem) (LM : MemL) (x1 : Int32) : Option (Int32) :=
  f_X10_wordFrom_4 F M LM (fun x2_26 => (some x2_26)) F 0 x1
set_option maxRecDepth 100000 in
set_option maxHeartbeats 4000000 in
theorem i_X10_wordFrom {p : Program} {l : Launch} {e : Env} {s : State} {m : MethodId} {args : Array Value} {below : List Frame} {meth : Method} {c : Code} {D : va_G} {ct : im_ct} {A : Nat → Prop} (X : im_X p (im_rm 0) s m args meth c D ct A RX10 cX10_wordFrom 4 (some .int)) (F : Nat) (aM : Nat → Nat) (M : Mem) (LM : MemL) (x1 : Int32) : Im p l e (im_rm 0) s m args below meth c D A 4 (QI D A (fun z : Int32 => z) (fun z : Int32 => (cat [w_Model ct aM M LM]))) 0 [(0, .ref (aM 0)), (1, .int x1)] [] (cat [w_Model ct aM M LM]) (f_X10_wordFrom F M LM x1) := by
  unfold f_X10_wordFrom
  refine im_iconst X 0 dX10_wordFrom_0 (by decide) ?_
  refine im_istore_n X [1, 2, 0] [(0, .ref (aM 0)), (1, .int x1), (2, .int 0)] dX10_wordFrom_1 rfl (by decide) rfl ?_
  refine im_iload_n X 1 dX10_wordFrom_2 rfl rfl ?_
  refine im_istore_n X [1, 2, 3, 0] [(0, .ref (aM 0)), (1, .int x1), (2, .int 0), (3, .int x1)] dX10_wordFrom_3 rfl (by decide) rfl ?_
  refine im_lv [0, 2, 3] [(0, .ref (aM 0)), (2, .int 0), (3, .int x1)] rfl ?_
  refine i_X10_wordFrom_4 X F aM M LM  _ (fun x2_26 => ?_) F 0 x1
  refine im_iload_n X 0 dX10_wordFrom_26 rfl rfl ?_
  exact im_ireturn X x2_26 rfl rfl dX10_wordFrom_27
theorem c_X10_wordFrom (l : Launch) (D : va_G) (ct : im_ct) (F : Nat) (aM : Nat → Nat) (M : Mem) (LM : MemL) (x1 : Int32) : CMi l D ct yX10_wordFrom cX10_wordFrom 4 (some .int) 0 [.ref (aM 0), .int x1] (cat [w_Model ct aM M LM]) (f_X10_wordFrom F M LM x1) (fun z : Int32 => z) (fun z : Int32 => (cat [w_Model ct aM M LM])) :=
  im_met (Qb := fun A => QI D A (fun z : Int32 => z) (fun z : Int32 => (cat [w_Model ct aM M LM]))) (by decide +kernel) (Nat.le_of_ble_eq_true rfl) (fun p e s m args below meth c A X => i_X10_wordFrom X F aM M LM x1)

noncomputable def f_X10_writesWord_6 (F : Nat) (LM : MemL) (k31 : Mem → Option (Mem)) : Nat → Mem → Int32 → Option (Mem)
  | 0, _, _ => none
  | n + 1, M, x2 =>
  ck x2 50 ((if ((M 22) x2.toNatClampNeg) = 0 then k31 M else ck x2 50 ((f_X10_writesSign F M LM ((M 22) x2.toNatClampNeg)).bind (fun z22 => f_X10_writesWord_6 F LM k31 n z22 (x2 + 1)))))
set_option maxRecDepth 100000 in
set_option maxHeartbeats 4000000 in
theorem i_X10_writesWord_6 {p : Program} {l : Launch} {e : Env} {s : State} {m : MethodId} {args : Array Value} {below : List Frame} {meth : Method} {c : Code} {D : va_G} {ct : im_ct} {A : Nat → Prop} (X : im_X p (im_rm 1) s m args meth c D ct A RX10 cX10_writesWord 3 none) (F : Nat) (aM : Nat → Nat) (LM : MemL) (k31 : Mem → Option (Mem)) (hk31 : ∀ (M : Mem), Im p l e (im_rm 1) s m args below meth c D A 3 (QV D A (fun z : Mem => (cat [w_Model ct aM z LM]))) 31 [] [] (cat [w_Model ct aM M LM]) (k31 M)) : ∀ (n : Nat) (M : Mem) (x2 : Int32), Im p l e (im_rm 1) s m args below meth c D A 3 (QV D A (fun z : Mem => (cat [w_Model ct aM z LM]))) 6 [(0, .ref (aM 0)), (2, .int x2)] [] (cat [w_Model ct aM M LM]) (f_X10_writesWord_6 F LM k31 n M x2) := by
  intro n
  induction n with
  | zero => intros; exact im_none
  | succ n ih =>
    intro M x2
    unfold f_X10_writesWord_6
    refine im_aload_n X 0 dX10_writesWord_6 rfl rfl ?_
    refine im_cget X 0 0 (v := .ref (aM 22)) fl_X10_79 rfl rfl rfl dX10_writesWord_7 ?_
    refine im_iload_n X 1 dX10_writesWord_10 rfl rfl ?_
    refine im_cbald X 0 22 2 (f := (M 22)) rfl rfl rfl dX10_writesWord_11 ?_
    refine im_if_eq (tgt := 31) X dX10_writesWord_12 rfl ?_ ?_
    · refine im_lv [] [] rfl ?_
      exact hk31 M
    · refine im_aload_n X 0 dX10_writesWord_15 rfl rfl ?_
      refine im_aload_n X 0 dX10_writesWord_16 rfl rfl ?_
      refine im_cget X 0 0 (v := .ref (aM 22)) fl_X10_79 rfl rfl rfl dX10_writesWord_17 ?_
      refine im_iload_n X 1 dX10_writesWord_20 rfl rfl ?_
      refine im_cbald X 0 22 2 (f := (M 22)) rfl rfl rfl dX10_writesWord_21 ?_
      refine im_ccvV X [.int ((M 22) x2.toNatClampNeg)] [] [w_Model ct aM M LM] [w_Model ct aM M LM] [0] (fun z22 => [w_Model ct aM z22 LM]) 0 0 10 rfl rfl rfl cl_X10_291 (c_X10_writesSign l D ct F aM M LM ((M 22) x2.toNatClampNeg)) rfl (by decide) (fun _ => lc fa_Model (rfl)) rfl ⟨by decide, by decide⟩ (Nat.le_of_ble_eq_true rfl) rfl dX10_writesWord_22 (fun z22 => ?_)
      refine im_ws (cat [w_Model ct aM z22 LM]) rfl ?_
      refine im_iinc X 1 1 [1, 0] [(0, .ref (aM 0)), (2, .int (x2 + 1))] dX10_writesWord_25 (by decide) rfl (by decide) rfl ?_
      refine im_goto (tgt := 6) X dX10_writesWord_28 rfl ?_
      exact ih z22 (x2 + 1)
noncomputable def f_X10_writesWord (F : Nat) (M : Mem) (LM : MemL) (x1 : Int32) : Option (Mem) :=
  (f_X10_wordFrom F M LM x1).bind (fun z2 => f_X10_writesWord_6 F LM (fun M_31 => (some M_31)) F M z2)
set_option maxRecDepth 100000 in
set_option maxHeartbeats 4000000 in
theorem i_X10_writesWord {p : Program} {l : Launch} {e : Env} {s : State} {m : MethodId} {args : Array Value} {below : List Frame} {meth : Method} {c : Code} {D : va_G} {ct : im_ct} {A : Nat → Prop} (X : im_X p (im_rm 1) s m args meth c D ct A RX10 cX10_writesWord 3 none) (F : Nat) (aM : Nat → Nat) (M : Mem) (LM : MemL) (x1 : Int32) : Im p l e (im_rm 1) s m args below meth c D A 3 (QV D A (fun z : Mem => (cat [w_Model ct aM z LM]))) 0 [(0, .ref (aM 0)), (1, .int x1)] [] (cat [w_Model ct aM M LM]) (f_X10_writesWord F M LM x1) := by
  unfold f_X10_writesWord
  refine im_aload_n X 0 dX10_writesWord_0 rfl rfl ?_
  refine im_iload_n X 1 dX10_writesWord_1 rfl rfl ?_
  refine im_cciV X [.int x1] [] [w_Model ct aM M LM] [w_Model ct aM M LM] [0] (fun z2 => [w_Model ct aM M LM]) 0 0 10 rfl rfl rfl cl_X10_288 (c_X10_wordFrom l D ct F aM M LM x1) rfl (by decide) (fun _ => lc rfl (rfl)) rfl ⟨by decide, by decide⟩ (Nat.le_of_ble_eq_true rfl) rfl dX10_writesWord_2 (fun z2 => ?_)
  refine im_ws (cat [w_Model ct aM M LM]) rfl ?_
  refine im_istore_n X [1, 2, 0] [(0, .ref (aM 0)), (1, .int x1), (2, .int z2)] dX10_writesWord_5 rfl (by decide) rfl ?_
  refine im_lv [0, 2] [(0, .ref (aM 0)), (2, .int z2)] rfl ?_
  refine i_X10_writesWord_6 X F aM LM  _ (fun M_31 => ?_) F M z2
  exact im_return X M_31 rfl dX10_writesWord_31
theorem c_X10_writesWord (l : Launch) (D : va_G) (ct : im_ct) (F : Nat) (aM : Nat → Nat) (M : Mem) (LM : MemL) (x1 : Int32) : CMv l D ct yX10_writesWord cX10_writesWord 3 none 1 [.ref (aM 0), .int x1] (cat [w_Model ct aM M LM]) (f_X10_writesWord F M LM x1) (fun z : Mem => (cat [w_Model ct aM z LM])) :=
  im_met (Qb := fun A => QV D A (fun z : Mem => (cat [w_Model ct aM z LM]))) (by decide +kernel) (Nat.le_of_ble_eq_true rfl) (fun p e s m args below meth c A X => i_X10_writesWord X F aM M LM x1)

noncomputable def f_X10_writesNumber_2 (F : Nat) (M : Mem) (LM : MemL) (x1 : Int32) (k18 : Int32 → Option (Mem)) : Nat → Int32 → Option (Mem)
  | 0, _ => none
  | n + 1, x2 =>
  dv x2 ((if (x1 / x2) ≤ 9 then k18 x2 else f_X10_writesNumber_2 F M LM x1 k18 n (x2 * 10)))
set_option maxRecDepth 100000 in
set_option maxHeartbeats 4000000 in
theorem i_X10_writesNumber_2 {p : Program} {l : Launch} {e : Env} {s : State} {m : MethodId} {args : Array Value} {below : List Frame} {meth : Method} {c : Code} {D : va_G} {ct : im_ct} {A : Nat → Prop} (X : im_X p (im_rm 1) s m args meth c D ct A RX10 cX10_writesNumber 3 none) (F : Nat) (aM : Nat → Nat) (M : Mem) (LM : MemL) (x1 : Int32) (k18 : Int32 → Option (Mem)) (hk18 : ∀ (x2 : Int32), Im p l e (im_rm 1) s m args below meth c D A 3 (QV D A (fun z : Mem => (cat [w_Model ct aM z LM]))) 18 [(0, .ref (aM 0)), (1, .int x1), (2, .int x2)] [] (cat [w_Model ct aM M LM]) (k18 x2)) : ∀ (n : Nat) (x2 : Int32), Im p l e (im_rm 1) s m args below meth c D A 3 (QV D A (fun z : Mem => (cat [w_Model ct aM z LM]))) 2 [(0, .ref (aM 0)), (1, .int x1), (2, .int x2)] [] (cat [w_Model ct aM M LM]) (f_X10_writesNumber_2 F M LM x1 k18 n x2) := by
  intro n
  induction n with
  | zero => intros; exact im_none
  | succ n ih =>
    intro x2
    unfold f_X10_writesNumber_2
    refine im_iload_n X 1 dX10_writesNumber_2 rfl rfl ?_
    refine im_iload_n X 2 dX10_writesNumber_3 rfl rfl ?_
    refine im_idiv X dX10_writesNumber_4 ?_
    refine im_bipush X 9 dX10_writesNumber_5 (by decide) ?_
    refine im_icmp_le (tgt := 18) X dX10_writesNumber_7 rfl ?_ ?_
    · exact hk18 x2
    · refine im_iload_n X 2 dX10_writesNumber_10 rfl rfl ?_
      refine im_bipush X 10 dX10_writesNumber_11 (by decide) ?_
      refine im_imul X dX10_writesNumber_13 ?_
      refine im_istore_n X [1, 2, 0] [(0, .ref (aM 0)), (1, .int x1), (2, .int (x2 * 10))] dX10_writesNumber_14 rfl (by decide) rfl ?_
      refine im_goto (tgt := 2) X dX10_writesNumber_15 rfl ?_
      exact ih (x2 * 10)
noncomputable def f_X10_writesNumber_18 (F : Nat) (LM : MemL) (x1 : Int32) (k43 : Mem → Option (Mem)) : Nat → Mem → Int32 → Option (Mem)
  | 0, _, _ => none
  | n + 1, M, x2 =>
  (if x2 ≤ 0 then k43 M else dv x2 (dv 10 ((f_X10_writesSign F M LM (48 + ((x1 / x2) - (x1 / x2) / 10 * 10))).bind (fun z32 => dv 10 (f_X10_writesNumber_18 F LM x1 k43 n z32 (x2 / 10))))))
set_option maxRecDepth 100000 in
set_option maxHeartbeats 4000000 in
theorem i_X10_writesNumber_18 {p : Program} {l : Launch} {e : Env} {s : State} {m : MethodId} {args : Array Value} {below : List Frame} {meth : Method} {c : Code} {D : va_G} {ct : im_ct} {A : Nat → Prop} (X : im_X p (im_rm 1) s m args meth c D ct A RX10 cX10_writesNumber 3 none) (F : Nat) (aM : Nat → Nat) (LM : MemL) (x1 : Int32) (k43 : Mem → Option (Mem)) (hk43 : ∀ (M : Mem), Im p l e (im_rm 1) s m args below meth c D A 3 (QV D A (fun z : Mem => (cat [w_Model ct aM z LM]))) 43 [] [] (cat [w_Model ct aM M LM]) (k43 M)) : ∀ (n : Nat) (M : Mem) (x2 : Int32), Im p l e (im_rm 1) s m args below meth c D A 3 (QV D A (fun z : Mem => (cat [w_Model ct aM z LM]))) 18 [(0, .ref (aM 0)), (1, .int x1), (2, .int x2)] [] (cat [w_Model ct aM M LM]) (f_X10_writesNumber_18 F LM x1 k43 n M x2) := by
  intro n
  induction n with
  | zero => intros; exact im_none
  | succ n ih =>
    intro M x2
    unfold f_X10_writesNumber_18
    refine im_iload_n X 2 dX10_writesNumber_18 rfl rfl ?_
    refine im_if_le (tgt := 43) X dX10_writesNumber_19 rfl ?_ ?_
    · refine im_lv [] [] rfl ?_
      exact hk43 M
    · refine im_aload_n X 0 dX10_writesNumber_22 rfl rfl ?_
      refine im_bipush X 48 dX10_writesNumber_23 (by decide) ?_
      refine im_iload_n X 1 dX10_writesNumber_25 rfl rfl ?_
      refine im_iload_n X 2 dX10_writesNumber_26 rfl rfl ?_
      refine im_idiv X dX10_writesNumber_27 ?_
      refine im_bipush X 10 dX10_writesNumber_28 (by decide) ?_
      refine im_irem X dX10_writesNumber_30 ?_
      refine im_iadd X dX10_writesNumber_31 ?_
      refine im_ccvV X [.int (48 + ((x1 / x2) - (x1 / x2) / 10 * 10))] [] [w_Model ct aM M LM] [w_Model ct aM M LM] [0] (fun z32 => [w_Model ct aM z32 LM]) 0 0 10 rfl rfl rfl cl_X10_291 (c_X10_writesSign l D ct F aM M LM (48 + ((x1 / x2) - (x1 / x2) / 10 * 10))) rfl (by decide) (fun _ => lc fa_Model (rfl)) rfl ⟨by decide, by decide⟩ (Nat.le_of_ble_eq_true rfl) rfl dX10_writesNumber_32 (fun z32 => ?_)
      refine im_ws (cat [w_Model ct aM z32 LM]) rfl ?_
      refine im_iload_n X 2 dX10_writesNumber_35 rfl rfl ?_
      refine im_bipush X 10 dX10_writesNumber_36 (by decide) ?_
      refine im_idiv X dX10_writesNumber_38 ?_
      refine im_istore_n X [1, 2, 0] [(0, .ref (aM 0)), (1, .int x1), (2, .int (x2 / 10))] dX10_writesNumber_39 rfl (by decide) rfl ?_
      refine im_goto (tgt := 18) X dX10_writesNumber_40 rfl ?_
      exact ih z32 (x2 / 10)
noncomputable def f_X10_writesNumber (F : Nat) (M : Mem) (LM : MemL) (x1 : Int32) : Option (Mem) :=
  f_X10_writesNumber_2 F M LM x1 (fun x2_18 => f_X10_writesNumber_18 F LM x1 (fun M_43 => (some M_43)) F M x2_18) F 1
set_option maxRecDepth 100000 in
set_option maxHeartbeats 4000000 in
theorem i_X10_writesNumber {p : Program} {l : Launch} {e : Env} {s : State} {m : MethodId} {args : Array Value} {below : List Frame} {meth : Method} {c : Code} {D : va_G} {ct : im_ct} {A : Nat → Prop} (X : im_X p (im_rm 1) s m args meth c D ct A RX10 cX10_writesNumber 3 none) (F : Nat) (aM : Nat → Nat) (M : Mem) (LM : MemL) (x1 : Int32) : Im p l e (im_rm 1) s m args below meth c D A 3 (QV D A (fun z : Mem => (cat [w_Model ct aM z LM]))) 0 [(0, .ref (aM 0)), (1, .int x1)] [] (cat [w_Model ct aM M LM]) (f_X10_writesNumber F M LM x1) := by
  unfold f_X10_writesNumber
  refine im_iconst X 1 dX10_writesNumber_0 (by decide) ?_
  refine im_istore_n X [1, 2, 0] [(0, .ref (aM 0)), (1, .int x1), (2, .int 1)] dX10_writesNumber_1 rfl (by decide) rfl ?_
  refine i_X10_writesNumber_2 X F aM M LM x1 _ (fun x2_18 => ?_) F 1
  refine i_X10_writesNumber_18 X F aM LM x1 _ (fun M_43 => ?_) F M x2_18
  exact im_return X M_43 rfl dX10_writesNumber_43
theorem c_X10_writesNumber (l : Launch) (D : va_G) (ct : im_ct) (F : Nat) (aM : Nat → Nat) (M : Mem) (LM : MemL) (x1 : Int32) : CMv l D ct yX10_writesNumber cX10_writesNumber 3 none 1 [.ref (aM 0), .int x1] (cat [w_Model ct aM M LM]) (f_X10_writesNumber F M LM x1) (fun z : Mem => (cat [w_Model ct aM z LM])) :=
  im_met (Qb := fun A => QV D A (fun z : Mem => (cat [w_Model ct aM z LM]))) (by decide +kernel) (Nat.le_of_ble_eq_true rfl) (fun p e s m args below meth c A X => i_X10_writesNumber X F aM M LM x1)

noncomputable def f_X10_writesNext (F : Nat) (M : Mem) (LM : MemL) (x1 : Int32) : Option (Mem) :=
  (f_X10_writesSign F M LM 32).bind (fun z3 => (f_X10_writesNumber F z3 LM x1).bind (fun z8 => (some z8)))
set_option maxRecDepth 100000 in
set_option maxHeartbeats 4000000 in
theorem i_X10_writesNext {p : Program} {l : Launch} {e : Env} {s : State} {m : MethodId} {args : Array Value} {below : List Frame} {meth : Method} {c : Code} {D : va_G} {ct : im_ct} {A : Nat → Prop} (X : im_X p (im_rm 2) s m args meth c D ct A RX10 cX10_writesNext 2 none) (F : Nat) (aM : Nat → Nat) (M : Mem) (LM : MemL) (x1 : Int32) : Im p l e (im_rm 2) s m args below meth c D A 2 (QV D A (fun z : Mem => (cat [w_Model ct aM z LM]))) 0 [(0, .ref (aM 0)), (1, .int x1)] [] (cat [w_Model ct aM M LM]) (f_X10_writesNext F M LM x1) := by
  unfold f_X10_writesNext
  refine im_aload_n X 0 dX10_writesNext_0 rfl rfl ?_
  refine im_bipush X 32 dX10_writesNext_1 (by decide) ?_
  refine im_ccvV X [.int 32] [] [w_Model ct aM M LM] [w_Model ct aM M LM] [0] (fun z3 => [w_Model ct aM z3 LM]) 0 0 10 rfl rfl rfl cl_X10_291 (c_X10_writesSign l D ct F aM M LM 32) rfl (by decide) (fun _ => lc fa_Model (rfl)) rfl ⟨by decide, by decide⟩ (Nat.le_of_ble_eq_true rfl) rfl dX10_writesNext_3 (fun z3 => ?_)
  refine im_ws (cat [w_Model ct aM z3 LM]) rfl ?_
  refine im_aload_n X 0 dX10_writesNext_6 rfl rfl ?_
  refine im_iload_n X 1 dX10_writesNext_7 rfl rfl ?_
  refine im_ccvV X [.int x1] [] [w_Model ct aM z3 LM] [w_Model ct aM z3 LM] [0] (fun z8 => [w_Model ct aM z8 LM]) 0 0 10 rfl rfl rfl cl_X10_294 (c_X10_writesNumber l D ct F aM z3 LM x1) rfl (by decide) (fun _ => lc fa_Model (rfl)) rfl ⟨by decide, by decide⟩ (Nat.le_of_ble_eq_true rfl) rfl dX10_writesNext_8 (fun z8 => ?_)
  refine im_ws (cat [w_Model ct aM z8 LM]) rfl ?_
  exact im_return X z8 rfl dX10_writesNext_11
theorem c_X10_writesNext (l : Launch) (D : va_G) (ct : im_ct) (F : Nat) (aM : Nat → Nat) (M : Mem) (LM : MemL) (x1 : Int32) : CMv l D ct yX10_writesNext cX10_writesNext 2 none 2 [.ref (aM 0), .int x1] (cat [w_Model ct aM M LM]) (f_X10_writesNext F M LM x1) (fun z : Mem => (cat [w_Model ct aM z LM])) :=
  im_met (Qb := fun A => QV D A (fun z : Mem => (cat [w_Model ct aM z LM]))) (by decide +kernel) (Nat.le_of_ble_eq_true rfl) (fun p e s m args below meth c A X => i_X10_writesNext X F aM M LM x1)

noncomputable def f_X10_toldText (F : Nat) (M : Mem) (LM : MemL) (x1 : Int32) : Option (Int32) :=
  (if x1 = (-1) then (some (M 0 27)) else (if (M 0 27) ≤ x1 then (some (-2)) else ck x1 2000 ((some ((M 20) x1.toNatClampNeg)))))
set_option maxRecDepth 100000 in
set_option maxHeartbeats 4000000 in
theorem i_X10_toldText {p : Program} {l : Launch} {e : Env} {s : State} {m : MethodId} {args : Array Value} {below : List Frame} {meth : Method} {c : Code} {D : va_G} {ct : im_ct} {A : Nat → Prop} (X : im_X p (im_rm 0) s m args meth c D ct A RX10 cX10_toldText 2 (some .int)) (F : Nat) (aM : Nat → Nat) (M : Mem) (LM : MemL) (x1 : Int32) : Im p l e (im_rm 0) s m args below meth c D A 2 (QI D A (fun z : Int32 => z) (fun z : Int32 => (cat [w_Model ct aM M LM]))) 0 [(0, .ref (aM 0)), (1, .int x1)] [] (cat [w_Model ct aM M LM]) (f_X10_toldText F M LM x1) := by
  unfold f_X10_toldText
  refine im_iload_n X 1 dX10_toldText_0 rfl rfl ?_
  refine im_iconst X (-1) dX10_toldText_1 (by decide) ?_
  refine im_icmp_ne (tgt := 12) X dX10_toldText_2 rfl ?_ ?_
  · refine im_iload_n X 1 dX10_toldText_12 rfl rfl ?_
    refine im_aload_n X 0 dX10_toldText_13 rfl rfl ?_
    refine im_cget X 0 0 (v := .int (M 0 27)) fl_X10_285 rfl rfl rfl dX10_toldText_14 ?_
    refine im_icmp_ge (tgt := 29) X dX10_toldText_17 rfl ?_ ?_
    · refine im_bipush X (-2) dX10_toldText_29 (by decide) ?_
      exact im_ireturn X (-2) rfl rfl dX10_toldText_31
    · refine im_aload_n X 0 dX10_toldText_20 rfl rfl ?_
      refine im_cget X 0 0 (v := .ref (aM 20)) fl_X10_73 rfl rfl rfl dX10_toldText_21 ?_
      refine im_iload_n X 1 dX10_toldText_24 rfl rfl ?_
      refine im_ciald X 0 20 0 (f := (M 20)) rfl rfl rfl dX10_toldText_25 ?_
      refine im_goto (tgt := 31) X dX10_toldText_26 rfl ?_
      exact im_ireturn X ((M 20) x1.toNatClampNeg) rfl rfl dX10_toldText_31
  · refine im_aload_n X 0 dX10_toldText_5 rfl rfl ?_
    refine im_cget X 0 0 (v := .int (M 0 27)) fl_X10_285 rfl rfl rfl dX10_toldText_6 ?_
    refine im_goto (tgt := 31) X dX10_toldText_9 rfl ?_
    exact im_ireturn X (M 0 27) rfl rfl dX10_toldText_31
theorem c_X10_toldText (l : Launch) (D : va_G) (ct : im_ct) (F : Nat) (aM : Nat → Nat) (M : Mem) (LM : MemL) (x1 : Int32) : CMi l D ct yX10_toldText cX10_toldText 2 (some .int) 0 [.ref (aM 0), .int x1] (cat [w_Model ct aM M LM]) (f_X10_toldText F M LM x1) (fun z : Int32 => z) (fun z : Int32 => (cat [w_Model ct aM M LM])) :=
  im_met (Qb := fun A => QI D A (fun z : Int32 => z) (fun z : Int32 => (cat [w_Model ct aM M LM]))) (by decide +kernel) (Nat.le_of_ble_eq_true rfl) (fun p e s m args below meth c A X => i_X10_toldText X F aM M LM x1)

noncomputable def f_X10_writesMove_77 (F : Nat) (M : Mem) (LM : MemL) : Option (Mem) :=
  (f_X10_writesSign F M LM 59).bind (fun z80 => (some z80))
set_option maxRecDepth 100000 in
set_option maxHeartbeats 4000000 in
theorem i_X10_writesMove_77 {p : Program} {l : Launch} {e : Env} {s : State} {m : MethodId} {args : Array Value} {below : List Frame} {meth : Method} {c : Code} {D : va_G} {ct : im_ct} {A : Nat → Prop} (X : im_X p (im_rm 3) s m args meth c D ct A RX10 cX10_writesMove 3 none) (F : Nat) (aM : Nat → Nat) (M : Mem) (LM : MemL) : Im p l e (im_rm 3) s m args below meth c D A 3 (QV D A (fun z : Mem => (cat [w_Model ct aM z LM]))) 77 [(0, .ref (aM 0))] [] (cat [w_Model ct aM M LM]) (f_X10_writesMove_77 F M LM) := by
  unfold f_X10_writesMove_77
  refine im_aload_n X 0 dX10_writesMove_77 rfl rfl ?_
  refine im_bipush X 59 dX10_writesMove_78 (by decide) ?_
  refine im_ccvV X [.int 59] [] [w_Model ct aM M LM] [w_Model ct aM M LM] [0] (fun z80 => [w_Model ct aM z80 LM]) 0 0 10 rfl rfl rfl cl_X10_291 (c_X10_writesSign l D ct F aM M LM 59) rfl (by decide) (fun _ => lc fa_Model (rfl)) rfl ⟨by decide, by decide⟩ (Nat.le_of_ble_eq_true rfl) rfl dX10_writesMove_80 (fun z80 => ?_)
  refine im_ws (cat [w_Model ct aM z80 LM]) rfl ?_
  exact im_return X z80 rfl dX10_writesMove_83
noncomputable def f_X10_writesMove_43 (F : Nat) (M : Mem) (LM : MemL) (x1 : Int32) (x2 : Int32) : Option (Mem) :=
  ck (x1 + 2) 226 ((f_X10_writesNext F M LM ((M 1) ((x1 + 2)).toNatClampNeg)).bind (fun z52 => (if x2 = 2 then f_X10_writesMove_77 F z52 LM else (if x2 = 3 then f_X10_writesMove_77 F z52 LM else ck (x1 + 3) 226 ((f_X10_writesNext F z52 LM ((z52 1) ((x1 + 3)).toNatClampNeg)).bind (fun z74 => f_X10_writesMove_77 F z74 LM))))))
set_option maxRecDepth 100000 in
set_option maxHeartbeats 4000000 in
theorem i_X10_writesMove_43 {p : Program} {l : Launch} {e : Env} {s : State} {m : MethodId} {args : Array Value} {below : List Frame} {meth : Method} {c : Code} {D : va_G} {ct : im_ct} {A : Nat → Prop} (X : im_X p (im_rm 3) s m args meth c D ct A RX10 cX10_writesMove 3 none) (F : Nat) (aM : Nat → Nat) (M : Mem) (LM : MemL) (x1 : Int32) (x2 : Int32) : Im p l e (im_rm 3) s m args below meth c D A 3 (QV D A (fun z : Mem => (cat [w_Model ct aM z LM]))) 43 [(0, .ref (aM 0)), (1, .int x1), (2, .int x2)] [] (cat [w_Model ct aM M LM]) (f_X10_writesMove_43 F M LM x1 x2) := by
  unfold f_X10_writesMove_43
  refine im_aload_n X 0 dX10_writesMove_43 rfl rfl ?_
  refine im_aload_n X 0 dX10_writesMove_44 rfl rfl ?_
  refine im_cget X 0 0 (v := .ref (aM 1)) fl_X10_13 rfl rfl rfl dX10_writesMove_45 ?_
  refine im_iload_n X 1 dX10_writesMove_48 rfl rfl ?_
  refine im_iconst X 2 dX10_writesMove_49 (by decide) ?_
  refine im_iadd X dX10_writesMove_50 ?_
  refine im_ciald X 0 1 0 (f := (M 1)) rfl rfl rfl dX10_writesMove_51 ?_
  refine im_ccvV X [.int ((M 1) ((x1 + 2)).toNatClampNeg)] [] [w_Model ct aM M LM] [w_Model ct aM M LM] [0] (fun z52 => [w_Model ct aM z52 LM]) 0 0 10 rfl rfl rfl cl_X10_300 (c_X10_writesNext l D ct F aM M LM ((M 1) ((x1 + 2)).toNatClampNeg)) rfl (by decide) (fun _ => lc fa_Model (rfl)) rfl ⟨by decide, by decide⟩ (Nat.le_of_ble_eq_true rfl) rfl dX10_writesMove_52 (fun z52 => ?_)
  refine im_ws (cat [w_Model ct aM z52 LM]) rfl ?_
  refine im_iload_n X 2 dX10_writesMove_55 rfl rfl ?_
  refine im_iconst X 2 dX10_writesMove_56 (by decide) ?_
  refine im_icmp_eq (tgt := 77) X dX10_writesMove_57 rfl ?_ ?_
  · refine im_lv [0] [(0, .ref (aM 0))] rfl ?_
    exact i_X10_writesMove_77 X F aM z52 LM  
  · refine im_iload_n X 2 dX10_writesMove_60 rfl rfl ?_
    refine im_iconst X 3 dX10_writesMove_61 (by decide) ?_
    refine im_icmp_eq (tgt := 77) X dX10_writesMove_62 rfl ?_ ?_
    · refine im_lv [0] [(0, .ref (aM 0))] rfl ?_
      exact i_X10_writesMove_77 X F aM z52 LM  
    · refine im_aload_n X 0 dX10_writesMove_65 rfl rfl ?_
      refine im_aload_n X 0 dX10_writesMove_66 rfl rfl ?_
      refine im_cget X 0 0 (v := .ref (aM 1)) fl_X10_13 rfl rfl rfl dX10_writesMove_67 ?_
      refine im_iload_n X 1 dX10_writesMove_70 rfl rfl ?_
      refine im_iconst X 3 dX10_writesMove_71 (by decide) ?_
      refine im_iadd X dX10_writesMove_72 ?_
      refine im_ciald X 0 1 0 (f := (z52 1)) rfl rfl rfl dX10_writesMove_73 ?_
      refine im_ccvV X [.int ((z52 1) ((x1 + 3)).toNatClampNeg)] [] [w_Model ct aM z52 LM] [w_Model ct aM z52 LM] [0] (fun z74 => [w_Model ct aM z74 LM]) 0 0 10 rfl rfl rfl cl_X10_300 (c_X10_writesNext l D ct F aM z52 LM ((z52 1) ((x1 + 3)).toNatClampNeg)) rfl (by decide) (fun _ => lc fa_Model (rfl)) rfl ⟨by decide, by decide⟩ (Nat.le_of_ble_eq_true rfl) rfl dX10_writesMove_74 (fun z74 => ?_)
      refine im_ws (cat [w_Model ct aM z74 LM]) rfl ?_
      refine im_lv [0] [(0, .ref (aM 0))] rfl ?_
      exact i_X10_writesMove_77 X F aM z74 LM  
noncomputable def f_X10_writesMove (F : Nat) (M : Mem) (LM : MemL) (x1 : Int32) : Option (Mem) :=
  ck x1 226 ((f_X10_writesWord F M LM (2 + ((M 1) x1.toNatClampNeg))).bind (fun z11 => ck (x1 + 1) 226 ((f_X10_writesNext F z11 LM ((z11 1) ((x1 + 1)).toNatClampNeg)).bind (fun z23 => (if ((M 1) x1.toNatClampNeg) = 4 then ck (x1 + 4) 226 ((f_X10_writesNext F z23 LM ((z23 1) ((x1 + 4)).toNatClampNeg)).bind (fun z40 => f_X10_writesMove_43 F z40 LM x1 ((M 1) x1.toNatClampNeg))) else f_X10_writesMove_43 F z23 LM x1 ((M 1) x1.toNatClampNeg))))))
set_option maxRecDepth 100000 in
set_option maxHeartbeats 4000000 in
theorem i_X10_writesMove {p : Program} {l : Launch} {e : Env} {s : State} {m : MethodId} {args : Array Value} {below : List Frame} {meth : Method} {c : Code} {D : va_G} {ct : im_ct} {A : Nat → Prop} (X : im_X p (im_rm 3) s m args meth c D ct A RX10 cX10_writesMove 3 none) (F : Nat) (aM : Nat → Nat) (M : Mem) (LM : MemL) (x1 : Int32) : Im p l e (im_rm 3) s m args below meth c D A 3 (QV D A (fun z : Mem => (cat [w_Model ct aM z LM]))) 0 [(0, .ref (aM 0)), (1, .int x1)] [] (cat [w_Model ct aM M LM]) (f_X10_writesMove F M LM x1) := by
  unfold f_X10_writesMove
  refine im_aload_n X 0 dX10_writesMove_0 rfl rfl ?_
  refine im_cget X 0 0 (v := .ref (aM 1)) fl_X10_13 rfl rfl rfl dX10_writesMove_1 ?_
  refine im_iload_n X 1 dX10_writesMove_4 rfl rfl ?_
  refine im_ciald X 0 1 0 (f := (M 1)) rfl rfl rfl dX10_writesMove_5 ?_
  refine im_istore_n X [1, 2, 0] [(0, .ref (aM 0)), (1, .int x1), (2, .int ((M 1) x1.toNatClampNeg))] dX10_writesMove_6 rfl (by decide) rfl ?_
  refine im_aload_n X 0 dX10_writesMove_7 rfl rfl ?_
  refine im_iconst X 2 dX10_writesMove_8 (by decide) ?_
  refine im_iload_n X 2 dX10_writesMove_9 rfl rfl ?_
  refine im_iadd X dX10_writesMove_10 ?_
  refine im_ccvV X [.int (2 + ((M 1) x1.toNatClampNeg))] [] [w_Model ct aM M LM] [w_Model ct aM M LM] [0] (fun z11 => [w_Model ct aM z11 LM]) 0 0 10 rfl rfl rfl cl_X10_297 (c_X10_writesWord l D ct F aM M LM (2 + ((M 1) x1.toNatClampNeg))) rfl (by decide) (fun _ => lc fa_Model (rfl)) rfl ⟨by decide, by decide⟩ (Nat.le_of_ble_eq_true rfl) rfl dX10_writesMove_11 (fun z11 => ?_)
  refine im_ws (cat [w_Model ct aM z11 LM]) rfl ?_
  refine im_aload_n X 0 dX10_writesMove_14 rfl rfl ?_
  refine im_aload_n X 0 dX10_writesMove_15 rfl rfl ?_
  refine im_cget X 0 0 (v := .ref (aM 1)) fl_X10_13 rfl rfl rfl dX10_writesMove_16 ?_
  refine im_iload_n X 1 dX10_writesMove_19 rfl rfl ?_
  refine im_iconst X 1 dX10_writesMove_20 (by decide) ?_
  refine im_iadd X dX10_writesMove_21 ?_
  refine im_ciald X 0 1 0 (f := (z11 1)) rfl rfl rfl dX10_writesMove_22 ?_
  refine im_ccvV X [.int ((z11 1) ((x1 + 1)).toNatClampNeg)] [] [w_Model ct aM z11 LM] [w_Model ct aM z11 LM] [0] (fun z23 => [w_Model ct aM z23 LM]) 0 0 10 rfl rfl rfl cl_X10_300 (c_X10_writesNext l D ct F aM z11 LM ((z11 1) ((x1 + 1)).toNatClampNeg)) rfl (by decide) (fun _ => lc fa_Model (rfl)) rfl ⟨by decide, by decide⟩ (Nat.le_of_ble_eq_true rfl) rfl dX10_writesMove_23 (fun z23 => ?_)
  refine im_ws (cat [w_Model ct aM z23 LM]) rfl ?_
  refine im_iload_n X 2 dX10_writesMove_26 rfl rfl ?_
  refine im_iconst X 4 dX10_writesMove_27 (by decide) ?_
  refine im_icmp_ne (tgt := 43) X dX10_writesMove_28 rfl ?_ ?_
  · exact i_X10_writesMove_43 X F aM z23 LM x1 ((M 1) x1.toNatClampNeg) 
  · refine im_aload_n X 0 dX10_writesMove_31 rfl rfl ?_
    refine im_aload_n X 0 dX10_writesMove_32 rfl rfl ?_
    refine im_cget X 0 0 (v := .ref (aM 1)) fl_X10_13 rfl rfl rfl dX10_writesMove_33 ?_
    refine im_iload_n X 1 dX10_writesMove_36 rfl rfl ?_
    refine im_iconst X 4 dX10_writesMove_37 (by decide) ?_
    refine im_iadd X dX10_writesMove_38 ?_
    refine im_ciald X 0 1 0 (f := (z23 1)) rfl rfl rfl dX10_writesMove_39 ?_
    refine im_ccvV X [.int ((z23 1) ((x1 + 4)).toNatClampNeg)] [] [w_Model ct aM z23 LM] [w_Model ct aM z23 LM] [0] (fun z40 => [w_Model ct aM z40 LM]) 0 0 10 rfl rfl rfl cl_X10_300 (c_X10_writesNext l D ct F aM z23 LM ((z23 1) ((x1 + 4)).toNatClampNeg)) rfl (by decide) (fun _ => lc fa_Model (rfl)) rfl ⟨by decide, by decide⟩ (Nat.le_of_ble_eq_true rfl) rfl dX10_writesMove_40 (fun z40 => ?_)
    refine im_ws (cat [w_Model ct aM z40 LM]) rfl ?_
    exact i_X10_writesMove_43 X F aM z40 LM x1 ((M 1) x1.toNatClampNeg) 
theorem c_X10_writesMove (l : Launch) (D : va_G) (ct : im_ct) (F : Nat) (aM : Nat → Nat) (M : Mem) (LM : MemL) (x1 : Int32) : CMv l D ct yX10_writesMove cX10_writesMove 3 none 3 [.ref (aM 0), .int x1] (cat [w_Model ct aM M LM]) (f_X10_writesMove F M LM x1) (fun z : Mem => (cat [w_Model ct aM z LM])) :=
  im_met (Qb := fun A => QV D A (fun z : Mem => (cat [w_Model ct aM z LM]))) (by decide +kernel) (Nat.le_of_ble_eq_true rfl) (fun p e s m args below meth c A X => i_X10_writesMove X F aM M LM x1)

noncomputable def f_X10_spell_14 (F : Nat) (LM : MemL) (x1 : Int32) (k50 : Mem → Option (Int32 × Mem)) : Nat → Mem → Int32 → Option (Int32 × Mem)
  | 0, _, _ => none
  | n + 1, M, x2 =>
  ck 0 226 ((if ((M 1) (0 : Int32).toNatClampNeg) ≤ x2 then k50 M else (f_X10_writesWord F M LM 0).bind (fun z26 => (f_X10_ratio F z26 LM x2).bind (fun z32 => (f_X10_writesNext F z26 LM z32).bind (fun z35 => (f_X10_writesSign F z35 LM 59).bind (fun z41 => f_X10_spell_14 F LM x1 k50 n z41 (x2 + 1)))))))
set_option maxRecDepth 100000 in
set_option maxHeartbeats 4000000 in
theorem i_X10_spell_14 {p : Program} {l : Launch} {e : Env} {s : State} {m : MethodId} {args : Array Value} {below : List Frame} {meth : Method} {c : Code} {D : va_G} {ct : im_ct} {A : Nat → Prop} (X : im_X p (im_rm 4) s m args meth c D ct A RX10 cX10_spell 4 (some .int)) (F : Nat) (aM : Nat → Nat) (LM : MemL) (x1 : Int32) (k50 : Mem → Option (Int32 × Mem)) (hk50 : ∀ (M : Mem), Im p l e (im_rm 4) s m args below meth c D A 4 (QI D A (fun z : Int32 × Mem => z.1) (fun z : Int32 × Mem => (cat [w_Model ct aM z.2 LM]))) 50 [(0, .ref (aM 0)), (1, .int x1)] [] (cat [w_Model ct aM M LM]) (k50 M)) : ∀ (n : Nat) (M : Mem) (x2 : Int32), Im p l e (im_rm 4) s m args below meth c D A 4 (QI D A (fun z : Int32 × Mem => z.1) (fun z : Int32 × Mem => (cat [w_Model ct aM z.2 LM]))) 14 [(0, .ref (aM 0)), (1, .int x1), (2, .int x2)] [] (cat [w_Model ct aM M LM]) (f_X10_spell_14 F LM x1 k50 n M x2) := by
  intro n
  induction n with
  | zero => intros; exact im_none
  | succ n ih =>
    intro M x2
    unfold f_X10_spell_14
    refine im_iload_n X 2 dX10_spell_14 rfl rfl ?_
    refine im_aload_n X 0 dX10_spell_15 rfl rfl ?_
    refine im_cget X 0 0 (v := .ref (aM 1)) fl_X10_13 rfl rfl rfl dX10_spell_16 ?_
    refine im_iconst X 0 dX10_spell_19 (by decide) ?_
    refine im_ciald X 0 1 0 (f := (M 1)) rfl rfl rfl dX10_spell_20 ?_
    refine im_icmp_ge (tgt := 50) X dX10_spell_21 rfl ?_ ?_
    · refine im_lv [0, 1] [(0, .ref (aM 0)), (1, .int x1)] rfl ?_
      exact hk50 M
    · refine im_aload_n X 0 dX10_spell_24 rfl rfl ?_
      refine im_iconst X 0 dX10_spell_25 (by decide) ?_
      refine im_ccvV X [.int 0] [] [w_Model ct aM M LM] [w_Model ct aM M LM] [0] (fun z26 => [w_Model ct aM z26 LM]) 0 0 10 rfl rfl rfl cl_X10_297 (c_X10_writesWord l D ct F aM M LM 0) rfl (by decide) (fun _ => lc fa_Model (rfl)) rfl ⟨by decide, by decide⟩ (Nat.le_of_ble_eq_true rfl) rfl dX10_spell_26 (fun z26 => ?_)
      refine im_ws (cat [w_Model ct aM z26 LM]) rfl ?_
      refine im_aload_n X 0 dX10_spell_29 rfl rfl ?_
      refine im_aload_n X 0 dX10_spell_30 rfl rfl ?_
      refine im_iload_n X 2 dX10_spell_31 rfl rfl ?_
      refine im_cciV X [.int x2] [.ref (aM 0)] [w_Model ct aM z26 LM] [w_Model ct aM z26 LM] [0] (fun z32 => [w_Model ct aM z26 LM]) 0 0 10 rfl rfl rfl cl_X10_97 (c_X10_ratio l D ct F aM z26 LM x2) rfl (by decide) (fun _ => lc rfl (rfl)) rfl ⟨by decide, by decide⟩ (Nat.le_of_ble_eq_true rfl) rfl dX10_spell_32 (fun z32 => ?_)
      refine im_ws (cat [w_Model ct aM z26 LM]) rfl ?_
      refine im_ccvV X [.int z32] [] [w_Model ct aM z26 LM] [w_Model ct aM z26 LM] [0] (fun z35 => [w_Model ct aM z35 LM]) 0 0 10 rfl rfl rfl cl_X10_300 (c_X10_writesNext l D ct F aM z26 LM z32) rfl (by decide) (fun _ => lc fa_Model (rfl)) rfl ⟨by decide, by decide⟩ (Nat.le_of_ble_eq_true rfl) rfl dX10_spell_35 (fun z35 => ?_)
      refine im_ws (cat [w_Model ct aM z35 LM]) rfl ?_
      refine im_aload_n X 0 dX10_spell_38 rfl rfl ?_
      refine im_bipush X 59 dX10_spell_39 (by decide) ?_
      refine im_ccvV X [.int 59] [] [w_Model ct aM z35 LM] [w_Model ct aM z35 LM] [0] (fun z41 => [w_Model ct aM z41 LM]) 0 0 10 rfl rfl rfl cl_X10_291 (c_X10_writesSign l D ct F aM z35 LM 59) rfl (by decide) (fun _ => lc fa_Model (rfl)) rfl ⟨by decide, by decide⟩ (Nat.le_of_ble_eq_true rfl) rfl dX10_spell_41 (fun z41 => ?_)
      refine im_ws (cat [w_Model ct aM z41 LM]) rfl ?_
      refine im_iinc X 2 1 [1, 2, 0] [(0, .ref (aM 0)), (1, .int x1), (2, .int (x2 + 1))] dX10_spell_44 (by decide) rfl (by decide) rfl ?_
      refine im_goto (tgt := 14) X dX10_spell_47 rfl ?_
      exact ih z41 (x2 + 1)
noncomputable def f_X10_spell_69 (F : Nat) (LM : MemL) (x1 : Int32) (x2 : Int32) (k102 : Mem → Option (Int32 × Mem)) : Nat → Mem → Int32 → Option (Int32 × Mem)
  | 0, _, _ => none
  | n + 1, M, x3 =>
  ck 0 226 ((if ((M 1) (0 : Int32).toNatClampNeg) ≤ x3 then k102 M else (f_X10_cell F x2 x3).bind (fun z88 => ck (32 + z88) 226 ((f_X10_writesNext F M LM ((M 1) ((32 + z88)).toNatClampNeg)).bind (fun z93 => f_X10_spell_69 F LM x1 x2 k102 n z93 (x3 + 1))))))
set_option maxRecDepth 100000 in
set_option maxHeartbeats 4000000 in
theorem i_X10_spell_69 {p : Program} {l : Launch} {e : Env} {s : State} {m : MethodId} {args : Array Value} {below : List Frame} {meth : Method} {c : Code} {D : va_G} {ct : im_ct} {A : Nat → Prop} (X : im_X p (im_rm 4) s m args meth c D ct A RX10 cX10_spell 4 (some .int)) (F : Nat) (aM : Nat → Nat) (LM : MemL) (x1 : Int32) (x2 : Int32) (k102 : Mem → Option (Int32 × Mem)) (hk102 : ∀ (M : Mem), Im p l e (im_rm 4) s m args below meth c D A 4 (QI D A (fun z : Int32 × Mem => z.1) (fun z : Int32 × Mem => (cat [w_Model ct aM z.2 LM]))) 102 [(0, .ref (aM 0)), (1, .int x1), (2, .int x2)] [] (cat [w_Model ct aM M LM]) (k102 M)) : ∀ (n : Nat) (M : Mem) (x3 : Int32), Im p l e (im_rm 4) s m args below meth c D A 4 (QI D A (fun z : Int32 × Mem => z.1) (fun z : Int32 × Mem => (cat [w_Model ct aM z.2 LM]))) 69 [(0, .ref (aM 0)), (1, .int x1), (2, .int x2), (3, .int x3)] [] (cat [w_Model ct aM M LM]) (f_X10_spell_69 F LM x1 x2 k102 n M x3) := by
  intro n
  induction n with
  | zero => intros; exact im_none
  | succ n ih =>
    intro M x3
    unfold f_X10_spell_69
    refine im_iload_n X 3 dX10_spell_69 rfl rfl ?_
    refine im_aload_n X 0 dX10_spell_70 rfl rfl ?_
    refine im_cget X 0 0 (v := .ref (aM 1)) fl_X10_13 rfl rfl rfl dX10_spell_71 ?_
    refine im_iconst X 0 dX10_spell_74 (by decide) ?_
    refine im_ciald X 0 1 0 (f := (M 1)) rfl rfl rfl dX10_spell_75 ?_
    refine im_icmp_ge (tgt := 102) X dX10_spell_76 rfl ?_ ?_
    · refine im_lv [0, 1, 2] [(0, .ref (aM 0)), (1, .int x1), (2, .int x2)] rfl ?_
      exact hk102 M
    · refine im_aload_n X 0 dX10_spell_79 rfl rfl ?_
      refine im_aload_n X 0 dX10_spell_80 rfl rfl ?_
      refine im_cget X 0 0 (v := .ref (aM 1)) fl_X10_13 rfl rfl rfl dX10_spell_81 ?_
      refine im_bipush X 32 dX10_spell_84 (by decide) ?_
      refine im_iload_n X 2 dX10_spell_86 rfl rfl ?_
      refine im_iload_n X 3 dX10_spell_87 rfl rfl ?_
      refine im_cciS X [.int x2, .int x3] [.int 32, .ref (aM 1), .ref (aM 0)] [w_Model ct aM M LM] [] [] (fun z88 => []) cl_X10_101 (c_X10_cell l D ct F x2 x3) rfl (by decide) (fun _ => rfl) rfl ⟨by decide, by decide⟩ (Nat.le_of_ble_eq_true rfl) rfl dX10_spell_88 (fun z88 => ?_)
      refine im_ws (cat [w_Model ct aM M LM]) rfl ?_
      refine im_iadd X dX10_spell_91 ?_
      refine im_ciald X 0 1 0 (f := (M 1)) rfl rfl rfl dX10_spell_92 ?_
      refine im_ccvV X [.int ((M 1) ((32 + z88)).toNatClampNeg)] [] [w_Model ct aM M LM] [w_Model ct aM M LM] [0] (fun z93 => [w_Model ct aM z93 LM]) 0 0 10 rfl rfl rfl cl_X10_300 (c_X10_writesNext l D ct F aM M LM ((M 1) ((32 + z88)).toNatClampNeg)) rfl (by decide) (fun _ => lc fa_Model (rfl)) rfl ⟨by decide, by decide⟩ (Nat.le_of_ble_eq_true rfl) rfl dX10_spell_93 (fun z93 => ?_)
      refine im_ws (cat [w_Model ct aM z93 LM]) rfl ?_
      refine im_iinc X 3 1 [1, 2, 3, 0] [(0, .ref (aM 0)), (1, .int x1), (2, .int x2), (3, .int (x3 + 1))] dX10_spell_96 (by decide) rfl (by decide) rfl ?_
      refine im_goto (tgt := 69) X dX10_spell_99 rfl ?_
      exact ih z93 (x3 + 1)
noncomputable def f_X10_spell_52 (F : Nat) (LM : MemL) (x1 : Int32) (k114 : Mem → Option (Int32 × Mem)) : Nat → Mem → Int32 → Option (Int32 × Mem)
  | 0, _, _ => none
  | n + 1, M, x2 =>
  ck 1 226 ((if ((M 1) (1 : Int32).toNatClampNeg) ≤ x2 then k114 M else (f_X10_writesWord F M LM 1).bind (fun z64 => f_X10_spell_69 F LM x1 x2 (fun M_102 => (f_X10_writesSign F M_102 LM 59).bind (fun z105 => f_X10_spell_52 F LM x1 k114 n z105 (x2 + 1))) F z64 0)))
set_option maxRecDepth 100000 in
set_option maxHeartbeats 4000000 in
theorem i_X10_spell_52 {p : Program} {l : Launch} {e : Env} {s : State} {m : MethodId} {args : Array Value} {below : List Frame} {meth : Method} {c : Code} {D : va_G} {ct : im_ct} {A : Nat → Prop} (X : im_X p (im_rm 4) s m args meth c D ct A RX10 cX10_spell 4 (some .int)) (F : Nat) (aM : Nat → Nat) (LM : MemL) (x1 : Int32) (k114 : Mem → Option (Int32 × Mem)) (hk114 : ∀ (M : Mem), Im p l e (im_rm 4) s m args below meth c D A 4 (QI D A (fun z : Int32 × Mem => z.1) (fun z : Int32 × Mem => (cat [w_Model ct aM z.2 LM]))) 114 [(0, .ref (aM 0)), (1, .int x1)] [] (cat [w_Model ct aM M LM]) (k114 M)) : ∀ (n : Nat) (M : Mem) (x2 : Int32), Im p l e (im_rm 4) s m args below meth c D A 4 (QI D A (fun z : Int32 × Mem => z.1) (fun z : Int32 × Mem => (cat [w_Model ct aM z.2 LM]))) 52 [(0, .ref (aM 0)), (1, .int x1), (2, .int x2)] [] (cat [w_Model ct aM M LM]) (f_X10_spell_52 F LM x1 k114 n M x2) := by
  intro n
  induction n with
  | zero => intros; exact im_none
  | succ n ih =>
    intro M x2
    unfold f_X10_spell_52
    refine im_iload_n X 2 dX10_spell_52 rfl rfl ?_
    refine im_aload_n X 0 dX10_spell_53 rfl rfl ?_
    refine im_cget X 0 0 (v := .ref (aM 1)) fl_X10_13 rfl rfl rfl dX10_spell_54 ?_
    refine im_iconst X 1 dX10_spell_57 (by decide) ?_
    refine im_ciald X 0 1 0 (f := (M 1)) rfl rfl rfl dX10_spell_58 ?_
    refine im_icmp_ge (tgt := 114) X dX10_spell_59 rfl ?_ ?_
    · refine im_lv [0, 1] [(0, .ref (aM 0)), (1, .int x1)] rfl ?_
      exact hk114 M
    · refine im_aload_n X 0 dX10_spell_62 rfl rfl ?_
      refine im_iconst X 1 dX10_spell_63 (by decide) ?_
      refine im_ccvV X [.int 1] [] [w_Model ct aM M LM] [w_Model ct aM M LM] [0] (fun z64 => [w_Model ct aM z64 LM]) 0 0 10 rfl rfl rfl cl_X10_297 (c_X10_writesWord l D ct F aM M LM 1) rfl (by decide) (fun _ => lc fa_Model (rfl)) rfl ⟨by decide, by decide⟩ (Nat.le_of_ble_eq_true rfl) rfl dX10_spell_64 (fun z64 => ?_)
      refine im_ws (cat [w_Model ct aM z64 LM]) rfl ?_
      refine im_iconst X 0 dX10_spell_67 (by decide) ?_
      refine im_istore_n X [1, 2, 3, 0] [(0, .ref (aM 0)), (1, .int x1), (2, .int x2), (3, .int 0)] dX10_spell_68 rfl (by decide) rfl ?_
      refine i_X10_spell_69 X F aM LM x1 x2 _ (fun M_102 => ?_) F z64 0
      refine im_aload_n X 0 dX10_spell_102 rfl rfl ?_
      refine im_bipush X 59 dX10_spell_103 (by decide) ?_
      refine im_ccvV X [.int 59] [] [w_Model ct aM M_102 LM] [w_Model ct aM M_102 LM] [0] (fun z105 => [w_Model ct aM z105 LM]) 0 0 10 rfl rfl rfl cl_X10_291 (c_X10_writesSign l D ct F aM M_102 LM 59) rfl (by decide) (fun _ => lc fa_Model (rfl)) rfl ⟨by decide, by decide⟩ (Nat.le_of_ble_eq_true rfl) rfl dX10_spell_105 (fun z105 => ?_)
      refine im_ws (cat [w_Model ct aM z105 LM]) rfl ?_
      refine im_iinc X 2 1 [1, 2, 0] [(0, .ref (aM 0)), (1, .int x1), (2, .int (x2 + 1))] dX10_spell_108 (by decide) rfl (by decide) rfl ?_
      refine im_goto (tgt := 52) X dX10_spell_111 rfl ?_
      exact ih z105 (x2 + 1)
noncomputable def f_X10_spell_116 (F : Nat) (LM : MemL) (x1 : Int32) (k143 : Mem → Option (Int32 × Mem)) : Nat → Mem → Int32 → Option (Int32 × Mem)
  | 0, _, _ => none
  | n + 1, M, x2 =>
  ck 56 226 ((if ((M 1) (56 : Int32).toNatClampNeg) ≤ x2 then k143 M else (f_X10_writesMove F M LM (57 + (5 * x2))).bind (fun z134 => f_X10_spell_116 F LM x1 k143 n z134 (x2 + 1))))
set_option maxRecDepth 100000 in
set_option maxHeartbeats 4000000 in
theorem i_X10_spell_116 {p : Program} {l : Launch} {e : Env} {s : State} {m : MethodId} {args : Array Value} {below : List Frame} {meth : Method} {c : Code} {D : va_G} {ct : im_ct} {A : Nat → Prop} (X : im_X p (im_rm 4) s m args meth c D ct A RX10 cX10_spell 4 (some .int)) (F : Nat) (aM : Nat → Nat) (LM : MemL) (x1 : Int32) (k143 : Mem → Option (Int32 × Mem)) (hk143 : ∀ (M : Mem), Im p l e (im_rm 4) s m args below meth c D A 4 (QI D A (fun z : Int32 × Mem => z.1) (fun z : Int32 × Mem => (cat [w_Model ct aM z.2 LM]))) 143 [(0, .ref (aM 0)), (1, .int x1)] [] (cat [w_Model ct aM M LM]) (k143 M)) : ∀ (n : Nat) (M : Mem) (x2 : Int32), Im p l e (im_rm 4) s m args below meth c D A 4 (QI D A (fun z : Int32 × Mem => z.1) (fun z : Int32 × Mem => (cat [w_Model ct aM z.2 LM]))) 116 [(0, .ref (aM 0)), (1, .int x1), (2, .int x2)] [] (cat [w_Model ct aM M LM]) (f_X10_spell_116 F LM x1 k143 n M x2) := by
  intro n
  induction n with
  | zero => intros; exact im_none
  | succ n ih =>
    intro M x2
    unfold f_X10_spell_116
    refine im_iload_n X 2 dX10_spell_116 rfl rfl ?_
    refine im_aload_n X 0 dX10_spell_117 rfl rfl ?_
    refine im_cget X 0 0 (v := .ref (aM 1)) fl_X10_13 rfl rfl rfl dX10_spell_118 ?_
    refine im_bipush X 56 dX10_spell_121 (by decide) ?_
    refine im_ciald X 0 1 0 (f := (M 1)) rfl rfl rfl dX10_spell_123 ?_
    refine im_icmp_ge (tgt := 143) X dX10_spell_124 rfl ?_ ?_
    · refine im_lv [0, 1] [(0, .ref (aM 0)), (1, .int x1)] rfl ?_
      exact hk143 M
    · refine im_aload_n X 0 dX10_spell_127 rfl rfl ?_
      refine im_bipush X 57 dX10_spell_128 (by decide) ?_
      refine im_iconst X 5 dX10_spell_130 (by decide) ?_
      refine im_iload_n X 2 dX10_spell_131 rfl rfl ?_
      refine im_imul X dX10_spell_132 ?_
      refine im_iadd X dX10_spell_133 ?_
      refine im_ccvV X [.int (57 + (5 * x2))] [] [w_Model ct aM M LM] [w_Model ct aM M LM] [0] (fun z134 => [w_Model ct aM z134 LM]) 0 0 10 rfl rfl rfl cl_X10_303 (c_X10_writesMove l D ct F aM M LM (57 + (5 * x2))) rfl (by decide) (fun _ => lc fa_Model (rfl)) rfl ⟨by decide, by decide⟩ (Nat.le_of_ble_eq_true rfl) rfl dX10_spell_134 (fun z134 => ?_)
      refine im_ws (cat [w_Model ct aM z134 LM]) rfl ?_
      refine im_iinc X 2 1 [1, 2, 0] [(0, .ref (aM 0)), (1, .int x1), (2, .int (x2 + 1))] dX10_spell_137 (by decide) rfl (by decide) rfl ?_
      refine im_goto (tgt := 116) X dX10_spell_140 rfl ?_
      exact ih z134 (x2 + 1)
noncomputable def f_X10_spell_165 (F : Nat) (LM : MemL) (x1 : Int32) (x2 : Int32) (k194 : Mem → Option (Int32 × Mem)) : Nat → Mem → Int32 → Option (Int32 × Mem)
  | 0, _, _ => none
  | n + 1, M, x3 =>
  (if 4 ≤ x3 then k194 M else ck ((178 + (4 * x2)) + x3) 226 ((f_X10_writesNext F M LM ((M 1) (((178 + (4 * x2)) + x3)).toNatClampNeg)).bind (fun z185 => f_X10_spell_165 F LM x1 x2 k194 n z185 (x3 + 1))))
set_option maxRecDepth 100000 in
set_option maxHeartbeats 4000000 in
theorem i_X10_spell_165 {p : Program} {l : Launch} {e : Env} {s : State} {m : MethodId} {args : Array Value} {below : List Frame} {meth : Method} {c : Code} {D : va_G} {ct : im_ct} {A : Nat → Prop} (X : im_X p (im_rm 4) s m args meth c D ct A RX10 cX10_spell 4 (some .int)) (F : Nat) (aM : Nat → Nat) (LM : MemL) (x1 : Int32) (x2 : Int32) (k194 : Mem → Option (Int32 × Mem)) (hk194 : ∀ (M : Mem), Im p l e (im_rm 4) s m args below meth c D A 4 (QI D A (fun z : Int32 × Mem => z.1) (fun z : Int32 × Mem => (cat [w_Model ct aM z.2 LM]))) 194 [(0, .ref (aM 0)), (1, .int x1), (2, .int x2)] [] (cat [w_Model ct aM M LM]) (k194 M)) : ∀ (n : Nat) (M : Mem) (x3 : Int32), Im p l e (im_rm 4) s m args below meth c D A 4 (QI D A (fun z : Int32 × Mem => z.1) (fun z : Int32 × Mem => (cat [w_Model ct aM z.2 LM]))) 165 [(0, .ref (aM 0)), (1, .int x1), (2, .int x2), (3, .int x3)] [] (cat [w_Model ct aM M LM]) (f_X10_spell_165 F LM x1 x2 k194 n M x3) := by
  intro n
  induction n with
  | zero => intros; exact im_none
  | succ n ih =>
    intro M x3
    unfold f_X10_spell_165
    refine im_iload_n X 3 dX10_spell_165 rfl rfl ?_
    refine im_iconst X 4 dX10_spell_166 (by decide) ?_
    refine im_icmp_ge (tgt := 194) X dX10_spell_167 rfl ?_ ?_
    · refine im_lv [0, 1, 2] [(0, .ref (aM 0)), (1, .int x1), (2, .int x2)] rfl ?_
      exact hk194 M
    · refine im_aload_n X 0 dX10_spell_170 rfl rfl ?_
      refine im_aload_n X 0 dX10_spell_171 rfl rfl ?_
      refine im_cget X 0 0 (v := .ref (aM 1)) fl_X10_13 rfl rfl rfl dX10_spell_172 ?_
      refine im_sipush X 178 dX10_spell_175 (by decide) ?_
      refine im_iconst X 4 dX10_spell_178 (by decide) ?_
      refine im_iload_n X 2 dX10_spell_179 rfl rfl ?_
      refine im_imul X dX10_spell_180 ?_
      refine im_iadd X dX10_spell_181 ?_
      refine im_iload_n X 3 dX10_spell_182 rfl rfl ?_
      refine im_iadd X dX10_spell_183 ?_
      refine im_ciald X 0 1 0 (f := (M 1)) rfl rfl rfl dX10_spell_184 ?_
      refine im_ccvV X [.int ((M 1) (((178 + (4 * x2)) + x3)).toNatClampNeg)] [] [w_Model ct aM M LM] [w_Model ct aM M LM] [0] (fun z185 => [w_Model ct aM z185 LM]) 0 0 10 rfl rfl rfl cl_X10_300 (c_X10_writesNext l D ct F aM M LM ((M 1) (((178 + (4 * x2)) + x3)).toNatClampNeg)) rfl (by decide) (fun _ => lc fa_Model (rfl)) rfl ⟨by decide, by decide⟩ (Nat.le_of_ble_eq_true rfl) rfl dX10_spell_185 (fun z185 => ?_)
      refine im_ws (cat [w_Model ct aM z185 LM]) rfl ?_
      refine im_iinc X 3 1 [1, 2, 3, 0] [(0, .ref (aM 0)), (1, .int x1), (2, .int x2), (3, .int (x3 + 1))] dX10_spell_188 (by decide) rfl (by decide) rfl ?_
      refine im_goto (tgt := 165) X dX10_spell_191 rfl ?_
      exact ih z185 (x3 + 1)
noncomputable def f_X10_spell_145 (F : Nat) (LM : MemL) (x1 : Int32) (k206 : Mem → Option (Int32 × Mem)) : Nat → Mem → Int32 → Option (Int32 × Mem)
  | 0, _, _ => none
  | n + 1, M, x2 =>
  ck 177 226 ((if ((M 1) (177 : Int32).toNatClampNeg) ≤ x2 then k206 M else (f_X10_writesWord F M LM 7).bind (fun z160 => f_X10_spell_165 F LM x1 x2 (fun M_194 => (f_X10_writesSign F M_194 LM 59).bind (fun z197 => f_X10_spell_145 F LM x1 k206 n z197 (x2 + 1))) F z160 0)))
set_option maxRecDepth 100000 in
set_option maxHeartbeats 4000000 in
theorem i_X10_spell_145 {p : Program} {l : Launch} {e : Env} {s : State} {m : MethodId} {args : Array Value} {below : List Frame} {meth : Method} {c : Code} {D : va_G} {ct : im_ct} {A : Nat → Prop} (X : im_X p (im_rm 4) s m args meth c D ct A RX10 cX10_spell 4 (some .int)) (F : Nat) (aM : Nat → Nat) (LM : MemL) (x1 : Int32) (k206 : Mem → Option (Int32 × Mem)) (hk206 : ∀ (M : Mem), Im p l e (im_rm 4) s m args below meth c D A 4 (QI D A (fun z : Int32 × Mem => z.1) (fun z : Int32 × Mem => (cat [w_Model ct aM z.2 LM]))) 206 [(0, .ref (aM 0)), (1, .int x1)] [] (cat [w_Model ct aM M LM]) (k206 M)) : ∀ (n : Nat) (M : Mem) (x2 : Int32), Im p l e (im_rm 4) s m args below meth c D A 4 (QI D A (fun z : Int32 × Mem => z.1) (fun z : Int32 × Mem => (cat [w_Model ct aM z.2 LM]))) 145 [(0, .ref (aM 0)), (1, .int x1), (2, .int x2)] [] (cat [w_Model ct aM M LM]) (f_X10_spell_145 F LM x1 k206 n M x2) := by
  intro n
  induction n with
  | zero => intros; exact im_none
  | succ n ih =>
    intro M x2
    unfold f_X10_spell_145
    refine im_iload_n X 2 dX10_spell_145 rfl rfl ?_
    refine im_aload_n X 0 dX10_spell_146 rfl rfl ?_
    refine im_cget X 0 0 (v := .ref (aM 1)) fl_X10_13 rfl rfl rfl dX10_spell_147 ?_
    refine im_sipush X 177 dX10_spell_150 (by decide) ?_
    refine im_ciald X 0 1 0 (f := (M 1)) rfl rfl rfl dX10_spell_153 ?_
    refine im_icmp_ge (tgt := 206) X dX10_spell_154 rfl ?_ ?_
    · refine im_lv [0, 1] [(0, .ref (aM 0)), (1, .int x1)] rfl ?_
      exact hk206 M
    · refine im_aload_n X 0 dX10_spell_157 rfl rfl ?_
      refine im_bipush X 7 dX10_spell_158 (by decide) ?_
      refine im_ccvV X [.int 7] [] [w_Model ct aM M LM] [w_Model ct aM M LM] [0] (fun z160 => [w_Model ct aM z160 LM]) 0 0 10 rfl rfl rfl cl_X10_297 (c_X10_writesWord l D ct F aM M LM 7) rfl (by decide) (fun _ => lc fa_Model (rfl)) rfl ⟨by decide, by decide⟩ (Nat.le_of_ble_eq_true rfl) rfl dX10_spell_160 (fun z160 => ?_)
      refine im_ws (cat [w_Model ct aM z160 LM]) rfl ?_
      refine im_iconst X 0 dX10_spell_163 (by decide) ?_
      refine im_istore_n X [1, 2, 3, 0] [(0, .ref (aM 0)), (1, .int x1), (2, .int x2), (3, .int 0)] dX10_spell_164 rfl (by decide) rfl ?_
      refine i_X10_spell_165 X F aM LM x1 x2 _ (fun M_194 => ?_) F z160 0
      refine im_aload_n X 0 dX10_spell_194 rfl rfl ?_
      refine im_bipush X 59 dX10_spell_195 (by decide) ?_
      refine im_ccvV X [.int 59] [] [w_Model ct aM M_194 LM] [w_Model ct aM M_194 LM] [0] (fun z197 => [w_Model ct aM z197 LM]) 0 0 10 rfl rfl rfl cl_X10_291 (c_X10_writesSign l D ct F aM M_194 LM 59) rfl (by decide) (fun _ => lc fa_Model (rfl)) rfl ⟨by decide, by decide⟩ (Nat.le_of_ble_eq_true rfl) rfl dX10_spell_197 (fun z197 => ?_)
      refine im_ws (cat [w_Model ct aM z197 LM]) rfl ?_
      refine im_iinc X 2 1 [1, 2, 0] [(0, .ref (aM 0)), (1, .int x1), (2, .int (x2 + 1))] dX10_spell_200 (by decide) rfl (by decide) rfl ?_
      refine im_goto (tgt := 145) X dX10_spell_203 rfl ?_
      exact ih z197 (x2 + 1)
noncomputable def f_X10_spell (F : Nat) (M : Mem) (LM : MemL) (x1 : Int32) : Option (Int32 × Mem) :=
  (if (-1) ≤ x1 then f_X10_spell_14 F LM x1 (fun M_50 => f_X10_spell_52 F LM x1 (fun M_114 => f_X10_spell_116 F LM x1 (fun M_143 => f_X10_spell_145 F LM x1 (fun M_206 => (f_X10_toldText F M_206 LM x1).bind (fun z208 => (some (z208, M_206)))) F M_143 0) F M_114 0) F M_50 0) F (mr M 0 (fu (M 0) 27 0)) 0 else (some ((-1), M)))
set_option maxRecDepth 100000 in
set_option maxHeartbeats 4000000 in
theorem i_X10_spell {p : Program} {l : Launch} {e : Env} {s : State} {m : MethodId} {args : Array Value} {below : List Frame} {meth : Method} {c : Code} {D : va_G} {ct : im_ct} {A : Nat → Prop} (X : im_X p (im_rm 4) s m args meth c D ct A RX10 cX10_spell 4 (some .int)) (F : Nat) (aM : Nat → Nat) (M : Mem) (LM : MemL) (x1 : Int32) : Im p l e (im_rm 4) s m args below meth c D A 4 (QI D A (fun z : Int32 × Mem => z.1) (fun z : Int32 × Mem => (cat [w_Model ct aM z.2 LM]))) 0 [(0, .ref (aM 0)), (1, .int x1)] [] (cat [w_Model ct aM M LM]) (f_X10_spell F M LM x1) := by
  unfold f_X10_spell
  refine im_iload_n X 1 dX10_spell_0 rfl rfl ?_
  refine im_iconst X (-1) dX10_spell_1 (by decide) ?_
  refine im_icmp_ge (tgt := 7) X dX10_spell_2 rfl ?_ ?_
  · refine im_aload_n X 0 dX10_spell_7 rfl rfl ?_
    refine im_iconst X 0 dX10_spell_8 (by decide) ?_
    refine im_cput X 0 0 (wx_Model ct aM (M 0 0) (M 0 4) (M 0 6) (M 0 7) (M 0 8) (M 0 9) (M 0 24) 0 (M 0 29) (M 0 31) (M 0 32) (M 0 33) (M 0 34) (M 0 35) (M 1) (M 2) (M 3) (M 4) (M 5) (M 9) (M 10) (M 11) (M 12) (M 13) (M 14) (M 15) (M 16) (M 17) (M 18) (M 19) (M 20) (M 21) (M 22) (LM 6) (LM 7) (LM 8)) [wx_Model ct aM (M 0 0) (M 0 4) (M 0 6) (M 0 7) (M 0 8) (M 0 9) (M 0 24) 0 (M 0 29) (M 0 31) (M 0 32) (M 0 33) (M 0 34) (M 0 35) (M 1) (M 2) (M 3) (M 4) (M 5) (M 9) (M 10) (M 11) (M 12) (M 13) (M 14) (M 15) (M 16) (M 17) (M 18) (M 19) (M 20) (M 21) (M 22) (LM 6) (LM 7) (LM 8)] fl_X10_285 rfl rfl rfl rfl (Nat.le_of_ble_eq_true rfl) rfl rfl dX10_spell_9 ?_
    refine im_iconst X 0 dX10_spell_12 (by decide) ?_
    refine im_istore_n X [1, 2, 0] [(0, .ref (aM 0)), (1, .int x1), (2, .int 0)] dX10_spell_13 rfl (by decide) rfl ?_
    refine i_X10_spell_14 X F aM LM x1 _ (fun M_50 => ?_) F (mr M 0 (fu (M 0) 27 0)) 0
    refine im_iconst X 0 dX10_spell_50 (by decide) ?_
    refine im_istore_n X [1, 2, 0] [(0, .ref (aM 0)), (1, .int x1), (2, .int 0)] dX10_spell_51 rfl (by decide) rfl ?_
    refine i_X10_spell_52 X F aM LM x1 _ (fun M_114 => ?_) F M_50 0
    refine im_iconst X 0 dX10_spell_114 (by decide) ?_
    refine im_istore_n X [1, 2, 0] [(0, .ref (aM 0)), (1, .int x1), (2, .int 0)] dX10_spell_115 rfl (by decide) rfl ?_
    refine i_X10_spell_116 X F aM LM x1 _ (fun M_143 => ?_) F M_114 0
    refine im_iconst X 0 dX10_spell_143 (by decide) ?_
    refine im_istore_n X [1, 2, 0] [(0, .ref (aM 0)), (1, .int x1), (2, .int 0)] dX10_spell_144 rfl (by decide) rfl ?_
    refine i_X10_spell_145 X F aM LM x1 _ (fun M_206 => ?_) F M_143 0
    refine im_aload_n X 0 dX10_spell_206 rfl rfl ?_
    refine im_iload_n X 1 dX10_spell_207 rfl rfl ?_
    refine im_cciV X [.int x1] [] [w_Model ct aM M_206 LM] [w_Model ct aM M_206 LM] [0] (fun z208 => [w_Model ct aM M_206 LM]) 0 0 10 rfl rfl rfl cl_X10_306 (c_X10_toldText l D ct F aM M_206 LM x1) rfl (by decide) (fun _ => lc rfl (rfl)) rfl ⟨by decide, by decide⟩ (Nat.le_of_ble_eq_true rfl) rfl dX10_spell_208 (fun z208 => ?_)
    refine im_ws (cat [w_Model ct aM M_206 LM]) rfl ?_
    exact im_ireturn X (z208, M_206) rfl rfl dX10_spell_211
  · refine im_iconst X (-1) dX10_spell_5 (by decide) ?_
    exact im_ireturn X ((-1), M) rfl rfl dX10_spell_6
theorem c_X10_spell (l : Launch) (D : va_G) (ct : im_ct) (F : Nat) (aM : Nat → Nat) (M : Mem) (LM : MemL) (x1 : Int32) : CMi l D ct yX10_spell cX10_spell 4 (some .int) 4 [.ref (aM 0), .int x1] (cat [w_Model ct aM M LM]) (f_X10_spell F M LM x1) (fun z : Int32 × Mem => z.1) (fun z : Int32 × Mem => (cat [w_Model ct aM z.2 LM])) :=
  im_met (Qb := fun A => QI D A (fun z : Int32 × Mem => z.1) (fun z : Int32 × Mem => (cat [w_Model ct aM z.2 LM]))) (by decide +kernel) (Nat.le_of_ble_eq_true rfl) (fun p e s m args below meth c A X => i_X10_spell X F aM M LM x1)

noncomputable def f_X10_report_29 (F : Nat) (LM : MemL) (x1 : Int32) (x2 : Int32) (k88 : Mem → Option (Int32 × Mem)) : Nat → Mem → Int32 → Option (Int32 × Mem)
  | 0, _, _ => none
  | n + 1, M, x3 =>
  (if x3 < 0 then k88 M else (f_X10_now F M LM x1 x3).bind (fun z36 => (if z36 = 0 then f_X10_report_29 F LM x1 x2 k88 n M (x3 + (-1)) else (f_X10_now F M LM x1 x3).bind (fun z49 => (f_X10_writesNumber F M LM z49).bind (fun z52 => (f_X10_writesSign F z52 LM 32).bind (fun z58 => (f_X10_writesWord F z58 LM 8).bind (fun z64 => (f_X10_worthOf F z64 LM x3).bind (fun z70 => (f_X10_writesNext F z64 LM z70).bind (fun z73 => (f_X10_writesSign F z73 LM 59).bind (fun z79 => f_X10_report_29 F LM x1 x2 k88 n z79 (x3 + (-1))))))))))))
set_option maxRecDepth 100000 in
set_option maxHeartbeats 4000000 in
theorem i_X10_report_29 {p : Program} {l : Launch} {e : Env} {s : State} {m : MethodId} {args : Array Value} {below : List Frame} {meth : Method} {c : Code} {D : va_G} {ct : im_ct} {A : Nat → Prop} (X : im_X p (im_rm 3) s m args meth c D ct A RX10 cX10_report 4 (some .int)) (F : Nat) (aM : Nat → Nat) (LM : MemL) (x1 : Int32) (x2 : Int32) (k88 : Mem → Option (Int32 × Mem)) (hk88 : ∀ (M : Mem), Im p l e (im_rm 3) s m args below meth c D A 4 (QI D A (fun z : Int32 × Mem => z.1) (fun z : Int32 × Mem => (cat [w_Model ct aM z.2 LM]))) 88 [(0, .ref (aM 0)), (1, .int x1), (2, .int x2)] [] (cat [w_Model ct aM M LM]) (k88 M)) : ∀ (n : Nat) (M : Mem) (x3 : Int32), Im p l e (im_rm 3) s m args below meth c D A 4 (QI D A (fun z : Int32 × Mem => z.1) (fun z : Int32 × Mem => (cat [w_Model ct aM z.2 LM]))) 29 [(0, .ref (aM 0)), (1, .int x1), (2, .int x2), (3, .int x3)] [] (cat [w_Model ct aM M LM]) (f_X10_report_29 F LM x1 x2 k88 n M x3) := by
  intro n
  induction n with
  | zero => intros; exact im_none
  | succ n ih =>
    intro M x3
    unfold f_X10_report_29
    refine im_iload_n X 3 dX10_report_29 rfl rfl ?_
    refine im_if_lt (tgt := 88) X dX10_report_30 rfl ?_ ?_
    · refine im_lv [0, 1, 2] [(0, .ref (aM 0)), (1, .int x1), (2, .int x2)] rfl ?_
      exact hk88 M
    · refine im_aload_n X 0 dX10_report_33 rfl rfl ?_
      refine im_iload_n X 1 dX10_report_34 rfl rfl ?_
      refine im_iload_n X 3 dX10_report_35 rfl rfl ?_
      refine im_cciV X [.int x1, .int x3] [] [w_Model ct aM M LM] [w_Model ct aM M LM] [0] (fun z36 => [w_Model ct aM M LM]) 0 0 10 rfl rfl rfl cl_X10_105 (c_X10_now l D ct F aM M LM x1 x3) rfl (by decide) (fun _ => lc rfl (rfl)) rfl ⟨by decide, by decide⟩ (Nat.le_of_ble_eq_true rfl) rfl dX10_report_36 (fun z36 => ?_)
      refine im_ws (cat [w_Model ct aM M LM]) rfl ?_
      refine im_if_ne (tgt := 45) X dX10_report_39 rfl ?_ ?_
      · refine im_aload_n X 0 dX10_report_45 rfl rfl ?_
        refine im_aload_n X 0 dX10_report_46 rfl rfl ?_
        refine im_iload_n X 1 dX10_report_47 rfl rfl ?_
        refine im_iload_n X 3 dX10_report_48 rfl rfl ?_
        refine im_cciV X [.int x1, .int x3] [.ref (aM 0)] [w_Model ct aM M LM] [w_Model ct aM M LM] [0] (fun z49 => [w_Model ct aM M LM]) 0 0 10 rfl rfl rfl cl_X10_105 (c_X10_now l D ct F aM M LM x1 x3) rfl (by decide) (fun _ => lc rfl (rfl)) rfl ⟨by decide, by decide⟩ (Nat.le_of_ble_eq_true rfl) rfl dX10_report_49 (fun z49 => ?_)
        refine im_ws (cat [w_Model ct aM M LM]) rfl ?_
        refine im_ccvV X [.int z49] [] [w_Model ct aM M LM] [w_Model ct aM M LM] [0] (fun z52 => [w_Model ct aM z52 LM]) 0 0 10 rfl rfl rfl cl_X10_294 (c_X10_writesNumber l D ct F aM M LM z49) rfl (by decide) (fun _ => lc fa_Model (rfl)) rfl ⟨by decide, by decide⟩ (Nat.le_of_ble_eq_true rfl) rfl dX10_report_52 (fun z52 => ?_)
        refine im_ws (cat [w_Model ct aM z52 LM]) rfl ?_
        refine im_aload_n X 0 dX10_report_55 rfl rfl ?_
        refine im_bipush X 32 dX10_report_56 (by decide) ?_
        refine im_ccvV X [.int 32] [] [w_Model ct aM z52 LM] [w_Model ct aM z52 LM] [0] (fun z58 => [w_Model ct aM z58 LM]) 0 0 10 rfl rfl rfl cl_X10_291 (c_X10_writesSign l D ct F aM z52 LM 32) rfl (by decide) (fun _ => lc fa_Model (rfl)) rfl ⟨by decide, by decide⟩ (Nat.le_of_ble_eq_true rfl) rfl dX10_report_58 (fun z58 => ?_)
        refine im_ws (cat [w_Model ct aM z58 LM]) rfl ?_
        refine im_aload_n X 0 dX10_report_61 rfl rfl ?_
        refine im_bipush X 8 dX10_report_62 (by decide) ?_
        refine im_ccvV X [.int 8] [] [w_Model ct aM z58 LM] [w_Model ct aM z58 LM] [0] (fun z64 => [w_Model ct aM z64 LM]) 0 0 10 rfl rfl rfl cl_X10_297 (c_X10_writesWord l D ct F aM z58 LM 8) rfl (by decide) (fun _ => lc fa_Model (rfl)) rfl ⟨by decide, by decide⟩ (Nat.le_of_ble_eq_true rfl) rfl dX10_report_64 (fun z64 => ?_)
        refine im_ws (cat [w_Model ct aM z64 LM]) rfl ?_
        refine im_aload_n X 0 dX10_report_67 rfl rfl ?_
        refine im_aload_n X 0 dX10_report_68 rfl rfl ?_
        refine im_iload_n X 3 dX10_report_69 rfl rfl ?_
        refine im_cciV X [.int x3] [.ref (aM 0)] [w_Model ct aM z64 LM] [w_Model ct aM z64 LM] [0] (fun z70 => [w_Model ct aM z64 LM]) 0 0 10 rfl rfl rfl cl_X10_108 (c_X10_worthOf l D ct F aM z64 LM x3) rfl (by decide) (fun _ => lc rfl (rfl)) rfl ⟨by decide, by decide⟩ (Nat.le_of_ble_eq_true rfl) rfl dX10_report_70 (fun z70 => ?_)
        refine im_ws (cat [w_Model ct aM z64 LM]) rfl ?_
        refine im_ccvV X [.int z70] [] [w_Model ct aM z64 LM] [w_Model ct aM z64 LM] [0] (fun z73 => [w_Model ct aM z73 LM]) 0 0 10 rfl rfl rfl cl_X10_300 (c_X10_writesNext l D ct F aM z64 LM z70) rfl (by decide) (fun _ => lc fa_Model (rfl)) rfl ⟨by decide, by decide⟩ (Nat.le_of_ble_eq_true rfl) rfl dX10_report_73 (fun z73 => ?_)
        refine im_ws (cat [w_Model ct aM z73 LM]) rfl ?_
        refine im_aload_n X 0 dX10_report_76 rfl rfl ?_
        refine im_bipush X 59 dX10_report_77 (by decide) ?_
        refine im_ccvV X [.int 59] [] [w_Model ct aM z73 LM] [w_Model ct aM z73 LM] [0] (fun z79 => [w_Model ct aM z79 LM]) 0 0 10 rfl rfl rfl cl_X10_291 (c_X10_writesSign l D ct F aM z73 LM 59) rfl (by decide) (fun _ => lc fa_Model (rfl)) rfl ⟨by decide, by decide⟩ (Nat.le_of_ble_eq_true rfl) rfl dX10_report_79 (fun z79 => ?_)
        refine im_ws (cat [w_Model ct aM z79 LM]) rfl ?_
        refine im_iinc X 3 (-1) [1, 2, 3, 0] [(0, .ref (aM 0)), (1, .int x1), (2, .int x2), (3, .int (x3 + (-1)))] dX10_report_82 (by decide) rfl (by decide) rfl ?_
        refine im_goto (tgt := 29) X dX10_report_85 rfl ?_
        exact ih z79 (x3 + (-1))
      · refine im_goto (tgt := 82) X dX10_report_42 rfl ?_
        refine im_iinc X 3 (-1) [1, 2, 3, 0] [(0, .ref (aM 0)), (1, .int x1), (2, .int x2), (3, .int (x3 + (-1)))] dX10_report_82 (by decide) rfl (by decide) rfl ?_
        refine im_goto (tgt := 29) X dX10_report_85 rfl ?_
        exact ih M (x3 + (-1))
noncomputable def f_X10_report (F : Nat) (M : Mem) (LM : MemL) (x1 : Int32) (x2 : Int32) : Option (Int32 × Mem) :=
  (f_X10_isRow F M LM x1).bind (fun z2 => (if z2 = 0 then (some ((-1), M)) else (if (-1) ≤ x2 then ck 0 226 (f_X10_report_29 F LM x1 x2 (fun M_88 => (f_X10_writesWord F M_88 LM 9).bind (fun z91 => (f_X10_sumOf F z91 LM x1).bind (fun z97 => (f_X10_writesNext F z91 LM z97).bind (fun z100 => (f_X10_writesSign F z100 LM 59).bind (fun z106 => (f_X10_toldText F z106 LM x2).bind (fun z111 => (some (z111, z106)))))))) F (mr M 0 (fu (M 0) 27 0)) (((M 1) (0 : Int32).toNatClampNeg) - 1)) else (some ((-1), M)))))
set_option maxRecDepth 100000 in
set_option maxHeartbeats 4000000 in
theorem i_X10_report {p : Program} {l : Launch} {e : Env} {s : State} {m : MethodId} {args : Array Value} {below : List Frame} {meth : Method} {c : Code} {D : va_G} {ct : im_ct} {A : Nat → Prop} (X : im_X p (im_rm 3) s m args meth c D ct A RX10 cX10_report 4 (some .int)) (F : Nat) (aM : Nat → Nat) (M : Mem) (LM : MemL) (x1 : Int32) (x2 : Int32) : Im p l e (im_rm 3) s m args below meth c D A 4 (QI D A (fun z : Int32 × Mem => z.1) (fun z : Int32 × Mem => (cat [w_Model ct aM z.2 LM]))) 0 [(0, .ref (aM 0)), (1, .int x1), (2, .int x2)] [] (cat [w_Model ct aM M LM]) (f_X10_report F M LM x1 x2) := by
  unfold f_X10_report
  refine im_aload_n X 0 dX10_report_0 rfl rfl ?_
  refine im_iload_n X 1 dX10_report_1 rfl rfl ?_
  refine im_cciV X [.int x1] [] [w_Model ct aM M LM] [w_Model ct aM M LM] [0] (fun z2 => [w_Model ct aM M LM]) 0 0 10 rfl rfl rfl cl_X10_90 (c_X10_isRow l D ct F aM M LM x1) rfl (by decide) (fun _ => lc rfl (rfl)) rfl ⟨by decide, by decide⟩ (Nat.le_of_ble_eq_true rfl) rfl dX10_report_2 (fun z2 => ?_)
  refine im_ws (cat [w_Model ct aM M LM]) rfl ?_
  refine im_if_eq (tgt := 13) X dX10_report_5 rfl ?_ ?_
  · refine im_iconst X (-1) dX10_report_13 (by decide) ?_
    exact im_ireturn X ((-1), M) rfl rfl dX10_report_14
  · refine im_iload_n X 2 dX10_report_8 rfl rfl ?_
    refine im_iconst X (-1) dX10_report_9 (by decide) ?_
    refine im_icmp_ge (tgt := 15) X dX10_report_10 rfl ?_ ?_
    · refine im_aload_n X 0 dX10_report_15 rfl rfl ?_
      refine im_iconst X 0 dX10_report_16 (by decide) ?_
      refine im_cput X 0 0 (wx_Model ct aM (M 0 0) (M 0 4) (M 0 6) (M 0 7) (M 0 8) (M 0 9) (M 0 24) 0 (M 0 29) (M 0 31) (M 0 32) (M 0 33) (M 0 34) (M 0 35) (M 1) (M 2) (M 3) (M 4) (M 5) (M 9) (M 10) (M 11) (M 12) (M 13) (M 14) (M 15) (M 16) (M 17) (M 18) (M 19) (M 20) (M 21) (M 22) (LM 6) (LM 7) (LM 8)) [wx_Model ct aM (M 0 0) (M 0 4) (M 0 6) (M 0 7) (M 0 8) (M 0 9) (M 0 24) 0 (M 0 29) (M 0 31) (M 0 32) (M 0 33) (M 0 34) (M 0 35) (M 1) (M 2) (M 3) (M 4) (M 5) (M 9) (M 10) (M 11) (M 12) (M 13) (M 14) (M 15) (M 16) (M 17) (M 18) (M 19) (M 20) (M 21) (M 22) (LM 6) (LM 7) (LM 8)] fl_X10_285 rfl rfl rfl rfl (Nat.le_of_ble_eq_true rfl) rfl rfl dX10_report_17 ?_
      refine im_aload_n X 0 dX10_report_20 rfl rfl ?_
      refine im_cget X 0 0 (v := .ref (aM 1)) fl_X10_13 rfl rfl rfl dX10_report_21 ?_
      refine im_iconst X 0 dX10_report_24 (by decide) ?_
      refine im_ciald X 0 1 0 (f := (M 1)) rfl rfl rfl dX10_report_25 ?_
      refine im_iconst X 1 dX10_report_26 (by decide) ?_
      refine im_isub X dX10_report_27 ?_
      refine im_istore_n X [1, 2, 3, 0] [(0, .ref (aM 0)), (1, .int x1), (2, .int x2), (3, .int (((M 1) (0 : Int32).toNatClampNeg) - 1))] dX10_report_28 rfl (by decide) rfl ?_
      refine i_X10_report_29 X F aM LM x1 x2 _ (fun M_88 => ?_) F (mr M 0 (fu (M 0) 27 0)) (((M 1) (0 : Int32).toNatClampNeg) - 1)
      refine im_aload_n X 0 dX10_report_88 rfl rfl ?_
      refine im_bipush X 9 dX10_report_89 (by decide) ?_
      refine im_ccvV X [.int 9] [] [w_Model ct aM M_88 LM] [w_Model ct aM M_88 LM] [0] (fun z91 => [w_Model ct aM z91 LM]) 0 0 10 rfl rfl rfl cl_X10_297 (c_X10_writesWord l D ct F aM M_88 LM 9) rfl (by decide) (fun _ => lc fa_Model (rfl)) rfl ⟨by decide, by decide⟩ (Nat.le_of_ble_eq_true rfl) rfl dX10_report_91 (fun z91 => ?_)
      refine im_ws (cat [w_Model ct aM z91 LM]) rfl ?_
      refine im_aload_n X 0 dX10_report_94 rfl rfl ?_
      refine im_aload_n X 0 dX10_report_95 rfl rfl ?_
      refine im_iload_n X 1 dX10_report_96 rfl rfl ?_
      refine im_cciV X [.int x1] [.ref (aM 0)] [w_Model ct aM z91 LM] [w_Model ct aM z91 LM] [0] (fun z97 => [w_Model ct aM z91 LM]) 0 0 10 rfl rfl rfl cl_X10_121 (c_X10_sumOf l D ct F aM z91 LM x1) rfl (by decide) (fun _ => lc rfl (rfl)) rfl ⟨by decide, by decide⟩ (Nat.le_of_ble_eq_true rfl) rfl dX10_report_97 (fun z97 => ?_)
      refine im_ws (cat [w_Model ct aM z91 LM]) rfl ?_
      refine im_ccvV X [.int z97] [] [w_Model ct aM z91 LM] [w_Model ct aM z91 LM] [0] (fun z100 => [w_Model ct aM z100 LM]) 0 0 10 rfl rfl rfl cl_X10_300 (c_X10_writesNext l D ct F aM z91 LM z97) rfl (by decide) (fun _ => lc fa_Model (rfl)) rfl ⟨by decide, by decide⟩ (Nat.le_of_ble_eq_true rfl) rfl dX10_report_100 (fun z100 => ?_)
      refine im_ws (cat [w_Model ct aM z100 LM]) rfl ?_
      refine im_aload_n X 0 dX10_report_103 rfl rfl ?_
      refine im_bipush X 59 dX10_report_104 (by decide) ?_
      refine im_ccvV X [.int 59] [] [w_Model ct aM z100 LM] [w_Model ct aM z100 LM] [0] (fun z106 => [w_Model ct aM z106 LM]) 0 0 10 rfl rfl rfl cl_X10_291 (c_X10_writesSign l D ct F aM z100 LM 59) rfl (by decide) (fun _ => lc fa_Model (rfl)) rfl ⟨by decide, by decide⟩ (Nat.le_of_ble_eq_true rfl) rfl dX10_report_106 (fun z106 => ?_)
      refine im_ws (cat [w_Model ct aM z106 LM]) rfl ?_
      refine im_aload_n X 0 dX10_report_109 rfl rfl ?_
      refine im_iload_n X 2 dX10_report_110 rfl rfl ?_
      refine im_cciV X [.int x2] [] [w_Model ct aM z106 LM] [w_Model ct aM z106 LM] [0] (fun z111 => [w_Model ct aM z106 LM]) 0 0 10 rfl rfl rfl cl_X10_306 (c_X10_toldText l D ct F aM z106 LM x2) rfl (by decide) (fun _ => lc rfl (rfl)) rfl ⟨by decide, by decide⟩ (Nat.le_of_ble_eq_true rfl) rfl dX10_report_111 (fun z111 => ?_)
      refine im_ws (cat [w_Model ct aM z106 LM]) rfl ?_
      exact im_ireturn X (z111, z106) rfl rfl dX10_report_114
    · refine im_iconst X (-1) dX10_report_13 (by decide) ?_
      exact im_ireturn X ((-1), M) rfl rfl dX10_report_14
theorem c_X10_report (l : Launch) (D : va_G) (ct : im_ct) (F : Nat) (aM : Nat → Nat) (M : Mem) (LM : MemL) (x1 : Int32) (x2 : Int32) : CMi l D ct yX10_report cX10_report 4 (some .int) 3 [.ref (aM 0), .int x1, .int x2] (cat [w_Model ct aM M LM]) (f_X10_report F M LM x1 x2) (fun z : Int32 × Mem => z.1) (fun z : Int32 × Mem => (cat [w_Model ct aM z.2 LM])) :=
  im_met (Qb := fun A => QI D A (fun z : Int32 × Mem => z.1) (fun z : Int32 × Mem => (cat [w_Model ct aM z.2 LM]))) (by decide +kernel) (Nat.le_of_ble_eq_true rfl) (fun p e s m args below meth c A X => i_X10_report X F aM M LM x1 x2)

noncomputable def f_X10_plainRows_4 (F : Nat) (LM : MemL) (k43 : Mem → Int32 → Option (Int32 × Mem)) : Nat → Mem → Int32 → Int32 → Option (Int32 × Mem)
  | 0, _, _, _ => none
  | n + 1, M, x1, x2 =>
  ck 1 226 ((if ((M 1) (1 : Int32).toNatClampNeg) ≤ x2 then k43 M x1 else (f_X10_sumOf F M LM x2).bind (fun z17 => (f_X10_laysPlain F M LM z17).bind (fun z20 => (f_X10_isOwn F z20 LM x2).bind (fun z25 => (if z25 = 0 then f_X10_plainRows_4 F LM k43 n z20 x1 (x2 + 1) else f_X10_plainRows_4 F LM k43 n z20 (x1 ||| (1 <<< (x2 &&& 31))) (x2 + 1)))))))
set_option maxRecDepth 100000 in
set_option maxHeartbeats 4000000 in
theorem i_X10_plainRows_4 {p : Program} {l : Launch} {e : Env} {s : State} {m : MethodId} {args : Array Value} {below : List Frame} {meth : Method} {c : Code} {D : va_G} {ct : im_ct} {A : Nat → Prop} (X : im_X p (im_rm 3) s m args meth c D ct A RX10 cX10_plainRows 3 (some .int)) (F : Nat) (aM : Nat → Nat) (LM : MemL) (k43 : Mem → Int32 → Option (Int32 × Mem)) (hk43 : ∀ (M : Mem) (x1 : Int32), Im p l e (im_rm 3) s m args below meth c D A 3 (QI D A (fun z : Int32 × Mem => z.1) (fun z : Int32 × Mem => (cat [w_Model ct aM z.2 LM]))) 43 [(1, .int x1)] [] (cat [w_Model ct aM M LM]) (k43 M x1)) : ∀ (n : Nat) (M : Mem) (x1 : Int32) (x2 : Int32), Im p l e (im_rm 3) s m args below meth c D A 3 (QI D A (fun z : Int32 × Mem => z.1) (fun z : Int32 × Mem => (cat [w_Model ct aM z.2 LM]))) 4 [(0, .ref (aM 0)), (1, .int x1), (2, .int x2)] [] (cat [w_Model ct aM M LM]) (f_X10_plainRows_4 F LM k43 n M x1 x2) := by
  intro n
  induction n with
  | zero => intros; exact im_none
  | succ n ih =>
    intro M x1 x2
    unfold f_X10_plainRows_4
    refine im_iload_n X 2 dX10_plainRows_4 rfl rfl ?_
    refine im_aload_n X 0 dX10_plainRows_5 rfl rfl ?_
    refine im_cget X 0 0 (v := .ref (aM 1)) fl_X10_13 rfl rfl rfl dX10_plainRows_6 ?_
    refine im_iconst X 1 dX10_plainRows_9 (by decide) ?_
    refine im_ciald X 0 1 0 (f := (M 1)) rfl rfl rfl dX10_plainRows_10 ?_
    refine im_icmp_ge (tgt := 43) X dX10_plainRows_11 rfl ?_ ?_
    · refine im_lv [1] [(1, .int x1)] rfl ?_
      exact hk43 M x1
    · refine im_aload_n X 0 dX10_plainRows_14 rfl rfl ?_
      refine im_aload_n X 0 dX10_plainRows_15 rfl rfl ?_
      refine im_iload_n X 2 dX10_plainRows_16 rfl rfl ?_
      refine im_cciV X [.int x2] [.ref (aM 0)] [w_Model ct aM M LM] [w_Model ct aM M LM] [0] (fun z17 => [w_Model ct aM M LM]) 0 0 10 rfl rfl rfl cl_X10_121 (c_X10_sumOf l D ct F aM M LM x2) rfl (by decide) (fun _ => lc rfl (rfl)) rfl ⟨by decide, by decide⟩ (Nat.le_of_ble_eq_true rfl) rfl dX10_plainRows_17 (fun z17 => ?_)
      refine im_ws (cat [w_Model ct aM M LM]) rfl ?_
      refine im_ccvV X [.int z17] [] [w_Model ct aM M LM] [w_Model ct aM M LM] [0] (fun z20 => [w_Model ct aM z20 LM]) 0 0 10 rfl rfl rfl cl_X10_190 (c_X10_laysPlain l D ct F aM M LM z17) rfl (by decide) (fun _ => lc fa_Model (rfl)) rfl ⟨by decide, by decide⟩ (Nat.le_of_ble_eq_true rfl) rfl dX10_plainRows_20 (fun z20 => ?_)
      refine im_ws (cat [w_Model ct aM z20 LM]) rfl ?_
      refine im_aload_n X 0 dX10_plainRows_23 rfl rfl ?_
      refine im_iload_n X 2 dX10_plainRows_24 rfl rfl ?_
      refine im_cciV X [.int x2] [] [w_Model ct aM z20 LM] [w_Model ct aM z20 LM] [0] (fun z25 => [w_Model ct aM z20 LM]) 0 0 10 rfl rfl rfl cl_X10_193 (c_X10_isOwn l D ct F aM z20 LM x2) rfl (by decide) (fun _ => lc rfl (rfl)) rfl ⟨by decide, by decide⟩ (Nat.le_of_ble_eq_true rfl) rfl dX10_plainRows_25 (fun z25 => ?_)
      refine im_ws (cat [w_Model ct aM z20 LM]) rfl ?_
      refine im_if_eq (tgt := 37) X dX10_plainRows_28 rfl ?_ ?_
      · refine im_iinc X 2 1 [1, 2, 0] [(0, .ref (aM 0)), (1, .int x1), (2, .int (x2 + 1))] dX10_plainRows_37 (by decide) rfl (by decide) rfl ?_
        refine im_goto (tgt := 4) X dX10_plainRows_40 rfl ?_
        exact ih z20 x1 (x2 + 1)
      · refine im_iload_n X 1 dX10_plainRows_31 rfl rfl ?_
        refine im_iconst X 1 dX10_plainRows_32 (by decide) ?_
        refine im_iload_n X 2 dX10_plainRows_33 rfl rfl ?_
        refine im_ishl X dX10_plainRows_34 ?_
        refine im_ior X dX10_plainRows_35 ?_
        refine im_istore_n X [1, 0, 2] [(0, .ref (aM 0)), (1, .int (x1 ||| (1 <<< (x2 &&& 31)))), (2, .int x2)] dX10_plainRows_36 rfl (by decide) rfl ?_
        refine im_iinc X 2 1 [1, 2, 0] [(0, .ref (aM 0)), (1, .int (x1 ||| (1 <<< (x2 &&& 31)))), (2, .int (x2 + 1))] dX10_plainRows_37 (by decide) rfl (by decide) rfl ?_
        refine im_goto (tgt := 4) X dX10_plainRows_40 rfl ?_
        exact ih z20 (x1 ||| (1 <<< (x2 &&& 31))) (x2 + 1)
noncomputable def f_X10_plainRows (F : Nat) (M : Mem) (LM : MemL) : Option (Int32 × Mem) :=
  f_X10_plainRows_4 F LM (fun M_43 x1_43 => (some (x1_43, M_43))) F M 0 0
set_option maxRecDepth 100000 in
set_option maxHeartbeats 4000000 in
theorem i_X10_plainRows {p : Program} {l : Launch} {e : Env} {s : State} {m : MethodId} {args : Array Value} {below : List Frame} {meth : Method} {c : Code} {D : va_G} {ct : im_ct} {A : Nat → Prop} (X : im_X p (im_rm 3) s m args meth c D ct A RX10 cX10_plainRows 3 (some .int)) (F : Nat) (aM : Nat → Nat) (M : Mem) (LM : MemL) : Im p l e (im_rm 3) s m args below meth c D A 3 (QI D A (fun z : Int32 × Mem => z.1) (fun z : Int32 × Mem => (cat [w_Model ct aM z.2 LM]))) 0 [(0, .ref (aM 0))] [] (cat [w_Model ct aM M LM]) (f_X10_plainRows F M LM) := by
  unfold f_X10_plainRows
  refine im_iconst X 0 dX10_plainRows_0 (by decide) ?_
  refine im_istore_n X [1, 0] [(0, .ref (aM 0)), (1, .int 0)] dX10_plainRows_1 rfl (by decide) rfl ?_
  refine im_iconst X 0 dX10_plainRows_2 (by decide) ?_
  refine im_istore_n X [1, 2, 0] [(0, .ref (aM 0)), (1, .int 0), (2, .int 0)] dX10_plainRows_3 rfl (by decide) rfl ?_
  refine i_X10_plainRows_4 X F aM LM  _ (fun M_43 x1_43 => ?_) F M 0 0
  refine im_iload_n X 0 dX10_plainRows_43 rfl rfl ?_
  exact im_ireturn X (x1_43, M_43) rfl rfl dX10_plainRows_44
theorem c_X10_plainRows (l : Launch) (D : va_G) (ct : im_ct) (F : Nat) (aM : Nat → Nat) (M : Mem) (LM : MemL) : CMi l D ct yX10_plainRows cX10_plainRows 3 (some .int) 3 [.ref (aM 0)] (cat [w_Model ct aM M LM]) (f_X10_plainRows F M LM) (fun z : Int32 × Mem => z.1) (fun z : Int32 × Mem => (cat [w_Model ct aM z.2 LM])) :=
  im_met (Qb := fun A => QI D A (fun z : Int32 × Mem => z.1) (fun z : Int32 × Mem => (cat [w_Model ct aM z.2 LM]))) (by decide +kernel) (Nat.le_of_ble_eq_true rfl) (fun p e s m args below meth c A X => i_X10_plainRows X F aM M LM)

noncomputable def f_X10_greatest_4 (F : Nat) (M : Mem) (LM : MemL) (k40 : Int32 → Option (Int32)) : Nat → Int32 → Int32 → Option (Int32)
  | 0, _, _ => none
  | n + 1, x1, x2 =>
  ck 1 226 ((if ((M 1) (1 : Int32).toNatClampNeg) ≤ x2 then k40 x1 else (if x1 = (-1) then f_X10_greatest_4 F M LM k40 n x2 (x2 + 1) else (f_X10_sumOf F M LM x2).bind (fun z21 => (f_X10_sumOf F M LM x1).bind (fun z26 => (if z21 ≤ z26 then f_X10_greatest_4 F M LM k40 n x1 (x2 + 1) else f_X10_greatest_4 F M LM k40 n x2 (x2 + 1)))))))
set_option maxRecDepth 100000 in
set_option maxHeartbeats 4000000 in
theorem i_X10_greatest_4 {p : Program} {l : Launch} {e : Env} {s : State} {m : MethodId} {args : Array Value} {below : List Frame} {meth : Method} {c : Code} {D : va_G} {ct : im_ct} {A : Nat → Prop} (X : im_X p (im_rm 3) s m args meth c D ct A RX10 cX10_greatest 3 (some .int)) (F : Nat) (aM : Nat → Nat) (M : Mem) (LM : MemL) (k40 : Int32 → Option (Int32)) (hk40 : ∀ (x1 : Int32), Im p l e (im_rm 3) s m args below meth c D A 3 (QI D A (fun z : Int32 => z) (fun z : Int32 => (cat [w_Model ct aM M LM]))) 40 [(1, .int x1)] [] (cat [w_Model ct aM M LM]) (k40 x1)) : ∀ (n : Nat) (x1 : Int32) (x2 : Int32), Im p l e (im_rm 3) s m args below meth c D A 3 (QI D A (fun z : Int32 => z) (fun z : Int32 => (cat [w_Model ct aM M LM]))) 4 [(0, .ref (aM 0)), (1, .int x1), (2, .int x2)] [] (cat [w_Model ct aM M LM]) (f_X10_greatest_4 F M LM k40 n x1 x2) := by
  intro n
  induction n with
  | zero => intros; exact im_none
  | succ n ih =>
    intro x1 x2
    unfold f_X10_greatest_4
    refine im_iload_n X 2 dX10_greatest_4 rfl rfl ?_
    refine im_aload_n X 0 dX10_greatest_5 rfl rfl ?_
    refine im_cget X 0 0 (v := .ref (aM 1)) fl_X10_13 rfl rfl rfl dX10_greatest_6 ?_
    refine im_iconst X 1 dX10_greatest_9 (by decide) ?_
    refine im_ciald X 0 1 0 (f := (M 1)) rfl rfl rfl dX10_greatest_10 ?_
    refine im_icmp_ge (tgt := 40) X dX10_greatest_11 rfl ?_ ?_
    · refine im_lv [1] [(1, .int x1)] rfl ?_
      exact hk40 x1
    · refine im_iload_n X 1 dX10_greatest_14 rfl rfl ?_
      refine im_iconst X (-1) dX10_greatest_15 (by decide) ?_
      refine im_icmp_eq (tgt := 32) X dX10_greatest_16 rfl ?_ ?_
      · refine im_iload_n X 2 dX10_greatest_32 rfl rfl ?_
        refine im_istore_n X [1, 0, 2] [(0, .ref (aM 0)), (1, .int x2), (2, .int x2)] dX10_greatest_33 rfl (by decide) rfl ?_
        refine im_iinc X 2 1 [1, 2, 0] [(0, .ref (aM 0)), (1, .int x2), (2, .int (x2 + 1))] dX10_greatest_34 (by decide) rfl (by decide) rfl ?_
        refine im_goto (tgt := 4) X dX10_greatest_37 rfl ?_
        exact ih x2 (x2 + 1)
      · refine im_aload_n X 0 dX10_greatest_19 rfl rfl ?_
        refine im_iload_n X 2 dX10_greatest_20 rfl rfl ?_
        refine im_cciV X [.int x2] [] [w_Model ct aM M LM] [w_Model ct aM M LM] [0] (fun z21 => [w_Model ct aM M LM]) 0 0 10 rfl rfl rfl cl_X10_121 (c_X10_sumOf l D ct F aM M LM x2) rfl (by decide) (fun _ => lc rfl (rfl)) rfl ⟨by decide, by decide⟩ (Nat.le_of_ble_eq_true rfl) rfl dX10_greatest_21 (fun z21 => ?_)
        refine im_ws (cat [w_Model ct aM M LM]) rfl ?_
        refine im_aload_n X 0 dX10_greatest_24 rfl rfl ?_
        refine im_iload_n X 1 dX10_greatest_25 rfl rfl ?_
        refine im_cciV X [.int x1] [.int z21] [w_Model ct aM M LM] [w_Model ct aM M LM] [0] (fun z26 => [w_Model ct aM M LM]) 0 0 10 rfl rfl rfl cl_X10_121 (c_X10_sumOf l D ct F aM M LM x1) rfl (by decide) (fun _ => lc rfl (rfl)) rfl ⟨by decide, by decide⟩ (Nat.le_of_ble_eq_true rfl) rfl dX10_greatest_26 (fun z26 => ?_)
        refine im_ws (cat [w_Model ct aM M LM]) rfl ?_
        refine im_icmp_le (tgt := 34) X dX10_greatest_29 rfl ?_ ?_
        · refine im_iinc X 2 1 [1, 2, 0] [(0, .ref (aM 0)), (1, .int x1), (2, .int (x2 + 1))] dX10_greatest_34 (by decide) rfl (by decide) rfl ?_
          refine im_goto (tgt := 4) X dX10_greatest_37 rfl ?_
          exact ih x1 (x2 + 1)
        · refine im_iload_n X 2 dX10_greatest_32 rfl rfl ?_
          refine im_istore_n X [1, 0, 2] [(0, .ref (aM 0)), (1, .int x2), (2, .int x2)] dX10_greatest_33 rfl (by decide) rfl ?_
          refine im_iinc X 2 1 [1, 2, 0] [(0, .ref (aM 0)), (1, .int x2), (2, .int (x2 + 1))] dX10_greatest_34 (by decide) rfl (by decide) rfl ?_
          refine im_goto (tgt := 4) X dX10_greatest_37 rfl ?_
          exact ih x2 (x2 + 1)
noncomputable def f_X10_greatest (F : Nat) (M : Mem) (LM : MemL) : Option (Int32) :=
  f_X10_greatest_4 F M LM (fun x1_40 => (some x1_40)) F (-1) 0
set_option maxRecDepth 100000 in
set_option maxHeartbeats 4000000 in
theorem i_X10_greatest {p : Program} {l : Launch} {e : Env} {s : State} {m : MethodId} {args : Array Value} {below : List Frame} {meth : Method} {c : Code} {D : va_G} {ct : im_ct} {A : Nat → Prop} (X : im_X p (im_rm 3) s m args meth c D ct A RX10 cX10_greatest 3 (some .int)) (F : Nat) (aM : Nat → Nat) (M : Mem) (LM : MemL) : Im p l e (im_rm 3) s m args below meth c D A 3 (QI D A (fun z : Int32 => z) (fun z : Int32 => (cat [w_Model ct aM M LM]))) 0 [(0, .ref (aM 0))] [] (cat [w_Model ct aM M LM]) (f_X10_greatest F M LM) := by
  unfold f_X10_greatest
  refine im_iconst X (-1) dX10_greatest_0 (by decide) ?_
  refine im_istore_n X [1, 0] [(0, .ref (aM 0)), (1, .int (-1))] dX10_greatest_1 rfl (by decide) rfl ?_
  refine im_iconst X 0 dX10_greatest_2 (by decide) ?_
  refine im_istore_n X [1, 2, 0] [(0, .ref (aM 0)), (1, .int (-1)), (2, .int 0)] dX10_greatest_3 rfl (by decide) rfl ?_
  refine i_X10_greatest_4 X F aM M LM  _ (fun x1_40 => ?_) F (-1) 0
  refine im_iload_n X 0 dX10_greatest_40 rfl rfl ?_
  exact im_ireturn X x1_40 rfl rfl dX10_greatest_41
theorem c_X10_greatest (l : Launch) (D : va_G) (ct : im_ct) (F : Nat) (aM : Nat → Nat) (M : Mem) (LM : MemL) : CMi l D ct yX10_greatest cX10_greatest 3 (some .int) 3 [.ref (aM 0)] (cat [w_Model ct aM M LM]) (f_X10_greatest F M LM) (fun z : Int32 => z) (fun z : Int32 => (cat [w_Model ct aM M LM])) :=
  im_met (Qb := fun A => QI D A (fun z : Int32 => z) (fun z : Int32 => (cat [w_Model ct aM M LM]))) (by decide +kernel) (Nat.le_of_ble_eq_true rfl) (fun p e s m args below meth c A X => i_X10_greatest X F aM M LM)

noncomputable def f_X10_count (F : Nat) (M : Mem) (LM : MemL) (x1 : Int32) : Option (Int32 × Mem) :=
  (if x1 = 0 then ck 0 226 ((some (((M 1) (0 : Int32).toNatClampNeg), M))) else if x1 = 1 then ck 1 226 ((some (((M 1) (1 : Int32).toNatClampNeg), M))) else if x1 = 2 then ck 56 226 ((some (((M 1) (56 : Int32).toNatClampNeg), M))) else if x1 = 3 then ck 177 226 ((some (((M 1) (177 : Int32).toNatClampNeg), M))) else if x1 = 4 then (some ((M 0 4), M)) else if x1 = 5 then (some ((M 0 29), M)) else if x1 = 6 then (f_X10_plainRows F M LM).bind (fun z90 => (some (z90.1, z90.2))) else if x1 = 7 then (f_X10_greatest F M LM).bind (fun z95 => (some (z95, M))) else (some ((-1), M)))
set_option maxRecDepth 100000 in
set_option maxHeartbeats 4000000 in
theorem i_X10_count {p : Program} {l : Launch} {e : Env} {s : State} {m : MethodId} {args : Array Value} {below : List Frame} {meth : Method} {c : Code} {D : va_G} {ct : im_ct} {A : Nat → Prop} (X : im_X p (im_rm 4) s m args meth c D ct A RX10 cX10_count 2 (some .int)) (F : Nat) (aM : Nat → Nat) (M : Mem) (LM : MemL) (x1 : Int32) : Im p l e (im_rm 4) s m args below meth c D A 2 (QI D A (fun z : Int32 × Mem => z.1) (fun z : Int32 × Mem => (cat [w_Model ct aM z.2 LM]))) 0 [(0, .ref (aM 0)), (1, .int x1)] [] (cat [w_Model ct aM M LM]) (f_X10_count F M LM x1) := by
  unfold f_X10_count
  refine im_iload_n X 1 dX10_count_0 rfl rfl ?_
  refine im_ite (fun q0 => ?_) (fun q0 => ?_)
  · refine im_tabIn (tgt := 48) X dX10_count_1 (by rw [q0]; decide) (by rw [q0]; decide) (by rw [q0]; rfl) rfl ?_
    refine im_aload_n X 0 dX10_count_48 rfl rfl ?_
    refine im_cget X 0 0 (v := .ref (aM 1)) fl_X10_13 rfl rfl rfl dX10_count_49 ?_
    refine im_iconst X 0 dX10_count_52 (by decide) ?_
    refine im_ciald X 0 1 0 (f := (M 1)) rfl rfl rfl dX10_count_53 ?_
    exact im_ireturn X (((M 1) (0 : Int32).toNatClampNeg), M) rfl rfl dX10_count_54
  · refine im_ite (fun q1 => ?_) (fun q1 => ?_)
    · refine im_tabIn (tgt := 55) X dX10_count_1 (by rw [q1]; decide) (by rw [q1]; decide) (by rw [q1]; rfl) rfl ?_
      refine im_aload_n X 0 dX10_count_55 rfl rfl ?_
      refine im_cget X 0 0 (v := .ref (aM 1)) fl_X10_13 rfl rfl rfl dX10_count_56 ?_
      refine im_iconst X 1 dX10_count_59 (by decide) ?_
      refine im_ciald X 0 1 0 (f := (M 1)) rfl rfl rfl dX10_count_60 ?_
      exact im_ireturn X (((M 1) (1 : Int32).toNatClampNeg), M) rfl rfl dX10_count_61
    · refine im_ite (fun q2 => ?_) (fun q2 => ?_)
      · refine im_tabIn (tgt := 62) X dX10_count_1 (by rw [q2]; decide) (by rw [q2]; decide) (by rw [q2]; rfl) rfl ?_
        refine im_aload_n X 0 dX10_count_62 rfl rfl ?_
        refine im_cget X 0 0 (v := .ref (aM 1)) fl_X10_13 rfl rfl rfl dX10_count_63 ?_
        refine im_bipush X 56 dX10_count_66 (by decide) ?_
        refine im_ciald X 0 1 0 (f := (M 1)) rfl rfl rfl dX10_count_68 ?_
        exact im_ireturn X (((M 1) (56 : Int32).toNatClampNeg), M) rfl rfl dX10_count_69
      · refine im_ite (fun q3 => ?_) (fun q3 => ?_)
        · refine im_tabIn (tgt := 70) X dX10_count_1 (by rw [q3]; decide) (by rw [q3]; decide) (by rw [q3]; rfl) rfl ?_
          refine im_aload_n X 0 dX10_count_70 rfl rfl ?_
          refine im_cget X 0 0 (v := .ref (aM 1)) fl_X10_13 rfl rfl rfl dX10_count_71 ?_
          refine im_sipush X 177 dX10_count_74 (by decide) ?_
          refine im_ciald X 0 1 0 (f := (M 1)) rfl rfl rfl dX10_count_77 ?_
          exact im_ireturn X (((M 1) (177 : Int32).toNatClampNeg), M) rfl rfl dX10_count_78
        · refine im_ite (fun q4 => ?_) (fun q4 => ?_)
          · refine im_tabIn (tgt := 79) X dX10_count_1 (by rw [q4]; decide) (by rw [q4]; decide) (by rw [q4]; rfl) rfl ?_
            refine im_aload_n X 0 dX10_count_79 rfl rfl ?_
            refine im_cget X 0 0 (v := .int (M 0 4)) fl_X10_83 rfl rfl rfl dX10_count_80 ?_
            exact im_ireturn X ((M 0 4), M) rfl rfl dX10_count_83
          · refine im_ite (fun q5 => ?_) (fun q5 => ?_)
            · refine im_tabIn (tgt := 84) X dX10_count_1 (by rw [q5]; decide) (by rw [q5]; decide) (by rw [q5]; rfl) rfl ?_
              refine im_aload_n X 0 dX10_count_84 rfl rfl ?_
              refine im_cget X 0 0 (v := .int (M 0 29)) fl_X10_309 rfl rfl rfl dX10_count_85 ?_
              exact im_ireturn X ((M 0 29), M) rfl rfl dX10_count_88
            · refine im_ite (fun q6 => ?_) (fun q6 => ?_)
              · refine im_tabIn (tgt := 89) X dX10_count_1 (by rw [q6]; decide) (by rw [q6]; decide) (by rw [q6]; rfl) rfl ?_
                refine im_aload_n X 0 dX10_count_89 rfl rfl ?_
                refine im_cciV X [] [] [w_Model ct aM M LM] [w_Model ct aM M LM] [0] (fun z90 => [w_Model ct aM z90.2 LM]) 0 0 10 rfl rfl rfl cl_X10_312 (c_X10_plainRows l D ct F aM M LM) rfl (by decide) (fun _ => lc fa_Model (rfl)) rfl ⟨by decide, by decide⟩ (Nat.le_of_ble_eq_true rfl) rfl dX10_count_90 (fun z90 => ?_)
                refine im_ws (cat [w_Model ct aM z90.2 LM]) rfl ?_
                exact im_ireturn X (z90.1, z90.2) rfl rfl dX10_count_93
              · refine im_ite (fun q7 => ?_) (fun q7 => ?_)
                · refine im_tabIn (tgt := 94) X dX10_count_1 (by rw [q7]; decide) (by rw [q7]; decide) (by rw [q7]; rfl) rfl ?_
                  refine im_aload_n X 0 dX10_count_94 rfl rfl ?_
                  refine im_cciV X [] [] [w_Model ct aM M LM] [w_Model ct aM M LM] [0] (fun z95 => [w_Model ct aM M LM]) 0 0 10 rfl rfl rfl cl_X10_316 (c_X10_greatest l D ct F aM M LM) rfl (by decide) (fun _ => lc rfl (rfl)) rfl ⟨by decide, by decide⟩ (Nat.le_of_ble_eq_true rfl) rfl dX10_count_95 (fun z95 => ?_)
                  refine im_ws (cat [w_Model ct aM M LM]) rfl ?_
                  exact im_ireturn X (z95, M) rfl rfl dX10_count_98
                · refine im_tabOut (tgt := 99) X dX10_count_1 (by have h0 := i32_ne q0 (by decide : (0 : Int32).toInt = 0); have h1 := i32_ne q1 (by decide : (1 : Int32).toInt = 1); have h2 := i32_ne q2 (by decide : (2 : Int32).toInt = 2); have h3 := i32_ne q3 (by decide : (3 : Int32).toInt = 3); have h4 := i32_ne q4 (by decide : (4 : Int32).toInt = 4); have h5 := i32_ne q5 (by decide : (5 : Int32).toInt = 5); have h6 := i32_ne q6 (by decide : (6 : Int32).toInt = 6); have h7 := i32_ne q7 (by decide : (7 : Int32).toInt = 7); omega) rfl ?_
                  refine im_iconst X (-1) dX10_count_99 (by decide) ?_
                  exact im_ireturn X ((-1), M) rfl rfl dX10_count_100
theorem c_X10_count (l : Launch) (D : va_G) (ct : im_ct) (F : Nat) (aM : Nat → Nat) (M : Mem) (LM : MemL) (x1 : Int32) : CMi l D ct yX10_count cX10_count 2 (some .int) 4 [.ref (aM 0), .int x1] (cat [w_Model ct aM M LM]) (f_X10_count F M LM x1) (fun z : Int32 × Mem => z.1) (fun z : Int32 × Mem => (cat [w_Model ct aM z.2 LM])) :=
  im_met (Qb := fun A => QI D A (fun z : Int32 × Mem => z.1) (fun z : Int32 × Mem => (cat [w_Model ct aM z.2 LM]))) (by decide +kernel) (Nat.le_of_ble_eq_true rfl) (fun p e s m args below meth c A X => i_X10_count X F aM M LM x1)

noncomputable def f_X10_feed_71 (F : Nat) (M : Mem) (LM : MemL) (x1 : Int32) (x2 : Int32) (x3 : Int32) (x4 : Int32) (x5 : Int32) (x6 : Int32) (s0 : Int32) (k18 : Mem → Int32 → Option (Int32 × Mem)) : Option (Int32 × Mem) :=
  dv 4 (ck (M 0 29) 400 (k18 (mr (mr M 21 (upd (M 21) ((M 0 29)).toNatClampNeg ((s0 >>> ((24 - (8 * (x6 - x6 / 4 * 4))) &&& 31)) &&& 255))) 0 (fu (M 0) 29 ((M 0 29) + 1))) (x6 + 1)))
set_option maxRecDepth 100000 in
set_option maxHeartbeats 4000000 in
theorem i_X10_feed_71 {p : Program} {l : Launch} {e : Env} {s : State} {m : MethodId} {args : Array Value} {below : List Frame} {meth : Method} {c : Code} {D : va_G} {ct : im_ct} {A : Nat → Prop} (X : im_X p (im_rm 0) s m args meth c D ct A RX10 cX10_feed 8 (some .int)) (F : Nat) (aM : Nat → Nat) (M : Mem) (LM : MemL) (x1 : Int32) (x2 : Int32) (x3 : Int32) (x4 : Int32) (x5 : Int32) (x6 : Int32) (s0 : Int32) (k18 : Mem → Int32 → Option (Int32 × Mem)) (hk18 : ∀ (M : Mem) (x6 : Int32), Im p l e (im_rm 0) s m args below meth c D A 8 (QI D A (fun z : Int32 × Mem => z.1) (fun z : Int32 × Mem => (cat [w_Model ct aM z.2 LM]))) 18 [(0, .ref (aM 0)), (1, .int x1), (2, .int x2), (3, .int x3), (4, .int x4), (5, .int x5), (6, .int x6)] [] (cat [w_Model ct aM M LM]) (k18 M x6)) : Im p l e (im_rm 0) s m args below meth c D A 8 (QI D A (fun z : Int32 × Mem => z.1) (fun z : Int32 × Mem => (cat [w_Model ct aM z.2 LM]))) 71 [(0, .ref (aM 0)), (1, .int x1), (2, .int x2), (3, .int x3), (4, .int x4), (5, .int x5), (6, .int x6)] [.int s0] (cat [w_Model ct aM M LM]) (f_X10_feed_71 F M LM x1 x2 x3 x4 x5 x6 s0 k18) := by
  unfold f_X10_feed_71
  refine im_istore X [1, 2, 3, 4, 5, 6, 7, 0] [(0, .ref (aM 0)), (1, .int x1), (2, .int x2), (3, .int x3), (4, .int x4), (5, .int x5), (6, .int x6), (7, .int s0)] dX10_feed_71 (by decide) rfl ?_
  refine im_aload_n X 0 dX10_feed_73 rfl rfl ?_
  refine im_cget X 0 0 (v := .ref (aM 21)) fl_X10_76 rfl rfl rfl dX10_feed_74 ?_
  refine im_aload_n X 0 dX10_feed_77 rfl rfl ?_
  refine im_cget X 0 0 (v := .int (M 0 29)) fl_X10_309 rfl rfl rfl dX10_feed_78 ?_
  refine im_iload X 7 dX10_feed_81 rfl ?_
  refine im_bipush X 24 dX10_feed_83 (by decide) ?_
  refine im_bipush X 8 dX10_feed_85 (by decide) ?_
  refine im_iload X 6 dX10_feed_87 rfl ?_
  refine im_iconst X 4 dX10_feed_89 (by decide) ?_
  refine im_irem X dX10_feed_90 ?_
  refine im_imul X dX10_feed_91 ?_
  refine im_isub X dX10_feed_92 ?_
  refine im_ishr X dX10_feed_93 ?_
  refine im_sipush X 255 dX10_feed_94 (by decide) ?_
  refine im_iand X dX10_feed_97 ?_
  refine im_ciast X 0 21 0 (wx_Model ct aM (M 0 0) (M 0 4) (M 0 6) (M 0 7) (M 0 8) (M 0 9) (M 0 24) (M 0 27) (M 0 29) (M 0 31) (M 0 32) (M 0 33) (M 0 34) (M 0 35) (M 1) (M 2) (M 3) (M 4) (M 5) (M 9) (M 10) (M 11) (M 12) (M 13) (M 14) (M 15) (M 16) (M 17) (M 18) (M 19) (M 20) (upd (M 21) ((M 0 29)).toNatClampNeg ((s0 >>> ((24 - (8 * (x6 - x6 / 4 * 4))) &&& 31)) &&& 255)) (M 22) (LM 6) (LM 7) (LM 8)) [wx_Model ct aM (M 0 0) (M 0 4) (M 0 6) (M 0 7) (M 0 8) (M 0 9) (M 0 24) (M 0 27) (M 0 29) (M 0 31) (M 0 32) (M 0 33) (M 0 34) (M 0 35) (M 1) (M 2) (M 3) (M 4) (M 5) (M 9) (M 10) (M 11) (M 12) (M 13) (M 14) (M 15) (M 16) (M 17) (M 18) (M 19) (M 20) (upd (M 21) ((M 0 29)).toNatClampNeg ((s0 >>> ((24 - (8 * (x6 - x6 / 4 * 4))) &&& 31)) &&& 255)) (M 22) (LM 6) (LM 7) (LM 8)] (f := (M 21)) rfl rfl rfl rfl rfl dX10_feed_98 ?_
  refine im_aload_n X 0 dX10_feed_99 rfl rfl ?_
  refine im_dup X rfl dX10_feed_100 ?_
  refine im_cget X 0 0 (v := .int (M 0 29)) fl_X10_309 rfl rfl rfl dX10_feed_101 ?_
  refine im_iconst X 1 dX10_feed_104 (by decide) ?_
  refine im_iadd X dX10_feed_105 ?_
  refine im_cput X 0 0 (wx_Model ct aM (M 0 0) (M 0 4) (M 0 6) (M 0 7) (M 0 8) (M 0 9) (M 0 24) (M 0 27) ((M 0 29) + 1) (M 0 31) (M 0 32) (M 0 33) (M 0 34) (M 0 35) (M 1) (M 2) (M 3) (M 4) (M 5) (M 9) (M 10) (M 11) (M 12) (M 13) (M 14) (M 15) (M 16) (M 17) (M 18) (M 19) (M 20) (upd (M 21) ((M 0 29)).toNatClampNeg ((s0 >>> ((24 - (8 * (x6 - x6 / 4 * 4))) &&& 31)) &&& 255)) (M 22) (LM 6) (LM 7) (LM 8)) [wx_Model ct aM (M 0 0) (M 0 4) (M 0 6) (M 0 7) (M 0 8) (M 0 9) (M 0 24) (M 0 27) ((M 0 29) + 1) (M 0 31) (M 0 32) (M 0 33) (M 0 34) (M 0 35) (M 1) (M 2) (M 3) (M 4) (M 5) (M 9) (M 10) (M 11) (M 12) (M 13) (M 14) (M 15) (M 16) (M 17) (M 18) (M 19) (M 20) (upd (M 21) ((M 0 29)).toNatClampNeg ((s0 >>> ((24 - (8 * (x6 - x6 / 4 * 4))) &&& 31)) &&& 255)) (M 22) (LM 6) (LM 7) (LM 8)] fl_X10_309 rfl rfl rfl rfl (Nat.le_of_ble_eq_true rfl) rfl rfl dX10_feed_106 ?_
  refine im_iinc X 6 1 [1, 2, 3, 4, 5, 6, 0, 7] [(0, .ref (aM 0)), (1, .int x1), (2, .int x2), (3, .int x3), (4, .int x4), (5, .int x5), (6, .int (x6 + 1)), (7, .int s0)] dX10_feed_109 (by decide) rfl (by decide) rfl ?_
  refine im_goto (tgt := 18) X dX10_feed_112 rfl ?_
  refine im_lv [0, 1, 2, 3, 4, 5, 6] [(0, .ref (aM 0)), (1, .int x1), (2, .int x2), (3, .int x3), (4, .int x4), (5, .int x5), (6, .int (x6 + 1))] rfl ?_
  exact hk18 (mr (mr M 21 (upd (M 21) ((M 0 29)).toNatClampNeg ((s0 >>> ((24 - (8 * (x6 - x6 / 4 * 4))) &&& 31)) &&& 255))) 0 (fu (M 0) 29 ((M 0 29) + 1))) (x6 + 1)
noncomputable def f_X10_feed_18 (F : Nat) (LM : MemL) (x1 : Int32) (x2 : Int32) (x3 : Int32) (x4 : Int32) (x5 : Int32) (k115 : Mem → Option (Int32 × Mem)) : Nat → Mem → Int32 → Option (Int32 × Mem)
  | 0, _, _ => none
  | n + 1, M, x6 =>
  (if 20 ≤ x6 then k115 M else (if 4 ≤ x6 then (if 8 ≤ x6 then (if 12 ≤ x6 then (if 16 ≤ x6 then f_X10_feed_71 F M LM x1 x2 x3 x4 x5 x6 x5 (f_X10_feed_18 F LM x1 x2 x3 x4 x5 k115 n) else f_X10_feed_71 F M LM x1 x2 x3 x4 x5 x6 x4 (f_X10_feed_18 F LM x1 x2 x3 x4 x5 k115 n)) else f_X10_feed_71 F M LM x1 x2 x3 x4 x5 x6 x3 (f_X10_feed_18 F LM x1 x2 x3 x4 x5 k115 n)) else f_X10_feed_71 F M LM x1 x2 x3 x4 x5 x6 x2 (f_X10_feed_18 F LM x1 x2 x3 x4 x5 k115 n)) else f_X10_feed_71 F M LM x1 x2 x3 x4 x5 x6 x1 (f_X10_feed_18 F LM x1 x2 x3 x4 x5 k115 n)))
set_option maxRecDepth 100000 in
set_option maxHeartbeats 4000000 in
theorem i_X10_feed_18 {p : Program} {l : Launch} {e : Env} {s : State} {m : MethodId} {args : Array Value} {below : List Frame} {meth : Method} {c : Code} {D : va_G} {ct : im_ct} {A : Nat → Prop} (X : im_X p (im_rm 0) s m args meth c D ct A RX10 cX10_feed 8 (some .int)) (F : Nat) (aM : Nat → Nat) (LM : MemL) (x1 : Int32) (x2 : Int32) (x3 : Int32) (x4 : Int32) (x5 : Int32) (k115 : Mem → Option (Int32 × Mem)) (hk115 : ∀ (M : Mem), Im p l e (im_rm 0) s m args below meth c D A 8 (QI D A (fun z : Int32 × Mem => z.1) (fun z : Int32 × Mem => (cat [w_Model ct aM z.2 LM]))) 115 [(0, .ref (aM 0))] [] (cat [w_Model ct aM M LM]) (k115 M)) : ∀ (n : Nat) (M : Mem) (x6 : Int32), Im p l e (im_rm 0) s m args below meth c D A 8 (QI D A (fun z : Int32 × Mem => z.1) (fun z : Int32 × Mem => (cat [w_Model ct aM z.2 LM]))) 18 [(0, .ref (aM 0)), (1, .int x1), (2, .int x2), (3, .int x3), (4, .int x4), (5, .int x5), (6, .int x6)] [] (cat [w_Model ct aM M LM]) (f_X10_feed_18 F LM x1 x2 x3 x4 x5 k115 n M x6) := by
  intro n
  induction n with
  | zero => intros; exact im_none
  | succ n ih =>
    intro M x6
    unfold f_X10_feed_18
    refine im_iload X 6 dX10_feed_18 rfl ?_
    refine im_bipush X 20 dX10_feed_20 (by decide) ?_
    refine im_icmp_ge (tgt := 115) X dX10_feed_22 rfl ?_ ?_
    · refine im_lv [0] [(0, .ref (aM 0))] rfl ?_
      exact hk115 M
    · refine im_iload X 6 dX10_feed_25 rfl ?_
      refine im_iconst X 4 dX10_feed_27 (by decide) ?_
      refine im_icmp_ge (tgt := 35) X dX10_feed_28 rfl ?_ ?_
      · refine im_iload X 6 dX10_feed_35 rfl ?_
        refine im_bipush X 8 dX10_feed_37 (by decide) ?_
        refine im_icmp_ge (tgt := 46) X dX10_feed_39 rfl ?_ ?_
        · refine im_iload X 6 dX10_feed_46 rfl ?_
          refine im_bipush X 12 dX10_feed_48 (by decide) ?_
          refine im_icmp_ge (tgt := 57) X dX10_feed_50 rfl ?_ ?_
          · refine im_iload X 6 dX10_feed_57 rfl ?_
            refine im_bipush X 16 dX10_feed_59 (by decide) ?_
            refine im_icmp_ge (tgt := 69) X dX10_feed_61 rfl ?_ ?_
            · refine im_iload X 5 dX10_feed_69 rfl ?_
              exact i_X10_feed_71 X F aM M LM x1 x2 x3 x4 x5 x6 x5 _ ih
            · refine im_iload X 4 dX10_feed_64 rfl ?_
              refine im_goto (tgt := 71) X dX10_feed_66 rfl ?_
              exact i_X10_feed_71 X F aM M LM x1 x2 x3 x4 x5 x6 x4 _ ih
          · refine im_iload_n X 3 dX10_feed_53 rfl rfl ?_
            refine im_goto (tgt := 71) X dX10_feed_54 rfl ?_
            exact i_X10_feed_71 X F aM M LM x1 x2 x3 x4 x5 x6 x3 _ ih
        · refine im_iload_n X 2 dX10_feed_42 rfl rfl ?_
          refine im_goto (tgt := 71) X dX10_feed_43 rfl ?_
          exact i_X10_feed_71 X F aM M LM x1 x2 x3 x4 x5 x6 x2 _ ih
      · refine im_iload_n X 1 dX10_feed_31 rfl rfl ?_
        refine im_goto (tgt := 71) X dX10_feed_32 rfl ?_
        exact i_X10_feed_71 X F aM M LM x1 x2 x3 x4 x5 x6 x1 _ ih
noncomputable def f_X10_feed (F : Nat) (M : Mem) (LM : MemL) (x1 : Int32) (x2 : Int32) (x3 : Int32) (x4 : Int32) (x5 : Int32) : Option (Int32 × Mem) :=
  (if ((M 0 29) + 20) ≤ 400 then f_X10_feed_18 F LM x1 x2 x3 x4 x5 (fun M_115 => (some ((M_115 0 29), M_115))) F M 0 else (some ((-1), M)))
set_option maxRecDepth 100000 in
set_option maxHeartbeats 4000000 in
theorem i_X10_feed {p : Program} {l : Launch} {e : Env} {s : State} {m : MethodId} {args : Array Value} {below : List Frame} {meth : Method} {c : Code} {D : va_G} {ct : im_ct} {A : Nat → Prop} (X : im_X p (im_rm 0) s m args meth c D ct A RX10 cX10_feed 8 (some .int)) (F : Nat) (aM : Nat → Nat) (M : Mem) (LM : MemL) (x1 : Int32) (x2 : Int32) (x3 : Int32) (x4 : Int32) (x5 : Int32) : Im p l e (im_rm 0) s m args below meth c D A 8 (QI D A (fun z : Int32 × Mem => z.1) (fun z : Int32 × Mem => (cat [w_Model ct aM z.2 LM]))) 0 [(0, .ref (aM 0)), (1, .int x1), (2, .int x2), (3, .int x3), (4, .int x4), (5, .int x5)] [] (cat [w_Model ct aM M LM]) (f_X10_feed F M LM x1 x2 x3 x4 x5) := by
  unfold f_X10_feed
  refine im_aload_n X 0 dX10_feed_0 rfl rfl ?_
  refine im_cget X 0 0 (v := .int (M 0 29)) fl_X10_309 rfl rfl rfl dX10_feed_1 ?_
  refine im_bipush X 20 dX10_feed_4 (by decide) ?_
  refine im_iadd X dX10_feed_6 ?_
  refine im_sipush X 400 dX10_feed_7 (by decide) ?_
  refine im_icmp_le (tgt := 15) X dX10_feed_10 rfl ?_ ?_
  · refine im_iconst X 0 dX10_feed_15 (by decide) ?_
    refine im_istore X [1, 2, 3, 4, 5, 6, 0] [(0, .ref (aM 0)), (1, .int x1), (2, .int x2), (3, .int x3), (4, .int x4), (5, .int x5), (6, .int 0)] dX10_feed_16 (by decide) rfl ?_
    refine i_X10_feed_18 X F aM LM x1 x2 x3 x4 x5 _ (fun M_115 => ?_) F M 0
    refine im_aload_n X 0 dX10_feed_115 rfl rfl ?_
    refine im_cget X 0 0 (v := .int (M_115 0 29)) fl_X10_309 rfl rfl rfl dX10_feed_116 ?_
    exact im_ireturn X ((M_115 0 29), M_115) rfl rfl dX10_feed_119
  · refine im_iconst X (-1) dX10_feed_13 (by decide) ?_
    exact im_ireturn X ((-1), M) rfl rfl dX10_feed_14
theorem c_X10_feed (l : Launch) (D : va_G) (ct : im_ct) (F : Nat) (aM : Nat → Nat) (M : Mem) (LM : MemL) (x1 : Int32) (x2 : Int32) (x3 : Int32) (x4 : Int32) (x5 : Int32) : CMi l D ct yX10_feed cX10_feed 8 (some .int) 0 [.ref (aM 0), .int x1, .int x2, .int x3, .int x4, .int x5] (cat [w_Model ct aM M LM]) (f_X10_feed F M LM x1 x2 x3 x4 x5) (fun z : Int32 × Mem => z.1) (fun z : Int32 × Mem => (cat [w_Model ct aM z.2 LM])) :=
  im_met (Qb := fun A => QI D A (fun z : Int32 × Mem => z.1) (fun z : Int32 × Mem => (cat [w_Model ct aM z.2 LM]))) (by decide +kernel) (Nat.le_of_ble_eq_true rfl) (fun p e s m args below meth c A X => i_X10_feed X F aM M LM x1 x2 x3 x4 x5)

noncomputable def f_X10_back (F : Nat) (M : Mem) (LM : MemL) (x1 : Int32) : Option (Int32 × Mem) :=
  (f_X10_in F (x1).toInt64 0 ((M 0 29)).toInt64).bind (fun z8 => (if z8 = 0 then (some ((-1), M)) else (some (((M 0 29) - x1), (mr M 0 (fu (M 0) 29 ((M 0 29) - x1)))))))
set_option maxRecDepth 100000 in
set_option maxHeartbeats 4000000 in
theorem i_X10_back {p : Program} {l : Launch} {e : Env} {s : State} {m : MethodId} {args : Array Value} {below : List Frame} {meth : Method} {c : Code} {D : va_G} {ct : im_ct} {A : Nat → Prop} (X : im_X p (im_rm 1) s m args meth c D ct A RX10 cX10_back 2 (some .int)) (F : Nat) (aM : Nat → Nat) (M : Mem) (LM : MemL) (x1 : Int32) : Im p l e (im_rm 1) s m args below meth c D A 2 (QI D A (fun z : Int32 × Mem => z.1) (fun z : Int32 × Mem => (cat [w_Model ct aM z.2 LM]))) 0 [(0, .ref (aM 0)), (1, .int x1)] [] (cat [w_Model ct aM M LM]) (f_X10_back F M LM x1) := by
  unfold f_X10_back
  refine im_iload_n X 1 dX10_back_0 rfl rfl ?_
  refine im_i2l X dX10_back_1 ?_
  refine im_lconst X 0 dX10_back_2 (by decide) ?_
  refine im_aload_n X 0 dX10_back_3 rfl rfl ?_
  refine im_cget X 0 0 (v := .int (M 0 29)) fl_X10_309 rfl rfl rfl dX10_back_4 ?_
  refine im_i2l X dX10_back_7 ?_
  refine im_cciS X [.long (x1).toInt64, .long 0, .long ((M 0 29)).toInt64] [] [w_Model ct aM M LM] [] [] (fun z8 => []) cl_X10_86 (c_X10_in l D ct F (x1).toInt64 0 ((M 0 29)).toInt64) rfl (by decide) (fun _ => rfl) rfl ⟨by decide, by decide⟩ (Nat.le_of_ble_eq_true rfl) rfl dX10_back_8 (fun z8 => ?_)
  refine im_ws (cat [w_Model ct aM M LM]) rfl ?_
  refine im_if_ne (tgt := 16) X dX10_back_11 rfl ?_ ?_
  · refine im_aload_n X 0 dX10_back_16 rfl rfl ?_
    refine im_dup X rfl dX10_back_17 ?_
    refine im_cget X 0 0 (v := .int (M 0 29)) fl_X10_309 rfl rfl rfl dX10_back_18 ?_
    refine im_iload_n X 1 dX10_back_21 rfl rfl ?_
    refine im_isub X dX10_back_22 ?_
    refine im_cput X 0 0 (wx_Model ct aM (M 0 0) (M 0 4) (M 0 6) (M 0 7) (M 0 8) (M 0 9) (M 0 24) (M 0 27) ((M 0 29) - x1) (M 0 31) (M 0 32) (M 0 33) (M 0 34) (M 0 35) (M 1) (M 2) (M 3) (M 4) (M 5) (M 9) (M 10) (M 11) (M 12) (M 13) (M 14) (M 15) (M 16) (M 17) (M 18) (M 19) (M 20) (M 21) (M 22) (LM 6) (LM 7) (LM 8)) [wx_Model ct aM (M 0 0) (M 0 4) (M 0 6) (M 0 7) (M 0 8) (M 0 9) (M 0 24) (M 0 27) ((M 0 29) - x1) (M 0 31) (M 0 32) (M 0 33) (M 0 34) (M 0 35) (M 1) (M 2) (M 3) (M 4) (M 5) (M 9) (M 10) (M 11) (M 12) (M 13) (M 14) (M 15) (M 16) (M 17) (M 18) (M 19) (M 20) (M 21) (M 22) (LM 6) (LM 7) (LM 8)] fl_X10_309 rfl rfl rfl rfl (Nat.le_of_ble_eq_true rfl) rfl rfl dX10_back_23 ?_
    refine im_aload_n X 0 dX10_back_26 rfl rfl ?_
    refine im_cget X 0 0 (v := .int ((M 0 29) - x1)) fl_X10_309 rfl rfl rfl dX10_back_27 ?_
    exact im_ireturn X (((M 0 29) - x1), (mr M 0 (fu (M 0) 29 ((M 0 29) - x1)))) rfl rfl dX10_back_30
  · refine im_iconst X (-1) dX10_back_14 (by decide) ?_
    exact im_ireturn X ((-1), M) rfl rfl dX10_back_15
theorem c_X10_back (l : Launch) (D : va_G) (ct : im_ct) (F : Nat) (aM : Nat → Nat) (M : Mem) (LM : MemL) (x1 : Int32) : CMi l D ct yX10_back cX10_back 2 (some .int) 1 [.ref (aM 0), .int x1] (cat [w_Model ct aM M LM]) (f_X10_back F M LM x1) (fun z : Int32 × Mem => z.1) (fun z : Int32 × Mem => (cat [w_Model ct aM z.2 LM])) :=
  im_met (Qb := fun A => QI D A (fun z : Int32 × Mem => z.1) (fun z : Int32 × Mem => (cat [w_Model ct aM z.2 LM]))) (by decide +kernel) (Nat.le_of_ble_eq_true rfl) (fun p e s m args below meth c A X => i_X10_back X F aM M LM x1)

