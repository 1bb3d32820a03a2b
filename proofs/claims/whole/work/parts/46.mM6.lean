noncomputable def f_X10_here (F : Nat) (M : Mem) (LM : MemL) : Option (Int32) :=
  (if (M 0 29) ≤ (M 0 31) then (some (-1)) else ck (M 0 31) 400 ((some ((M 21) ((M 0 31)).toNatClampNeg))))
set_option maxRecDepth 100000 in
set_option maxHeartbeats 4000000 in
theorem i_X10_here {p : Program} {l : Launch} {e : Env} {s : State} {m : MethodId} {args : Array Value} {below : List Frame} {meth : Method} {c : Code} {D : va_G} {ct : im_ct} {A : Nat → Prop} (X : im_X p (im_rm 0) s m args meth c D ct A RX10 cX10_here 1 (some .int)) (F : Nat) (aM : Nat → Nat) (M : Mem) (LM : MemL) : Im p l e (im_rm 0) s m args below meth c D A 1 (QI D A (fun z : Int32 => z) (fun z : Int32 => (cat [w_Model ct aM M LM]))) 0 [(0, .ref (aM 0))] [] (cat [w_Model ct aM M LM]) (f_X10_here F M LM) := by
  unfold f_X10_here
  refine im_aload_n X 0 dX10_here_0 rfl rfl ?_
  refine im_cget X 0 0 (v := .int (M 0 31)) fl_X10_319 rfl rfl rfl dX10_here_1 ?_
  refine im_aload_n X 0 dX10_here_4 rfl rfl ?_
  refine im_cget X 0 0 (v := .int (M 0 29)) fl_X10_309 rfl rfl rfl dX10_here_5 ?_
  refine im_icmp_ge (tgt := 23) X dX10_here_8 rfl ?_ ?_
  · refine im_iconst X (-1) dX10_here_23 (by decide) ?_
    exact im_ireturn X (-1) rfl rfl dX10_here_24
  · refine im_aload_n X 0 dX10_here_11 rfl rfl ?_
    refine im_cget X 0 0 (v := .ref (aM 21)) fl_X10_76 rfl rfl rfl dX10_here_12 ?_
    refine im_aload_n X 0 dX10_here_15 rfl rfl ?_
    refine im_cget X 0 0 (v := .int (M 0 31)) fl_X10_319 rfl rfl rfl dX10_here_16 ?_
    refine im_ciald X 0 21 0 (f := (M 21)) rfl rfl rfl dX10_here_19 ?_
    refine im_goto (tgt := 24) X dX10_here_20 rfl ?_
    exact im_ireturn X ((M 21) ((M 0 31)).toNatClampNeg) rfl rfl dX10_here_24
theorem c_X10_here (l : Launch) (D : va_G) (ct : im_ct) (F : Nat) (aM : Nat → Nat) (M : Mem) (LM : MemL) : CMi l D ct yX10_here cX10_here 1 (some .int) 0 [.ref (aM 0)] (cat [w_Model ct aM M LM]) (f_X10_here F M LM) (fun z : Int32 => z) (fun z : Int32 => (cat [w_Model ct aM M LM])) :=
  im_met (Qb := fun A => QI D A (fun z : Int32 => z) (fun z : Int32 => (cat [w_Model ct aM M LM]))) (by decide +kernel) (Nat.le_of_ble_eq_true rfl) (fun p e s m args below meth c A X => i_X10_here X F aM M LM)

noncomputable def f_X10_goesOn_28 (F : Nat) (M : Mem) (LM : MemL) (x1 : Int32) (x2 : Int32) (k10 : Mem → Option (Mem)) : Option (Mem) :=
  k10 (mr M 0 (fu (M 0) 31 ((M 0 31) + 1)))
set_option maxRecDepth 100000 in
set_option maxHeartbeats 4000000 in
theorem i_X10_goesOn_28 {p : Program} {l : Launch} {e : Env} {s : State} {m : MethodId} {args : Array Value} {below : List Frame} {meth : Method} {c : Code} {D : va_G} {ct : im_ct} {A : Nat → Prop} (X : im_X p (im_rm 1) s m args meth c D ct A RX10 cX10_goesOn 5 none) (F : Nat) (aM : Nat → Nat) (M : Mem) (LM : MemL) (x1 : Int32) (x2 : Int32) (k10 : Mem → Option (Mem)) (hk10 : ∀ (M : Mem), Im p l e (im_rm 1) s m args below meth c D A 5 (QV D A (fun z : Mem => (cat [w_Model ct aM z LM]))) 10 [(0, .ref (aM 0)), (1, .int x1), (2, .int x2)] [] (cat [w_Model ct aM M LM]) (k10 M)) : Im p l e (im_rm 1) s m args below meth c D A 5 (QV D A (fun z : Mem => (cat [w_Model ct aM z LM]))) 28 [(0, .ref (aM 0)), (1, .int x1), (2, .int x2)] [] (cat [w_Model ct aM M LM]) (f_X10_goesOn_28 F M LM x1 x2 k10) := by
  unfold f_X10_goesOn_28
  refine im_aload_n X 0 dX10_goesOn_28 rfl rfl ?_
  refine im_dup X rfl dX10_goesOn_29 ?_
  refine im_cget X 0 0 (v := .int (M 0 31)) fl_X10_319 rfl rfl rfl dX10_goesOn_30 ?_
  refine im_iconst X 1 dX10_goesOn_33 (by decide) ?_
  refine im_iadd X dX10_goesOn_34 ?_
  refine im_cput X 0 0 (wx_Model ct aM (M 0 0) (M 0 4) (M 0 6) (M 0 7) (M 0 8) (M 0 9) (M 0 24) (M 0 27) (M 0 29) ((M 0 31) + 1) (M 0 32) (M 0 33) (M 0 34) (M 0 35) (M 1) (M 2) (M 3) (M 4) (M 5) (M 9) (M 10) (M 11) (M 12) (M 13) (M 14) (M 15) (M 16) (M 17) (M 18) (M 19) (M 20) (M 21) (M 22) (LM 6) (LM 7) (LM 8)) [wx_Model ct aM (M 0 0) (M 0 4) (M 0 6) (M 0 7) (M 0 8) (M 0 9) (M 0 24) (M 0 27) (M 0 29) ((M 0 31) + 1) (M 0 32) (M 0 33) (M 0 34) (M 0 35) (M 1) (M 2) (M 3) (M 4) (M 5) (M 9) (M 10) (M 11) (M 12) (M 13) (M 14) (M 15) (M 16) (M 17) (M 18) (M 19) (M 20) (M 21) (M 22) (LM 6) (LM 7) (LM 8)] fl_X10_319 rfl rfl rfl rfl (Nat.le_of_ble_eq_true rfl) rfl rfl dX10_goesOn_35 ?_
  refine im_goto (tgt := 10) X dX10_goesOn_38 rfl ?_
  exact hk10 (mr M 0 (fu (M 0) 31 ((M 0 31) + 1)))
noncomputable def f_X10_goesOn_10 (F : Nat) (LM : MemL) (x1 : Int32) (x2 : Int32) (k41 : Mem → Option (Mem)) : Nat → Mem → Option (Mem)
  | 0, _ => none
  | n + 1, M =>
  (f_X10_here F M LM).bind (fun z11 => (if z11 = 32 then f_X10_goesOn_28 F M LM x1 x2 (f_X10_goesOn_10 F LM x1 x2 k41 n) else (f_X10_here F M LM).bind (fun z20 => (if z20 = 10 then f_X10_goesOn_28 F M LM x1 x2 (f_X10_goesOn_10 F LM x1 x2 k41 n) else k41 M))))
set_option maxRecDepth 100000 in
set_option maxHeartbeats 4000000 in
theorem i_X10_goesOn_10 {p : Program} {l : Launch} {e : Env} {s : State} {m : MethodId} {args : Array Value} {below : List Frame} {meth : Method} {c : Code} {D : va_G} {ct : im_ct} {A : Nat → Prop} (X : im_X p (im_rm 1) s m args meth c D ct A RX10 cX10_goesOn 5 none) (F : Nat) (aM : Nat → Nat) (LM : MemL) (x1 : Int32) (x2 : Int32) (k41 : Mem → Option (Mem)) (hk41 : ∀ (M : Mem), Im p l e (im_rm 1) s m args below meth c D A 5 (QV D A (fun z : Mem => (cat [w_Model ct aM z LM]))) 41 [(0, .ref (aM 0)), (1, .int x1), (2, .int x2)] [] (cat [w_Model ct aM M LM]) (k41 M)) : ∀ (n : Nat) (M : Mem), Im p l e (im_rm 1) s m args below meth c D A 5 (QV D A (fun z : Mem => (cat [w_Model ct aM z LM]))) 10 [(0, .ref (aM 0)), (1, .int x1), (2, .int x2)] [] (cat [w_Model ct aM M LM]) (f_X10_goesOn_10 F LM x1 x2 k41 n M) := by
  intro n
  induction n with
  | zero => intros; exact im_none
  | succ n ih =>
    intro M
    unfold f_X10_goesOn_10
    refine im_aload_n X 0 dX10_goesOn_10 rfl rfl ?_
    refine im_cciV X [] [] [w_Model ct aM M LM] [w_Model ct aM M LM] [0] (fun z11 => [w_Model ct aM M LM]) 0 0 10 rfl rfl rfl cl_X10_325 (c_X10_here l D ct F aM M LM) rfl (by decide) (fun _ => lc rfl (rfl)) rfl ⟨by decide, by decide⟩ (Nat.le_of_ble_eq_true rfl) rfl dX10_goesOn_11 (fun z11 => ?_)
    refine im_ws (cat [w_Model ct aM M LM]) rfl ?_
    refine im_bipush X 32 dX10_goesOn_14 (by decide) ?_
    refine im_icmp_eq (tgt := 28) X dX10_goesOn_16 rfl ?_ ?_
    · exact i_X10_goesOn_28 X F aM M LM x1 x2 _ ih
    · refine im_aload_n X 0 dX10_goesOn_19 rfl rfl ?_
      refine im_cciV X [] [] [w_Model ct aM M LM] [w_Model ct aM M LM] [0] (fun z20 => [w_Model ct aM M LM]) 0 0 10 rfl rfl rfl cl_X10_325 (c_X10_here l D ct F aM M LM) rfl (by decide) (fun _ => lc rfl (rfl)) rfl ⟨by decide, by decide⟩ (Nat.le_of_ble_eq_true rfl) rfl dX10_goesOn_20 (fun z20 => ?_)
      refine im_ws (cat [w_Model ct aM M LM]) rfl ?_
      refine im_bipush X 10 dX10_goesOn_23 (by decide) ?_
      refine im_icmp_ne (tgt := 41) X dX10_goesOn_25 rfl ?_ ?_
      · exact hk41 M
      · exact i_X10_goesOn_28 X F aM M LM x1 x2 _ ih
noncomputable def f_X10_goesOn_223 (F : Nat) (M : Mem) (LM : MemL) (x3 : Int32) (k174 : Mem → Option (Mem)) : Option (Mem) :=
  k174 (mr M 0 (fu (M 0) 31 ((M 0 31) + 1)))
set_option maxRecDepth 100000 in
set_option maxHeartbeats 4000000 in
theorem i_X10_goesOn_223 {p : Program} {l : Launch} {e : Env} {s : State} {m : MethodId} {args : Array Value} {below : List Frame} {meth : Method} {c : Code} {D : va_G} {ct : im_ct} {A : Nat → Prop} (X : im_X p (im_rm 1) s m args meth c D ct A RX10 cX10_goesOn 5 none) (F : Nat) (aM : Nat → Nat) (M : Mem) (LM : MemL) (x3 : Int32) (k174 : Mem → Option (Mem)) (hk174 : ∀ (M : Mem), Im p l e (im_rm 1) s m args below meth c D A 5 (QV D A (fun z : Mem => (cat [w_Model ct aM z LM]))) 174 [(0, .ref (aM 0)), (3, .int x3)] [] (cat [w_Model ct aM M LM]) (k174 M)) : Im p l e (im_rm 1) s m args below meth c D A 5 (QV D A (fun z : Mem => (cat [w_Model ct aM z LM]))) 223 [(0, .ref (aM 0)), (3, .int x3)] [] (cat [w_Model ct aM M LM]) (f_X10_goesOn_223 F M LM x3 k174) := by
  unfold f_X10_goesOn_223
  refine im_aload_n X 0 dX10_goesOn_223 rfl rfl ?_
  refine im_dup X rfl dX10_goesOn_224 ?_
  refine im_cget X 0 0 (v := .int (M 0 31)) fl_X10_319 rfl rfl rfl dX10_goesOn_225 ?_
  refine im_iconst X 1 dX10_goesOn_228 (by decide) ?_
  refine im_iadd X dX10_goesOn_229 ?_
  refine im_cput X 0 0 (wx_Model ct aM (M 0 0) (M 0 4) (M 0 6) (M 0 7) (M 0 8) (M 0 9) (M 0 24) (M 0 27) (M 0 29) ((M 0 31) + 1) (M 0 32) (M 0 33) (M 0 34) (M 0 35) (M 1) (M 2) (M 3) (M 4) (M 5) (M 9) (M 10) (M 11) (M 12) (M 13) (M 14) (M 15) (M 16) (M 17) (M 18) (M 19) (M 20) (M 21) (M 22) (LM 6) (LM 7) (LM 8)) [wx_Model ct aM (M 0 0) (M 0 4) (M 0 6) (M 0 7) (M 0 8) (M 0 9) (M 0 24) (M 0 27) (M 0 29) ((M 0 31) + 1) (M 0 32) (M 0 33) (M 0 34) (M 0 35) (M 1) (M 2) (M 3) (M 4) (M 5) (M 9) (M 10) (M 11) (M 12) (M 13) (M 14) (M 15) (M 16) (M 17) (M 18) (M 19) (M 20) (M 21) (M 22) (LM 6) (LM 7) (LM 8)] fl_X10_319 rfl rfl rfl rfl (Nat.le_of_ble_eq_true rfl) rfl rfl dX10_goesOn_230 ?_
  refine im_goto (tgt := 174) X dX10_goesOn_233 rfl ?_
  exact hk174 (mr M 0 (fu (M 0) 31 ((M 0 31) + 1)))
noncomputable def f_X10_goesOn_174 (F : Nat) (LM : MemL) (x3 : Int32) (k236 : Mem → Option (Mem)) : Nat → Mem → Option (Mem)
  | 0, _ => none
  | n + 1, M =>
  (f_X10_here F M LM).bind (fun z175 => (f_X10_in F (z175).toInt64 48 57).bind (fun z185 => (if z185 = 0 then k236 M else (if 2 ≤ ((M 0 31) - (M 0 33)) then f_X10_goesOn_223 F M LM x3 (f_X10_goesOn_174 F LM x3 k236 n) else (f_X10_here F M LM).bind (fun z213 => f_X10_goesOn_223 F (mr M 0 (fu (M 0) 34 (((10 * (M 0 34)) + z213) - 48))) LM x3 (f_X10_goesOn_174 F LM x3 k236 n))))))
set_option maxRecDepth 100000 in
set_option maxHeartbeats 4000000 in
theorem i_X10_goesOn_174 {p : Program} {l : Launch} {e : Env} {s : State} {m : MethodId} {args : Array Value} {below : List Frame} {meth : Method} {c : Code} {D : va_G} {ct : im_ct} {A : Nat → Prop} (X : im_X p (im_rm 1) s m args meth c D ct A RX10 cX10_goesOn 5 none) (F : Nat) (aM : Nat → Nat) (LM : MemL) (x3 : Int32) (k236 : Mem → Option (Mem)) (hk236 : ∀ (M : Mem), Im p l e (im_rm 1) s m args below meth c D A 5 (QV D A (fun z : Mem => (cat [w_Model ct aM z LM]))) 236 [(0, .ref (aM 0)), (3, .int x3)] [] (cat [w_Model ct aM M LM]) (k236 M)) : ∀ (n : Nat) (M : Mem), Im p l e (im_rm 1) s m args below meth c D A 5 (QV D A (fun z : Mem => (cat [w_Model ct aM z LM]))) 174 [(0, .ref (aM 0)), (3, .int x3)] [] (cat [w_Model ct aM M LM]) (f_X10_goesOn_174 F LM x3 k236 n M) := by
  intro n
  induction n with
  | zero => intros; exact im_none
  | succ n ih =>
    intro M
    unfold f_X10_goesOn_174
    refine im_aload_n X 0 dX10_goesOn_174 rfl rfl ?_
    refine im_cciV X [] [] [w_Model ct aM M LM] [w_Model ct aM M LM] [0] (fun z175 => [w_Model ct aM M LM]) 0 0 10 rfl rfl rfl cl_X10_325 (c_X10_here l D ct F aM M LM) rfl (by decide) (fun _ => lc rfl (rfl)) rfl ⟨by decide, by decide⟩ (Nat.le_of_ble_eq_true rfl) rfl dX10_goesOn_175 (fun z175 => ?_)
    refine im_ws (cat [w_Model ct aM M LM]) rfl ?_
    refine im_i2l X dX10_goesOn_178 ?_
    refine im_ldc2 X kc_X10_335 dX10_goesOn_179 ?_
    refine im_ldc2 X kc_X10_337 dX10_goesOn_182 ?_
    refine im_cciS X [.long (z175).toInt64, .long 48, .long 57] [] [w_Model ct aM M LM] [] [] (fun z185 => []) cl_X10_86 (c_X10_in l D ct F (z175).toInt64 48 57) rfl (by decide) (fun _ => rfl) rfl ⟨by decide, by decide⟩ (Nat.le_of_ble_eq_true rfl) rfl dX10_goesOn_185 (fun z185 => ?_)
    refine im_ws (cat [w_Model ct aM M LM]) rfl ?_
    refine im_if_eq (tgt := 236) X dX10_goesOn_188 rfl ?_ ?_
    · exact hk236 M
    · refine im_aload_n X 0 dX10_goesOn_191 rfl rfl ?_
      refine im_cget X 0 0 (v := .int (M 0 31)) fl_X10_319 rfl rfl rfl dX10_goesOn_192 ?_
      refine im_aload_n X 0 dX10_goesOn_195 rfl rfl ?_
      refine im_cget X 0 0 (v := .int (M 0 33)) fl_X10_328 rfl rfl rfl dX10_goesOn_196 ?_
      refine im_isub X dX10_goesOn_199 ?_
      refine im_iconst X 2 dX10_goesOn_200 (by decide) ?_
      refine im_icmp_ge (tgt := 223) X dX10_goesOn_201 rfl ?_ ?_
      · exact i_X10_goesOn_223 X F aM M LM x3 _ ih
      · refine im_aload_n X 0 dX10_goesOn_204 rfl rfl ?_
        refine im_bipush X 10 dX10_goesOn_205 (by decide) ?_
        refine im_aload_n X 0 dX10_goesOn_207 rfl rfl ?_
        refine im_cget X 0 0 (v := .int (M 0 34)) fl_X10_339 rfl rfl rfl dX10_goesOn_208 ?_
        refine im_imul X dX10_goesOn_211 ?_
        refine im_aload_n X 0 dX10_goesOn_212 rfl rfl ?_
        refine im_cciV X [] [.int (10 * (M 0 34)), .ref (aM 0)] [w_Model ct aM M LM] [w_Model ct aM M LM] [0] (fun z213 => [w_Model ct aM M LM]) 0 0 10 rfl rfl rfl cl_X10_325 (c_X10_here l D ct F aM M LM) rfl (by decide) (fun _ => lc rfl (rfl)) rfl ⟨by decide, by decide⟩ (Nat.le_of_ble_eq_true rfl) rfl dX10_goesOn_213 (fun z213 => ?_)
        refine im_ws (cat [w_Model ct aM M LM]) rfl ?_
        refine im_iadd X dX10_goesOn_216 ?_
        refine im_bipush X 48 dX10_goesOn_217 (by decide) ?_
        refine im_isub X dX10_goesOn_219 ?_
        refine im_cput X 0 0 (wx_Model ct aM (M 0 0) (M 0 4) (M 0 6) (M 0 7) (M 0 8) (M 0 9) (M 0 24) (M 0 27) (M 0 29) (M 0 31) (M 0 32) (M 0 33) (((10 * (M 0 34)) + z213) - 48) (M 0 35) (M 1) (M 2) (M 3) (M 4) (M 5) (M 9) (M 10) (M 11) (M 12) (M 13) (M 14) (M 15) (M 16) (M 17) (M 18) (M 19) (M 20) (M 21) (M 22) (LM 6) (LM 7) (LM 8)) [wx_Model ct aM (M 0 0) (M 0 4) (M 0 6) (M 0 7) (M 0 8) (M 0 9) (M 0 24) (M 0 27) (M 0 29) (M 0 31) (M 0 32) (M 0 33) (((10 * (M 0 34)) + z213) - 48) (M 0 35) (M 1) (M 2) (M 3) (M 4) (M 5) (M 9) (M 10) (M 11) (M 12) (M 13) (M 14) (M 15) (M 16) (M 17) (M 18) (M 19) (M 20) (M 21) (M 22) (LM 6) (LM 7) (LM 8)] fl_X10_339 rfl rfl rfl rfl (Nat.le_of_ble_eq_true rfl) rfl rfl dX10_goesOn_220 ?_
        exact i_X10_goesOn_223 X F aM (mr M 0 (fu (M 0) 34 (((10 * (M 0 34)) + z213) - 48))) LM x3 _ ih
noncomputable def f_X10_goesOn_108 (F : Nat) (LM : MemL) (x3 : Int32) (k138 : Mem → Option (Mem)) : Nat → Mem → Option (Mem)
  | 0, _ => none
  | n + 1, M =>
  (f_X10_here F M LM).bind (fun z109 => (f_X10_in F (z109).toInt64 97 122).bind (fun z119 => (if z119 = 0 then k138 M else f_X10_goesOn_108 F LM x3 k138 n (mr M 0 (fu (M 0) 31 ((M 0 31) + 1))))))
set_option maxRecDepth 100000 in
set_option maxHeartbeats 4000000 in
theorem i_X10_goesOn_108 {p : Program} {l : Launch} {e : Env} {s : State} {m : MethodId} {args : Array Value} {below : List Frame} {meth : Method} {c : Code} {D : va_G} {ct : im_ct} {A : Nat → Prop} (X : im_X p (im_rm 1) s m args meth c D ct A RX10 cX10_goesOn 5 none) (F : Nat) (aM : Nat → Nat) (LM : MemL) (x3 : Int32) (k138 : Mem → Option (Mem)) (hk138 : ∀ (M : Mem), Im p l e (im_rm 1) s m args below meth c D A 5 (QV D A (fun z : Mem => (cat [w_Model ct aM z LM]))) 138 [(0, .ref (aM 0)), (3, .int x3)] [] (cat [w_Model ct aM M LM]) (k138 M)) : ∀ (n : Nat) (M : Mem), Im p l e (im_rm 1) s m args below meth c D A 5 (QV D A (fun z : Mem => (cat [w_Model ct aM z LM]))) 108 [(0, .ref (aM 0)), (3, .int x3)] [] (cat [w_Model ct aM M LM]) (f_X10_goesOn_108 F LM x3 k138 n M) := by
  intro n
  induction n with
  | zero => intros; exact im_none
  | succ n ih =>
    intro M
    unfold f_X10_goesOn_108
    refine im_aload_n X 0 dX10_goesOn_108 rfl rfl ?_
    refine im_cciV X [] [] [w_Model ct aM M LM] [w_Model ct aM M LM] [0] (fun z109 => [w_Model ct aM M LM]) 0 0 10 rfl rfl rfl cl_X10_325 (c_X10_here l D ct F aM M LM) rfl (by decide) (fun _ => lc rfl (rfl)) rfl ⟨by decide, by decide⟩ (Nat.le_of_ble_eq_true rfl) rfl dX10_goesOn_109 (fun z109 => ?_)
    refine im_ws (cat [w_Model ct aM M LM]) rfl ?_
    refine im_i2l X dX10_goesOn_112 ?_
    refine im_ldc2 X kc_X10_331 dX10_goesOn_113 ?_
    refine im_ldc2 X kc_X10_333 dX10_goesOn_116 ?_
    refine im_cciS X [.long (z109).toInt64, .long 97, .long 122] [] [w_Model ct aM M LM] [] [] (fun z119 => []) cl_X10_86 (c_X10_in l D ct F (z109).toInt64 97 122) rfl (by decide) (fun _ => rfl) rfl ⟨by decide, by decide⟩ (Nat.le_of_ble_eq_true rfl) rfl dX10_goesOn_119 (fun z119 => ?_)
    refine im_ws (cat [w_Model ct aM M LM]) rfl ?_
    refine im_if_eq (tgt := 138) X dX10_goesOn_122 rfl ?_ ?_
    · exact hk138 M
    · refine im_aload_n X 0 dX10_goesOn_125 rfl rfl ?_
      refine im_dup X rfl dX10_goesOn_126 ?_
      refine im_cget X 0 0 (v := .int (M 0 31)) fl_X10_319 rfl rfl rfl dX10_goesOn_127 ?_
      refine im_iconst X 1 dX10_goesOn_130 (by decide) ?_
      refine im_iadd X dX10_goesOn_131 ?_
      refine im_cput X 0 0 (wx_Model ct aM (M 0 0) (M 0 4) (M 0 6) (M 0 7) (M 0 8) (M 0 9) (M 0 24) (M 0 27) (M 0 29) ((M 0 31) + 1) (M 0 32) (M 0 33) (M 0 34) (M 0 35) (M 1) (M 2) (M 3) (M 4) (M 5) (M 9) (M 10) (M 11) (M 12) (M 13) (M 14) (M 15) (M 16) (M 17) (M 18) (M 19) (M 20) (M 21) (M 22) (LM 6) (LM 7) (LM 8)) [wx_Model ct aM (M 0 0) (M 0 4) (M 0 6) (M 0 7) (M 0 8) (M 0 9) (M 0 24) (M 0 27) (M 0 29) ((M 0 31) + 1) (M 0 32) (M 0 33) (M 0 34) (M 0 35) (M 1) (M 2) (M 3) (M 4) (M 5) (M 9) (M 10) (M 11) (M 12) (M 13) (M 14) (M 15) (M 16) (M 17) (M 18) (M 19) (M 20) (M 21) (M 22) (LM 6) (LM 7) (LM 8)] fl_X10_319 rfl rfl rfl rfl (Nat.le_of_ble_eq_true rfl) rfl rfl dX10_goesOn_132 ?_
      refine im_goto (tgt := 108) X dX10_goesOn_135 rfl ?_
      exact ih (mr M 0 (fu (M 0) 31 ((M 0 31) + 1)))
noncomputable def f_X10_goesOn_72 (F : Nat) (M : Mem) (LM : MemL) (s0 : Int32) : Option (Mem) :=
  (f_X10_here F M LM).bind (fun z74 => (if z74 = (-1) then (some (mr M 0 (fu (M 0) 32 0))) else (f_X10_in F (z74).toInt64 97 122).bind (fun z102 => (if z102 = 0 then (f_X10_in F (z74).toInt64 48 57).bind (fun z163 => (if z163 = 0 then (if z74 = 59 then (some (mr M 0 (fu (fu (M 0) 31 ((M 0 31) + 1)) 32 3))) else (some (mr M 0 (fu (fu (M 0) 31 ((M 0 31) + 1)) 32 4)))) else f_X10_goesOn_174 F LM s0 (fun M_236 => (if s0 = 0 then (if ((M_236 0 31) - (M_236 0 33)) ≤ 2 then (some (mr M_236 0 (fu (M_236 0) 32 2))) else (some (mr M_236 0 (fu (M_236 0) 32 4)))) else (some (mr M_236 0 (fu (M_236 0) 32 4))))) F (mr M 0 (fu (M 0) 34 0)))) else f_X10_goesOn_108 F LM s0 (fun M_138 => (if s0 = 0 then (some (mr M_138 0 (fu (M_138 0) 32 1))) else (some (mr M_138 0 (fu (M_138 0) 32 4))))) F M))))
set_option maxRecDepth 100000 in
set_option maxHeartbeats 4000000 in
theorem i_X10_goesOn_72 {p : Program} {l : Launch} {e : Env} {s : State} {m : MethodId} {args : Array Value} {below : List Frame} {meth : Method} {c : Code} {D : va_G} {ct : im_ct} {A : Nat → Prop} (X : im_X p (im_rm 1) s m args meth c D ct A RX10 cX10_goesOn 5 none) (F : Nat) (aM : Nat → Nat) (M : Mem) (LM : MemL) (s0 : Int32) : Im p l e (im_rm 1) s m args below meth c D A 5 (QV D A (fun z : Mem => (cat [w_Model ct aM z LM]))) 72 [(0, .ref (aM 0))] [.int s0] (cat [w_Model ct aM M LM]) (f_X10_goesOn_72 F M LM s0) := by
  unfold f_X10_goesOn_72
  refine im_istore_n X [1, 0] [(0, .ref (aM 0)), (3, .int s0)] dX10_goesOn_72 rfl (by decide) rfl ?_
  refine im_aload_n X 0 dX10_goesOn_73 rfl rfl ?_
  refine im_cciV X [] [] [w_Model ct aM M LM] [w_Model ct aM M LM] [0] (fun z74 => [w_Model ct aM M LM]) 0 0 10 rfl rfl rfl cl_X10_325 (c_X10_here l D ct F aM M LM) rfl (by decide) (fun _ => lc rfl (rfl)) rfl ⟨by decide, by decide⟩ (Nat.le_of_ble_eq_true rfl) rfl dX10_goesOn_74 (fun z74 => ?_)
  refine im_ws (cat [w_Model ct aM M LM]) rfl ?_
  refine im_istore X [1, 2, 0] [(0, .ref (aM 0)), (3, .int s0), (4, .int z74)] dX10_goesOn_77 (by decide) rfl ?_
  refine im_iload X 2 dX10_goesOn_79 rfl ?_
  refine im_iconst X (-1) dX10_goesOn_81 (by decide) ?_
  refine im_icmp_ne (tgt := 93) X dX10_goesOn_82 rfl ?_ ?_
  · refine im_iload X 2 dX10_goesOn_93 rfl ?_
    refine im_i2l X dX10_goesOn_95 ?_
    refine im_ldc2 X kc_X10_331 dX10_goesOn_96 ?_
    refine im_ldc2 X kc_X10_333 dX10_goesOn_99 ?_
    refine im_cciS X [.long (z74).toInt64, .long 97, .long 122] [] [w_Model ct aM M LM] [] [] (fun z102 => []) cl_X10_86 (c_X10_in l D ct F (z74).toInt64 97 122) rfl (by decide) (fun _ => rfl) rfl ⟨by decide, by decide⟩ (Nat.le_of_ble_eq_true rfl) rfl dX10_goesOn_102 (fun z102 => ?_)
    refine im_ws (cat [w_Model ct aM M LM]) rfl ?_
    refine im_if_eq (tgt := 154) X dX10_goesOn_105 rfl ?_ ?_
    · refine im_iload X 2 dX10_goesOn_154 rfl ?_
      refine im_i2l X dX10_goesOn_156 ?_
      refine im_ldc2 X kc_X10_335 dX10_goesOn_157 ?_
      refine im_ldc2 X kc_X10_337 dX10_goesOn_160 ?_
      refine im_cciS X [.long (z74).toInt64, .long 48, .long 57] [] [w_Model ct aM M LM] [] [] (fun z163 => []) cl_X10_86 (c_X10_in l D ct F (z74).toInt64 48 57) rfl (by decide) (fun _ => rfl) rfl ⟨by decide, by decide⟩ (Nat.le_of_ble_eq_true rfl) rfl dX10_goesOn_163 (fun z163 => ?_)
      refine im_ws (cat [w_Model ct aM M LM]) rfl ?_
      refine im_if_eq (tgt := 265) X dX10_goesOn_166 rfl ?_ ?_
      · refine im_aload_n X 0 dX10_goesOn_265 rfl rfl ?_
        refine im_dup X rfl dX10_goesOn_266 ?_
        refine im_cget X 0 0 (v := .int (M 0 31)) fl_X10_319 rfl rfl rfl dX10_goesOn_267 ?_
        refine im_iconst X 1 dX10_goesOn_270 (by decide) ?_
        refine im_iadd X dX10_goesOn_271 ?_
        refine im_cput X 0 0 (wx_Model ct aM (M 0 0) (M 0 4) (M 0 6) (M 0 7) (M 0 8) (M 0 9) (M 0 24) (M 0 27) (M 0 29) ((M 0 31) + 1) (M 0 32) (M 0 33) (M 0 34) (M 0 35) (M 1) (M 2) (M 3) (M 4) (M 5) (M 9) (M 10) (M 11) (M 12) (M 13) (M 14) (M 15) (M 16) (M 17) (M 18) (M 19) (M 20) (M 21) (M 22) (LM 6) (LM 7) (LM 8)) [wx_Model ct aM (M 0 0) (M 0 4) (M 0 6) (M 0 7) (M 0 8) (M 0 9) (M 0 24) (M 0 27) (M 0 29) ((M 0 31) + 1) (M 0 32) (M 0 33) (M 0 34) (M 0 35) (M 1) (M 2) (M 3) (M 4) (M 5) (M 9) (M 10) (M 11) (M 12) (M 13) (M 14) (M 15) (M 16) (M 17) (M 18) (M 19) (M 20) (M 21) (M 22) (LM 6) (LM 7) (LM 8)] fl_X10_319 rfl rfl rfl rfl (Nat.le_of_ble_eq_true rfl) rfl rfl dX10_goesOn_272 ?_
        refine im_aload_n X 0 dX10_goesOn_275 rfl rfl ?_
        refine im_iload X 2 dX10_goesOn_276 rfl ?_
        refine im_bipush X 59 dX10_goesOn_278 (by decide) ?_
        refine im_icmp_ne (tgt := 287) X dX10_goesOn_280 rfl ?_ ?_
        · refine im_iconst X 4 dX10_goesOn_287 (by decide) ?_
          refine im_cput X 0 0 (wx_Model ct aM (M 0 0) (M 0 4) (M 0 6) (M 0 7) (M 0 8) (M 0 9) (M 0 24) (M 0 27) (M 0 29) ((M 0 31) + 1) 4 (M 0 33) (M 0 34) (M 0 35) (M 1) (M 2) (M 3) (M 4) (M 5) (M 9) (M 10) (M 11) (M 12) (M 13) (M 14) (M 15) (M 16) (M 17) (M 18) (M 19) (M 20) (M 21) (M 22) (LM 6) (LM 7) (LM 8)) [wx_Model ct aM (M 0 0) (M 0 4) (M 0 6) (M 0 7) (M 0 8) (M 0 9) (M 0 24) (M 0 27) (M 0 29) ((M 0 31) + 1) 4 (M 0 33) (M 0 34) (M 0 35) (M 1) (M 2) (M 3) (M 4) (M 5) (M 9) (M 10) (M 11) (M 12) (M 13) (M 14) (M 15) (M 16) (M 17) (M 18) (M 19) (M 20) (M 21) (M 22) (LM 6) (LM 7) (LM 8)] fl_X10_322 rfl rfl rfl rfl (Nat.le_of_ble_eq_true rfl) rfl rfl dX10_goesOn_288 ?_
          exact im_return X (mr M 0 (fu (fu (M 0) 31 ((M 0 31) + 1)) 32 4)) rfl dX10_goesOn_291
        · refine im_iconst X 3 dX10_goesOn_283 (by decide) ?_
          refine im_goto (tgt := 288) X dX10_goesOn_284 rfl ?_
          refine im_cput X 0 0 (wx_Model ct aM (M 0 0) (M 0 4) (M 0 6) (M 0 7) (M 0 8) (M 0 9) (M 0 24) (M 0 27) (M 0 29) ((M 0 31) + 1) 3 (M 0 33) (M 0 34) (M 0 35) (M 1) (M 2) (M 3) (M 4) (M 5) (M 9) (M 10) (M 11) (M 12) (M 13) (M 14) (M 15) (M 16) (M 17) (M 18) (M 19) (M 20) (M 21) (M 22) (LM 6) (LM 7) (LM 8)) [wx_Model ct aM (M 0 0) (M 0 4) (M 0 6) (M 0 7) (M 0 8) (M 0 9) (M 0 24) (M 0 27) (M 0 29) ((M 0 31) + 1) 3 (M 0 33) (M 0 34) (M 0 35) (M 1) (M 2) (M 3) (M 4) (M 5) (M 9) (M 10) (M 11) (M 12) (M 13) (M 14) (M 15) (M 16) (M 17) (M 18) (M 19) (M 20) (M 21) (M 22) (LM 6) (LM 7) (LM 8)] fl_X10_322 rfl rfl rfl rfl (Nat.le_of_ble_eq_true rfl) rfl rfl dX10_goesOn_288 ?_
          exact im_return X (mr M 0 (fu (fu (M 0) 31 ((M 0 31) + 1)) 32 3)) rfl dX10_goesOn_291
      · refine im_aload_n X 0 dX10_goesOn_169 rfl rfl ?_
        refine im_iconst X 0 dX10_goesOn_170 (by decide) ?_
        refine im_cput X 0 0 (wx_Model ct aM (M 0 0) (M 0 4) (M 0 6) (M 0 7) (M 0 8) (M 0 9) (M 0 24) (M 0 27) (M 0 29) (M 0 31) (M 0 32) (M 0 33) 0 (M 0 35) (M 1) (M 2) (M 3) (M 4) (M 5) (M 9) (M 10) (M 11) (M 12) (M 13) (M 14) (M 15) (M 16) (M 17) (M 18) (M 19) (M 20) (M 21) (M 22) (LM 6) (LM 7) (LM 8)) [wx_Model ct aM (M 0 0) (M 0 4) (M 0 6) (M 0 7) (M 0 8) (M 0 9) (M 0 24) (M 0 27) (M 0 29) (M 0 31) (M 0 32) (M 0 33) 0 (M 0 35) (M 1) (M 2) (M 3) (M 4) (M 5) (M 9) (M 10) (M 11) (M 12) (M 13) (M 14) (M 15) (M 16) (M 17) (M 18) (M 19) (M 20) (M 21) (M 22) (LM 6) (LM 7) (LM 8)] fl_X10_339 rfl rfl rfl rfl (Nat.le_of_ble_eq_true rfl) rfl rfl dX10_goesOn_171 ?_
        refine im_lv [0, 1] [(0, .ref (aM 0)), (3, .int s0)] rfl ?_
        refine i_X10_goesOn_174 X F aM LM s0 _ (fun M_236 => ?_) F (mr M 0 (fu (M 0) 34 0))
        refine im_aload_n X 0 dX10_goesOn_236 rfl rfl ?_
        refine im_iload_n X 1 dX10_goesOn_237 rfl rfl ?_
        refine im_if_ne (tgt := 254) X dX10_goesOn_238 rfl ?_ ?_
        · refine im_iconst X 4 dX10_goesOn_254 (by decide) ?_
          refine im_goto (tgt := 259) X dX10_goesOn_255 rfl ?_
          refine im_cput X 0 0 (wx_Model ct aM (M_236 0 0) (M_236 0 4) (M_236 0 6) (M_236 0 7) (M_236 0 8) (M_236 0 9) (M_236 0 24) (M_236 0 27) (M_236 0 29) (M_236 0 31) 4 (M_236 0 33) (M_236 0 34) (M_236 0 35) (M_236 1) (M_236 2) (M_236 3) (M_236 4) (M_236 5) (M_236 9) (M_236 10) (M_236 11) (M_236 12) (M_236 13) (M_236 14) (M_236 15) (M_236 16) (M_236 17) (M_236 18) (M_236 19) (M_236 20) (M_236 21) (M_236 22) (LM 6) (LM 7) (LM 8)) [wx_Model ct aM (M_236 0 0) (M_236 0 4) (M_236 0 6) (M_236 0 7) (M_236 0 8) (M_236 0 9) (M_236 0 24) (M_236 0 27) (M_236 0 29) (M_236 0 31) 4 (M_236 0 33) (M_236 0 34) (M_236 0 35) (M_236 1) (M_236 2) (M_236 3) (M_236 4) (M_236 5) (M_236 9) (M_236 10) (M_236 11) (M_236 12) (M_236 13) (M_236 14) (M_236 15) (M_236 16) (M_236 17) (M_236 18) (M_236 19) (M_236 20) (M_236 21) (M_236 22) (LM 6) (LM 7) (LM 8)] fl_X10_322 rfl rfl rfl rfl (Nat.le_of_ble_eq_true rfl) rfl rfl dX10_goesOn_259 ?_
          refine im_goto (tgt := 291) X dX10_goesOn_262 rfl ?_
          exact im_return X (mr M_236 0 (fu (M_236 0) 32 4)) rfl dX10_goesOn_291
        · refine im_aload_n X 0 dX10_goesOn_241 rfl rfl ?_
          refine im_cget X 0 0 (v := .int (M_236 0 31)) fl_X10_319 rfl rfl rfl dX10_goesOn_242 ?_
          refine im_aload_n X 0 dX10_goesOn_245 rfl rfl ?_
          refine im_cget X 0 0 (v := .int (M_236 0 33)) fl_X10_328 rfl rfl rfl dX10_goesOn_246 ?_
          refine im_isub X dX10_goesOn_249 ?_
          refine im_iconst X 2 dX10_goesOn_250 (by decide) ?_
          refine im_icmp_le (tgt := 258) X dX10_goesOn_251 rfl ?_ ?_
          · refine im_iconst X 2 dX10_goesOn_258 (by decide) ?_
            refine im_cput X 0 0 (wx_Model ct aM (M_236 0 0) (M_236 0 4) (M_236 0 6) (M_236 0 7) (M_236 0 8) (M_236 0 9) (M_236 0 24) (M_236 0 27) (M_236 0 29) (M_236 0 31) 2 (M_236 0 33) (M_236 0 34) (M_236 0 35) (M_236 1) (M_236 2) (M_236 3) (M_236 4) (M_236 5) (M_236 9) (M_236 10) (M_236 11) (M_236 12) (M_236 13) (M_236 14) (M_236 15) (M_236 16) (M_236 17) (M_236 18) (M_236 19) (M_236 20) (M_236 21) (M_236 22) (LM 6) (LM 7) (LM 8)) [wx_Model ct aM (M_236 0 0) (M_236 0 4) (M_236 0 6) (M_236 0 7) (M_236 0 8) (M_236 0 9) (M_236 0 24) (M_236 0 27) (M_236 0 29) (M_236 0 31) 2 (M_236 0 33) (M_236 0 34) (M_236 0 35) (M_236 1) (M_236 2) (M_236 3) (M_236 4) (M_236 5) (M_236 9) (M_236 10) (M_236 11) (M_236 12) (M_236 13) (M_236 14) (M_236 15) (M_236 16) (M_236 17) (M_236 18) (M_236 19) (M_236 20) (M_236 21) (M_236 22) (LM 6) (LM 7) (LM 8)] fl_X10_322 rfl rfl rfl rfl (Nat.le_of_ble_eq_true rfl) rfl rfl dX10_goesOn_259 ?_
            refine im_goto (tgt := 291) X dX10_goesOn_262 rfl ?_
            exact im_return X (mr M_236 0 (fu (M_236 0) 32 2)) rfl dX10_goesOn_291
          · refine im_iconst X 4 dX10_goesOn_254 (by decide) ?_
            refine im_goto (tgt := 259) X dX10_goesOn_255 rfl ?_
            refine im_cput X 0 0 (wx_Model ct aM (M_236 0 0) (M_236 0 4) (M_236 0 6) (M_236 0 7) (M_236 0 8) (M_236 0 9) (M_236 0 24) (M_236 0 27) (M_236 0 29) (M_236 0 31) 4 (M_236 0 33) (M_236 0 34) (M_236 0 35) (M_236 1) (M_236 2) (M_236 3) (M_236 4) (M_236 5) (M_236 9) (M_236 10) (M_236 11) (M_236 12) (M_236 13) (M_236 14) (M_236 15) (M_236 16) (M_236 17) (M_236 18) (M_236 19) (M_236 20) (M_236 21) (M_236 22) (LM 6) (LM 7) (LM 8)) [wx_Model ct aM (M_236 0 0) (M_236 0 4) (M_236 0 6) (M_236 0 7) (M_236 0 8) (M_236 0 9) (M_236 0 24) (M_236 0 27) (M_236 0 29) (M_236 0 31) 4 (M_236 0 33) (M_236 0 34) (M_236 0 35) (M_236 1) (M_236 2) (M_236 3) (M_236 4) (M_236 5) (M_236 9) (M_236 10) (M_236 11) (M_236 12) (M_236 13) (M_236 14) (M_236 15) (M_236 16) (M_236 17) (M_236 18) (M_236 19) (M_236 20) (M_236 21) (M_236 22) (LM 6) (LM 7) (LM 8)] fl_X10_322 rfl rfl rfl rfl (Nat.le_of_ble_eq_true rfl) rfl rfl dX10_goesOn_259 ?_
            refine im_goto (tgt := 291) X dX10_goesOn_262 rfl ?_
            exact im_return X (mr M_236 0 (fu (M_236 0) 32 4)) rfl dX10_goesOn_291
    · refine im_lv [0, 1] [(0, .ref (aM 0)), (3, .int s0)] rfl ?_
      refine i_X10_goesOn_108 X F aM LM s0 _ (fun M_138 => ?_) F M
      refine im_aload_n X 0 dX10_goesOn_138 rfl rfl ?_
      refine im_iload_n X 1 dX10_goesOn_139 rfl rfl ?_
      refine im_if_eq (tgt := 147) X dX10_goesOn_140 rfl ?_ ?_
      · refine im_iconst X 1 dX10_goesOn_147 (by decide) ?_
        refine im_cput X 0 0 (wx_Model ct aM (M_138 0 0) (M_138 0 4) (M_138 0 6) (M_138 0 7) (M_138 0 8) (M_138 0 9) (M_138 0 24) (M_138 0 27) (M_138 0 29) (M_138 0 31) 1 (M_138 0 33) (M_138 0 34) (M_138 0 35) (M_138 1) (M_138 2) (M_138 3) (M_138 4) (M_138 5) (M_138 9) (M_138 10) (M_138 11) (M_138 12) (M_138 13) (M_138 14) (M_138 15) (M_138 16) (M_138 17) (M_138 18) (M_138 19) (M_138 20) (M_138 21) (M_138 22) (LM 6) (LM 7) (LM 8)) [wx_Model ct aM (M_138 0 0) (M_138 0 4) (M_138 0 6) (M_138 0 7) (M_138 0 8) (M_138 0 9) (M_138 0 24) (M_138 0 27) (M_138 0 29) (M_138 0 31) 1 (M_138 0 33) (M_138 0 34) (M_138 0 35) (M_138 1) (M_138 2) (M_138 3) (M_138 4) (M_138 5) (M_138 9) (M_138 10) (M_138 11) (M_138 12) (M_138 13) (M_138 14) (M_138 15) (M_138 16) (M_138 17) (M_138 18) (M_138 19) (M_138 20) (M_138 21) (M_138 22) (LM 6) (LM 7) (LM 8)] fl_X10_322 rfl rfl rfl rfl (Nat.le_of_ble_eq_true rfl) rfl rfl dX10_goesOn_148 ?_
        refine im_goto (tgt := 291) X dX10_goesOn_151 rfl ?_
        exact im_return X (mr M_138 0 (fu (M_138 0) 32 1)) rfl dX10_goesOn_291
      · refine im_iconst X 4 dX10_goesOn_143 (by decide) ?_
        refine im_goto (tgt := 148) X dX10_goesOn_144 rfl ?_
        refine im_cput X 0 0 (wx_Model ct aM (M_138 0 0) (M_138 0 4) (M_138 0 6) (M_138 0 7) (M_138 0 8) (M_138 0 9) (M_138 0 24) (M_138 0 27) (M_138 0 29) (M_138 0 31) 4 (M_138 0 33) (M_138 0 34) (M_138 0 35) (M_138 1) (M_138 2) (M_138 3) (M_138 4) (M_138 5) (M_138 9) (M_138 10) (M_138 11) (M_138 12) (M_138 13) (M_138 14) (M_138 15) (M_138 16) (M_138 17) (M_138 18) (M_138 19) (M_138 20) (M_138 21) (M_138 22) (LM 6) (LM 7) (LM 8)) [wx_Model ct aM (M_138 0 0) (M_138 0 4) (M_138 0 6) (M_138 0 7) (M_138 0 8) (M_138 0 9) (M_138 0 24) (M_138 0 27) (M_138 0 29) (M_138 0 31) 4 (M_138 0 33) (M_138 0 34) (M_138 0 35) (M_138 1) (M_138 2) (M_138 3) (M_138 4) (M_138 5) (M_138 9) (M_138 10) (M_138 11) (M_138 12) (M_138 13) (M_138 14) (M_138 15) (M_138 16) (M_138 17) (M_138 18) (M_138 19) (M_138 20) (M_138 21) (M_138 22) (LM 6) (LM 7) (LM 8)] fl_X10_322 rfl rfl rfl rfl (Nat.le_of_ble_eq_true rfl) rfl rfl dX10_goesOn_148 ?_
        refine im_goto (tgt := 291) X dX10_goesOn_151 rfl ?_
        exact im_return X (mr M_138 0 (fu (M_138 0) 32 4)) rfl dX10_goesOn_291
  · refine im_aload_n X 0 dX10_goesOn_85 rfl rfl ?_
    refine im_iconst X 0 dX10_goesOn_86 (by decide) ?_
    refine im_cput X 0 0 (wx_Model ct aM (M 0 0) (M 0 4) (M 0 6) (M 0 7) (M 0 8) (M 0 9) (M 0 24) (M 0 27) (M 0 29) (M 0 31) 0 (M 0 33) (M 0 34) (M 0 35) (M 1) (M 2) (M 3) (M 4) (M 5) (M 9) (M 10) (M 11) (M 12) (M 13) (M 14) (M 15) (M 16) (M 17) (M 18) (M 19) (M 20) (M 21) (M 22) (LM 6) (LM 7) (LM 8)) [wx_Model ct aM (M 0 0) (M 0 4) (M 0 6) (M 0 7) (M 0 8) (M 0 9) (M 0 24) (M 0 27) (M 0 29) (M 0 31) 0 (M 0 33) (M 0 34) (M 0 35) (M 1) (M 2) (M 3) (M 4) (M 5) (M 9) (M 10) (M 11) (M 12) (M 13) (M 14) (M 15) (M 16) (M 17) (M 18) (M 19) (M 20) (M 21) (M 22) (LM 6) (LM 7) (LM 8)] fl_X10_322 rfl rfl rfl rfl (Nat.le_of_ble_eq_true rfl) rfl rfl dX10_goesOn_87 ?_
    refine im_goto (tgt := 291) X dX10_goesOn_90 rfl ?_
    exact im_return X (mr M 0 (fu (M 0) 32 0)) rfl dX10_goesOn_291
noncomputable def f_X10_goesOn (F : Nat) (M : Mem) (LM : MemL) : Option (Mem) :=
  f_X10_goesOn_10 F LM (M 0 32) (M 0 31) (fun M_41 => (if (M_41 0 31) = (M 0 31) then (if (M 0 32) = 1 then f_X10_goesOn_72 F (mr M_41 0 (fu (M_41 0) 33 (M_41 0 31))) LM 1 else (if (M 0 32) = 2 then f_X10_goesOn_72 F (mr M_41 0 (fu (M_41 0) 33 (M_41 0 31))) LM 1 else f_X10_goesOn_72 F (mr M_41 0 (fu (M_41 0) 33 (M_41 0 31))) LM 0)) else f_X10_goesOn_72 F (mr M_41 0 (fu (M_41 0) 33 (M_41 0 31))) LM 0)) F M
set_option maxRecDepth 100000 in
set_option maxHeartbeats 4000000 in
theorem i_X10_goesOn {p : Program} {l : Launch} {e : Env} {s : State} {m : MethodId} {args : Array Value} {below : List Frame} {meth : Method} {c : Code} {D : va_G} {ct : im_ct} {A : Nat → Prop} (X : im_X p (im_rm 1) s m args meth c D ct A RX10 cX10_goesOn 5 none) (F : Nat) (aM : Nat → Nat) (M : Mem) (LM : MemL) : Im p l e (im_rm 1) s m args below meth c D A 5 (QV D A (fun z : Mem => (cat [w_Model ct aM z LM]))) 0 [(0, .ref (aM 0))] [] (cat [w_Model ct aM M LM]) (f_X10_goesOn F M LM) := by
  unfold f_X10_goesOn
  refine im_aload_n X 0 dX10_goesOn_0 rfl rfl ?_
  refine im_cget X 0 0 (v := .int (M 0 32)) fl_X10_322 rfl rfl rfl dX10_goesOn_1 ?_
  refine im_istore_n X [1, 0] [(0, .ref (aM 0)), (1, .int (M 0 32))] dX10_goesOn_4 rfl (by decide) rfl ?_
  refine im_aload_n X 0 dX10_goesOn_5 rfl rfl ?_
  refine im_cget X 0 0 (v := .int (M 0 31)) fl_X10_319 rfl rfl rfl dX10_goesOn_6 ?_
  refine im_istore_n X [1, 2, 0] [(0, .ref (aM 0)), (1, .int (M 0 32)), (2, .int (M 0 31))] dX10_goesOn_9 rfl (by decide) rfl ?_
  refine i_X10_goesOn_10 X F aM LM (M 0 32) (M 0 31) _ (fun M_41 => ?_) F M
  refine im_aload_n X 0 dX10_goesOn_41 rfl rfl ?_
  refine im_aload_n X 0 dX10_goesOn_42 rfl rfl ?_
  refine im_cget X 0 0 (v := .int (M_41 0 31)) fl_X10_319 rfl rfl rfl dX10_goesOn_43 ?_
  refine im_cput X 0 0 (wx_Model ct aM (M_41 0 0) (M_41 0 4) (M_41 0 6) (M_41 0 7) (M_41 0 8) (M_41 0 9) (M_41 0 24) (M_41 0 27) (M_41 0 29) (M_41 0 31) (M_41 0 32) (M_41 0 31) (M_41 0 34) (M_41 0 35) (M_41 1) (M_41 2) (M_41 3) (M_41 4) (M_41 5) (M_41 9) (M_41 10) (M_41 11) (M_41 12) (M_41 13) (M_41 14) (M_41 15) (M_41 16) (M_41 17) (M_41 18) (M_41 19) (M_41 20) (M_41 21) (M_41 22) (LM 6) (LM 7) (LM 8)) [wx_Model ct aM (M_41 0 0) (M_41 0 4) (M_41 0 6) (M_41 0 7) (M_41 0 8) (M_41 0 9) (M_41 0 24) (M_41 0 27) (M_41 0 29) (M_41 0 31) (M_41 0 32) (M_41 0 31) (M_41 0 34) (M_41 0 35) (M_41 1) (M_41 2) (M_41 3) (M_41 4) (M_41 5) (M_41 9) (M_41 10) (M_41 11) (M_41 12) (M_41 13) (M_41 14) (M_41 15) (M_41 16) (M_41 17) (M_41 18) (M_41 19) (M_41 20) (M_41 21) (M_41 22) (LM 6) (LM 7) (LM 8)] fl_X10_328 rfl rfl rfl rfl (Nat.le_of_ble_eq_true rfl) rfl rfl dX10_goesOn_46 ?_
  refine im_aload_n X 0 dX10_goesOn_49 rfl rfl ?_
  refine im_cget X 0 0 (v := .int (M_41 0 31)) fl_X10_328 rfl rfl rfl dX10_goesOn_50 ?_
  refine im_iload_n X 2 dX10_goesOn_53 rfl rfl ?_
  refine im_icmp_ne (tgt := 71) X dX10_goesOn_54 rfl ?_ ?_
  · refine im_iconst X 0 dX10_goesOn_71 (by decide) ?_
    refine im_lv [0] [(0, .ref (aM 0))] rfl ?_
    exact i_X10_goesOn_72 X F aM (mr M_41 0 (fu (M_41 0) 33 (M_41 0 31))) LM 0 
  · refine im_iload_n X 1 dX10_goesOn_57 rfl rfl ?_
    refine im_iconst X 1 dX10_goesOn_58 (by decide) ?_
    refine im_icmp_eq (tgt := 67) X dX10_goesOn_59 rfl ?_ ?_
    · refine im_iconst X 1 dX10_goesOn_67 (by decide) ?_
      refine im_goto (tgt := 72) X dX10_goesOn_68 rfl ?_
      refine im_lv [0] [(0, .ref (aM 0))] rfl ?_
      exact i_X10_goesOn_72 X F aM (mr M_41 0 (fu (M_41 0) 33 (M_41 0 31))) LM 1 
    · refine im_iload_n X 1 dX10_goesOn_62 rfl rfl ?_
      refine im_iconst X 2 dX10_goesOn_63 (by decide) ?_
      refine im_icmp_ne (tgt := 71) X dX10_goesOn_64 rfl ?_ ?_
      · refine im_iconst X 0 dX10_goesOn_71 (by decide) ?_
        refine im_lv [0] [(0, .ref (aM 0))] rfl ?_
        exact i_X10_goesOn_72 X F aM (mr M_41 0 (fu (M_41 0) 33 (M_41 0 31))) LM 0 
      · refine im_iconst X 1 dX10_goesOn_67 (by decide) ?_
        refine im_goto (tgt := 72) X dX10_goesOn_68 rfl ?_
        refine im_lv [0] [(0, .ref (aM 0))] rfl ?_
        exact i_X10_goesOn_72 X F aM (mr M_41 0 (fu (M_41 0) 33 (M_41 0 31))) LM 1 
theorem c_X10_goesOn (l : Launch) (D : va_G) (ct : im_ct) (F : Nat) (aM : Nat → Nat) (M : Mem) (LM : MemL) : CMv l D ct yX10_goesOn cX10_goesOn 5 none 1 [.ref (aM 0)] (cat [w_Model ct aM M LM]) (f_X10_goesOn F M LM) (fun z : Mem => (cat [w_Model ct aM z LM])) :=
  im_met (Qb := fun A => QV D A (fun z : Mem => (cat [w_Model ct aM z LM]))) (by decide +kernel) (Nat.le_of_ble_eq_true rfl) (fun p e s m args below meth c A X => i_X10_goesOn X F aM M LM)

noncomputable def f_X10_fails (F : Nat) (M : Mem) (LM : MemL) (x1 : Int32) : Option (Mem) :=
  (if (M 0 35) = (-1) then (some (mr M 0 (fu (M 0) 35 x1))) else (some M))
set_option maxRecDepth 100000 in
set_option maxHeartbeats 4000000 in
theorem i_X10_fails {p : Program} {l : Launch} {e : Env} {s : State} {m : MethodId} {args : Array Value} {below : List Frame} {meth : Method} {c : Code} {D : va_G} {ct : im_ct} {A : Nat → Prop} (X : im_X p (im_rm 0) s m args meth c D ct A RX10 cX10_fails 2 none) (F : Nat) (aM : Nat → Nat) (M : Mem) (LM : MemL) (x1 : Int32) : Im p l e (im_rm 0) s m args below meth c D A 2 (QV D A (fun z : Mem => (cat [w_Model ct aM z LM]))) 0 [(0, .ref (aM 0)), (1, .int x1)] [] (cat [w_Model ct aM M LM]) (f_X10_fails F M LM x1) := by
  unfold f_X10_fails
  refine im_aload_n X 0 dX10_fails_0 rfl rfl ?_
  refine im_cget X 0 0 (v := .int (M 0 35)) fl_X10_342 rfl rfl rfl dX10_fails_1 ?_
  refine im_iconst X (-1) dX10_fails_4 (by decide) ?_
  refine im_icmp_ne (tgt := 13) X dX10_fails_5 rfl ?_ ?_
  · exact im_return X M rfl dX10_fails_13
  · refine im_aload_n X 0 dX10_fails_8 rfl rfl ?_
    refine im_iload_n X 1 dX10_fails_9 rfl rfl ?_
    refine im_cput X 0 0 (wx_Model ct aM (M 0 0) (M 0 4) (M 0 6) (M 0 7) (M 0 8) (M 0 9) (M 0 24) (M 0 27) (M 0 29) (M 0 31) (M 0 32) (M 0 33) (M 0 34) x1 (M 1) (M 2) (M 3) (M 4) (M 5) (M 9) (M 10) (M 11) (M 12) (M 13) (M 14) (M 15) (M 16) (M 17) (M 18) (M 19) (M 20) (M 21) (M 22) (LM 6) (LM 7) (LM 8)) [wx_Model ct aM (M 0 0) (M 0 4) (M 0 6) (M 0 7) (M 0 8) (M 0 9) (M 0 24) (M 0 27) (M 0 29) (M 0 31) (M 0 32) (M 0 33) (M 0 34) x1 (M 1) (M 2) (M 3) (M 4) (M 5) (M 9) (M 10) (M 11) (M 12) (M 13) (M 14) (M 15) (M 16) (M 17) (M 18) (M 19) (M 20) (M 21) (M 22) (LM 6) (LM 7) (LM 8)] fl_X10_342 rfl rfl rfl rfl (Nat.le_of_ble_eq_true rfl) rfl rfl dX10_fails_10 ?_
    exact im_return X (mr M 0 (fu (M 0) 35 x1)) rfl dX10_fails_13
theorem c_X10_fails (l : Launch) (D : va_G) (ct : im_ct) (F : Nat) (aM : Nat → Nat) (M : Mem) (LM : MemL) (x1 : Int32) : CMv l D ct yX10_fails cX10_fails 2 none 0 [.ref (aM 0), .int x1] (cat [w_Model ct aM M LM]) (f_X10_fails F M LM x1) (fun z : Mem => (cat [w_Model ct aM z LM])) :=
  im_met (Qb := fun A => QV D A (fun z : Mem => (cat [w_Model ct aM z LM]))) (by decide +kernel) (Nat.le_of_ble_eq_true rfl) (fun p e s m args below meth c A X => i_X10_fails X F aM M LM x1)

noncomputable def f_X10_isWord_18 (F : Nat) (M : Mem) (LM : MemL) (x2 : Int32) (k59 : Int32 → Option (Int32)) : Nat → Int32 → Option (Int32)
  | 0, _ => none
  | n + 1, x3 =>
  (if (M 0 31) ≤ ((M 0 33) + x3) then k59 x3 else ck (x2 + x3) 50 (ck ((M 0 33) + x3) 400 ((if ((M 22) ((x2 + x3)).toNatClampNeg) = ((M 21) (((M 0 33) + x3)).toNatClampNeg) then f_X10_isWord_18 F M LM x2 k59 n (x3 + 1) else k59 x3))))
set_option maxRecDepth 100000 in
set_option maxHeartbeats 4000000 in
theorem i_X10_isWord_18 {p : Program} {l : Launch} {e : Env} {s : State} {m : MethodId} {args : Array Value} {below : List Frame} {meth : Method} {c : Code} {D : va_G} {ct : im_ct} {A : Nat → Prop} (X : im_X p (im_rm 1) s m args meth c D ct A RX10 cX10_isWord 4 (some .boolean)) (F : Nat) (aM : Nat → Nat) (M : Mem) (LM : MemL) (x2 : Int32) (k59 : Int32 → Option (Int32)) (hk59 : ∀ (x3 : Int32), Im p l e (im_rm 1) s m args below meth c D A 4 (QI D A (fun z : Int32 => z) (fun z : Int32 => (cat [w_Model ct aM M LM]))) 59 [(0, .ref (aM 0)), (2, .int x2), (3, .int x3)] [] (cat [w_Model ct aM M LM]) (k59 x3)) : ∀ (n : Nat) (x3 : Int32), Im p l e (im_rm 1) s m args below meth c D A 4 (QI D A (fun z : Int32 => z) (fun z : Int32 => (cat [w_Model ct aM M LM]))) 18 [(0, .ref (aM 0)), (2, .int x2), (3, .int x3)] [] (cat [w_Model ct aM M LM]) (f_X10_isWord_18 F M LM x2 k59 n x3) := by
  intro n
  induction n with
  | zero => intros; exact im_none
  | succ n ih =>
    intro x3
    unfold f_X10_isWord_18
    refine im_aload_n X 0 dX10_isWord_18 rfl rfl ?_
    refine im_cget X 0 0 (v := .int (M 0 33)) fl_X10_328 rfl rfl rfl dX10_isWord_19 ?_
    refine im_iload_n X 2 dX10_isWord_22 rfl rfl ?_
    refine im_iadd X dX10_isWord_23 ?_
    refine im_aload_n X 0 dX10_isWord_24 rfl rfl ?_
    refine im_cget X 0 0 (v := .int (M 0 31)) fl_X10_319 rfl rfl rfl dX10_isWord_25 ?_
    refine im_icmp_ge (tgt := 59) X dX10_isWord_28 rfl ?_ ?_
    · exact hk59 x3
    · refine im_aload_n X 0 dX10_isWord_31 rfl rfl ?_
      refine im_cget X 0 0 (v := .ref (aM 22)) fl_X10_79 rfl rfl rfl dX10_isWord_32 ?_
      refine im_iload_n X 1 dX10_isWord_35 rfl rfl ?_
      refine im_iload_n X 2 dX10_isWord_36 rfl rfl ?_
      refine im_iadd X dX10_isWord_37 ?_
      refine im_cbald X 0 22 2 (f := (M 22)) rfl rfl rfl dX10_isWord_38 ?_
      refine im_aload_n X 0 dX10_isWord_39 rfl rfl ?_
      refine im_cget X 0 0 (v := .ref (aM 21)) fl_X10_76 rfl rfl rfl dX10_isWord_40 ?_
      refine im_aload_n X 0 dX10_isWord_43 rfl rfl ?_
      refine im_cget X 0 0 (v := .int (M 0 33)) fl_X10_328 rfl rfl rfl dX10_isWord_44 ?_
      refine im_iload_n X 2 dX10_isWord_47 rfl rfl ?_
      refine im_iadd X dX10_isWord_48 ?_
      refine im_ciald X 0 21 0 (f := (M 21)) rfl rfl rfl dX10_isWord_49 ?_
      refine im_icmp_ne (tgt := 59) X dX10_isWord_50 rfl ?_ ?_
      · exact hk59 x3
      · refine im_iinc X 2 1 [1, 2, 0] [(0, .ref (aM 0)), (2, .int x2), (3, .int (x3 + 1))] dX10_isWord_53 (by decide) rfl (by decide) rfl ?_
        refine im_goto (tgt := 18) X dX10_isWord_56 rfl ?_
        exact ih (x3 + 1)
noncomputable def f_X10_isWord_59 (F : Nat) (M : Mem) (LM : MemL) (x2 : Int32) (x3 : Int32) : Option (Int32) :=
  (if ((M 0 33) + x3) = (M 0 31) then ck (x2 + x3) 50 ((if ((M 22) ((x2 + x3)).toNatClampNeg) = 0 then (some 1) else (some 0))) else (some 0))
set_option maxRecDepth 100000 in
set_option maxHeartbeats 4000000 in
theorem i_X10_isWord_59 {p : Program} {l : Launch} {e : Env} {s : State} {m : MethodId} {args : Array Value} {below : List Frame} {meth : Method} {c : Code} {D : va_G} {ct : im_ct} {A : Nat → Prop} (X : im_X p (im_rm 1) s m args meth c D ct A RX10 cX10_isWord 4 (some .boolean)) (F : Nat) (aM : Nat → Nat) (M : Mem) (LM : MemL) (x2 : Int32) (x3 : Int32) : Im p l e (im_rm 1) s m args below meth c D A 4 (QI D A (fun z : Int32 => z) (fun z : Int32 => (cat [w_Model ct aM M LM]))) 59 [(0, .ref (aM 0)), (2, .int x2), (3, .int x3)] [] (cat [w_Model ct aM M LM]) (f_X10_isWord_59 F M LM x2 x3) := by
  unfold f_X10_isWord_59
  refine im_aload_n X 0 dX10_isWord_59 rfl rfl ?_
  refine im_cget X 0 0 (v := .int (M 0 33)) fl_X10_328 rfl rfl rfl dX10_isWord_60 ?_
  refine im_iload_n X 2 dX10_isWord_63 rfl rfl ?_
  refine im_iadd X dX10_isWord_64 ?_
  refine im_aload_n X 0 dX10_isWord_65 rfl rfl ?_
  refine im_cget X 0 0 (v := .int (M 0 31)) fl_X10_319 rfl rfl rfl dX10_isWord_66 ?_
  refine im_icmp_ne (tgt := 87) X dX10_isWord_69 rfl ?_ ?_
  · refine im_iconst X 0 dX10_isWord_87 (by decide) ?_
    exact im_zreturn X 0 rfl rfl rfl dX10_isWord_88
  · refine im_aload_n X 0 dX10_isWord_72 rfl rfl ?_
    refine im_cget X 0 0 (v := .ref (aM 22)) fl_X10_79 rfl rfl rfl dX10_isWord_73 ?_
    refine im_iload_n X 1 dX10_isWord_76 rfl rfl ?_
    refine im_iload_n X 2 dX10_isWord_77 rfl rfl ?_
    refine im_iadd X dX10_isWord_78 ?_
    refine im_cbald X 0 22 2 (f := (M 22)) rfl rfl rfl dX10_isWord_79 ?_
    refine im_if_ne (tgt := 87) X dX10_isWord_80 rfl ?_ ?_
    · refine im_iconst X 0 dX10_isWord_87 (by decide) ?_
      exact im_zreturn X 0 rfl rfl rfl dX10_isWord_88
    · refine im_iconst X 1 dX10_isWord_83 (by decide) ?_
      refine im_goto (tgt := 88) X dX10_isWord_84 rfl ?_
      exact im_zreturn X 1 rfl rfl rfl dX10_isWord_88
noncomputable def f_X10_isWord (F : Nat) (M : Mem) (LM : MemL) (x1 : Int32) : Option (Int32) :=
  (if (M 0 32) = 1 then (f_X10_wordFrom F M LM x1).bind (fun z12 => f_X10_isWord_18 F M LM z12 (fun x3_59 => f_X10_isWord_59 F M LM z12 x3_59) F 0) else (some 0))
set_option maxRecDepth 100000 in
set_option maxHeartbeats 4000000 in
theorem i_X10_isWord {p : Program} {l : Launch} {e : Env} {s : State} {m : MethodId} {args : Array Value} {below : List Frame} {meth : Method} {c : Code} {D : va_G} {ct : im_ct} {A : Nat → Prop} (X : im_X p (im_rm 1) s m args meth c D ct A RX10 cX10_isWord 4 (some .boolean)) (F : Nat) (aM : Nat → Nat) (M : Mem) (LM : MemL) (x1 : Int32) : Im p l e (im_rm 1) s m args below meth c D A 4 (QI D A (fun z : Int32 => z) (fun z : Int32 => (cat [w_Model ct aM M LM]))) 0 [(0, .ref (aM 0)), (1, .int x1)] [] (cat [w_Model ct aM M LM]) (f_X10_isWord F M LM x1) := by
  unfold f_X10_isWord
  refine im_aload_n X 0 dX10_isWord_0 rfl rfl ?_
  refine im_cget X 0 0 (v := .int (M 0 32)) fl_X10_322 rfl rfl rfl dX10_isWord_1 ?_
  refine im_iconst X 1 dX10_isWord_4 (by decide) ?_
  refine im_icmp_eq (tgt := 10) X dX10_isWord_5 rfl ?_ ?_
  · refine im_aload_n X 0 dX10_isWord_10 rfl rfl ?_
    refine im_iload_n X 1 dX10_isWord_11 rfl rfl ?_
    refine im_cciV X [.int x1] [] [w_Model ct aM M LM] [w_Model ct aM M LM] [0] (fun z12 => [w_Model ct aM M LM]) 0 0 10 rfl rfl rfl cl_X10_288 (c_X10_wordFrom l D ct F aM M LM x1) rfl (by decide) (fun _ => lc rfl (rfl)) rfl ⟨by decide, by decide⟩ (Nat.le_of_ble_eq_true rfl) rfl dX10_isWord_12 (fun z12 => ?_)
    refine im_ws (cat [w_Model ct aM M LM]) rfl ?_
    refine im_istore_n X [1, 2, 0] [(0, .ref (aM 0)), (1, .int x1), (2, .int z12)] dX10_isWord_15 rfl (by decide) rfl ?_
    refine im_iconst X 0 dX10_isWord_16 (by decide) ?_
    refine im_istore_n X [1, 2, 3, 0] [(0, .ref (aM 0)), (1, .int x1), (2, .int z12), (3, .int 0)] dX10_isWord_17 rfl (by decide) rfl ?_
    refine im_lv [0, 2, 3] [(0, .ref (aM 0)), (2, .int z12), (3, .int 0)] rfl ?_
    refine i_X10_isWord_18 X F aM M LM z12 _ (fun x3_59 => ?_) F 0
    exact i_X10_isWord_59 X F aM M LM z12 x3_59 
  · refine im_iconst X 0 dX10_isWord_8 (by decide) ?_
    exact im_zreturn X 0 rfl rfl rfl dX10_isWord_9
theorem c_X10_isWord (l : Launch) (D : va_G) (ct : im_ct) (F : Nat) (aM : Nat → Nat) (M : Mem) (LM : MemL) (x1 : Int32) : CMi l D ct yX10_isWord cX10_isWord 4 (some .boolean) 1 [.ref (aM 0), .int x1] (cat [w_Model ct aM M LM]) (f_X10_isWord F M LM x1) (fun z : Int32 => z) (fun z : Int32 => (cat [w_Model ct aM M LM])) :=
  im_met (Qb := fun A => QI D A (fun z : Int32 => z) (fun z : Int32 => (cat [w_Model ct aM M LM]))) (by decide +kernel) (Nat.le_of_ble_eq_true rfl) (fun p e s m args below meth c A X => i_X10_isWord X F aM M LM x1)

noncomputable def f_X10_needsNumber_33 (F : Nat) (M : Mem) (LM : MemL) : Option (Int32 × Mem) :=
  (f_X10_fails F M LM (M 0 33)).bind (fun z38 => (some (0, z38)))
set_option maxRecDepth 100000 in
set_option maxHeartbeats 4000000 in
theorem i_X10_needsNumber_33 {p : Program} {l : Launch} {e : Env} {s : State} {m : MethodId} {args : Array Value} {below : List Frame} {meth : Method} {c : Code} {D : va_G} {ct : im_ct} {A : Nat → Prop} (X : im_X p (im_rm 2) s m args meth c D ct A RX10 cX10_needsNumber 4 (some .int)) (F : Nat) (aM : Nat → Nat) (M : Mem) (LM : MemL) : Im p l e (im_rm 2) s m args below meth c D A 4 (QI D A (fun z : Int32 × Mem => z.1) (fun z : Int32 × Mem => (cat [w_Model ct aM z.2 LM]))) 33 [(0, .ref (aM 0))] [] (cat [w_Model ct aM M LM]) (f_X10_needsNumber_33 F M LM) := by
  unfold f_X10_needsNumber_33
  refine im_aload_n X 0 dX10_needsNumber_33 rfl rfl ?_
  refine im_aload_n X 0 dX10_needsNumber_34 rfl rfl ?_
  refine im_cget X 0 0 (v := .int (M 0 33)) fl_X10_328 rfl rfl rfl dX10_needsNumber_35 ?_
  refine im_ccvV X [.int (M 0 33)] [] [w_Model ct aM M LM] [w_Model ct aM M LM] [0] (fun z38 => [w_Model ct aM z38 LM]) 0 0 10 rfl rfl rfl cl_X10_345 (c_X10_fails l D ct F aM M LM (M 0 33)) rfl (by decide) (fun _ => lc fa_Model (rfl)) rfl ⟨by decide, by decide⟩ (Nat.le_of_ble_eq_true rfl) rfl dX10_needsNumber_38 (fun z38 => ?_)
  refine im_ws (cat [w_Model ct aM z38 LM]) rfl ?_
  refine im_iconst X 0 dX10_needsNumber_41 (by decide) ?_
  exact im_ireturn X (0, z38) rfl rfl dX10_needsNumber_42
noncomputable def f_X10_needsNumber (F : Nat) (M : Mem) (LM : MemL) (x1 : Int32) (x2 : Int32) : Option (Int32 × Mem) :=
  (if (M 0 35) = (-1) then (if (M 0 32) = 2 then (f_X10_in F ((M 0 34)).toInt64 (x1).toInt64 (x2).toInt64).bind (fun z27 => (if z27 = 0 then f_X10_needsNumber_33 F M LM else (f_X10_goesOn F M LM).bind (fun z49 => (some ((M 0 34), z49))))) else f_X10_needsNumber_33 F M LM) else (some (0, M)))
set_option maxRecDepth 100000 in
set_option maxHeartbeats 4000000 in
theorem i_X10_needsNumber {p : Program} {l : Launch} {e : Env} {s : State} {m : MethodId} {args : Array Value} {below : List Frame} {meth : Method} {c : Code} {D : va_G} {ct : im_ct} {A : Nat → Prop} (X : im_X p (im_rm 2) s m args meth c D ct A RX10 cX10_needsNumber 4 (some .int)) (F : Nat) (aM : Nat → Nat) (M : Mem) (LM : MemL) (x1 : Int32) (x2 : Int32) : Im p l e (im_rm 2) s m args below meth c D A 4 (QI D A (fun z : Int32 × Mem => z.1) (fun z : Int32 × Mem => (cat [w_Model ct aM z.2 LM]))) 0 [(0, .ref (aM 0)), (1, .int x1), (2, .int x2)] [] (cat [w_Model ct aM M LM]) (f_X10_needsNumber F M LM x1 x2) := by
  unfold f_X10_needsNumber
  refine im_aload_n X 0 dX10_needsNumber_0 rfl rfl ?_
  refine im_cget X 0 0 (v := .int (M 0 35)) fl_X10_342 rfl rfl rfl dX10_needsNumber_1 ?_
  refine im_iconst X (-1) dX10_needsNumber_4 (by decide) ?_
  refine im_icmp_eq (tgt := 10) X dX10_needsNumber_5 rfl ?_ ?_
  · refine im_aload_n X 0 dX10_needsNumber_10 rfl rfl ?_
    refine im_cget X 0 0 (v := .int (M 0 32)) fl_X10_322 rfl rfl rfl dX10_needsNumber_11 ?_
    refine im_iconst X 2 dX10_needsNumber_14 (by decide) ?_
    refine im_icmp_ne (tgt := 33) X dX10_needsNumber_15 rfl ?_ ?_
    · refine im_lv [0] [(0, .ref (aM 0))] rfl ?_
      exact i_X10_needsNumber_33 X F aM M LM  
    · refine im_aload_n X 0 dX10_needsNumber_18 rfl rfl ?_
      refine im_cget X 0 0 (v := .int (M 0 34)) fl_X10_339 rfl rfl rfl dX10_needsNumber_19 ?_
      refine im_i2l X dX10_needsNumber_22 ?_
      refine im_iload_n X 1 dX10_needsNumber_23 rfl rfl ?_
      refine im_i2l X dX10_needsNumber_24 ?_
      refine im_iload_n X 2 dX10_needsNumber_25 rfl rfl ?_
      refine im_i2l X dX10_needsNumber_26 ?_
      refine im_cciS X [.long ((M 0 34)).toInt64, .long (x1).toInt64, .long (x2).toInt64] [] [w_Model ct aM M LM] [] [] (fun z27 => []) cl_X10_86 (c_X10_in l D ct F ((M 0 34)).toInt64 (x1).toInt64 (x2).toInt64) rfl (by decide) (fun _ => rfl) rfl ⟨by decide, by decide⟩ (Nat.le_of_ble_eq_true rfl) rfl dX10_needsNumber_27 (fun z27 => ?_)
      refine im_ws (cat [w_Model ct aM M LM]) rfl ?_
      refine im_if_ne (tgt := 43) X dX10_needsNumber_30 rfl ?_ ?_
      · refine im_aload_n X 0 dX10_needsNumber_43 rfl rfl ?_
        refine im_cget X 0 0 (v := .int (M 0 34)) fl_X10_339 rfl rfl rfl dX10_needsNumber_44 ?_
        refine im_istore_n X [1, 2, 3, 0] [(0, .ref (aM 0)), (1, .int x1), (2, .int x2), (3, .int (M 0 34))] dX10_needsNumber_47 rfl (by decide) rfl ?_
        refine im_aload_n X 0 dX10_needsNumber_48 rfl rfl ?_
        refine im_ccvV X [] [] [w_Model ct aM M LM] [w_Model ct aM M LM] [0] (fun z49 => [w_Model ct aM z49 LM]) 0 0 10 rfl rfl rfl cl_X10_348 (c_X10_goesOn l D ct F aM M LM) rfl (by decide) (fun _ => lc fa_Model (rfl)) rfl ⟨by decide, by decide⟩ (Nat.le_of_ble_eq_true rfl) rfl dX10_needsNumber_49 (fun z49 => ?_)
        refine im_ws (cat [w_Model ct aM z49 LM]) rfl ?_
        refine im_iload_n X 3 dX10_needsNumber_52 rfl rfl ?_
        exact im_ireturn X ((M 0 34), z49) rfl rfl dX10_needsNumber_53
      · refine im_lv [0] [(0, .ref (aM 0))] rfl ?_
        exact i_X10_needsNumber_33 X F aM M LM  
  · refine im_iconst X 0 dX10_needsNumber_8 (by decide) ?_
    exact im_ireturn X (0, M) rfl rfl dX10_needsNumber_9
theorem c_X10_needsNumber (l : Launch) (D : va_G) (ct : im_ct) (F : Nat) (aM : Nat → Nat) (M : Mem) (LM : MemL) (x1 : Int32) (x2 : Int32) : CMi l D ct yX10_needsNumber cX10_needsNumber 4 (some .int) 2 [.ref (aM 0), .int x1, .int x2] (cat [w_Model ct aM M LM]) (f_X10_needsNumber F M LM x1 x2) (fun z : Int32 × Mem => z.1) (fun z : Int32 × Mem => (cat [w_Model ct aM z.2 LM])) :=
  im_met (Qb := fun A => QI D A (fun z : Int32 × Mem => z.1) (fun z : Int32 × Mem => (cat [w_Model ct aM z.2 LM]))) (by decide +kernel) (Nat.le_of_ble_eq_true rfl) (fun p e s m args below meth c A X => i_X10_needsNumber X F aM M LM x1 x2)

noncomputable def f_X10_needsClose (F : Nat) (M : Mem) (LM : MemL) : Option (Mem) :=
  (if (M 0 35) = (-1) then (if (M 0 32) = 3 then (f_X10_goesOn F M LM).bind (fun z18 => (some z18)) else (f_X10_fails F M LM (M 0 33)).bind (fun z29 => (some z29))) else (some M))
set_option maxRecDepth 100000 in
set_option maxHeartbeats 4000000 in
theorem i_X10_needsClose {p : Program} {l : Launch} {e : Env} {s : State} {m : MethodId} {args : Array Value} {below : List Frame} {meth : Method} {c : Code} {D : va_G} {ct : im_ct} {A : Nat → Prop} (X : im_X p (im_rm 2) s m args meth c D ct A RX10 cX10_needsClose 1 none) (F : Nat) (aM : Nat → Nat) (M : Mem) (LM : MemL) : Im p l e (im_rm 2) s m args below meth c D A 1 (QV D A (fun z : Mem => (cat [w_Model ct aM z LM]))) 0 [(0, .ref (aM 0))] [] (cat [w_Model ct aM M LM]) (f_X10_needsClose F M LM) := by
  unfold f_X10_needsClose
  refine im_aload_n X 0 dX10_needsClose_0 rfl rfl ?_
  refine im_cget X 0 0 (v := .int (M 0 35)) fl_X10_342 rfl rfl rfl dX10_needsClose_1 ?_
  refine im_iconst X (-1) dX10_needsClose_4 (by decide) ?_
  refine im_icmp_eq (tgt := 9) X dX10_needsClose_5 rfl ?_ ?_
  · refine im_aload_n X 0 dX10_needsClose_9 rfl rfl ?_
    refine im_cget X 0 0 (v := .int (M 0 32)) fl_X10_322 rfl rfl rfl dX10_needsClose_10 ?_
    refine im_iconst X 3 dX10_needsClose_13 (by decide) ?_
    refine im_icmp_ne (tgt := 24) X dX10_needsClose_14 rfl ?_ ?_
    · refine im_aload_n X 0 dX10_needsClose_24 rfl rfl ?_
      refine im_aload_n X 0 dX10_needsClose_25 rfl rfl ?_
      refine im_cget X 0 0 (v := .int (M 0 33)) fl_X10_328 rfl rfl rfl dX10_needsClose_26 ?_
      refine im_ccvV X [.int (M 0 33)] [] [w_Model ct aM M LM] [w_Model ct aM M LM] [0] (fun z29 => [w_Model ct aM z29 LM]) 0 0 10 rfl rfl rfl cl_X10_345 (c_X10_fails l D ct F aM M LM (M 0 33)) rfl (by decide) (fun _ => lc fa_Model (rfl)) rfl ⟨by decide, by decide⟩ (Nat.le_of_ble_eq_true rfl) rfl dX10_needsClose_29 (fun z29 => ?_)
      refine im_ws (cat [w_Model ct aM z29 LM]) rfl ?_
      exact im_return X z29 rfl dX10_needsClose_32
    · refine im_aload_n X 0 dX10_needsClose_17 rfl rfl ?_
      refine im_ccvV X [] [] [w_Model ct aM M LM] [w_Model ct aM M LM] [0] (fun z18 => [w_Model ct aM z18 LM]) 0 0 10 rfl rfl rfl cl_X10_348 (c_X10_goesOn l D ct F aM M LM) rfl (by decide) (fun _ => lc fa_Model (rfl)) rfl ⟨by decide, by decide⟩ (Nat.le_of_ble_eq_true rfl) rfl dX10_needsClose_18 (fun z18 => ?_)
      refine im_ws (cat [w_Model ct aM z18 LM]) rfl ?_
      refine im_goto (tgt := 32) X dX10_needsClose_21 rfl ?_
      exact im_return X z18 rfl dX10_needsClose_32
  · exact im_return X M rfl dX10_needsClose_8
theorem c_X10_needsClose (l : Launch) (D : va_G) (ct : im_ct) (F : Nat) (aM : Nat → Nat) (M : Mem) (LM : MemL) : CMv l D ct yX10_needsClose cX10_needsClose 1 none 2 [.ref (aM 0)] (cat [w_Model ct aM M LM]) (f_X10_needsClose F M LM) (fun z : Mem => (cat [w_Model ct aM z LM])) :=
  im_met (Qb := fun A => QV D A (fun z : Mem => (cat [w_Model ct aM z LM]))) (by decide +kernel) (Nat.le_of_ble_eq_true rfl) (fun p e s m args below meth c A X => i_X10_needsClose X F aM M LM)

noncomputable def f_X10_readsColumn_58 (F : Nat) (M : Mem) (LM : MemL) (s1 : Int32) (s2 : Int32) : Option (Mem) :=
  ck s1 226 ((f_X10_needsClose F (mr M 2 (upd (M 2) s1.toNatClampNeg s2)) LM).bind (fun z60 => ck 0 226 (ck 0 226 ((some (mr z60 2 (upd (z60 2) (0 : Int32).toNatClampNeg (((z60 2) (0 : Int32).toNatClampNeg) + 1))))))))
set_option maxRecDepth 100000 in
set_option maxHeartbeats 4000000 in
theorem i_X10_readsColumn_58 {p : Program} {l : Launch} {e : Env} {s : State} {m : MethodId} {args : Array Value} {below : List Frame} {meth : Method} {c : Code} {D : va_G} {ct : im_ct} {A : Nat → Prop} (X : im_X p (im_rm 3) s m args meth c D ct A RX10 cX10_readsColumn 2 none) (F : Nat) (aM : Nat → Nat) (M : Mem) (LM : MemL) (s1 : Int32) (s2 : Int32) : Im p l e (im_rm 3) s m args below meth c D A 2 (QV D A (fun z : Mem => (cat [w_Model ct aM z LM]))) 58 [(0, .ref (aM 0))] [.int s2, .int s1, .ref (aM 2)] (cat [w_Model ct aM M LM]) (f_X10_readsColumn_58 F M LM s1 s2) := by
  unfold f_X10_readsColumn_58
  refine im_ciast X 0 2 0 (wx_Model ct aM (M 0 0) (M 0 4) (M 0 6) (M 0 7) (M 0 8) (M 0 9) (M 0 24) (M 0 27) (M 0 29) (M 0 31) (M 0 32) (M 0 33) (M 0 34) (M 0 35) (M 1) (upd (M 2) s1.toNatClampNeg s2) (M 3) (M 4) (M 5) (M 9) (M 10) (M 11) (M 12) (M 13) (M 14) (M 15) (M 16) (M 17) (M 18) (M 19) (M 20) (M 21) (M 22) (LM 6) (LM 7) (LM 8)) [wx_Model ct aM (M 0 0) (M 0 4) (M 0 6) (M 0 7) (M 0 8) (M 0 9) (M 0 24) (M 0 27) (M 0 29) (M 0 31) (M 0 32) (M 0 33) (M 0 34) (M 0 35) (M 1) (upd (M 2) s1.toNatClampNeg s2) (M 3) (M 4) (M 5) (M 9) (M 10) (M 11) (M 12) (M 13) (M 14) (M 15) (M 16) (M 17) (M 18) (M 19) (M 20) (M 21) (M 22) (LM 6) (LM 7) (LM 8)] (f := (M 2)) rfl rfl rfl rfl rfl dX10_readsColumn_58 ?_
  refine im_aload_n X 0 dX10_readsColumn_59 rfl rfl ?_
  refine im_ccvV X [] [] [wx_Model ct aM (M 0 0) (M 0 4) (M 0 6) (M 0 7) (M 0 8) (M 0 9) (M 0 24) (M 0 27) (M 0 29) (M 0 31) (M 0 32) (M 0 33) (M 0 34) (M 0 35) (M 1) (upd (M 2) s1.toNatClampNeg s2) (M 3) (M 4) (M 5) (M 9) (M 10) (M 11) (M 12) (M 13) (M 14) (M 15) (M 16) (M 17) (M 18) (M 19) (M 20) (M 21) (M 22) (LM 6) (LM 7) (LM 8)] [w_Model ct aM (mr M 2 (upd (M 2) s1.toNatClampNeg s2)) LM] [0] (fun z60 => [w_Model ct aM z60 LM]) 0 0 10 rfl rfl rfl cl_X10_354 (c_X10_needsClose l D ct F aM (mr M 2 (upd (M 2) s1.toNatClampNeg s2)) LM) rfl (by decide) (fun _ => lc fa_Model (rfl)) rfl ⟨by decide, by decide⟩ (Nat.le_of_ble_eq_true rfl) rfl dX10_readsColumn_60 (fun z60 => ?_)
  refine im_ws (cat [w_Model ct aM z60 LM]) rfl ?_
  refine im_aload_n X 0 dX10_readsColumn_63 rfl rfl ?_
  refine im_cget X 0 0 (v := .ref (aM 2)) fl_X10_17 rfl rfl rfl dX10_readsColumn_64 ?_
  refine im_iconst X 0 dX10_readsColumn_67 (by decide) ?_
  refine im_dup2_11 X rfl rfl dX10_readsColumn_68 ?_
  refine im_ciald X 0 2 0 (f := (z60 2)) rfl rfl rfl dX10_readsColumn_69 ?_
  refine im_iconst X 1 dX10_readsColumn_70 (by decide) ?_
  refine im_iadd X dX10_readsColumn_71 ?_
  refine im_ciast X 0 2 0 (wx_Model ct aM (z60 0 0) (z60 0 4) (z60 0 6) (z60 0 7) (z60 0 8) (z60 0 9) (z60 0 24) (z60 0 27) (z60 0 29) (z60 0 31) (z60 0 32) (z60 0 33) (z60 0 34) (z60 0 35) (z60 1) (upd (z60 2) (0 : Int32).toNatClampNeg (((z60 2) (0 : Int32).toNatClampNeg) + 1)) (z60 3) (z60 4) (z60 5) (z60 9) (z60 10) (z60 11) (z60 12) (z60 13) (z60 14) (z60 15) (z60 16) (z60 17) (z60 18) (z60 19) (z60 20) (z60 21) (z60 22) (LM 6) (LM 7) (LM 8)) [wx_Model ct aM (z60 0 0) (z60 0 4) (z60 0 6) (z60 0 7) (z60 0 8) (z60 0 9) (z60 0 24) (z60 0 27) (z60 0 29) (z60 0 31) (z60 0 32) (z60 0 33) (z60 0 34) (z60 0 35) (z60 1) (upd (z60 2) (0 : Int32).toNatClampNeg (((z60 2) (0 : Int32).toNatClampNeg) + 1)) (z60 3) (z60 4) (z60 5) (z60 9) (z60 10) (z60 11) (z60 12) (z60 13) (z60 14) (z60 15) (z60 16) (z60 17) (z60 18) (z60 19) (z60 20) (z60 21) (z60 22) (LM 6) (LM 7) (LM 8)] (f := (z60 2)) rfl rfl rfl rfl rfl dX10_readsColumn_72 ?_
  exact im_return X (mr z60 2 (upd (z60 2) (0 : Int32).toNatClampNeg (((z60 2) (0 : Int32).toNatClampNeg) + 1))) rfl dX10_readsColumn_73
noncomputable def f_X10_readsColumn (F : Nat) (M : Mem) (LM : MemL) (x1 : Int32) : Option (Mem) :=
  ck 0 226 ((if ((M 2) (0 : Int32).toNatClampNeg) = 6 then (f_X10_fails F M LM x1).bind (fun z13 => (some z13)) else (f_X10_goesOn F M LM).bind (fun z18 => ck 0 226 (ck 0 226 ((if ((z18 2) (0 : Int32).toNatClampNeg) = 0 then (f_X10_needsNumber F z18 LM 1 1).bind (fun z45 => f_X10_readsColumn_58 F z45.2 LM (2 + ((z18 2) (0 : Int32).toNatClampNeg)) z45.1) else (f_X10_needsNumber F z18 LM 2 20).bind (fun z55 => f_X10_readsColumn_58 F z55.2 LM (2 + ((z18 2) (0 : Int32).toNatClampNeg)) z55.1)))))))
set_option maxRecDepth 100000 in
set_option maxHeartbeats 4000000 in
theorem i_X10_readsColumn {p : Program} {l : Launch} {e : Env} {s : State} {m : MethodId} {args : Array Value} {below : List Frame} {meth : Method} {c : Code} {D : va_G} {ct : im_ct} {A : Nat → Prop} (X : im_X p (im_rm 3) s m args meth c D ct A RX10 cX10_readsColumn 2 none) (F : Nat) (aM : Nat → Nat) (M : Mem) (LM : MemL) (x1 : Int32) : Im p l e (im_rm 3) s m args below meth c D A 2 (QV D A (fun z : Mem => (cat [w_Model ct aM z LM]))) 0 [(0, .ref (aM 0)), (1, .int x1)] [] (cat [w_Model ct aM M LM]) (f_X10_readsColumn F M LM x1) := by
  unfold f_X10_readsColumn
  refine im_aload_n X 0 dX10_readsColumn_0 rfl rfl ?_
  refine im_cget X 0 0 (v := .ref (aM 2)) fl_X10_17 rfl rfl rfl dX10_readsColumn_1 ?_
  refine im_iconst X 0 dX10_readsColumn_4 (by decide) ?_
  refine im_ciald X 0 2 0 (f := (M 2)) rfl rfl rfl dX10_readsColumn_5 ?_
  refine im_bipush X 6 dX10_readsColumn_6 (by decide) ?_
  refine im_icmp_ne (tgt := 17) X dX10_readsColumn_8 rfl ?_ ?_
  · refine im_aload_n X 0 dX10_readsColumn_17 rfl rfl ?_
    refine im_ccvV X [] [] [w_Model ct aM M LM] [w_Model ct aM M LM] [0] (fun z18 => [w_Model ct aM z18 LM]) 0 0 10 rfl rfl rfl cl_X10_348 (c_X10_goesOn l D ct F aM M LM) rfl (by decide) (fun _ => lc fa_Model (rfl)) rfl ⟨by decide, by decide⟩ (Nat.le_of_ble_eq_true rfl) rfl dX10_readsColumn_18 (fun z18 => ?_)
    refine im_ws (cat [w_Model ct aM z18 LM]) rfl ?_
    refine im_aload_n X 0 dX10_readsColumn_21 rfl rfl ?_
    refine im_cget X 0 0 (v := .ref (aM 2)) fl_X10_17 rfl rfl rfl dX10_readsColumn_22 ?_
    refine im_iconst X 2 dX10_readsColumn_25 (by decide) ?_
    refine im_aload_n X 0 dX10_readsColumn_26 rfl rfl ?_
    refine im_cget X 0 0 (v := .ref (aM 2)) fl_X10_17 rfl rfl rfl dX10_readsColumn_27 ?_
    refine im_iconst X 0 dX10_readsColumn_30 (by decide) ?_
    refine im_ciald X 0 2 0 (f := (z18 2)) rfl rfl rfl dX10_readsColumn_31 ?_
    refine im_iadd X dX10_readsColumn_32 ?_
    refine im_aload_n X 0 dX10_readsColumn_33 rfl rfl ?_
    refine im_cget X 0 0 (v := .ref (aM 2)) fl_X10_17 rfl rfl rfl dX10_readsColumn_34 ?_
    refine im_iconst X 0 dX10_readsColumn_37 (by decide) ?_
    refine im_ciald X 0 2 0 (f := (z18 2)) rfl rfl rfl dX10_readsColumn_38 ?_
    refine im_if_ne (tgt := 51) X dX10_readsColumn_39 rfl ?_ ?_
    · refine im_aload_n X 0 dX10_readsColumn_51 rfl rfl ?_
      refine im_iconst X 2 dX10_readsColumn_52 (by decide) ?_
      refine im_bipush X 20 dX10_readsColumn_53 (by decide) ?_
      refine im_cciV X [.int 2, .int 20] [.int (2 + ((z18 2) (0 : Int32).toNatClampNeg)), .ref (aM 2)] [w_Model ct aM z18 LM] [w_Model ct aM z18 LM] [0] (fun z55 => [w_Model ct aM z55.2 LM]) 0 0 10 rfl rfl rfl cl_X10_351 (c_X10_needsNumber l D ct F aM z18 LM 2 20) rfl (by decide) (fun _ => lc fa_Model (rfl)) rfl ⟨by decide, by decide⟩ (Nat.le_of_ble_eq_true rfl) rfl dX10_readsColumn_55 (fun z55 => ?_)
      refine im_ws (cat [w_Model ct aM z55.2 LM]) rfl ?_
      refine im_lv [0] [(0, .ref (aM 0))] rfl ?_
      exact i_X10_readsColumn_58 X F aM z55.2 LM (2 + ((z18 2) (0 : Int32).toNatClampNeg)) z55.1 
    · refine im_aload_n X 0 dX10_readsColumn_42 rfl rfl ?_
      refine im_iconst X 1 dX10_readsColumn_43 (by decide) ?_
      refine im_iconst X 1 dX10_readsColumn_44 (by decide) ?_
      refine im_cciV X [.int 1, .int 1] [.int (2 + ((z18 2) (0 : Int32).toNatClampNeg)), .ref (aM 2)] [w_Model ct aM z18 LM] [w_Model ct aM z18 LM] [0] (fun z45 => [w_Model ct aM z45.2 LM]) 0 0 10 rfl rfl rfl cl_X10_351 (c_X10_needsNumber l D ct F aM z18 LM 1 1) rfl (by decide) (fun _ => lc fa_Model (rfl)) rfl ⟨by decide, by decide⟩ (Nat.le_of_ble_eq_true rfl) rfl dX10_readsColumn_45 (fun z45 => ?_)
      refine im_ws (cat [w_Model ct aM z45.2 LM]) rfl ?_
      refine im_goto (tgt := 58) X dX10_readsColumn_48 rfl ?_
      refine im_lv [0] [(0, .ref (aM 0))] rfl ?_
      exact i_X10_readsColumn_58 X F aM z45.2 LM (2 + ((z18 2) (0 : Int32).toNatClampNeg)) z45.1 
  · refine im_aload_n X 0 dX10_readsColumn_11 rfl rfl ?_
    refine im_iload_n X 1 dX10_readsColumn_12 rfl rfl ?_
    refine im_ccvV X [.int x1] [] [w_Model ct aM M LM] [w_Model ct aM M LM] [0] (fun z13 => [w_Model ct aM z13 LM]) 0 0 10 rfl rfl rfl cl_X10_345 (c_X10_fails l D ct F aM M LM x1) rfl (by decide) (fun _ => lc fa_Model (rfl)) rfl ⟨by decide, by decide⟩ (Nat.le_of_ble_eq_true rfl) rfl dX10_readsColumn_13 (fun z13 => ?_)
    refine im_ws (cat [w_Model ct aM z13 LM]) rfl ?_
    exact im_return X z13 rfl dX10_readsColumn_16
theorem c_X10_readsColumn (l : Launch) (D : va_G) (ct : im_ct) (F : Nat) (aM : Nat → Nat) (M : Mem) (LM : MemL) (x1 : Int32) : CMv l D ct yX10_readsColumn cX10_readsColumn 2 none 3 [.ref (aM 0), .int x1] (cat [w_Model ct aM M LM]) (f_X10_readsColumn F M LM x1) (fun z : Mem => (cat [w_Model ct aM z LM])) :=
  im_met (Qb := fun A => QV D A (fun z : Mem => (cat [w_Model ct aM z LM]))) (by decide +kernel) (Nat.le_of_ble_eq_true rfl) (fun p e s m args below meth c A X => i_X10_readsColumn X F aM M LM x1)

noncomputable def f_X10_readsRow_19 (F : Nat) (M : Mem) (LM : MemL) (x1 : Int32) : Option (Mem) :=
  (f_X10_fails F M LM x1).bind (fun z21 => (some z21))
set_option maxRecDepth 100000 in
set_option maxHeartbeats 4000000 in
theorem i_X10_readsRow_19 {p : Program} {l : Launch} {e : Env} {s : State} {m : MethodId} {args : Array Value} {below : List Frame} {meth : Method} {c : Code} {D : va_G} {ct : im_ct} {A : Nat → Prop} (X : im_X p (im_rm 3) s m args meth c D ct A RX10 cX10_readsRow 4 none) (F : Nat) (aM : Nat → Nat) (M : Mem) (LM : MemL) (x1 : Int32) : Im p l e (im_rm 3) s m args below meth c D A 4 (QV D A (fun z : Mem => (cat [w_Model ct aM z LM]))) 19 [(0, .ref (aM 0)), (1, .int x1)] [] (cat [w_Model ct aM M LM]) (f_X10_readsRow_19 F M LM x1) := by
  unfold f_X10_readsRow_19
  refine im_aload_n X 0 dX10_readsRow_19 rfl rfl ?_
  refine im_iload_n X 1 dX10_readsRow_20 rfl rfl ?_
  refine im_ccvV X [.int x1] [] [w_Model ct aM M LM] [w_Model ct aM M LM] [0] (fun z21 => [w_Model ct aM z21 LM]) 0 0 10 rfl rfl rfl cl_X10_345 (c_X10_fails l D ct F aM M LM x1) rfl (by decide) (fun _ => lc fa_Model (rfl)) rfl ⟨by decide, by decide⟩ (Nat.le_of_ble_eq_true rfl) rfl dX10_readsRow_21 (fun z21 => ?_)
  refine im_ws (cat [w_Model ct aM z21 LM]) rfl ?_
  exact im_return X z21 rfl dX10_readsRow_24
noncomputable def f_X10_readsRow_33 (F : Nat) (LM : MemL) (k100 : Mem → Option (Mem)) : Nat → Mem → Int32 → Int32 → Option (Mem)
  | 0, _, _, _ => none
  | n + 1, M, x2, x3 =>
  (if x3 = 0 then k100 M else ck 1 226 ((f_X10_cell F ((M 2) (1 : Int32).toNatClampNeg) x2).bind (fun z50 => (f_X10_needsNumber F M LM 0 99).bind (fun z58 => ck (8 + z50) 226 ((if (z58.2 0 35) = (-1) then (if (z58.2 0 32) = 2 then ck 0 226 ((if ((upd (z58.2 2) ((8 + z50)).toNatClampNeg z58.1) (0 : Int32).toNatClampNeg) ≤ (x2 + 1) then f_X10_readsRow_33 F LM k100 n (mr z58.2 2 (upd (z58.2 2) ((8 + z50)).toNatClampNeg z58.1)) (x2 + 1) 0 else f_X10_readsRow_33 F LM k100 n (mr z58.2 2 (upd (z58.2 2) ((8 + z50)).toNatClampNeg z58.1)) (x2 + 1) 1)) else f_X10_readsRow_33 F LM k100 n (mr z58.2 2 (upd (z58.2 2) ((8 + z50)).toNatClampNeg z58.1)) (x2 + 1) 0) else f_X10_readsRow_33 F LM k100 n (mr z58.2 2 (upd (z58.2 2) ((8 + z50)).toNatClampNeg z58.1)) (x2 + 1) 0))))))
set_option maxRecDepth 100000 in
set_option maxHeartbeats 4000000 in
theorem i_X10_readsRow_33 {p : Program} {l : Launch} {e : Env} {s : State} {m : MethodId} {args : Array Value} {below : List Frame} {meth : Method} {c : Code} {D : va_G} {ct : im_ct} {A : Nat → Prop} (X : im_X p (im_rm 3) s m args meth c D ct A RX10 cX10_readsRow 4 none) (F : Nat) (aM : Nat → Nat) (LM : MemL) (k100 : Mem → Option (Mem)) (hk100 : ∀ (M : Mem), Im p l e (im_rm 3) s m args below meth c D A 4 (QV D A (fun z : Mem => (cat [w_Model ct aM z LM]))) 100 [(0, .ref (aM 0))] [] (cat [w_Model ct aM M LM]) (k100 M)) : ∀ (n : Nat) (M : Mem) (x2 : Int32) (x3 : Int32), Im p l e (im_rm 3) s m args below meth c D A 4 (QV D A (fun z : Mem => (cat [w_Model ct aM z LM]))) 33 [(0, .ref (aM 0)), (2, .int x2), (3, .int x3)] [] (cat [w_Model ct aM M LM]) (f_X10_readsRow_33 F LM k100 n M x2 x3) := by
  intro n
  induction n with
  | zero => intros; exact im_none
  | succ n ih =>
    intro M x2 x3
    unfold f_X10_readsRow_33
    refine im_iload_n X 2 dX10_readsRow_33 rfl rfl ?_
    refine im_if_eq (tgt := 100) X dX10_readsRow_34 rfl ?_ ?_
    · refine im_lv [0] [(0, .ref (aM 0))] rfl ?_
      exact hk100 M
    · refine im_aload_n X 0 dX10_readsRow_37 rfl rfl ?_
      refine im_cget X 0 0 (v := .ref (aM 2)) fl_X10_17 rfl rfl rfl dX10_readsRow_38 ?_
      refine im_bipush X 8 dX10_readsRow_41 (by decide) ?_
      refine im_aload_n X 0 dX10_readsRow_43 rfl rfl ?_
      refine im_cget X 0 0 (v := .ref (aM 2)) fl_X10_17 rfl rfl rfl dX10_readsRow_44 ?_
      refine im_iconst X 1 dX10_readsRow_47 (by decide) ?_
      refine im_ciald X 0 2 0 (f := (M 2)) rfl rfl rfl dX10_readsRow_48 ?_
      refine im_iload_n X 1 dX10_readsRow_49 rfl rfl ?_
      refine im_cciS X [.int ((M 2) (1 : Int32).toNatClampNeg), .int x2] [.int 8, .ref (aM 2)] [w_Model ct aM M LM] [] [] (fun z50 => []) cl_X10_101 (c_X10_cell l D ct F ((M 2) (1 : Int32).toNatClampNeg) x2) rfl (by decide) (fun _ => rfl) rfl ⟨by decide, by decide⟩ (Nat.le_of_ble_eq_true rfl) rfl dX10_readsRow_50 (fun z50 => ?_)
      refine im_ws (cat [w_Model ct aM M LM]) rfl ?_
      refine im_iadd X dX10_readsRow_53 ?_
      refine im_aload_n X 0 dX10_readsRow_54 rfl rfl ?_
      refine im_iconst X 0 dX10_readsRow_55 (by decide) ?_
      refine im_bipush X 99 dX10_readsRow_56 (by decide) ?_
      refine im_cciV X [.int 0, .int 99] [.int (8 + z50), .ref (aM 2)] [w_Model ct aM M LM] [w_Model ct aM M LM] [0] (fun z58 => [w_Model ct aM z58.2 LM]) 0 0 10 rfl rfl rfl cl_X10_351 (c_X10_needsNumber l D ct F aM M LM 0 99) rfl (by decide) (fun _ => lc fa_Model (rfl)) rfl ⟨by decide, by decide⟩ (Nat.le_of_ble_eq_true rfl) rfl dX10_readsRow_58 (fun z58 => ?_)
      refine im_ws (cat [w_Model ct aM z58.2 LM]) rfl ?_
      refine im_ciast X 0 2 0 (wx_Model ct aM (z58.2 0 0) (z58.2 0 4) (z58.2 0 6) (z58.2 0 7) (z58.2 0 8) (z58.2 0 9) (z58.2 0 24) (z58.2 0 27) (z58.2 0 29) (z58.2 0 31) (z58.2 0 32) (z58.2 0 33) (z58.2 0 34) (z58.2 0 35) (z58.2 1) (upd (z58.2 2) ((8 + z50)).toNatClampNeg z58.1) (z58.2 3) (z58.2 4) (z58.2 5) (z58.2 9) (z58.2 10) (z58.2 11) (z58.2 12) (z58.2 13) (z58.2 14) (z58.2 15) (z58.2 16) (z58.2 17) (z58.2 18) (z58.2 19) (z58.2 20) (z58.2 21) (z58.2 22) (LM 6) (LM 7) (LM 8)) [wx_Model ct aM (z58.2 0 0) (z58.2 0 4) (z58.2 0 6) (z58.2 0 7) (z58.2 0 8) (z58.2 0 9) (z58.2 0 24) (z58.2 0 27) (z58.2 0 29) (z58.2 0 31) (z58.2 0 32) (z58.2 0 33) (z58.2 0 34) (z58.2 0 35) (z58.2 1) (upd (z58.2 2) ((8 + z50)).toNatClampNeg z58.1) (z58.2 3) (z58.2 4) (z58.2 5) (z58.2 9) (z58.2 10) (z58.2 11) (z58.2 12) (z58.2 13) (z58.2 14) (z58.2 15) (z58.2 16) (z58.2 17) (z58.2 18) (z58.2 19) (z58.2 20) (z58.2 21) (z58.2 22) (LM 6) (LM 7) (LM 8)] (f := (z58.2 2)) rfl rfl rfl rfl rfl dX10_readsRow_61 ?_
      refine im_iinc X 1 1 [1, 0, 2] [(0, .ref (aM 0)), (2, .int (x2 + 1)), (3, .int x3)] dX10_readsRow_62 (by decide) rfl (by decide) rfl ?_
      refine im_aload_n X 0 dX10_readsRow_65 rfl rfl ?_
      refine im_cget X 0 0 (v := .int (z58.2 0 35)) fl_X10_342 rfl rfl rfl dX10_readsRow_66 ?_
      refine im_iconst X (-1) dX10_readsRow_69 (by decide) ?_
      refine im_icmp_ne (tgt := 95) X dX10_readsRow_70 rfl ?_ ?_
      · refine im_iconst X 0 dX10_readsRow_95 (by decide) ?_
        refine im_istore_n X [1, 2, 0] [(0, .ref (aM 0)), (2, .int (x2 + 1)), (3, .int 0)] dX10_readsRow_96 rfl (by decide) rfl ?_
        refine im_goto (tgt := 33) X dX10_readsRow_97 rfl ?_
        exact ih (mr z58.2 2 (upd (z58.2 2) ((8 + z50)).toNatClampNeg z58.1)) (x2 + 1) 0
      · refine im_aload_n X 0 dX10_readsRow_73 rfl rfl ?_
        refine im_cget X 0 0 (v := .int (z58.2 0 32)) fl_X10_322 rfl rfl rfl dX10_readsRow_74 ?_
        refine im_iconst X 2 dX10_readsRow_77 (by decide) ?_
        refine im_icmp_ne (tgt := 95) X dX10_readsRow_78 rfl ?_ ?_
        · refine im_iconst X 0 dX10_readsRow_95 (by decide) ?_
          refine im_istore_n X [1, 2, 0] [(0, .ref (aM 0)), (2, .int (x2 + 1)), (3, .int 0)] dX10_readsRow_96 rfl (by decide) rfl ?_
          refine im_goto (tgt := 33) X dX10_readsRow_97 rfl ?_
          exact ih (mr z58.2 2 (upd (z58.2 2) ((8 + z50)).toNatClampNeg z58.1)) (x2 + 1) 0
        · refine im_iload_n X 1 dX10_readsRow_81 rfl rfl ?_
          refine im_aload_n X 0 dX10_readsRow_82 rfl rfl ?_
          refine im_cget X 0 0 (v := .ref (aM 2)) fl_X10_17 rfl rfl rfl dX10_readsRow_83 ?_
          refine im_iconst X 0 dX10_readsRow_86 (by decide) ?_
          refine im_ciald X 0 2 0 (f := (upd (z58.2 2) ((8 + z50)).toNatClampNeg z58.1)) rfl rfl rfl dX10_readsRow_87 ?_
          refine im_icmp_ge (tgt := 95) X dX10_readsRow_88 rfl ?_ ?_
          · refine im_iconst X 0 dX10_readsRow_95 (by decide) ?_
            refine im_istore_n X [1, 2, 0] [(0, .ref (aM 0)), (2, .int (x2 + 1)), (3, .int 0)] dX10_readsRow_96 rfl (by decide) rfl ?_
            refine im_goto (tgt := 33) X dX10_readsRow_97 rfl ?_
            exact ih (mr z58.2 2 (upd (z58.2 2) ((8 + z50)).toNatClampNeg z58.1)) (x2 + 1) 0
          · refine im_iconst X 1 dX10_readsRow_91 (by decide) ?_
            refine im_goto (tgt := 96) X dX10_readsRow_92 rfl ?_
            refine im_istore_n X [1, 2, 0] [(0, .ref (aM 0)), (2, .int (x2 + 1)), (3, .int 1)] dX10_readsRow_96 rfl (by decide) rfl ?_
            refine im_goto (tgt := 33) X dX10_readsRow_97 rfl ?_
            exact ih (mr z58.2 2 (upd (z58.2 2) ((8 + z50)).toNatClampNeg z58.1)) (x2 + 1) 1
noncomputable def f_X10_readsRow (F : Nat) (M : Mem) (LM : MemL) (x1 : Int32) : Option (Mem) :=
  ck 1 226 ((if ((M 2) (1 : Int32).toNatClampNeg) = 4 then f_X10_readsRow_19 F M LM x1 else ck 0 226 ((if ((M 2) (0 : Int32).toNatClampNeg) = 0 then f_X10_readsRow_19 F M LM x1 else (f_X10_goesOn F M LM).bind (fun z26 => f_X10_readsRow_33 F LM (fun M_100 => (f_X10_needsClose F M_100 LM).bind (fun z101 => ck 1 226 (ck 1 226 ((some (mr z101 2 (upd (z101 2) (1 : Int32).toNatClampNeg (((z101 2) (1 : Int32).toNatClampNeg) + 1)))))))) F z26 0 1)))))
set_option maxRecDepth 100000 in
set_option maxHeartbeats 4000000 in
theorem i_X10_readsRow {p : Program} {l : Launch} {e : Env} {s : State} {m : MethodId} {args : Array Value} {below : List Frame} {meth : Method} {c : Code} {D : va_G} {ct : im_ct} {A : Nat → Prop} (X : im_X p (im_rm 3) s m args meth c D ct A RX10 cX10_readsRow 4 none) (F : Nat) (aM : Nat → Nat) (M : Mem) (LM : MemL) (x1 : Int32) : Im p l e (im_rm 3) s m args below meth c D A 4 (QV D A (fun z : Mem => (cat [w_Model ct aM z LM]))) 0 [(0, .ref (aM 0)), (1, .int x1)] [] (cat [w_Model ct aM M LM]) (f_X10_readsRow F M LM x1) := by
  unfold f_X10_readsRow
  refine im_aload_n X 0 dX10_readsRow_0 rfl rfl ?_
  refine im_cget X 0 0 (v := .ref (aM 2)) fl_X10_17 rfl rfl rfl dX10_readsRow_1 ?_
  refine im_iconst X 1 dX10_readsRow_4 (by decide) ?_
  refine im_ciald X 0 2 0 (f := (M 2)) rfl rfl rfl dX10_readsRow_5 ?_
  refine im_iconst X 4 dX10_readsRow_6 (by decide) ?_
  refine im_icmp_eq (tgt := 19) X dX10_readsRow_7 rfl ?_ ?_
  · exact i_X10_readsRow_19 X F aM M LM x1 
  · refine im_aload_n X 0 dX10_readsRow_10 rfl rfl ?_
    refine im_cget X 0 0 (v := .ref (aM 2)) fl_X10_17 rfl rfl rfl dX10_readsRow_11 ?_
    refine im_iconst X 0 dX10_readsRow_14 (by decide) ?_
    refine im_ciald X 0 2 0 (f := (M 2)) rfl rfl rfl dX10_readsRow_15 ?_
    refine im_if_ne (tgt := 25) X dX10_readsRow_16 rfl ?_ ?_
    · refine im_aload_n X 0 dX10_readsRow_25 rfl rfl ?_
      refine im_ccvV X [] [] [w_Model ct aM M LM] [w_Model ct aM M LM] [0] (fun z26 => [w_Model ct aM z26 LM]) 0 0 10 rfl rfl rfl cl_X10_348 (c_X10_goesOn l D ct F aM M LM) rfl (by decide) (fun _ => lc fa_Model (rfl)) rfl ⟨by decide, by decide⟩ (Nat.le_of_ble_eq_true rfl) rfl dX10_readsRow_26 (fun z26 => ?_)
      refine im_ws (cat [w_Model ct aM z26 LM]) rfl ?_
      refine im_iconst X 0 dX10_readsRow_29 (by decide) ?_
      refine im_istore_n X [1, 2, 0] [(0, .ref (aM 0)), (1, .int x1), (2, .int 0)] dX10_readsRow_30 rfl (by decide) rfl ?_
      refine im_iconst X 1 dX10_readsRow_31 (by decide) ?_
      refine im_istore_n X [1, 2, 3, 0] [(0, .ref (aM 0)), (1, .int x1), (2, .int 0), (3, .int 1)] dX10_readsRow_32 rfl (by decide) rfl ?_
      refine im_lv [0, 2, 3] [(0, .ref (aM 0)), (2, .int 0), (3, .int 1)] rfl ?_
      refine i_X10_readsRow_33 X F aM LM  _ (fun M_100 => ?_) F z26 0 1
      refine im_aload_n X 0 dX10_readsRow_100 rfl rfl ?_
      refine im_ccvV X [] [] [w_Model ct aM M_100 LM] [w_Model ct aM M_100 LM] [0] (fun z101 => [w_Model ct aM z101 LM]) 0 0 10 rfl rfl rfl cl_X10_354 (c_X10_needsClose l D ct F aM M_100 LM) rfl (by decide) (fun _ => lc fa_Model (rfl)) rfl ⟨by decide, by decide⟩ (Nat.le_of_ble_eq_true rfl) rfl dX10_readsRow_101 (fun z101 => ?_)
      refine im_ws (cat [w_Model ct aM z101 LM]) rfl ?_
      refine im_aload_n X 0 dX10_readsRow_104 rfl rfl ?_
      refine im_cget X 0 0 (v := .ref (aM 2)) fl_X10_17 rfl rfl rfl dX10_readsRow_105 ?_
      refine im_iconst X 1 dX10_readsRow_108 (by decide) ?_
      refine im_dup2_11 X rfl rfl dX10_readsRow_109 ?_
      refine im_ciald X 0 2 0 (f := (z101 2)) rfl rfl rfl dX10_readsRow_110 ?_
      refine im_iconst X 1 dX10_readsRow_111 (by decide) ?_
      refine im_iadd X dX10_readsRow_112 ?_
      refine im_ciast X 0 2 0 (wx_Model ct aM (z101 0 0) (z101 0 4) (z101 0 6) (z101 0 7) (z101 0 8) (z101 0 9) (z101 0 24) (z101 0 27) (z101 0 29) (z101 0 31) (z101 0 32) (z101 0 33) (z101 0 34) (z101 0 35) (z101 1) (upd (z101 2) (1 : Int32).toNatClampNeg (((z101 2) (1 : Int32).toNatClampNeg) + 1)) (z101 3) (z101 4) (z101 5) (z101 9) (z101 10) (z101 11) (z101 12) (z101 13) (z101 14) (z101 15) (z101 16) (z101 17) (z101 18) (z101 19) (z101 20) (z101 21) (z101 22) (LM 6) (LM 7) (LM 8)) [wx_Model ct aM (z101 0 0) (z101 0 4) (z101 0 6) (z101 0 7) (z101 0 8) (z101 0 9) (z101 0 24) (z101 0 27) (z101 0 29) (z101 0 31) (z101 0 32) (z101 0 33) (z101 0 34) (z101 0 35) (z101 1) (upd (z101 2) (1 : Int32).toNatClampNeg (((z101 2) (1 : Int32).toNatClampNeg) + 1)) (z101 3) (z101 4) (z101 5) (z101 9) (z101 10) (z101 11) (z101 12) (z101 13) (z101 14) (z101 15) (z101 16) (z101 17) (z101 18) (z101 19) (z101 20) (z101 21) (z101 22) (LM 6) (LM 7) (LM 8)] (f := (z101 2)) rfl rfl rfl rfl rfl dX10_readsRow_113 ?_
      exact im_return X (mr z101 2 (upd (z101 2) (1 : Int32).toNatClampNeg (((z101 2) (1 : Int32).toNatClampNeg) + 1))) rfl dX10_readsRow_114
    · exact i_X10_readsRow_19 X F aM M LM x1 
theorem c_X10_readsRow (l : Launch) (D : va_G) (ct : im_ct) (F : Nat) (aM : Nat → Nat) (M : Mem) (LM : MemL) (x1 : Int32) : CMv l D ct yX10_readsRow cX10_readsRow 4 none 3 [.ref (aM 0), .int x1] (cat [w_Model ct aM M LM]) (f_X10_readsRow F M LM x1) (fun z : Mem => (cat [w_Model ct aM z LM])) :=
  im_met (Qb := fun A => QV D A (fun z : Mem => (cat [w_Model ct aM z LM]))) (by decide +kernel) (Nat.le_of_ble_eq_true rfl) (fun p e s m args below meth c A X => i_X10_readsRow X F aM M LM x1)

noncomputable def f_X10_trades_2 (F : Nat) (LM : MemL) (k41 : Mem → Option (Mem)) : Nat → Mem → Int32 → Option (Mem)
  | 0, _, _ => none
  | n + 1, M, x1 =>
  (if 226 ≤ x1 then k41 M else ck x1 226 (ck x1 226 (ck x1 226 (ck x1 226 (f_X10_trades_2 F LM k41 n (mr (mr M 1 (upd (M 1) x1.toNatClampNeg ((M 2) x1.toNatClampNeg))) 2 (upd (M 2) x1.toNatClampNeg ((M 1) x1.toNatClampNeg))) (x1 + 1))))))
set_option maxRecDepth 100000 in
set_option maxHeartbeats 4000000 in
theorem i_X10_trades_2 {p : Program} {l : Launch} {e : Env} {s : State} {m : MethodId} {args : Array Value} {below : List Frame} {meth : Method} {c : Code} {D : va_G} {ct : im_ct} {A : Nat → Prop} (X : im_X p (im_rm 0) s m args meth c D ct A RX10 cX10_trades 3 none) (F : Nat) (aM : Nat → Nat) (LM : MemL) (k41 : Mem → Option (Mem)) (hk41 : ∀ (M : Mem), Im p l e (im_rm 0) s m args below meth c D A 3 (QV D A (fun z : Mem => (cat [w_Model ct aM z LM]))) 41 [] [] (cat [w_Model ct aM M LM]) (k41 M)) : ∀ (n : Nat) (M : Mem) (x1 : Int32), Im p l e (im_rm 0) s m args below meth c D A 3 (QV D A (fun z : Mem => (cat [w_Model ct aM z LM]))) 2 [(0, .ref (aM 0)), (1, .int x1)] [] (cat [w_Model ct aM M LM]) (f_X10_trades_2 F LM k41 n M x1) := by
  intro n
  induction n with
  | zero => intros; exact im_none
  | succ n ih =>
    intro M x1
    unfold f_X10_trades_2
    refine im_iload_n X 1 dX10_trades_2 rfl rfl ?_
    refine im_sipush X 226 dX10_trades_3 (by decide) ?_
    refine im_icmp_ge (tgt := 41) X dX10_trades_6 rfl ?_ ?_
    · refine im_lv [] [] rfl ?_
      exact hk41 M
    · refine im_aload_n X 0 dX10_trades_9 rfl rfl ?_
      refine im_cget X 0 0 (v := .ref (aM 1)) fl_X10_13 rfl rfl rfl dX10_trades_10 ?_
      refine im_iload_n X 1 dX10_trades_13 rfl rfl ?_
      refine im_ciald X 0 1 0 (f := (M 1)) rfl rfl rfl dX10_trades_14 ?_
      refine im_istore_n X [1, 2, 0] [(0, .ref (aM 0)), (1, .int x1), (2, .int ((M 1) x1.toNatClampNeg))] dX10_trades_15 rfl (by decide) rfl ?_
      refine im_aload_n X 0 dX10_trades_16 rfl rfl ?_
      refine im_cget X 0 0 (v := .ref (aM 1)) fl_X10_13 rfl rfl rfl dX10_trades_17 ?_
      refine im_iload_n X 1 dX10_trades_20 rfl rfl ?_
      refine im_aload_n X 0 dX10_trades_21 rfl rfl ?_
      refine im_cget X 0 0 (v := .ref (aM 2)) fl_X10_17 rfl rfl rfl dX10_trades_22 ?_
      refine im_iload_n X 1 dX10_trades_25 rfl rfl ?_
      refine im_ciald X 0 2 0 (f := (M 2)) rfl rfl rfl dX10_trades_26 ?_
      refine im_ciast X 0 1 0 (wx_Model ct aM (M 0 0) (M 0 4) (M 0 6) (M 0 7) (M 0 8) (M 0 9) (M 0 24) (M 0 27) (M 0 29) (M 0 31) (M 0 32) (M 0 33) (M 0 34) (M 0 35) (upd (M 1) x1.toNatClampNeg ((M 2) x1.toNatClampNeg)) (M 2) (M 3) (M 4) (M 5) (M 9) (M 10) (M 11) (M 12) (M 13) (M 14) (M 15) (M 16) (M 17) (M 18) (M 19) (M 20) (M 21) (M 22) (LM 6) (LM 7) (LM 8)) [wx_Model ct aM (M 0 0) (M 0 4) (M 0 6) (M 0 7) (M 0 8) (M 0 9) (M 0 24) (M 0 27) (M 0 29) (M 0 31) (M 0 32) (M 0 33) (M 0 34) (M 0 35) (upd (M 1) x1.toNatClampNeg ((M 2) x1.toNatClampNeg)) (M 2) (M 3) (M 4) (M 5) (M 9) (M 10) (M 11) (M 12) (M 13) (M 14) (M 15) (M 16) (M 17) (M 18) (M 19) (M 20) (M 21) (M 22) (LM 6) (LM 7) (LM 8)] (f := (M 1)) rfl rfl rfl rfl rfl dX10_trades_27 ?_
      refine im_aload_n X 0 dX10_trades_28 rfl rfl ?_
      refine im_cget X 0 0 (v := .ref (aM 2)) fl_X10_17 rfl rfl rfl dX10_trades_29 ?_
      refine im_iload_n X 1 dX10_trades_32 rfl rfl ?_
      refine im_iload_n X 2 dX10_trades_33 rfl rfl ?_
      refine im_ciast X 0 2 0 (wx_Model ct aM (M 0 0) (M 0 4) (M 0 6) (M 0 7) (M 0 8) (M 0 9) (M 0 24) (M 0 27) (M 0 29) (M 0 31) (M 0 32) (M 0 33) (M 0 34) (M 0 35) (upd (M 1) x1.toNatClampNeg ((M 2) x1.toNatClampNeg)) (upd (M 2) x1.toNatClampNeg ((M 1) x1.toNatClampNeg)) (M 3) (M 4) (M 5) (M 9) (M 10) (M 11) (M 12) (M 13) (M 14) (M 15) (M 16) (M 17) (M 18) (M 19) (M 20) (M 21) (M 22) (LM 6) (LM 7) (LM 8)) [wx_Model ct aM (M 0 0) (M 0 4) (M 0 6) (M 0 7) (M 0 8) (M 0 9) (M 0 24) (M 0 27) (M 0 29) (M 0 31) (M 0 32) (M 0 33) (M 0 34) (M 0 35) (upd (M 1) x1.toNatClampNeg ((M 2) x1.toNatClampNeg)) (upd (M 2) x1.toNatClampNeg ((M 1) x1.toNatClampNeg)) (M 3) (M 4) (M 5) (M 9) (M 10) (M 11) (M 12) (M 13) (M 14) (M 15) (M 16) (M 17) (M 18) (M 19) (M 20) (M 21) (M 22) (LM 6) (LM 7) (LM 8)] (f := (M 2)) rfl rfl rfl rfl rfl dX10_trades_34 ?_
      refine im_iinc X 1 1 [1, 0, 2] [(0, .ref (aM 0)), (1, .int (x1 + 1)), (2, .int ((M 1) x1.toNatClampNeg))] dX10_trades_35 (by decide) rfl (by decide) rfl ?_
      refine im_goto (tgt := 2) X dX10_trades_38 rfl ?_
      refine im_lv [0, 1] [(0, .ref (aM 0)), (1, .int (x1 + 1))] rfl ?_
      exact ih (mr (mr M 1 (upd (M 1) x1.toNatClampNeg ((M 2) x1.toNatClampNeg))) 2 (upd (M 2) x1.toNatClampNeg ((M 1) x1.toNatClampNeg))) (x1 + 1)
noncomputable def f_X10_trades (F : Nat) (M : Mem) (LM : MemL) : Option (Mem) :=
  f_X10_trades_2 F LM (fun M_41 => (some M_41)) F M 0
set_option maxRecDepth 100000 in
set_option maxHeartbeats 4000000 in
theorem i_X10_trades {p : Program} {l : Launch} {e : Env} {s : State} {m : MethodId} {args : Array Value} {below : List Frame} {meth : Method} {c : Code} {D : va_G} {ct : im_ct} {A : Nat → Prop} (X : im_X p (im_rm 0) s m args meth c D ct A RX10 cX10_trades 3 none) (F : Nat) (aM : Nat → Nat) (M : Mem) (LM : MemL) : Im p l e (im_rm 0) s m args below meth c D A 3 (QV D A (fun z : Mem => (cat [w_Model ct aM z LM]))) 0 [(0, .ref (aM 0))] [] (cat [w_Model ct aM M LM]) (f_X10_trades F M LM) := by
  unfold f_X10_trades
  refine im_iconst X 0 dX10_trades_0 (by decide) ?_
  refine im_istore_n X [1, 0] [(0, .ref (aM 0)), (1, .int 0)] dX10_trades_1 rfl (by decide) rfl ?_
  refine i_X10_trades_2 X F aM LM  _ (fun M_41 => ?_) F M 0
  exact im_return X M_41 rfl dX10_trades_41
theorem c_X10_trades (l : Launch) (D : va_G) (ct : im_ct) (F : Nat) (aM : Nat → Nat) (M : Mem) (LM : MemL) : CMv l D ct yX10_trades cX10_trades 3 none 0 [.ref (aM 0)] (cat [w_Model ct aM M LM]) (f_X10_trades F M LM) (fun z : Mem => (cat [w_Model ct aM z LM])) :=
  im_met (Qb := fun A => QV D A (fun z : Mem => (cat [w_Model ct aM z LM]))) (by decide +kernel) (Nat.le_of_ble_eq_true rfl) (fun p e s m args below meth c A X => i_X10_trades X F aM M LM)

noncomputable def f_X10_readsMove_203 (F : Nat) (M : Mem) (LM : MemL) (x1 : Int32) (x7 : Int32) : Option (Mem) :=
  (f_X10_trades F M LM).bind (fun z204 => (if x7 = 0 then (f_X10_fails F z204 LM x1).bind (fun z214 => (some z214)) else (some z204)))
set_option maxRecDepth 100000 in
set_option maxHeartbeats 4000000 in
theorem i_X10_readsMove_203 {p : Program} {l : Launch} {e : Env} {s : State} {m : MethodId} {args : Array Value} {below : List Frame} {meth : Method} {c : Code} {D : va_G} {ct : im_ct} {A : Nat → Prop} (X : im_X p (im_rm 5) s m args meth c D ct A RX10 cX10_readsMove 9 none) (F : Nat) (aM : Nat → Nat) (M : Mem) (LM : MemL) (x1 : Int32) (x7 : Int32) : Im p l e (im_rm 5) s m args below meth c D A 9 (QV D A (fun z : Mem => (cat [w_Model ct aM z LM]))) 203 [(0, .ref (aM 0)), (1, .int x1), (7, .int x7)] [] (cat [w_Model ct aM M LM]) (f_X10_readsMove_203 F M LM x1 x7) := by
  unfold f_X10_readsMove_203
  refine im_aload_n X 0 dX10_readsMove_203 rfl rfl ?_
  refine im_ccvV X [] [] [w_Model ct aM M LM] [w_Model ct aM M LM] [0] (fun z204 => [w_Model ct aM z204 LM]) 0 0 10 rfl rfl rfl cl_X10_357 (c_X10_trades l D ct F aM M LM) rfl (by decide) (fun _ => lc fa_Model (rfl)) rfl ⟨by decide, by decide⟩ (Nat.le_of_ble_eq_true rfl) rfl dX10_readsMove_204 (fun z204 => ?_)
  refine im_ws (cat [w_Model ct aM z204 LM]) rfl ?_
  refine im_iload X 2 dX10_readsMove_207 rfl ?_
  refine im_if_ne (tgt := 217) X dX10_readsMove_209 rfl ?_ ?_
  · exact im_return X z204 rfl dX10_readsMove_217
  · refine im_aload_n X 0 dX10_readsMove_212 rfl rfl ?_
    refine im_iload_n X 1 dX10_readsMove_213 rfl rfl ?_
    refine im_ccvV X [.int x1] [] [w_Model ct aM z204 LM] [w_Model ct aM z204 LM] [0] (fun z214 => [w_Model ct aM z214 LM]) 0 0 10 rfl rfl rfl cl_X10_345 (c_X10_fails l D ct F aM z204 LM x1) rfl (by decide) (fun _ => lc fa_Model (rfl)) rfl ⟨by decide, by decide⟩ (Nat.le_of_ble_eq_true rfl) rfl dX10_readsMove_214 (fun z214 => ?_)
    refine im_ws (cat [w_Model ct aM z214 LM]) rfl ?_
    exact im_return X z214 rfl dX10_readsMove_217
noncomputable def f_X10_readsMove_111 (F : Nat) (M : Mem) (LM : MemL) (x1 : Int32) (x2 : Int32) (x3 : Int32) (x4 : Int32) (x5 : Int32) (x6 : Int32) (s0 : Int32) : Option (Mem) :=
  (if s0 = 0 then f_X10_readsMove_203 F M LM x1 s0 else (f_X10_goes F M LM 1).bind (fun z120 => (f_X10_takesNow F z120 LM).bind (fun z124 => ck 56 226 (ck (57 + (5 * ((z124 1) (56 : Int32).toNatClampNeg))) 226 (ck ((57 + (5 * ((z124 1) (56 : Int32).toNatClampNeg))) + 1) 226 (ck ((57 + (5 * ((z124 1) (56 : Int32).toNatClampNeg))) + 2) 226 (ck ((57 + (5 * ((z124 1) (56 : Int32).toNatClampNeg))) + 3) 226 (ck ((57 + (5 * ((z124 1) (56 : Int32).toNatClampNeg))) + 4) 226 (ck 56 226 (ck 56 226 (f_X10_readsMove_203 F (mr z124 1 (upd (upd (upd (upd (upd (upd (z124 1) ((57 + (5 * ((z124 1) (56 : Int32).toNatClampNeg)))).toNatClampNeg x2) (((57 + (5 * ((z124 1) (56 : Int32).toNatClampNeg))) + 1)).toNatClampNeg x3) (((57 + (5 * ((z124 1) (56 : Int32).toNatClampNeg))) + 2)).toNatClampNeg x5) (((57 + (5 * ((z124 1) (56 : Int32).toNatClampNeg))) + 3)).toNatClampNeg x6) (((57 + (5 * ((z124 1) (56 : Int32).toNatClampNeg))) + 4)).toNatClampNeg x4) (56 : Int32).toNatClampNeg (((upd (upd (upd (upd (upd (z124 1) ((57 + (5 * ((z124 1) (56 : Int32).toNatClampNeg)))).toNatClampNeg x2) (((57 + (5 * ((z124 1) (56 : Int32).toNatClampNeg))) + 1)).toNatClampNeg x3) (((57 + (5 * ((z124 1) (56 : Int32).toNatClampNeg))) + 2)).toNatClampNeg x5) (((57 + (5 * ((z124 1) (56 : Int32).toNatClampNeg))) + 3)).toNatClampNeg x6) (((57 + (5 * ((z124 1) (56 : Int32).toNatClampNeg))) + 4)).toNatClampNeg x4) (56 : Int32).toNatClampNeg) + 1))) LM x1 s0)))))))))))
set_option maxRecDepth 100000 in
set_option maxHeartbeats 4000000 in
theorem i_X10_readsMove_111 {p : Program} {l : Launch} {e : Env} {s : State} {m : MethodId} {args : Array Value} {below : List Frame} {meth : Method} {c : Code} {D : va_G} {ct : im_ct} {A : Nat → Prop} (X : im_X p (im_rm 5) s m args meth c D ct A RX10 cX10_readsMove 9 none) (F : Nat) (aM : Nat → Nat) (M : Mem) (LM : MemL) (x1 : Int32) (x2 : Int32) (x3 : Int32) (x4 : Int32) (x5 : Int32) (x6 : Int32) (s0 : Int32) : Im p l e (im_rm 5) s m args below meth c D A 9 (QV D A (fun z : Mem => (cat [w_Model ct aM z LM]))) 111 [(0, .ref (aM 0)), (1, .int x1), (2, .int x2), (3, .int x3), (4, .int x4), (5, .int x5), (6, .int x6)] [.int s0] (cat [w_Model ct aM M LM]) (f_X10_readsMove_111 F M LM x1 x2 x3 x4 x5 x6 s0) := by
  unfold f_X10_readsMove_111
  refine im_istore X [1, 2, 3, 4, 5, 6, 7, 0] [(0, .ref (aM 0)), (1, .int x1), (2, .int x2), (3, .int x3), (4, .int x4), (5, .int x5), (6, .int x6), (7, .int s0)] dX10_readsMove_111 (by decide) rfl ?_
  refine im_iload X 7 dX10_readsMove_113 rfl ?_
  refine im_if_eq (tgt := 203) X dX10_readsMove_115 rfl ?_ ?_
  · refine im_lv [0, 1, 7] [(0, .ref (aM 0)), (1, .int x1), (7, .int s0)] rfl ?_
    exact i_X10_readsMove_203 X F aM M LM x1 s0 
  · refine im_aload_n X 0 dX10_readsMove_118 rfl rfl ?_
    refine im_iconst X 1 dX10_readsMove_119 (by decide) ?_
    refine im_ccvV X [.int 1] [] [w_Model ct aM M LM] [w_Model ct aM M LM] [0] (fun z120 => [w_Model ct aM z120 LM]) 0 0 10 rfl rfl rfl cl_X10_161 (c_X10_goes l D ct F aM M LM 1) rfl (by decide) (fun _ => lc fa_Model (rfl)) rfl ⟨by decide, by decide⟩ (Nat.le_of_ble_eq_true rfl) rfl dX10_readsMove_120 (fun z120 => ?_)
    refine im_ws (cat [w_Model ct aM z120 LM]) rfl ?_
    refine im_aload_n X 0 dX10_readsMove_123 rfl rfl ?_
    refine im_ccvV X [] [] [w_Model ct aM z120 LM] [w_Model ct aM z120 LM] [0] (fun z124 => [w_Model ct aM z124 LM]) 0 0 10 rfl rfl rfl cl_X10_165 (c_X10_takesNow l D ct F aM z120 LM) rfl (by decide) (fun _ => lc fa_Model (rfl)) rfl ⟨by decide, by decide⟩ (Nat.le_of_ble_eq_true rfl) rfl dX10_readsMove_124 (fun z124 => ?_)
    refine im_ws (cat [w_Model ct aM z124 LM]) rfl ?_
    refine im_bipush X 57 dX10_readsMove_127 (by decide) ?_
    refine im_iconst X 5 dX10_readsMove_129 (by decide) ?_
    refine im_aload_n X 0 dX10_readsMove_130 rfl rfl ?_
    refine im_cget X 0 0 (v := .ref (aM 1)) fl_X10_13 rfl rfl rfl dX10_readsMove_131 ?_
    refine im_bipush X 56 dX10_readsMove_134 (by decide) ?_
    refine im_ciald X 0 1 0 (f := (z124 1)) rfl rfl rfl dX10_readsMove_136 ?_
    refine im_imul X dX10_readsMove_137 ?_
    refine im_iadd X dX10_readsMove_138 ?_
    refine im_istore X [1, 2, 3, 4, 5, 6, 7, 8, 0] [(0, .ref (aM 0)), (1, .int x1), (2, .int x2), (3, .int x3), (4, .int x4), (5, .int x5), (6, .int x6), (7, .int s0), (8, .int (57 + (5 * ((z124 1) (56 : Int32).toNatClampNeg))))] dX10_readsMove_139 (by decide) rfl ?_
    refine im_aload_n X 0 dX10_readsMove_141 rfl rfl ?_
    refine im_cget X 0 0 (v := .ref (aM 1)) fl_X10_13 rfl rfl rfl dX10_readsMove_142 ?_
    refine im_iload X 8 dX10_readsMove_145 rfl ?_
    refine im_iload_n X 2 dX10_readsMove_147 rfl rfl ?_
    refine im_ciast X 0 1 0 (wx_Model ct aM (z124 0 0) (z124 0 4) (z124 0 6) (z124 0 7) (z124 0 8) (z124 0 9) (z124 0 24) (z124 0 27) (z124 0 29) (z124 0 31) (z124 0 32) (z124 0 33) (z124 0 34) (z124 0 35) (upd (z124 1) ((57 + (5 * ((z124 1) (56 : Int32).toNatClampNeg)))).toNatClampNeg x2) (z124 2) (z124 3) (z124 4) (z124 5) (z124 9) (z124 10) (z124 11) (z124 12) (z124 13) (z124 14) (z124 15) (z124 16) (z124 17) (z124 18) (z124 19) (z124 20) (z124 21) (z124 22) (LM 6) (LM 7) (LM 8)) [wx_Model ct aM (z124 0 0) (z124 0 4) (z124 0 6) (z124 0 7) (z124 0 8) (z124 0 9) (z124 0 24) (z124 0 27) (z124 0 29) (z124 0 31) (z124 0 32) (z124 0 33) (z124 0 34) (z124 0 35) (upd (z124 1) ((57 + (5 * ((z124 1) (56 : Int32).toNatClampNeg)))).toNatClampNeg x2) (z124 2) (z124 3) (z124 4) (z124 5) (z124 9) (z124 10) (z124 11) (z124 12) (z124 13) (z124 14) (z124 15) (z124 16) (z124 17) (z124 18) (z124 19) (z124 20) (z124 21) (z124 22) (LM 6) (LM 7) (LM 8)] (f := (z124 1)) rfl rfl rfl rfl rfl dX10_readsMove_148 ?_
    refine im_aload_n X 0 dX10_readsMove_149 rfl rfl ?_
    refine im_cget X 0 0 (v := .ref (aM 1)) fl_X10_13 rfl rfl rfl dX10_readsMove_150 ?_
    refine im_iload X 8 dX10_readsMove_153 rfl ?_
    refine im_iconst X 1 dX10_readsMove_155 (by decide) ?_
    refine im_iadd X dX10_readsMove_156 ?_
    refine im_iload_n X 3 dX10_readsMove_157 rfl rfl ?_
    refine im_ciast X 0 1 0 (wx_Model ct aM (z124 0 0) (z124 0 4) (z124 0 6) (z124 0 7) (z124 0 8) (z124 0 9) (z124 0 24) (z124 0 27) (z124 0 29) (z124 0 31) (z124 0 32) (z124 0 33) (z124 0 34) (z124 0 35) (upd (upd (z124 1) ((57 + (5 * ((z124 1) (56 : Int32).toNatClampNeg)))).toNatClampNeg x2) (((57 + (5 * ((z124 1) (56 : Int32).toNatClampNeg))) + 1)).toNatClampNeg x3) (z124 2) (z124 3) (z124 4) (z124 5) (z124 9) (z124 10) (z124 11) (z124 12) (z124 13) (z124 14) (z124 15) (z124 16) (z124 17) (z124 18) (z124 19) (z124 20) (z124 21) (z124 22) (LM 6) (LM 7) (LM 8)) [wx_Model ct aM (z124 0 0) (z124 0 4) (z124 0 6) (z124 0 7) (z124 0 8) (z124 0 9) (z124 0 24) (z124 0 27) (z124 0 29) (z124 0 31) (z124 0 32) (z124 0 33) (z124 0 34) (z124 0 35) (upd (upd (z124 1) ((57 + (5 * ((z124 1) (56 : Int32).toNatClampNeg)))).toNatClampNeg x2) (((57 + (5 * ((z124 1) (56 : Int32).toNatClampNeg))) + 1)).toNatClampNeg x3) (z124 2) (z124 3) (z124 4) (z124 5) (z124 9) (z124 10) (z124 11) (z124 12) (z124 13) (z124 14) (z124 15) (z124 16) (z124 17) (z124 18) (z124 19) (z124 20) (z124 21) (z124 22) (LM 6) (LM 7) (LM 8)] (f := (upd (z124 1) ((57 + (5 * ((z124 1) (56 : Int32).toNatClampNeg)))).toNatClampNeg x2)) rfl rfl rfl rfl rfl dX10_readsMove_158 ?_
    refine im_aload_n X 0 dX10_readsMove_159 rfl rfl ?_
    refine im_cget X 0 0 (v := .ref (aM 1)) fl_X10_13 rfl rfl rfl dX10_readsMove_160 ?_
    refine im_iload X 8 dX10_readsMove_163 rfl ?_
    refine im_iconst X 2 dX10_readsMove_165 (by decide) ?_
    refine im_iadd X dX10_readsMove_166 ?_
    refine im_iload X 5 dX10_readsMove_167 rfl ?_
    refine im_ciast X 0 1 0 (wx_Model ct aM (z124 0 0) (z124 0 4) (z124 0 6) (z124 0 7) (z124 0 8) (z124 0 9) (z124 0 24) (z124 0 27) (z124 0 29) (z124 0 31) (z124 0 32) (z124 0 33) (z124 0 34) (z124 0 35) (upd (upd (upd (z124 1) ((57 + (5 * ((z124 1) (56 : Int32).toNatClampNeg)))).toNatClampNeg x2) (((57 + (5 * ((z124 1) (56 : Int32).toNatClampNeg))) + 1)).toNatClampNeg x3) (((57 + (5 * ((z124 1) (56 : Int32).toNatClampNeg))) + 2)).toNatClampNeg x5) (z124 2) (z124 3) (z124 4) (z124 5) (z124 9) (z124 10) (z124 11) (z124 12) (z124 13) (z124 14) (z124 15) (z124 16) (z124 17) (z124 18) (z124 19) (z124 20) (z124 21) (z124 22) (LM 6) (LM 7) (LM 8)) [wx_Model ct aM (z124 0 0) (z124 0 4) (z124 0 6) (z124 0 7) (z124 0 8) (z124 0 9) (z124 0 24) (z124 0 27) (z124 0 29) (z124 0 31) (z124 0 32) (z124 0 33) (z124 0 34) (z124 0 35) (upd (upd (upd (z124 1) ((57 + (5 * ((z124 1) (56 : Int32).toNatClampNeg)))).toNatClampNeg x2) (((57 + (5 * ((z124 1) (56 : Int32).toNatClampNeg))) + 1)).toNatClampNeg x3) (((57 + (5 * ((z124 1) (56 : Int32).toNatClampNeg))) + 2)).toNatClampNeg x5) (z124 2) (z124 3) (z124 4) (z124 5) (z124 9) (z124 10) (z124 11) (z124 12) (z124 13) (z124 14) (z124 15) (z124 16) (z124 17) (z124 18) (z124 19) (z124 20) (z124 21) (z124 22) (LM 6) (LM 7) (LM 8)] (f := (upd (upd (z124 1) ((57 + (5 * ((z124 1) (56 : Int32).toNatClampNeg)))).toNatClampNeg x2) (((57 + (5 * ((z124 1) (56 : Int32).toNatClampNeg))) + 1)).toNatClampNeg x3)) rfl rfl rfl rfl rfl dX10_readsMove_169 ?_
    refine im_aload_n X 0 dX10_readsMove_170 rfl rfl ?_
    refine im_cget X 0 0 (v := .ref (aM 1)) fl_X10_13 rfl rfl rfl dX10_readsMove_171 ?_
    refine im_iload X 8 dX10_readsMove_174 rfl ?_
    refine im_iconst X 3 dX10_readsMove_176 (by decide) ?_
    refine im_iadd X dX10_readsMove_177 ?_
    refine im_iload X 6 dX10_readsMove_178 rfl ?_
    refine im_ciast X 0 1 0 (wx_Model ct aM (z124 0 0) (z124 0 4) (z124 0 6) (z124 0 7) (z124 0 8) (z124 0 9) (z124 0 24) (z124 0 27) (z124 0 29) (z124 0 31) (z124 0 32) (z124 0 33) (z124 0 34) (z124 0 35) (upd (upd (upd (upd (z124 1) ((57 + (5 * ((z124 1) (56 : Int32).toNatClampNeg)))).toNatClampNeg x2) (((57 + (5 * ((z124 1) (56 : Int32).toNatClampNeg))) + 1)).toNatClampNeg x3) (((57 + (5 * ((z124 1) (56 : Int32).toNatClampNeg))) + 2)).toNatClampNeg x5) (((57 + (5 * ((z124 1) (56 : Int32).toNatClampNeg))) + 3)).toNatClampNeg x6) (z124 2) (z124 3) (z124 4) (z124 5) (z124 9) (z124 10) (z124 11) (z124 12) (z124 13) (z124 14) (z124 15) (z124 16) (z124 17) (z124 18) (z124 19) (z124 20) (z124 21) (z124 22) (LM 6) (LM 7) (LM 8)) [wx_Model ct aM (z124 0 0) (z124 0 4) (z124 0 6) (z124 0 7) (z124 0 8) (z124 0 9) (z124 0 24) (z124 0 27) (z124 0 29) (z124 0 31) (z124 0 32) (z124 0 33) (z124 0 34) (z124 0 35) (upd (upd (upd (upd (z124 1) ((57 + (5 * ((z124 1) (56 : Int32).toNatClampNeg)))).toNatClampNeg x2) (((57 + (5 * ((z124 1) (56 : Int32).toNatClampNeg))) + 1)).toNatClampNeg x3) (((57 + (5 * ((z124 1) (56 : Int32).toNatClampNeg))) + 2)).toNatClampNeg x5) (((57 + (5 * ((z124 1) (56 : Int32).toNatClampNeg))) + 3)).toNatClampNeg x6) (z124 2) (z124 3) (z124 4) (z124 5) (z124 9) (z124 10) (z124 11) (z124 12) (z124 13) (z124 14) (z124 15) (z124 16) (z124 17) (z124 18) (z124 19) (z124 20) (z124 21) (z124 22) (LM 6) (LM 7) (LM 8)] (f := (upd (upd (upd (z124 1) ((57 + (5 * ((z124 1) (56 : Int32).toNatClampNeg)))).toNatClampNeg x2) (((57 + (5 * ((z124 1) (56 : Int32).toNatClampNeg))) + 1)).toNatClampNeg x3) (((57 + (5 * ((z124 1) (56 : Int32).toNatClampNeg))) + 2)).toNatClampNeg x5)) rfl rfl rfl rfl rfl dX10_readsMove_180 ?_
    refine im_aload_n X 0 dX10_readsMove_181 rfl rfl ?_
    refine im_cget X 0 0 (v := .ref (aM 1)) fl_X10_13 rfl rfl rfl dX10_readsMove_182 ?_
    refine im_iload X 8 dX10_readsMove_185 rfl ?_
    refine im_iconst X 4 dX10_readsMove_187 (by decide) ?_
    refine im_iadd X dX10_readsMove_188 ?_
    refine im_iload X 4 dX10_readsMove_189 rfl ?_
    refine im_ciast X 0 1 0 (wx_Model ct aM (z124 0 0) (z124 0 4) (z124 0 6) (z124 0 7) (z124 0 8) (z124 0 9) (z124 0 24) (z124 0 27) (z124 0 29) (z124 0 31) (z124 0 32) (z124 0 33) (z124 0 34) (z124 0 35) (upd (upd (upd (upd (upd (z124 1) ((57 + (5 * ((z124 1) (56 : Int32).toNatClampNeg)))).toNatClampNeg x2) (((57 + (5 * ((z124 1) (56 : Int32).toNatClampNeg))) + 1)).toNatClampNeg x3) (((57 + (5 * ((z124 1) (56 : Int32).toNatClampNeg))) + 2)).toNatClampNeg x5) (((57 + (5 * ((z124 1) (56 : Int32).toNatClampNeg))) + 3)).toNatClampNeg x6) (((57 + (5 * ((z124 1) (56 : Int32).toNatClampNeg))) + 4)).toNatClampNeg x4) (z124 2) (z124 3) (z124 4) (z124 5) (z124 9) (z124 10) (z124 11) (z124 12) (z124 13) (z124 14) (z124 15) (z124 16) (z124 17) (z124 18) (z124 19) (z124 20) (z124 21) (z124 22) (LM 6) (LM 7) (LM 8)) [wx_Model ct aM (z124 0 0) (z124 0 4) (z124 0 6) (z124 0 7) (z124 0 8) (z124 0 9) (z124 0 24) (z124 0 27) (z124 0 29) (z124 0 31) (z124 0 32) (z124 0 33) (z124 0 34) (z124 0 35) (upd (upd (upd (upd (upd (z124 1) ((57 + (5 * ((z124 1) (56 : Int32).toNatClampNeg)))).toNatClampNeg x2) (((57 + (5 * ((z124 1) (56 : Int32).toNatClampNeg))) + 1)).toNatClampNeg x3) (((57 + (5 * ((z124 1) (56 : Int32).toNatClampNeg))) + 2)).toNatClampNeg x5) (((57 + (5 * ((z124 1) (56 : Int32).toNatClampNeg))) + 3)).toNatClampNeg x6) (((57 + (5 * ((z124 1) (56 : Int32).toNatClampNeg))) + 4)).toNatClampNeg x4) (z124 2) (z124 3) (z124 4) (z124 5) (z124 9) (z124 10) (z124 11) (z124 12) (z124 13) (z124 14) (z124 15) (z124 16) (z124 17) (z124 18) (z124 19) (z124 20) (z124 21) (z124 22) (LM 6) (LM 7) (LM 8)] (f := (upd (upd (upd (upd (z124 1) ((57 + (5 * ((z124 1) (56 : Int32).toNatClampNeg)))).toNatClampNeg x2) (((57 + (5 * ((z124 1) (56 : Int32).toNatClampNeg))) + 1)).toNatClampNeg x3) (((57 + (5 * ((z124 1) (56 : Int32).toNatClampNeg))) + 2)).toNatClampNeg x5) (((57 + (5 * ((z124 1) (56 : Int32).toNatClampNeg))) + 3)).toNatClampNeg x6)) rfl rfl rfl rfl rfl dX10_readsMove_191 ?_
    refine im_aload_n X 0 dX10_readsMove_192 rfl rfl ?_
    refine im_cget X 0 0 (v := .ref (aM 1)) fl_X10_13 rfl rfl rfl dX10_readsMove_193 ?_
    refine im_bipush X 56 dX10_readsMove_196 (by decide) ?_
    refine im_dup2_11 X rfl rfl dX10_readsMove_198 ?_
    refine im_ciald X 0 1 0 (f := (upd (upd (upd (upd (upd (z124 1) ((57 + (5 * ((z124 1) (56 : Int32).toNatClampNeg)))).toNatClampNeg x2) (((57 + (5 * ((z124 1) (56 : Int32).toNatClampNeg))) + 1)).toNatClampNeg x3) (((57 + (5 * ((z124 1) (56 : Int32).toNatClampNeg))) + 2)).toNatClampNeg x5) (((57 + (5 * ((z124 1) (56 : Int32).toNatClampNeg))) + 3)).toNatClampNeg x6) (((57 + (5 * ((z124 1) (56 : Int32).toNatClampNeg))) + 4)).toNatClampNeg x4)) rfl rfl rfl dX10_readsMove_199 ?_
    refine im_iconst X 1 dX10_readsMove_200 (by decide) ?_
    refine im_iadd X dX10_readsMove_201 ?_
    refine im_ciast X 0 1 0 (wx_Model ct aM (z124 0 0) (z124 0 4) (z124 0 6) (z124 0 7) (z124 0 8) (z124 0 9) (z124 0 24) (z124 0 27) (z124 0 29) (z124 0 31) (z124 0 32) (z124 0 33) (z124 0 34) (z124 0 35) (upd (upd (upd (upd (upd (upd (z124 1) ((57 + (5 * ((z124 1) (56 : Int32).toNatClampNeg)))).toNatClampNeg x2) (((57 + (5 * ((z124 1) (56 : Int32).toNatClampNeg))) + 1)).toNatClampNeg x3) (((57 + (5 * ((z124 1) (56 : Int32).toNatClampNeg))) + 2)).toNatClampNeg x5) (((57 + (5 * ((z124 1) (56 : Int32).toNatClampNeg))) + 3)).toNatClampNeg x6) (((57 + (5 * ((z124 1) (56 : Int32).toNatClampNeg))) + 4)).toNatClampNeg x4) (56 : Int32).toNatClampNeg (((upd (upd (upd (upd (upd (z124 1) ((57 + (5 * ((z124 1) (56 : Int32).toNatClampNeg)))).toNatClampNeg x2) (((57 + (5 * ((z124 1) (56 : Int32).toNatClampNeg))) + 1)).toNatClampNeg x3) (((57 + (5 * ((z124 1) (56 : Int32).toNatClampNeg))) + 2)).toNatClampNeg x5) (((57 + (5 * ((z124 1) (56 : Int32).toNatClampNeg))) + 3)).toNatClampNeg x6) (((57 + (5 * ((z124 1) (56 : Int32).toNatClampNeg))) + 4)).toNatClampNeg x4) (56 : Int32).toNatClampNeg) + 1)) (z124 2) (z124 3) (z124 4) (z124 5) (z124 9) (z124 10) (z124 11) (z124 12) (z124 13) (z124 14) (z124 15) (z124 16) (z124 17) (z124 18) (z124 19) (z124 20) (z124 21) (z124 22) (LM 6) (LM 7) (LM 8)) [wx_Model ct aM (z124 0 0) (z124 0 4) (z124 0 6) (z124 0 7) (z124 0 8) (z124 0 9) (z124 0 24) (z124 0 27) (z124 0 29) (z124 0 31) (z124 0 32) (z124 0 33) (z124 0 34) (z124 0 35) (upd (upd (upd (upd (upd (upd (z124 1) ((57 + (5 * ((z124 1) (56 : Int32).toNatClampNeg)))).toNatClampNeg x2) (((57 + (5 * ((z124 1) (56 : Int32).toNatClampNeg))) + 1)).toNatClampNeg x3) (((57 + (5 * ((z124 1) (56 : Int32).toNatClampNeg))) + 2)).toNatClampNeg x5) (((57 + (5 * ((z124 1) (56 : Int32).toNatClampNeg))) + 3)).toNatClampNeg x6) (((57 + (5 * ((z124 1) (56 : Int32).toNatClampNeg))) + 4)).toNatClampNeg x4) (56 : Int32).toNatClampNeg (((upd (upd (upd (upd (upd (z124 1) ((57 + (5 * ((z124 1) (56 : Int32).toNatClampNeg)))).toNatClampNeg x2) (((57 + (5 * ((z124 1) (56 : Int32).toNatClampNeg))) + 1)).toNatClampNeg x3) (((57 + (5 * ((z124 1) (56 : Int32).toNatClampNeg))) + 2)).toNatClampNeg x5) (((57 + (5 * ((z124 1) (56 : Int32).toNatClampNeg))) + 3)).toNatClampNeg x6) (((57 + (5 * ((z124 1) (56 : Int32).toNatClampNeg))) + 4)).toNatClampNeg x4) (56 : Int32).toNatClampNeg) + 1)) (z124 2) (z124 3) (z124 4) (z124 5) (z124 9) (z124 10) (z124 11) (z124 12) (z124 13) (z124 14) (z124 15) (z124 16) (z124 17) (z124 18) (z124 19) (z124 20) (z124 21) (z124 22) (LM 6) (LM 7) (LM 8)] (f := (upd (upd (upd (upd (upd (z124 1) ((57 + (5 * ((z124 1) (56 : Int32).toNatClampNeg)))).toNatClampNeg x2) (((57 + (5 * ((z124 1) (56 : Int32).toNatClampNeg))) + 1)).toNatClampNeg x3) (((57 + (5 * ((z124 1) (56 : Int32).toNatClampNeg))) + 2)).toNatClampNeg x5) (((57 + (5 * ((z124 1) (56 : Int32).toNatClampNeg))) + 3)).toNatClampNeg x6) (((57 + (5 * ((z124 1) (56 : Int32).toNatClampNeg))) + 4)).toNatClampNeg x4)) rfl rfl rfl rfl rfl dX10_readsMove_202 ?_
    refine im_lv [0, 1, 7] [(0, .ref (aM 0)), (1, .int x1), (7, .int s0)] rfl ?_
    exact i_X10_readsMove_203 X F aM (mr z124 1 (upd (upd (upd (upd (upd (upd (z124 1) ((57 + (5 * ((z124 1) (56 : Int32).toNatClampNeg)))).toNatClampNeg x2) (((57 + (5 * ((z124 1) (56 : Int32).toNatClampNeg))) + 1)).toNatClampNeg x3) (((57 + (5 * ((z124 1) (56 : Int32).toNatClampNeg))) + 2)).toNatClampNeg x5) (((57 + (5 * ((z124 1) (56 : Int32).toNatClampNeg))) + 3)).toNatClampNeg x6) (((57 + (5 * ((z124 1) (56 : Int32).toNatClampNeg))) + 4)).toNatClampNeg x4) (56 : Int32).toNatClampNeg (((upd (upd (upd (upd (upd (z124 1) ((57 + (5 * ((z124 1) (56 : Int32).toNatClampNeg)))).toNatClampNeg x2) (((57 + (5 * ((z124 1) (56 : Int32).toNatClampNeg))) + 1)).toNatClampNeg x3) (((57 + (5 * ((z124 1) (56 : Int32).toNatClampNeg))) + 2)).toNatClampNeg x5) (((57 + (5 * ((z124 1) (56 : Int32).toNatClampNeg))) + 3)).toNatClampNeg x6) (((57 + (5 * ((z124 1) (56 : Int32).toNatClampNeg))) + 4)).toNatClampNeg x4) (56 : Int32).toNatClampNeg) + 1))) LM x1 s0 
noncomputable def f_X10_readsMove_60 (F : Nat) (M : Mem) (LM : MemL) (x1 : Int32) (x2 : Int32) (x3 : Int32) (x4 : Int32) (x5 : Int32) (s0 : Int32) : Option (Mem) :=
  (f_X10_needsClose F M LM).bind (fun z63 => (if (z63 0 35) = (-1) then (f_X10_trades F z63 LM).bind (fun z76 => ck 56 226 ((if 24 ≤ ((z76 1) (56 : Int32).toNatClampNeg) then f_X10_readsMove_111 F z76 LM x1 x2 x3 x4 x5 s0 0 else (f_X10_canMove F z76 LM x2 x3 x5 s0 x4).bind (fun z100 => (if z100.1 = 0 then f_X10_readsMove_111 F z100.2 LM x1 x2 x3 x4 x5 s0 0 else f_X10_readsMove_111 F z100.2 LM x1 x2 x3 x4 x5 s0 1))))) else (some z63)))
set_option maxRecDepth 100000 in
set_option maxHeartbeats 4000000 in
theorem i_X10_readsMove_60 {p : Program} {l : Launch} {e : Env} {s : State} {m : MethodId} {args : Array Value} {below : List Frame} {meth : Method} {c : Code} {D : va_G} {ct : im_ct} {A : Nat → Prop} (X : im_X p (im_rm 5) s m args meth c D ct A RX10 cX10_readsMove 9 none) (F : Nat) (aM : Nat → Nat) (M : Mem) (LM : MemL) (x1 : Int32) (x2 : Int32) (x3 : Int32) (x4 : Int32) (x5 : Int32) (s0 : Int32) : Im p l e (im_rm 5) s m args below meth c D A 9 (QV D A (fun z : Mem => (cat [w_Model ct aM z LM]))) 60 [(0, .ref (aM 0)), (1, .int x1), (2, .int x2), (3, .int x3), (4, .int x4), (5, .int x5)] [.int s0] (cat [w_Model ct aM M LM]) (f_X10_readsMove_60 F M LM x1 x2 x3 x4 x5 s0) := by
  unfold f_X10_readsMove_60
  refine im_istore X [1, 2, 3, 4, 5, 6, 0] [(0, .ref (aM 0)), (1, .int x1), (2, .int x2), (3, .int x3), (4, .int x4), (5, .int x5), (6, .int s0)] dX10_readsMove_60 (by decide) rfl ?_
  refine im_aload_n X 0 dX10_readsMove_62 rfl rfl ?_
  refine im_ccvV X [] [] [w_Model ct aM M LM] [w_Model ct aM M LM] [0] (fun z63 => [w_Model ct aM z63 LM]) 0 0 10 rfl rfl rfl cl_X10_354 (c_X10_needsClose l D ct F aM M LM) rfl (by decide) (fun _ => lc fa_Model (rfl)) rfl ⟨by decide, by decide⟩ (Nat.le_of_ble_eq_true rfl) rfl dX10_readsMove_63 (fun z63 => ?_)
  refine im_ws (cat [w_Model ct aM z63 LM]) rfl ?_
  refine im_aload_n X 0 dX10_readsMove_66 rfl rfl ?_
  refine im_cget X 0 0 (v := .int (z63 0 35)) fl_X10_342 rfl rfl rfl dX10_readsMove_67 ?_
  refine im_iconst X (-1) dX10_readsMove_70 (by decide) ?_
  refine im_icmp_eq (tgt := 75) X dX10_readsMove_71 rfl ?_ ?_
  · refine im_aload_n X 0 dX10_readsMove_75 rfl rfl ?_
    refine im_ccvV X [] [] [w_Model ct aM z63 LM] [w_Model ct aM z63 LM] [0] (fun z76 => [w_Model ct aM z76 LM]) 0 0 10 rfl rfl rfl cl_X10_357 (c_X10_trades l D ct F aM z63 LM) rfl (by decide) (fun _ => lc fa_Model (rfl)) rfl ⟨by decide, by decide⟩ (Nat.le_of_ble_eq_true rfl) rfl dX10_readsMove_76 (fun z76 => ?_)
    refine im_ws (cat [w_Model ct aM z76 LM]) rfl ?_
    refine im_aload_n X 0 dX10_readsMove_79 rfl rfl ?_
    refine im_cget X 0 0 (v := .ref (aM 1)) fl_X10_13 rfl rfl rfl dX10_readsMove_80 ?_
    refine im_bipush X 56 dX10_readsMove_83 (by decide) ?_
    refine im_ciald X 0 1 0 (f := (z76 1)) rfl rfl rfl dX10_readsMove_85 ?_
    refine im_bipush X 24 dX10_readsMove_86 (by decide) ?_
    refine im_icmp_ge (tgt := 110) X dX10_readsMove_88 rfl ?_ ?_
    · refine im_iconst X 0 dX10_readsMove_110 (by decide) ?_
      exact i_X10_readsMove_111 X F aM z76 LM x1 x2 x3 x4 x5 s0 0 
    · refine im_aload_n X 0 dX10_readsMove_91 rfl rfl ?_
      refine im_iload_n X 2 dX10_readsMove_92 rfl rfl ?_
      refine im_iload_n X 3 dX10_readsMove_93 rfl rfl ?_
      refine im_iload X 5 dX10_readsMove_94 rfl ?_
      refine im_iload X 6 dX10_readsMove_96 rfl ?_
      refine im_iload X 4 dX10_readsMove_98 rfl ?_
      refine im_cciV X [.int x2, .int x3, .int x5, .int s0, .int x4] [] [w_Model ct aM z76 LM] [w_Model ct aM z76 LM] [0] (fun z100 => [w_Model ct aM z100.2 LM]) 0 0 10 rfl rfl rfl cl_X10_158 (c_X10_canMove l D ct F aM z76 LM x2 x3 x5 s0 x4) rfl (by decide) (fun _ => lc fa_Model (rfl)) rfl ⟨by decide, by decide⟩ (Nat.le_of_ble_eq_true rfl) rfl dX10_readsMove_100 (fun z100 => ?_)
      refine im_ws (cat [w_Model ct aM z100.2 LM]) rfl ?_
      refine im_if_eq (tgt := 110) X dX10_readsMove_103 rfl ?_ ?_
      · refine im_iconst X 0 dX10_readsMove_110 (by decide) ?_
        exact i_X10_readsMove_111 X F aM z100.2 LM x1 x2 x3 x4 x5 s0 0 
      · refine im_iconst X 1 dX10_readsMove_106 (by decide) ?_
        refine im_goto (tgt := 111) X dX10_readsMove_107 rfl ?_
        exact i_X10_readsMove_111 X F aM z100.2 LM x1 x2 x3 x4 x5 s0 1 
  · exact im_return X z63 rfl dX10_readsMove_74
noncomputable def f_X10_readsMove_28 (F : Nat) (M : Mem) (LM : MemL) (x1 : Int32) (x2 : Int32) (x3 : Int32) (s0 : Int32) : Option (Mem) :=
  (f_X10_needsNumber F M LM 0 99).bind (fun z34 => (if x2 = 2 then f_X10_readsMove_60 F z34.2 LM x1 x2 x3 s0 z34.1 0 else (if x2 = 3 then f_X10_readsMove_60 F z34.2 LM x1 x2 x3 s0 z34.1 0 else (f_X10_needsNumber F z34.2 LM 0 99).bind (fun z57 => f_X10_readsMove_60 F z57.2 LM x1 x2 x3 s0 z34.1 z57.1))))
set_option maxRecDepth 100000 in
set_option maxHeartbeats 4000000 in
theorem i_X10_readsMove_28 {p : Program} {l : Launch} {e : Env} {s : State} {m : MethodId} {args : Array Value} {below : List Frame} {meth : Method} {c : Code} {D : va_G} {ct : im_ct} {A : Nat → Prop} (X : im_X p (im_rm 5) s m args meth c D ct A RX10 cX10_readsMove 9 none) (F : Nat) (aM : Nat → Nat) (M : Mem) (LM : MemL) (x1 : Int32) (x2 : Int32) (x3 : Int32) (s0 : Int32) : Im p l e (im_rm 5) s m args below meth c D A 9 (QV D A (fun z : Mem => (cat [w_Model ct aM z LM]))) 28 [(0, .ref (aM 0)), (1, .int x1), (2, .int x2), (3, .int x3)] [.int s0] (cat [w_Model ct aM M LM]) (f_X10_readsMove_28 F M LM x1 x2 x3 s0) := by
  unfold f_X10_readsMove_28
  refine im_istore X [1, 2, 3, 4, 0] [(0, .ref (aM 0)), (1, .int x1), (2, .int x2), (3, .int x3), (4, .int s0)] dX10_readsMove_28 (by decide) rfl ?_
  refine im_aload_n X 0 dX10_readsMove_30 rfl rfl ?_
  refine im_iconst X 0 dX10_readsMove_31 (by decide) ?_
  refine im_bipush X 99 dX10_readsMove_32 (by decide) ?_
  refine im_cciV X [.int 0, .int 99] [] [w_Model ct aM M LM] [w_Model ct aM M LM] [0] (fun z34 => [w_Model ct aM z34.2 LM]) 0 0 10 rfl rfl rfl cl_X10_351 (c_X10_needsNumber l D ct F aM M LM 0 99) rfl (by decide) (fun _ => lc fa_Model (rfl)) rfl ⟨by decide, by decide⟩ (Nat.le_of_ble_eq_true rfl) rfl dX10_readsMove_34 (fun z34 => ?_)
  refine im_ws (cat [w_Model ct aM z34.2 LM]) rfl ?_
  refine im_istore X [1, 2, 3, 4, 5, 0] [(0, .ref (aM 0)), (1, .int x1), (2, .int x2), (3, .int x3), (4, .int s0), (5, .int z34.1)] dX10_readsMove_37 (by decide) rfl ?_
  refine im_iload_n X 2 dX10_readsMove_39 rfl rfl ?_
  refine im_iconst X 2 dX10_readsMove_40 (by decide) ?_
  refine im_icmp_eq (tgt := 49) X dX10_readsMove_41 rfl ?_ ?_
  · refine im_iconst X 0 dX10_readsMove_49 (by decide) ?_
    refine im_goto (tgt := 60) X dX10_readsMove_50 rfl ?_
    exact i_X10_readsMove_60 X F aM z34.2 LM x1 x2 x3 s0 z34.1 0 
  · refine im_iload_n X 2 dX10_readsMove_44 rfl rfl ?_
    refine im_iconst X 3 dX10_readsMove_45 (by decide) ?_
    refine im_icmp_ne (tgt := 53) X dX10_readsMove_46 rfl ?_ ?_
    · refine im_aload_n X 0 dX10_readsMove_53 rfl rfl ?_
      refine im_iconst X 0 dX10_readsMove_54 (by decide) ?_
      refine im_bipush X 99 dX10_readsMove_55 (by decide) ?_
      refine im_cciV X [.int 0, .int 99] [] [w_Model ct aM z34.2 LM] [w_Model ct aM z34.2 LM] [0] (fun z57 => [w_Model ct aM z57.2 LM]) 0 0 10 rfl rfl rfl cl_X10_351 (c_X10_needsNumber l D ct F aM z34.2 LM 0 99) rfl (by decide) (fun _ => lc fa_Model (rfl)) rfl ⟨by decide, by decide⟩ (Nat.le_of_ble_eq_true rfl) rfl dX10_readsMove_57 (fun z57 => ?_)
      refine im_ws (cat [w_Model ct aM z57.2 LM]) rfl ?_
      exact i_X10_readsMove_60 X F aM z57.2 LM x1 x2 x3 s0 z34.1 z57.1 
    · refine im_iconst X 0 dX10_readsMove_49 (by decide) ?_
      refine im_goto (tgt := 60) X dX10_readsMove_50 rfl ?_
      exact i_X10_readsMove_60 X F aM z34.2 LM x1 x2 x3 s0 z34.1 0 
noncomputable def f_X10_readsMove (F : Nat) (M : Mem) (LM : MemL) (x1 : Int32) (x2 : Int32) : Option (Mem) :=
  (f_X10_goesOn F M LM).bind (fun z1 => (f_X10_needsNumber F z1 LM 0 99).bind (fun z8 => (if x2 = 4 then (f_X10_needsNumber F z8.2 LM 0 99).bind (fun z21 => f_X10_readsMove_28 F z21.2 LM x1 x2 z8.1 z21.1) else f_X10_readsMove_28 F z8.2 LM x1 x2 z8.1 0)))
set_option maxRecDepth 100000 in
set_option maxHeartbeats 4000000 in
theorem i_X10_readsMove {p : Program} {l : Launch} {e : Env} {s : State} {m : MethodId} {args : Array Value} {below : List Frame} {meth : Method} {c : Code} {D : va_G} {ct : im_ct} {A : Nat → Prop} (X : im_X p (im_rm 5) s m args meth c D ct A RX10 cX10_readsMove 9 none) (F : Nat) (aM : Nat → Nat) (M : Mem) (LM : MemL) (x1 : Int32) (x2 : Int32) : Im p l e (im_rm 5) s m args below meth c D A 9 (QV D A (fun z : Mem => (cat [w_Model ct aM z LM]))) 0 [(0, .ref (aM 0)), (1, .int x1), (2, .int x2)] [] (cat [w_Model ct aM M LM]) (f_X10_readsMove F M LM x1 x2) := by
  unfold f_X10_readsMove
  refine im_aload_n X 0 dX10_readsMove_0 rfl rfl ?_
  refine im_ccvV X [] [] [w_Model ct aM M LM] [w_Model ct aM M LM] [0] (fun z1 => [w_Model ct aM z1 LM]) 0 0 10 rfl rfl rfl cl_X10_348 (c_X10_goesOn l D ct F aM M LM) rfl (by decide) (fun _ => lc fa_Model (rfl)) rfl ⟨by decide, by decide⟩ (Nat.le_of_ble_eq_true rfl) rfl dX10_readsMove_1 (fun z1 => ?_)
  refine im_ws (cat [w_Model ct aM z1 LM]) rfl ?_
  refine im_aload_n X 0 dX10_readsMove_4 rfl rfl ?_
  refine im_iconst X 0 dX10_readsMove_5 (by decide) ?_
  refine im_bipush X 99 dX10_readsMove_6 (by decide) ?_
  refine im_cciV X [.int 0, .int 99] [] [w_Model ct aM z1 LM] [w_Model ct aM z1 LM] [0] (fun z8 => [w_Model ct aM z8.2 LM]) 0 0 10 rfl rfl rfl cl_X10_351 (c_X10_needsNumber l D ct F aM z1 LM 0 99) rfl (by decide) (fun _ => lc fa_Model (rfl)) rfl ⟨by decide, by decide⟩ (Nat.le_of_ble_eq_true rfl) rfl dX10_readsMove_8 (fun z8 => ?_)
  refine im_ws (cat [w_Model ct aM z8.2 LM]) rfl ?_
  refine im_istore_n X [1, 2, 3, 0] [(0, .ref (aM 0)), (1, .int x1), (2, .int x2), (3, .int z8.1)] dX10_readsMove_11 rfl (by decide) rfl ?_
  refine im_iload_n X 2 dX10_readsMove_12 rfl rfl ?_
  refine im_iconst X 4 dX10_readsMove_13 (by decide) ?_
  refine im_icmp_ne (tgt := 27) X dX10_readsMove_14 rfl ?_ ?_
  · refine im_iconst X 0 dX10_readsMove_27 (by decide) ?_
    exact i_X10_readsMove_28 X F aM z8.2 LM x1 x2 z8.1 0 
  · refine im_aload_n X 0 dX10_readsMove_17 rfl rfl ?_
    refine im_iconst X 0 dX10_readsMove_18 (by decide) ?_
    refine im_bipush X 99 dX10_readsMove_19 (by decide) ?_
    refine im_cciV X [.int 0, .int 99] [] [w_Model ct aM z8.2 LM] [w_Model ct aM z8.2 LM] [0] (fun z21 => [w_Model ct aM z21.2 LM]) 0 0 10 rfl rfl rfl cl_X10_351 (c_X10_needsNumber l D ct F aM z8.2 LM 0 99) rfl (by decide) (fun _ => lc fa_Model (rfl)) rfl ⟨by decide, by decide⟩ (Nat.le_of_ble_eq_true rfl) rfl dX10_readsMove_21 (fun z21 => ?_)
    refine im_ws (cat [w_Model ct aM z21.2 LM]) rfl ?_
    refine im_goto (tgt := 28) X dX10_readsMove_24 rfl ?_
    exact i_X10_readsMove_28 X F aM z21.2 LM x1 x2 z8.1 z21.1 
theorem c_X10_readsMove (l : Launch) (D : va_G) (ct : im_ct) (F : Nat) (aM : Nat → Nat) (M : Mem) (LM : MemL) (x1 : Int32) (x2 : Int32) : CMv l D ct yX10_readsMove cX10_readsMove 9 none 5 [.ref (aM 0), .int x1, .int x2] (cat [w_Model ct aM M LM]) (f_X10_readsMove F M LM x1 x2) (fun z : Mem => (cat [w_Model ct aM z LM])) :=
  im_met (Qb := fun A => QV D A (fun z : Mem => (cat [w_Model ct aM z LM]))) (by decide +kernel) (Nat.le_of_ble_eq_true rfl) (fun p e s m args below meth c A X => i_X10_readsMove X F aM M LM x1 x2)

noncomputable def f_X10_readsSeen (F : Nat) (M : Mem) (LM : MemL) (x1 : Int32) : Option (Mem) :=
  ck 177 226 ((if ((M 2) (177 : Int32).toNatClampNeg) = 12 then (f_X10_fails F M LM x1).bind (fun z15 => (some z15)) else (f_X10_goesOn F M LM).bind (fun z20 => ck 177 226 (ck 56 226 ((f_X10_needsNumber F z20 LM 0 ((z20 2) (56 : Int32).toNatClampNeg)).bind (fun z52 => ck (178 + (4 * ((z20 2) (177 : Int32).toNatClampNeg))) 226 (ck 1 226 ((f_X10_needsNumber F (mr z52.2 2 (upd (z52.2 2) ((178 + (4 * ((z20 2) (177 : Int32).toNatClampNeg)))).toNatClampNeg z52.1)) LM 0 (((upd (z52.2 2) ((178 + (4 * ((z20 2) (177 : Int32).toNatClampNeg)))).toNatClampNeg z52.1) (1 : Int32).toNatClampNeg) - 1)).bind (fun z73 => ck ((178 + (4 * ((z20 2) (177 : Int32).toNatClampNeg))) + 1) 226 (ck 0 226 ((f_X10_needsNumber F (mr z73.2 2 (upd (z73.2 2) (((178 + (4 * ((z20 2) (177 : Int32).toNatClampNeg))) + 1)).toNatClampNeg z73.1)) LM 0 (((upd (z73.2 2) (((178 + (4 * ((z20 2) (177 : Int32).toNatClampNeg))) + 1)).toNatClampNeg z73.1) (0 : Int32).toNatClampNeg) - 1)).bind (fun z94 => ck ((178 + (4 * ((z20 2) (177 : Int32).toNatClampNeg))) + 2) 226 ((f_X10_needsNumber F (mr z94.2 2 (upd (z94.2 2) (((178 + (4 * ((z20 2) (177 : Int32).toNatClampNeg))) + 2)).toNatClampNeg z94.1)) LM 0 99).bind (fun z109 => ck ((178 + (4 * ((z20 2) (177 : Int32).toNatClampNeg))) + 3) 226 ((f_X10_needsClose F (mr z109.2 2 (upd (z109.2 2) (((178 + (4 * ((z20 2) (177 : Int32).toNatClampNeg))) + 3)).toNatClampNeg z109.1)) LM).bind (fun z114 => ck 177 226 (ck 177 226 ((some (mr z114 2 (upd (z114 2) (177 : Int32).toNatClampNeg (((z114 2) (177 : Int32).toNatClampNeg) + 1))))))))))))))))))))))
set_option maxRecDepth 100000 in
set_option maxHeartbeats 4000000 in
theorem i_X10_readsSeen {p : Program} {l : Launch} {e : Env} {s : State} {m : MethodId} {args : Array Value} {below : List Frame} {meth : Method} {c : Code} {D : va_G} {ct : im_ct} {A : Nat → Prop} (X : im_X p (im_rm 3) s m args meth c D ct A RX10 cX10_readsSeen 3 none) (F : Nat) (aM : Nat → Nat) (M : Mem) (LM : MemL) (x1 : Int32) : Im p l e (im_rm 3) s m args below meth c D A 3 (QV D A (fun z : Mem => (cat [w_Model ct aM z LM]))) 0 [(0, .ref (aM 0)), (1, .int x1)] [] (cat [w_Model ct aM M LM]) (f_X10_readsSeen F M LM x1) := by
  unfold f_X10_readsSeen
  refine im_aload_n X 0 dX10_readsSeen_0 rfl rfl ?_
  refine im_cget X 0 0 (v := .ref (aM 2)) fl_X10_17 rfl rfl rfl dX10_readsSeen_1 ?_
  refine im_sipush X 177 dX10_readsSeen_4 (by decide) ?_
  refine im_ciald X 0 2 0 (f := (M 2)) rfl rfl rfl dX10_readsSeen_7 ?_
  refine im_bipush X 12 dX10_readsSeen_8 (by decide) ?_
  refine im_icmp_ne (tgt := 19) X dX10_readsSeen_10 rfl ?_ ?_
  · refine im_aload_n X 0 dX10_readsSeen_19 rfl rfl ?_
    refine im_ccvV X [] [] [w_Model ct aM M LM] [w_Model ct aM M LM] [0] (fun z20 => [w_Model ct aM z20 LM]) 0 0 10 rfl rfl rfl cl_X10_348 (c_X10_goesOn l D ct F aM M LM) rfl (by decide) (fun _ => lc fa_Model (rfl)) rfl ⟨by decide, by decide⟩ (Nat.le_of_ble_eq_true rfl) rfl dX10_readsSeen_20 (fun z20 => ?_)
    refine im_ws (cat [w_Model ct aM z20 LM]) rfl ?_
    refine im_sipush X 178 dX10_readsSeen_23 (by decide) ?_
    refine im_iconst X 4 dX10_readsSeen_26 (by decide) ?_
    refine im_aload_n X 0 dX10_readsSeen_27 rfl rfl ?_
    refine im_cget X 0 0 (v := .ref (aM 2)) fl_X10_17 rfl rfl rfl dX10_readsSeen_28 ?_
    refine im_sipush X 177 dX10_readsSeen_31 (by decide) ?_
    refine im_ciald X 0 2 0 (f := (z20 2)) rfl rfl rfl dX10_readsSeen_34 ?_
    refine im_imul X dX10_readsSeen_35 ?_
    refine im_iadd X dX10_readsSeen_36 ?_
    refine im_istore_n X [1, 2, 0] [(0, .ref (aM 0)), (1, .int x1), (2, .int (178 + (4 * ((z20 2) (177 : Int32).toNatClampNeg))))] dX10_readsSeen_37 rfl (by decide) rfl ?_
    refine im_aload_n X 0 dX10_readsSeen_38 rfl rfl ?_
    refine im_cget X 0 0 (v := .ref (aM 2)) fl_X10_17 rfl rfl rfl dX10_readsSeen_39 ?_
    refine im_iload_n X 2 dX10_readsSeen_42 rfl rfl ?_
    refine im_aload_n X 0 dX10_readsSeen_43 rfl rfl ?_
    refine im_iconst X 0 dX10_readsSeen_44 (by decide) ?_
    refine im_aload_n X 0 dX10_readsSeen_45 rfl rfl ?_
    refine im_cget X 0 0 (v := .ref (aM 2)) fl_X10_17 rfl rfl rfl dX10_readsSeen_46 ?_
    refine im_bipush X 56 dX10_readsSeen_49 (by decide) ?_
    refine im_ciald X 0 2 0 (f := (z20 2)) rfl rfl rfl dX10_readsSeen_51 ?_
    refine im_cciV X [.int 0, .int ((z20 2) (56 : Int32).toNatClampNeg)] [.int (178 + (4 * ((z20 2) (177 : Int32).toNatClampNeg))), .ref (aM 2)] [w_Model ct aM z20 LM] [w_Model ct aM z20 LM] [0] (fun z52 => [w_Model ct aM z52.2 LM]) 0 0 10 rfl rfl rfl cl_X10_351 (c_X10_needsNumber l D ct F aM z20 LM 0 ((z20 2) (56 : Int32).toNatClampNeg)) rfl (by decide) (fun _ => lc fa_Model (rfl)) rfl ⟨by decide, by decide⟩ (Nat.le_of_ble_eq_true rfl) rfl dX10_readsSeen_52 (fun z52 => ?_)
    refine im_ws (cat [w_Model ct aM z52.2 LM]) rfl ?_
    refine im_ciast X 0 2 0 (wx_Model ct aM (z52.2 0 0) (z52.2 0 4) (z52.2 0 6) (z52.2 0 7) (z52.2 0 8) (z52.2 0 9) (z52.2 0 24) (z52.2 0 27) (z52.2 0 29) (z52.2 0 31) (z52.2 0 32) (z52.2 0 33) (z52.2 0 34) (z52.2 0 35) (z52.2 1) (upd (z52.2 2) ((178 + (4 * ((z20 2) (177 : Int32).toNatClampNeg)))).toNatClampNeg z52.1) (z52.2 3) (z52.2 4) (z52.2 5) (z52.2 9) (z52.2 10) (z52.2 11) (z52.2 12) (z52.2 13) (z52.2 14) (z52.2 15) (z52.2 16) (z52.2 17) (z52.2 18) (z52.2 19) (z52.2 20) (z52.2 21) (z52.2 22) (LM 6) (LM 7) (LM 8)) [wx_Model ct aM (z52.2 0 0) (z52.2 0 4) (z52.2 0 6) (z52.2 0 7) (z52.2 0 8) (z52.2 0 9) (z52.2 0 24) (z52.2 0 27) (z52.2 0 29) (z52.2 0 31) (z52.2 0 32) (z52.2 0 33) (z52.2 0 34) (z52.2 0 35) (z52.2 1) (upd (z52.2 2) ((178 + (4 * ((z20 2) (177 : Int32).toNatClampNeg)))).toNatClampNeg z52.1) (z52.2 3) (z52.2 4) (z52.2 5) (z52.2 9) (z52.2 10) (z52.2 11) (z52.2 12) (z52.2 13) (z52.2 14) (z52.2 15) (z52.2 16) (z52.2 17) (z52.2 18) (z52.2 19) (z52.2 20) (z52.2 21) (z52.2 22) (LM 6) (LM 7) (LM 8)] (f := (z52.2 2)) rfl rfl rfl rfl rfl dX10_readsSeen_55 ?_
    refine im_aload_n X 0 dX10_readsSeen_56 rfl rfl ?_
    refine im_cget X 0 0 (v := .ref (aM 2)) fl_X10_17 rfl rfl rfl dX10_readsSeen_57 ?_
    refine im_iload_n X 2 dX10_readsSeen_60 rfl rfl ?_
    refine im_iconst X 1 dX10_readsSeen_61 (by decide) ?_
    refine im_iadd X dX10_readsSeen_62 ?_
    refine im_aload_n X 0 dX10_readsSeen_63 rfl rfl ?_
    refine im_iconst X 0 dX10_readsSeen_64 (by decide) ?_
    refine im_aload_n X 0 dX10_readsSeen_65 rfl rfl ?_
    refine im_cget X 0 0 (v := .ref (aM 2)) fl_X10_17 rfl rfl rfl dX10_readsSeen_66 ?_
    refine im_iconst X 1 dX10_readsSeen_69 (by decide) ?_
    refine im_ciald X 0 2 0 (f := (upd (z52.2 2) ((178 + (4 * ((z20 2) (177 : Int32).toNatClampNeg)))).toNatClampNeg z52.1)) rfl rfl rfl dX10_readsSeen_70 ?_
    refine im_iconst X 1 dX10_readsSeen_71 (by decide) ?_
    refine im_isub X dX10_readsSeen_72 ?_
    refine im_cciV X [.int 0, .int (((upd (z52.2 2) ((178 + (4 * ((z20 2) (177 : Int32).toNatClampNeg)))).toNatClampNeg z52.1) (1 : Int32).toNatClampNeg) - 1)] [.int ((178 + (4 * ((z20 2) (177 : Int32).toNatClampNeg))) + 1), .ref (aM 2)] [wx_Model ct aM (z52.2 0 0) (z52.2 0 4) (z52.2 0 6) (z52.2 0 7) (z52.2 0 8) (z52.2 0 9) (z52.2 0 24) (z52.2 0 27) (z52.2 0 29) (z52.2 0 31) (z52.2 0 32) (z52.2 0 33) (z52.2 0 34) (z52.2 0 35) (z52.2 1) (upd (z52.2 2) ((178 + (4 * ((z20 2) (177 : Int32).toNatClampNeg)))).toNatClampNeg z52.1) (z52.2 3) (z52.2 4) (z52.2 5) (z52.2 9) (z52.2 10) (z52.2 11) (z52.2 12) (z52.2 13) (z52.2 14) (z52.2 15) (z52.2 16) (z52.2 17) (z52.2 18) (z52.2 19) (z52.2 20) (z52.2 21) (z52.2 22) (LM 6) (LM 7) (LM 8)] [w_Model ct aM (mr z52.2 2 (upd (z52.2 2) ((178 + (4 * ((z20 2) (177 : Int32).toNatClampNeg)))).toNatClampNeg z52.1)) LM] [0] (fun z73 => [w_Model ct aM z73.2 LM]) 0 0 10 rfl rfl rfl cl_X10_351 (c_X10_needsNumber l D ct F aM (mr z52.2 2 (upd (z52.2 2) ((178 + (4 * ((z20 2) (177 : Int32).toNatClampNeg)))).toNatClampNeg z52.1)) LM 0 (((upd (z52.2 2) ((178 + (4 * ((z20 2) (177 : Int32).toNatClampNeg)))).toNatClampNeg z52.1) (1 : Int32).toNatClampNeg) - 1)) rfl (by decide) (fun _ => lc fa_Model (rfl)) rfl ⟨by decide, by decide⟩ (Nat.le_of_ble_eq_true rfl) rfl dX10_readsSeen_73 (fun z73 => ?_)
    refine im_ws (cat [w_Model ct aM z73.2 LM]) rfl ?_
    refine im_ciast X 0 2 0 (wx_Model ct aM (z73.2 0 0) (z73.2 0 4) (z73.2 0 6) (z73.2 0 7) (z73.2 0 8) (z73.2 0 9) (z73.2 0 24) (z73.2 0 27) (z73.2 0 29) (z73.2 0 31) (z73.2 0 32) (z73.2 0 33) (z73.2 0 34) (z73.2 0 35) (z73.2 1) (upd (z73.2 2) (((178 + (4 * ((z20 2) (177 : Int32).toNatClampNeg))) + 1)).toNatClampNeg z73.1) (z73.2 3) (z73.2 4) (z73.2 5) (z73.2 9) (z73.2 10) (z73.2 11) (z73.2 12) (z73.2 13) (z73.2 14) (z73.2 15) (z73.2 16) (z73.2 17) (z73.2 18) (z73.2 19) (z73.2 20) (z73.2 21) (z73.2 22) (LM 6) (LM 7) (LM 8)) [wx_Model ct aM (z73.2 0 0) (z73.2 0 4) (z73.2 0 6) (z73.2 0 7) (z73.2 0 8) (z73.2 0 9) (z73.2 0 24) (z73.2 0 27) (z73.2 0 29) (z73.2 0 31) (z73.2 0 32) (z73.2 0 33) (z73.2 0 34) (z73.2 0 35) (z73.2 1) (upd (z73.2 2) (((178 + (4 * ((z20 2) (177 : Int32).toNatClampNeg))) + 1)).toNatClampNeg z73.1) (z73.2 3) (z73.2 4) (z73.2 5) (z73.2 9) (z73.2 10) (z73.2 11) (z73.2 12) (z73.2 13) (z73.2 14) (z73.2 15) (z73.2 16) (z73.2 17) (z73.2 18) (z73.2 19) (z73.2 20) (z73.2 21) (z73.2 22) (LM 6) (LM 7) (LM 8)] (f := (z73.2 2)) rfl rfl rfl rfl rfl dX10_readsSeen_76 ?_
    refine im_aload_n X 0 dX10_readsSeen_77 rfl rfl ?_
    refine im_cget X 0 0 (v := .ref (aM 2)) fl_X10_17 rfl rfl rfl dX10_readsSeen_78 ?_
    refine im_iload_n X 2 dX10_readsSeen_81 rfl rfl ?_
    refine im_iconst X 2 dX10_readsSeen_82 (by decide) ?_
    refine im_iadd X dX10_readsSeen_83 ?_
    refine im_aload_n X 0 dX10_readsSeen_84 rfl rfl ?_
    refine im_iconst X 0 dX10_readsSeen_85 (by decide) ?_
    refine im_aload_n X 0 dX10_readsSeen_86 rfl rfl ?_
    refine im_cget X 0 0 (v := .ref (aM 2)) fl_X10_17 rfl rfl rfl dX10_readsSeen_87 ?_
    refine im_iconst X 0 dX10_readsSeen_90 (by decide) ?_
    refine im_ciald X 0 2 0 (f := (upd (z73.2 2) (((178 + (4 * ((z20 2) (177 : Int32).toNatClampNeg))) + 1)).toNatClampNeg z73.1)) rfl rfl rfl dX10_readsSeen_91 ?_
    refine im_iconst X 1 dX10_readsSeen_92 (by decide) ?_
    refine im_isub X dX10_readsSeen_93 ?_
    refine im_cciV X [.int 0, .int (((upd (z73.2 2) (((178 + (4 * ((z20 2) (177 : Int32).toNatClampNeg))) + 1)).toNatClampNeg z73.1) (0 : Int32).toNatClampNeg) - 1)] [.int ((178 + (4 * ((z20 2) (177 : Int32).toNatClampNeg))) + 2), .ref (aM 2)] [wx_Model ct aM (z73.2 0 0) (z73.2 0 4) (z73.2 0 6) (z73.2 0 7) (z73.2 0 8) (z73.2 0 9) (z73.2 0 24) (z73.2 0 27) (z73.2 0 29) (z73.2 0 31) (z73.2 0 32) (z73.2 0 33) (z73.2 0 34) (z73.2 0 35) (z73.2 1) (upd (z73.2 2) (((178 + (4 * ((z20 2) (177 : Int32).toNatClampNeg))) + 1)).toNatClampNeg z73.1) (z73.2 3) (z73.2 4) (z73.2 5) (z73.2 9) (z73.2 10) (z73.2 11) (z73.2 12) (z73.2 13) (z73.2 14) (z73.2 15) (z73.2 16) (z73.2 17) (z73.2 18) (z73.2 19) (z73.2 20) (z73.2 21) (z73.2 22) (LM 6) (LM 7) (LM 8)] [w_Model ct aM (mr z73.2 2 (upd (z73.2 2) (((178 + (4 * ((z20 2) (177 : Int32).toNatClampNeg))) + 1)).toNatClampNeg z73.1)) LM] [0] (fun z94 => [w_Model ct aM z94.2 LM]) 0 0 10 rfl rfl rfl cl_X10_351 (c_X10_needsNumber l D ct F aM (mr z73.2 2 (upd (z73.2 2) (((178 + (4 * ((z20 2) (177 : Int32).toNatClampNeg))) + 1)).toNatClampNeg z73.1)) LM 0 (((upd (z73.2 2) (((178 + (4 * ((z20 2) (177 : Int32).toNatClampNeg))) + 1)).toNatClampNeg z73.1) (0 : Int32).toNatClampNeg) - 1)) rfl (by decide) (fun _ => lc fa_Model (rfl)) rfl ⟨by decide, by decide⟩ (Nat.le_of_ble_eq_true rfl) rfl dX10_readsSeen_94 (fun z94 => ?_)
    refine im_ws (cat [w_Model ct aM z94.2 LM]) rfl ?_
    refine im_ciast X 0 2 0 (wx_Model ct aM (z94.2 0 0) (z94.2 0 4) (z94.2 0 6) (z94.2 0 7) (z94.2 0 8) (z94.2 0 9) (z94.2 0 24) (z94.2 0 27) (z94.2 0 29) (z94.2 0 31) (z94.2 0 32) (z94.2 0 33) (z94.2 0 34) (z94.2 0 35) (z94.2 1) (upd (z94.2 2) (((178 + (4 * ((z20 2) (177 : Int32).toNatClampNeg))) + 2)).toNatClampNeg z94.1) (z94.2 3) (z94.2 4) (z94.2 5) (z94.2 9) (z94.2 10) (z94.2 11) (z94.2 12) (z94.2 13) (z94.2 14) (z94.2 15) (z94.2 16) (z94.2 17) (z94.2 18) (z94.2 19) (z94.2 20) (z94.2 21) (z94.2 22) (LM 6) (LM 7) (LM 8)) [wx_Model ct aM (z94.2 0 0) (z94.2 0 4) (z94.2 0 6) (z94.2 0 7) (z94.2 0 8) (z94.2 0 9) (z94.2 0 24) (z94.2 0 27) (z94.2 0 29) (z94.2 0 31) (z94.2 0 32) (z94.2 0 33) (z94.2 0 34) (z94.2 0 35) (z94.2 1) (upd (z94.2 2) (((178 + (4 * ((z20 2) (177 : Int32).toNatClampNeg))) + 2)).toNatClampNeg z94.1) (z94.2 3) (z94.2 4) (z94.2 5) (z94.2 9) (z94.2 10) (z94.2 11) (z94.2 12) (z94.2 13) (z94.2 14) (z94.2 15) (z94.2 16) (z94.2 17) (z94.2 18) (z94.2 19) (z94.2 20) (z94.2 21) (z94.2 22) (LM 6) (LM 7) (LM 8)] (f := (z94.2 2)) rfl rfl rfl rfl rfl dX10_readsSeen_97 ?_
    refine im_aload_n X 0 dX10_readsSeen_98 rfl rfl ?_
    refine im_cget X 0 0 (v := .ref (aM 2)) fl_X10_17 rfl rfl rfl dX10_readsSeen_99 ?_
    refine im_iload_n X 2 dX10_readsSeen_102 rfl rfl ?_
    refine im_iconst X 3 dX10_readsSeen_103 (by decide) ?_
    refine im_iadd X dX10_readsSeen_104 ?_
    refine im_aload_n X 0 dX10_readsSeen_105 rfl rfl ?_
    refine im_iconst X 0 dX10_readsSeen_106 (by decide) ?_
    refine im_bipush X 99 dX10_readsSeen_107 (by decide) ?_
    refine im_cciV X [.int 0, .int 99] [.int ((178 + (4 * ((z20 2) (177 : Int32).toNatClampNeg))) + 3), .ref (aM 2)] [wx_Model ct aM (z94.2 0 0) (z94.2 0 4) (z94.2 0 6) (z94.2 0 7) (z94.2 0 8) (z94.2 0 9) (z94.2 0 24) (z94.2 0 27) (z94.2 0 29) (z94.2 0 31) (z94.2 0 32) (z94.2 0 33) (z94.2 0 34) (z94.2 0 35) (z94.2 1) (upd (z94.2 2) (((178 + (4 * ((z20 2) (177 : Int32).toNatClampNeg))) + 2)).toNatClampNeg z94.1) (z94.2 3) (z94.2 4) (z94.2 5) (z94.2 9) (z94.2 10) (z94.2 11) (z94.2 12) (z94.2 13) (z94.2 14) (z94.2 15) (z94.2 16) (z94.2 17) (z94.2 18) (z94.2 19) (z94.2 20) (z94.2 21) (z94.2 22) (LM 6) (LM 7) (LM 8)] [w_Model ct aM (mr z94.2 2 (upd (z94.2 2) (((178 + (4 * ((z20 2) (177 : Int32).toNatClampNeg))) + 2)).toNatClampNeg z94.1)) LM] [0] (fun z109 => [w_Model ct aM z109.2 LM]) 0 0 10 rfl rfl rfl cl_X10_351 (c_X10_needsNumber l D ct F aM (mr z94.2 2 (upd (z94.2 2) (((178 + (4 * ((z20 2) (177 : Int32).toNatClampNeg))) + 2)).toNatClampNeg z94.1)) LM 0 99) rfl (by decide) (fun _ => lc fa_Model (rfl)) rfl ⟨by decide, by decide⟩ (Nat.le_of_ble_eq_true rfl) rfl dX10_readsSeen_109 (fun z109 => ?_)
    refine im_ws (cat [w_Model ct aM z109.2 LM]) rfl ?_
    refine im_ciast X 0 2 0 (wx_Model ct aM (z109.2 0 0) (z109.2 0 4) (z109.2 0 6) (z109.2 0 7) (z109.2 0 8) (z109.2 0 9) (z109.2 0 24) (z109.2 0 27) (z109.2 0 29) (z109.2 0 31) (z109.2 0 32) (z109.2 0 33) (z109.2 0 34) (z109.2 0 35) (z109.2 1) (upd (z109.2 2) (((178 + (4 * ((z20 2) (177 : Int32).toNatClampNeg))) + 3)).toNatClampNeg z109.1) (z109.2 3) (z109.2 4) (z109.2 5) (z109.2 9) (z109.2 10) (z109.2 11) (z109.2 12) (z109.2 13) (z109.2 14) (z109.2 15) (z109.2 16) (z109.2 17) (z109.2 18) (z109.2 19) (z109.2 20) (z109.2 21) (z109.2 22) (LM 6) (LM 7) (LM 8)) [wx_Model ct aM (z109.2 0 0) (z109.2 0 4) (z109.2 0 6) (z109.2 0 7) (z109.2 0 8) (z109.2 0 9) (z109.2 0 24) (z109.2 0 27) (z109.2 0 29) (z109.2 0 31) (z109.2 0 32) (z109.2 0 33) (z109.2 0 34) (z109.2 0 35) (z109.2 1) (upd (z109.2 2) (((178 + (4 * ((z20 2) (177 : Int32).toNatClampNeg))) + 3)).toNatClampNeg z109.1) (z109.2 3) (z109.2 4) (z109.2 5) (z109.2 9) (z109.2 10) (z109.2 11) (z109.2 12) (z109.2 13) (z109.2 14) (z109.2 15) (z109.2 16) (z109.2 17) (z109.2 18) (z109.2 19) (z109.2 20) (z109.2 21) (z109.2 22) (LM 6) (LM 7) (LM 8)] (f := (z109.2 2)) rfl rfl rfl rfl rfl dX10_readsSeen_112 ?_
    refine im_aload_n X 0 dX10_readsSeen_113 rfl rfl ?_
    refine im_ccvV X [] [] [wx_Model ct aM (z109.2 0 0) (z109.2 0 4) (z109.2 0 6) (z109.2 0 7) (z109.2 0 8) (z109.2 0 9) (z109.2 0 24) (z109.2 0 27) (z109.2 0 29) (z109.2 0 31) (z109.2 0 32) (z109.2 0 33) (z109.2 0 34) (z109.2 0 35) (z109.2 1) (upd (z109.2 2) (((178 + (4 * ((z20 2) (177 : Int32).toNatClampNeg))) + 3)).toNatClampNeg z109.1) (z109.2 3) (z109.2 4) (z109.2 5) (z109.2 9) (z109.2 10) (z109.2 11) (z109.2 12) (z109.2 13) (z109.2 14) (z109.2 15) (z109.2 16) (z109.2 17) (z109.2 18) (z109.2 19) (z109.2 20) (z109.2 21) (z109.2 22) (LM 6) (LM 7) (LM 8)] [w_Model ct aM (mr z109.2 2 (upd (z109.2 2) (((178 + (4 * ((z20 2) (177 : Int32).toNatClampNeg))) + 3)).toNatClampNeg z109.1)) LM] [0] (fun z114 => [w_Model ct aM z114 LM]) 0 0 10 rfl rfl rfl cl_X10_354 (c_X10_needsClose l D ct F aM (mr z109.2 2 (upd (z109.2 2) (((178 + (4 * ((z20 2) (177 : Int32).toNatClampNeg))) + 3)).toNatClampNeg z109.1)) LM) rfl (by decide) (fun _ => lc fa_Model (rfl)) rfl ⟨by decide, by decide⟩ (Nat.le_of_ble_eq_true rfl) rfl dX10_readsSeen_114 (fun z114 => ?_)
    refine im_ws (cat [w_Model ct aM z114 LM]) rfl ?_
    refine im_aload_n X 0 dX10_readsSeen_117 rfl rfl ?_
    refine im_cget X 0 0 (v := .ref (aM 2)) fl_X10_17 rfl rfl rfl dX10_readsSeen_118 ?_
    refine im_sipush X 177 dX10_readsSeen_121 (by decide) ?_
    refine im_dup2_11 X rfl rfl dX10_readsSeen_124 ?_
    refine im_ciald X 0 2 0 (f := (z114 2)) rfl rfl rfl dX10_readsSeen_125 ?_
    refine im_iconst X 1 dX10_readsSeen_126 (by decide) ?_
    refine im_iadd X dX10_readsSeen_127 ?_
    refine im_ciast X 0 2 0 (wx_Model ct aM (z114 0 0) (z114 0 4) (z114 0 6) (z114 0 7) (z114 0 8) (z114 0 9) (z114 0 24) (z114 0 27) (z114 0 29) (z114 0 31) (z114 0 32) (z114 0 33) (z114 0 34) (z114 0 35) (z114 1) (upd (z114 2) (177 : Int32).toNatClampNeg (((z114 2) (177 : Int32).toNatClampNeg) + 1)) (z114 3) (z114 4) (z114 5) (z114 9) (z114 10) (z114 11) (z114 12) (z114 13) (z114 14) (z114 15) (z114 16) (z114 17) (z114 18) (z114 19) (z114 20) (z114 21) (z114 22) (LM 6) (LM 7) (LM 8)) [wx_Model ct aM (z114 0 0) (z114 0 4) (z114 0 6) (z114 0 7) (z114 0 8) (z114 0 9) (z114 0 24) (z114 0 27) (z114 0 29) (z114 0 31) (z114 0 32) (z114 0 33) (z114 0 34) (z114 0 35) (z114 1) (upd (z114 2) (177 : Int32).toNatClampNeg (((z114 2) (177 : Int32).toNatClampNeg) + 1)) (z114 3) (z114 4) (z114 5) (z114 9) (z114 10) (z114 11) (z114 12) (z114 13) (z114 14) (z114 15) (z114 16) (z114 17) (z114 18) (z114 19) (z114 20) (z114 21) (z114 22) (LM 6) (LM 7) (LM 8)] (f := (z114 2)) rfl rfl rfl rfl rfl dX10_readsSeen_128 ?_
    exact im_return X (mr z114 2 (upd (z114 2) (177 : Int32).toNatClampNeg (((z114 2) (177 : Int32).toNatClampNeg) + 1))) rfl dX10_readsSeen_129
  · refine im_aload_n X 0 dX10_readsSeen_13 rfl rfl ?_
    refine im_iload_n X 1 dX10_readsSeen_14 rfl rfl ?_
    refine im_ccvV X [.int x1] [] [w_Model ct aM M LM] [w_Model ct aM M LM] [0] (fun z15 => [w_Model ct aM z15 LM]) 0 0 10 rfl rfl rfl cl_X10_345 (c_X10_fails l D ct F aM M LM x1) rfl (by decide) (fun _ => lc fa_Model (rfl)) rfl ⟨by decide, by decide⟩ (Nat.le_of_ble_eq_true rfl) rfl dX10_readsSeen_15 (fun z15 => ?_)
    refine im_ws (cat [w_Model ct aM z15 LM]) rfl ?_
    exact im_return X z15 rfl dX10_readsSeen_18
theorem c_X10_readsSeen (l : Launch) (D : va_G) (ct : im_ct) (F : Nat) (aM : Nat → Nat) (M : Mem) (LM : MemL) (x1 : Int32) : CMv l D ct yX10_readsSeen cX10_readsSeen 3 none 3 [.ref (aM 0), .int x1] (cat [w_Model ct aM M LM]) (f_X10_readsSeen F M LM x1) (fun z : Mem => (cat [w_Model ct aM z LM])) :=
  im_met (Qb := fun A => QV D A (fun z : Mem => (cat [w_Model ct aM z LM]))) (by decide +kernel) (Nat.le_of_ble_eq_true rfl) (fun p e s m args below meth c A X => i_X10_readsSeen X F aM M LM x1)

noncomputable def f_X10_stage (F : Nat) (x0 : Int32) : Option (Int32) :=
  (if 2 ≤ x0 then (if 7 ≤ x0 then (some 3) else (some 2)) else (some x0))
set_option maxRecDepth 100000 in
set_option maxHeartbeats 4000000 in
theorem i_X10_stage {p : Program} {l : Launch} {e : Env} {s : State} {m : MethodId} {args : Array Value} {below : List Frame} {meth : Method} {c : Code} {D : va_G} {ct : im_ct} {A : Nat → Prop} (X : im_X p (im_rm 0) s m args meth c D ct A RX10 cX10_stage 1 (some .int)) (F : Nat) (x0 : Int32) : Im p l e (im_rm 0) s m args below meth c D A 1 (QI D A (fun z : Int32 => z) (fun z : Int32 => (cat []))) 0 [(0, .int x0)] [] (cat []) (f_X10_stage F x0) := by
  unfold f_X10_stage
  refine im_iload_n X 0 dX10_stage_0 rfl rfl ?_
  refine im_iconst X 2 dX10_stage_1 (by decide) ?_
  refine im_icmp_ge (tgt := 9) X dX10_stage_2 rfl ?_ ?_
  · refine im_iload_n X 0 dX10_stage_9 rfl rfl ?_
    refine im_bipush X 7 dX10_stage_10 (by decide) ?_
    refine im_icmp_ge (tgt := 19) X dX10_stage_12 rfl ?_ ?_
    · refine im_iconst X 3 dX10_stage_19 (by decide) ?_
      exact im_ireturn X 3 rfl rfl dX10_stage_20
    · refine im_iconst X 2 dX10_stage_15 (by decide) ?_
      refine im_goto (tgt := 20) X dX10_stage_16 rfl ?_
      exact im_ireturn X 2 rfl rfl dX10_stage_20
  · refine im_iload_n X 0 dX10_stage_5 rfl rfl ?_
    refine im_goto (tgt := 20) X dX10_stage_6 rfl ?_
    exact im_ireturn X x0 rfl rfl dX10_stage_20
theorem c_X10_stage (l : Launch) (D : va_G) (ct : im_ct) (F : Nat) (x0 : Int32) : CMi l D ct yX10_stage cX10_stage 1 (some .int) 0 [.int x0] (cat []) (f_X10_stage F x0) (fun z : Int32 => z) (fun z : Int32 => (cat [])) :=
  im_met (Qb := fun A => QI D A (fun z : Int32 => z) (fun z : Int32 => (cat []))) (by decide +kernel) (Nat.le_of_ble_eq_true rfl) (fun p e s m args below meth c A X => i_X10_stage X F x0)

noncomputable def f_X10_lineHere_2 (F : Nat) (M : Mem) (LM : MemL) (k16 : Int32 → Option (Int32)) (k24 : Option (Int32)) : Nat → Int32 → Option (Int32)
  | 0, _ => none
  | n + 1, x1 =>
  (if 8 ≤ x1 then k24 else (f_X10_isWord F M LM x1).bind (fun z10 => (if z10 = 0 then f_X10_lineHere_2 F M LM k16 k24 n (x1 + 1) else k16 x1)))
set_option maxRecDepth 100000 in
set_option maxHeartbeats 4000000 in
theorem i_X10_lineHere_2 {p : Program} {l : Launch} {e : Env} {s : State} {m : MethodId} {args : Array Value} {below : List Frame} {meth : Method} {c : Code} {D : va_G} {ct : im_ct} {A : Nat → Prop} (X : im_X p (im_rm 2) s m args meth c D ct A RX10 cX10_lineHere 2 (some .int)) (F : Nat) (aM : Nat → Nat) (M : Mem) (LM : MemL) (k16 : Int32 → Option (Int32)) (hk16 : ∀ (x1 : Int32), Im p l e (im_rm 2) s m args below meth c D A 2 (QI D A (fun z : Int32 => z) (fun z : Int32 => (cat [w_Model ct aM M LM]))) 16 [(1, .int x1)] [] (cat [w_Model ct aM M LM]) (k16 x1)) (k24 : Option (Int32)) (hk24 : Im p l e (im_rm 2) s m args below meth c D A 2 (QI D A (fun z : Int32 => z) (fun z : Int32 => (cat [w_Model ct aM M LM]))) 24 [] [] (cat [w_Model ct aM M LM]) (k24)) : ∀ (n : Nat) (x1 : Int32), Im p l e (im_rm 2) s m args below meth c D A 2 (QI D A (fun z : Int32 => z) (fun z : Int32 => (cat [w_Model ct aM M LM]))) 2 [(0, .ref (aM 0)), (1, .int x1)] [] (cat [w_Model ct aM M LM]) (f_X10_lineHere_2 F M LM k16 k24 n x1) := by
  intro n
  induction n with
  | zero => intros; exact im_none
  | succ n ih =>
    intro x1
    unfold f_X10_lineHere_2
    refine im_iload_n X 1 dX10_lineHere_2 rfl rfl ?_
    refine im_bipush X 8 dX10_lineHere_3 (by decide) ?_
    refine im_icmp_ge (tgt := 24) X dX10_lineHere_5 rfl ?_ ?_
    · refine im_lv [] [] rfl ?_
      exact hk24
    · refine im_aload_n X 0 dX10_lineHere_8 rfl rfl ?_
      refine im_iload_n X 1 dX10_lineHere_9 rfl rfl ?_
      refine im_cciV X [.int x1] [] [w_Model ct aM M LM] [w_Model ct aM M LM] [0] (fun z10 => [w_Model ct aM M LM]) 0 0 10 rfl rfl rfl cl_X10_360 (c_X10_isWord l D ct F aM M LM x1) rfl (by decide) (fun _ => lc rfl (rfl)) rfl ⟨by decide, by decide⟩ (Nat.le_of_ble_eq_true rfl) rfl dX10_lineHere_10 (fun z10 => ?_)
      refine im_ws (cat [w_Model ct aM M LM]) rfl ?_
      refine im_if_eq (tgt := 18) X dX10_lineHere_13 rfl ?_ ?_
      · refine im_iinc X 1 1 [1, 0] [(0, .ref (aM 0)), (1, .int (x1 + 1))] dX10_lineHere_18 (by decide) rfl (by decide) rfl ?_
        refine im_goto (tgt := 2) X dX10_lineHere_21 rfl ?_
        exact ih (x1 + 1)
      · refine im_lv [1] [(1, .int x1)] rfl ?_
        exact hk16 x1
noncomputable def f_X10_lineHere (F : Nat) (M : Mem) (LM : MemL) : Option (Int32) :=
  f_X10_lineHere_2 F M LM (fun x1_16 => (some x1_16)) ((some (-1))) F 0
set_option maxRecDepth 100000 in
set_option maxHeartbeats 4000000 in
theorem i_X10_lineHere {p : Program} {l : Launch} {e : Env} {s : State} {m : MethodId} {args : Array Value} {below : List Frame} {meth : Method} {c : Code} {D : va_G} {ct : im_ct} {A : Nat → Prop} (X : im_X p (im_rm 2) s m args meth c D ct A RX10 cX10_lineHere 2 (some .int)) (F : Nat) (aM : Nat → Nat) (M : Mem) (LM : MemL) : Im p l e (im_rm 2) s m args below meth c D A 2 (QI D A (fun z : Int32 => z) (fun z : Int32 => (cat [w_Model ct aM M LM]))) 0 [(0, .ref (aM 0))] [] (cat [w_Model ct aM M LM]) (f_X10_lineHere F M LM) := by
  unfold f_X10_lineHere
  refine im_iconst X 0 dX10_lineHere_0 (by decide) ?_
  refine im_istore_n X [1, 0] [(0, .ref (aM 0)), (1, .int 0)] dX10_lineHere_1 rfl (by decide) rfl ?_
  refine i_X10_lineHere_2 X F aM M LM  _ (fun x1_16 => ?_) _ ?_ F 0
  · refine im_iload_n X 0 dX10_lineHere_16 rfl rfl ?_
    exact im_ireturn X x1_16 rfl rfl dX10_lineHere_17
  · refine im_iconst X (-1) dX10_lineHere_24 (by decide) ?_
    exact im_ireturn X (-1) rfl rfl dX10_lineHere_25
theorem c_X10_lineHere (l : Launch) (D : va_G) (ct : im_ct) (F : Nat) (aM : Nat → Nat) (M : Mem) (LM : MemL) : CMi l D ct yX10_lineHere cX10_lineHere 2 (some .int) 2 [.ref (aM 0)] (cat [w_Model ct aM M LM]) (f_X10_lineHere F M LM) (fun z : Int32 => z) (fun z : Int32 => (cat [w_Model ct aM M LM])) :=
  im_met (Qb := fun A => QI D A (fun z : Int32 => z) (fun z : Int32 => (cat [w_Model ct aM M LM]))) (by decide +kernel) (Nat.le_of_ble_eq_true rfl) (fun p e s m args below meth c A X => i_X10_lineHere X F aM M LM)

