noncomputable def f_X1_tell (F : Nat) (E : Mem) (x1 : Int32) (x2 : Int32) (x3 : Int32) (x4 : Int32) : Option (Mem) :=
  (some (mr E 0 (fu (fu (fu (fu (E 0) 0 x1) 1 x2) 2 x3) 3 x4)))
set_option maxRecDepth 100000 in
set_option maxHeartbeats 4000000 in
theorem i_X1_tell {p : Program} {l : Launch} {e : Env} {s : State} {m : MethodId} {args : Array Value} {below : List Frame} {meth : Method} {c : Code} {D : va_G} {ct : im_ct} {A : Nat → Prop} (X : im_X p (im_rm 0) s m args meth c D ct A RX1 cX1_tell 5 none) (F : Nat) (aE : Nat → Nat) (E : Mem) (x1 : Int32) (x2 : Int32) (x3 : Int32) (x4 : Int32) : Im p l e (im_rm 0) s m args below meth c D A 5 (QV D A (fun z : Mem => (cat [w_Effect ct aE z]))) 0 [(0, .ref (aE 0)), (1, .int x1), (2, .int x2), (3, .int x3), (4, .int x4)] [] (cat [w_Effect ct aE E]) (f_X1_tell F E x1 x2 x3 x4) := by
  unfold f_X1_tell
  refine im_aload_n X 0 dX1_tell_0 rfl rfl ?_
  refine im_iload_n X 1 dX1_tell_1 rfl rfl ?_
  refine im_cput X 0 0 (wx_Effect ct aE x1 (E 0 1) (E 0 2) (E 0 3)) [wx_Effect ct aE x1 (E 0 1) (E 0 2) (E 0 3)] fl_X1_7 rfl rfl rfl rfl (Nat.le_of_ble_eq_true rfl) rfl rfl dX1_tell_2 ?_
  refine im_aload_n X 0 dX1_tell_5 rfl rfl ?_
  refine im_iload_n X 2 dX1_tell_6 rfl rfl ?_
  refine im_cput X 0 0 (wx_Effect ct aE x1 x2 (E 0 2) (E 0 3)) [wx_Effect ct aE x1 x2 (E 0 2) (E 0 3)] fl_X1_13 rfl rfl rfl rfl (Nat.le_of_ble_eq_true rfl) rfl rfl dX1_tell_7 ?_
  refine im_aload_n X 0 dX1_tell_10 rfl rfl ?_
  refine im_iload_n X 3 dX1_tell_11 rfl rfl ?_
  refine im_cput X 0 0 (wx_Effect ct aE x1 x2 x3 (E 0 3)) [wx_Effect ct aE x1 x2 x3 (E 0 3)] fl_X1_16 rfl rfl rfl rfl (Nat.le_of_ble_eq_true rfl) rfl rfl dX1_tell_12 ?_
  refine im_aload_n X 0 dX1_tell_15 rfl rfl ?_
  refine im_iload X 4 dX1_tell_16 rfl ?_
  refine im_cput X 0 0 (wx_Effect ct aE x1 x2 x3 x4) [wx_Effect ct aE x1 x2 x3 x4] fl_X1_19 rfl rfl rfl rfl (Nat.le_of_ble_eq_true rfl) rfl rfl dX1_tell_18 ?_
  exact im_return X (mr E 0 (fu (fu (fu (fu (E 0) 0 x1) 1 x2) 2 x3) 3 x4)) rfl dX1_tell_21
theorem c_X1_tell (l : Launch) (D : va_G) (ct : im_ct) (F : Nat) (aE : Nat → Nat) (E : Mem) (x1 : Int32) (x2 : Int32) (x3 : Int32) (x4 : Int32) : CMv l D ct yX1_tell cX1_tell 5 none 0 [.ref (aE 0), .int x1, .int x2, .int x3, .int x4] (cat [w_Effect ct aE E]) (f_X1_tell F E x1 x2 x3 x4) (fun z : Mem => (cat [w_Effect ct aE z])) :=
  im_met (Qb := fun A => QV D A (fun z : Mem => (cat [w_Effect ct aE z]))) (by decide +kernel) (Nat.le_of_ble_eq_true rfl) (fun p e s m args below meth c A X => i_X1_tell X F aE E x1 x2 x3 x4)

noncomputable def f_X1_reverse (F : Nat) (E : Mem) : Option (Mem) :=
  (some (mr E 0 (fu (fu (E 0) 1 (-(E 0 1))) 3 (-(E 0 3)))))
set_option maxRecDepth 100000 in
set_option maxHeartbeats 4000000 in
theorem i_X1_reverse {p : Program} {l : Launch} {e : Env} {s : State} {m : MethodId} {args : Array Value} {below : List Frame} {meth : Method} {c : Code} {D : va_G} {ct : im_ct} {A : Nat → Prop} (X : im_X p (im_rm 0) s m args meth c D ct A RX1 cX1_reverse 1 none) (F : Nat) (aE : Nat → Nat) (E : Mem) : Im p l e (im_rm 0) s m args below meth c D A 1 (QV D A (fun z : Mem => (cat [w_Effect ct aE z]))) 0 [(0, .ref (aE 0))] [] (cat [w_Effect ct aE E]) (f_X1_reverse F E) := by
  unfold f_X1_reverse
  refine im_aload_n X 0 dX1_reverse_0 rfl rfl ?_
  refine im_aload_n X 0 dX1_reverse_1 rfl rfl ?_
  refine im_cget X 0 0 (v := .int (E 0 1)) fl_X1_13 rfl rfl rfl dX1_reverse_2 ?_
  refine im_ineg X dX1_reverse_5 ?_
  refine im_cput X 0 0 (wx_Effect ct aE (E 0 0) (-(E 0 1)) (E 0 2) (E 0 3)) [wx_Effect ct aE (E 0 0) (-(E 0 1)) (E 0 2) (E 0 3)] fl_X1_13 rfl rfl rfl rfl (Nat.le_of_ble_eq_true rfl) rfl rfl dX1_reverse_6 ?_
  refine im_aload_n X 0 dX1_reverse_9 rfl rfl ?_
  refine im_aload_n X 0 dX1_reverse_10 rfl rfl ?_
  refine im_cget X 0 0 (v := .int (E 0 3)) fl_X1_19 rfl rfl rfl dX1_reverse_11 ?_
  refine im_ineg X dX1_reverse_14 ?_
  refine im_cput X 0 0 (wx_Effect ct aE (E 0 0) (-(E 0 1)) (E 0 2) (-(E 0 3))) [wx_Effect ct aE (E 0 0) (-(E 0 1)) (E 0 2) (-(E 0 3))] fl_X1_19 rfl rfl rfl rfl (Nat.le_of_ble_eq_true rfl) rfl rfl dX1_reverse_15 ?_
  exact im_return X (mr E 0 (fu (fu (E 0) 1 (-(E 0 1))) 3 (-(E 0 3)))) rfl dX1_reverse_18
theorem c_X1_reverse (l : Launch) (D : va_G) (ct : im_ct) (F : Nat) (aE : Nat → Nat) (E : Mem) : CMv l D ct yX1_reverse cX1_reverse 1 none 0 [.ref (aE 0)] (cat [w_Effect ct aE E]) (f_X1_reverse F E) (fun z : Mem => (cat [w_Effect ct aE z])) :=
  im_met (Qb := fun A => QV D A (fun z : Mem => (cat [w_Effect ct aE z]))) (by decide +kernel) (Nat.le_of_ble_eq_true rfl) (fun p e s m args below meth c A X => i_X1_reverse X F aE E)

noncomputable def f_X1_tellSlide_16 (F : Nat) (E : Mem) (s1 : Int32) (s2 : Int32) (s3 : Int32) : Option (Mem) :=
  (f_X1_tell F E s1 s2 s3 1).bind (fun z17 => (some z17))
set_option maxRecDepth 100000 in
set_option maxHeartbeats 4000000 in
theorem i_X1_tellSlide_16 {p : Program} {l : Launch} {e : Env} {s : State} {m : MethodId} {args : Array Value} {below : List Frame} {meth : Method} {c : Code} {D : va_G} {ct : im_ct} {A : Nat → Prop} (X : im_X p (im_rm 1) s m args meth c D ct A RX1 cX1_tellSlide 3 none) (F : Nat) (aE : Nat → Nat) (E : Mem) (s1 : Int32) (s2 : Int32) (s3 : Int32) : Im p l e (im_rm 1) s m args below meth c D A 3 (QV D A (fun z : Mem => (cat [w_Effect ct aE z]))) 16 [] [.int s3, .int s2, .int s1, .ref (aE 0)] (cat [w_Effect ct aE E]) (f_X1_tellSlide_16 F E s1 s2 s3) := by
  unfold f_X1_tellSlide_16
  refine im_iconst X 1 dX1_tellSlide_16 (by decide) ?_
  refine im_ccvV X [.int s1, .int s2, .int s3, .int 1] [] [w_Effect ct aE E] [w_Effect ct aE E] [0] (fun z17 => [w_Effect ct aE z17]) 0 0 1 rfl rfl rfl cl_X1_22 (c_X1_tell l D ct F aE E s1 s2 s3 1) rfl (by decide) (fun _ => lc fa_Effect (rfl)) rfl ⟨by decide, by decide⟩ (Nat.le_of_ble_eq_true rfl) rfl dX1_tellSlide_17 (fun z17 => ?_)
  refine im_ws (cat [w_Effect ct aE z17]) rfl ?_
  exact im_return X z17 rfl dX1_tellSlide_20
noncomputable def f_X1_tellSlide (F : Nat) (E : Mem) (x1 : Int32) (x2 : Int32) : Option (Mem) :=
  (if x2 = 0 then f_X1_tellSlide_16 F E x1 (-1) (x1 - 1) else f_X1_tellSlide_16 F E x1 (-1) (x1 + 1))
set_option maxRecDepth 100000 in
set_option maxHeartbeats 4000000 in
theorem i_X1_tellSlide {p : Program} {l : Launch} {e : Env} {s : State} {m : MethodId} {args : Array Value} {below : List Frame} {meth : Method} {c : Code} {D : va_G} {ct : im_ct} {A : Nat → Prop} (X : im_X p (im_rm 1) s m args meth c D ct A RX1 cX1_tellSlide 3 none) (F : Nat) (aE : Nat → Nat) (E : Mem) (x1 : Int32) (x2 : Int32) : Im p l e (im_rm 1) s m args below meth c D A 3 (QV D A (fun z : Mem => (cat [w_Effect ct aE z]))) 0 [(0, .ref (aE 0)), (1, .int x1), (2, .int x2)] [] (cat [w_Effect ct aE E]) (f_X1_tellSlide F E x1 x2) := by
  unfold f_X1_tellSlide
  refine im_aload_n X 0 dX1_tellSlide_0 rfl rfl ?_
  refine im_iload_n X 1 dX1_tellSlide_1 rfl rfl ?_
  refine im_iconst X (-1) dX1_tellSlide_2 (by decide) ?_
  refine im_iload_n X 2 dX1_tellSlide_3 rfl rfl ?_
  refine im_if_eq (tgt := 13) X dX1_tellSlide_4 rfl ?_ ?_
  · refine im_iload_n X 1 dX1_tellSlide_13 rfl rfl ?_
    refine im_iconst X 1 dX1_tellSlide_14 (by decide) ?_
    refine im_isub X dX1_tellSlide_15 ?_
    refine im_lv [] [] rfl ?_
    exact i_X1_tellSlide_16 X F aE E x1 (-1) (x1 - 1) 
  · refine im_iload_n X 1 dX1_tellSlide_7 rfl rfl ?_
    refine im_iconst X 1 dX1_tellSlide_8 (by decide) ?_
    refine im_iadd X dX1_tellSlide_9 ?_
    refine im_goto (tgt := 16) X dX1_tellSlide_10 rfl ?_
    refine im_lv [] [] rfl ?_
    exact i_X1_tellSlide_16 X F aE E x1 (-1) (x1 + 1) 
theorem c_X1_tellSlide (l : Launch) (D : va_G) (ct : im_ct) (F : Nat) (aE : Nat → Nat) (E : Mem) (x1 : Int32) (x2 : Int32) : CMv l D ct yX1_tellSlide cX1_tellSlide 3 none 1 [.ref (aE 0), .int x1, .int x2] (cat [w_Effect ct aE E]) (f_X1_tellSlide F E x1 x2) (fun z : Mem => (cat [w_Effect ct aE z])) :=
  im_met (Qb := fun A => QV D A (fun z : Mem => (cat [w_Effect ct aE z]))) (by decide +kernel) (Nat.le_of_ble_eq_true rfl) (fun p e s m args below meth c A X => i_X1_tellSlide X F aE E x1 x2)

noncomputable def f_JM_floorDiv (F : Nat) (x0 : Int32) (x1 : Int32) : Option (Int32) :=
  dv x1 ((if 0 ≤ (x0 ^^^ x1) then (some (x0 / x1)) else (if ((x0 / x1) * x1) = x0 then (some (x0 / x1)) else (some ((x0 / x1) - 1)))))
set_option maxRecDepth 100000 in
set_option maxHeartbeats 4000000 in
theorem i_JM_floorDiv {p : Program} {l : Launch} {e : Env} {s : State} {m : MethodId} {args : Array Value} {below : List Frame} {meth : Method} {c : Code} {D : va_G} {ct : im_ct} {A : Nat → Prop} (X : im_X p (im_rm 0) s m args meth c D ct A RJM cJM_floorDiv 3 (some .int)) (F : Nat) (x0 : Int32) (x1 : Int32) : Im p l e (im_rm 0) s m args below meth c D A 3 (QI D A (fun z : Int32 => z) (fun z : Int32 => (cat []))) 0 [(0, .int x0), (1, .int x1)] [] (cat []) (f_JM_floorDiv F x0 x1) := by
  unfold f_JM_floorDiv
  refine im_iload_n X 0 dJM_floorDiv_0 rfl rfl ?_
  refine im_iload_n X 1 dJM_floorDiv_1 rfl rfl ?_
  refine im_idiv X dJM_floorDiv_2 ?_
  refine im_istore_n X [1, 2, 0] [(0, .int x0), (1, .int x1), (2, .int (x0 / x1))] dJM_floorDiv_3 rfl (by decide) rfl ?_
  refine im_iload_n X 0 dJM_floorDiv_4 rfl rfl ?_
  refine im_iload_n X 1 dJM_floorDiv_5 rfl rfl ?_
  refine im_ixor X dJM_floorDiv_6 ?_
  refine im_if_ge (tgt := 21) X dJM_floorDiv_7 rfl ?_ ?_
  · refine im_iload_n X 2 dJM_floorDiv_21 rfl rfl ?_
    exact im_ireturn X (x0 / x1) rfl rfl dJM_floorDiv_22
  · refine im_iload_n X 2 dJM_floorDiv_10 rfl rfl ?_
    refine im_iload_n X 1 dJM_floorDiv_11 rfl rfl ?_
    refine im_imul X dJM_floorDiv_12 ?_
    refine im_iload_n X 0 dJM_floorDiv_13 rfl rfl ?_
    refine im_icmp_eq (tgt := 21) X dJM_floorDiv_14 rfl ?_ ?_
    · refine im_iload_n X 2 dJM_floorDiv_21 rfl rfl ?_
      exact im_ireturn X (x0 / x1) rfl rfl dJM_floorDiv_22
    · refine im_iload_n X 2 dJM_floorDiv_17 rfl rfl ?_
      refine im_iconst X 1 dJM_floorDiv_18 (by decide) ?_
      refine im_isub X dJM_floorDiv_19 ?_
      exact im_ireturn X ((x0 / x1) - 1) rfl rfl dJM_floorDiv_20
theorem c_JM_floorDiv (l : Launch) (D : va_G) (ct : im_ct) (F : Nat) (x0 : Int32) (x1 : Int32) : CMi l D ct yJM_floorDiv cJM_floorDiv 3 (some .int) 0 [.int x0, .int x1] (cat []) (f_JM_floorDiv F x0 x1) (fun z : Int32 => z) (fun z : Int32 => (cat [])) :=
  im_met (Qb := fun A => QI D A (fun z : Int32 => z) (fun z : Int32 => (cat []))) (by decide +kernel) (Nat.le_of_ble_eq_true rfl) (fun p e s m args below meth c A X => i_JM_floorDiv X F x0 x1)

noncomputable def f_JM_floorMod (F : Nat) (x0 : Int32) (x1 : Int32) : Option (Int32) :=
  dv x1 ((if 0 ≤ (x0 ^^^ x1) then (some (x0 - x0 / x1 * x1)) else (if (x0 - x0 / x1 * x1) = 0 then (some (x0 - x0 / x1 * x1)) else (some ((x0 - x0 / x1 * x1) + x1)))))
set_option maxRecDepth 100000 in
set_option maxHeartbeats 4000000 in
theorem i_JM_floorMod {p : Program} {l : Launch} {e : Env} {s : State} {m : MethodId} {args : Array Value} {below : List Frame} {meth : Method} {c : Code} {D : va_G} {ct : im_ct} {A : Nat → Prop} (X : im_X p (im_rm 0) s m args meth c D ct A RJM cJM_floorMod 3 (some .int)) (F : Nat) (x0 : Int32) (x1 : Int32) : Im p l e (im_rm 0) s m args below meth c D A 3 (QI D A (fun z : Int32 => z) (fun z : Int32 => (cat []))) 0 [(0, .int x0), (1, .int x1)] [] (cat []) (f_JM_floorMod F x0 x1) := by
  unfold f_JM_floorMod
  refine im_iload_n X 0 dJM_floorMod_0 rfl rfl ?_
  refine im_iload_n X 1 dJM_floorMod_1 rfl rfl ?_
  refine im_irem X dJM_floorMod_2 ?_
  refine im_istore_n X [1, 2, 0] [(0, .int x0), (1, .int x1), (2, .int (x0 - x0 / x1 * x1))] dJM_floorMod_3 rfl (by decide) rfl ?_
  refine im_iload_n X 0 dJM_floorMod_4 rfl rfl ?_
  refine im_iload_n X 1 dJM_floorMod_5 rfl rfl ?_
  refine im_ixor X dJM_floorMod_6 ?_
  refine im_if_ge (tgt := 18) X dJM_floorMod_7 rfl ?_ ?_
  · refine im_iload_n X 2 dJM_floorMod_18 rfl rfl ?_
    exact im_ireturn X (x0 - x0 / x1 * x1) rfl rfl dJM_floorMod_19
  · refine im_iload_n X 2 dJM_floorMod_10 rfl rfl ?_
    refine im_if_eq (tgt := 18) X dJM_floorMod_11 rfl ?_ ?_
    · refine im_iload_n X 2 dJM_floorMod_18 rfl rfl ?_
      exact im_ireturn X (x0 - x0 / x1 * x1) rfl rfl dJM_floorMod_19
    · refine im_iload_n X 2 dJM_floorMod_14 rfl rfl ?_
      refine im_iload_n X 1 dJM_floorMod_15 rfl rfl ?_
      refine im_iadd X dJM_floorMod_16 ?_
      exact im_ireturn X ((x0 - x0 / x1 * x1) + x1) rfl rfl dJM_floorMod_17
theorem c_JM_floorMod (l : Launch) (D : va_G) (ct : im_ct) (F : Nat) (x0 : Int32) (x1 : Int32) : CMi l D ct yJM_floorMod cJM_floorMod 3 (some .int) 0 [.int x0, .int x1] (cat []) (f_JM_floorMod F x0 x1) (fun z : Int32 => z) (fun z : Int32 => (cat [])) :=
  im_met (Qb := fun A => QI D A (fun z : Int32 => z) (fun z : Int32 => (cat []))) (by decide +kernel) (Nat.le_of_ble_eq_true rfl) (fun p e s m args below meth c A X => i_JM_floorMod X F x0 x1)

noncomputable def f_JI_bitCount (F : Nat) (x0 : Int32) : Option (Int32) :=
  (some ((((((((x0 - (((x0 : Int32).toUInt32 >>> ((1 : Int32).toUInt32 &&& Int32.toUInt32 31)).toInt32 &&& 1431655765)) &&& 858993459) + ((((x0 - (((x0 : Int32).toUInt32 >>> ((1 : Int32).toUInt32 &&& Int32.toUInt32 31)).toInt32 &&& 1431655765)) : Int32).toUInt32 >>> ((2 : Int32).toUInt32 &&& Int32.toUInt32 31)).toInt32 &&& 858993459)) + (((((x0 - (((x0 : Int32).toUInt32 >>> ((1 : Int32).toUInt32 &&& Int32.toUInt32 31)).toInt32 &&& 1431655765)) &&& 858993459) + ((((x0 - (((x0 : Int32).toUInt32 >>> ((1 : Int32).toUInt32 &&& Int32.toUInt32 31)).toInt32 &&& 1431655765)) : Int32).toUInt32 >>> ((2 : Int32).toUInt32 &&& Int32.toUInt32 31)).toInt32 &&& 858993459)) : Int32).toUInt32 >>> ((4 : Int32).toUInt32 &&& Int32.toUInt32 31)).toInt32) &&& 252645135) + (((((((x0 - (((x0 : Int32).toUInt32 >>> ((1 : Int32).toUInt32 &&& Int32.toUInt32 31)).toInt32 &&& 1431655765)) &&& 858993459) + ((((x0 - (((x0 : Int32).toUInt32 >>> ((1 : Int32).toUInt32 &&& Int32.toUInt32 31)).toInt32 &&& 1431655765)) : Int32).toUInt32 >>> ((2 : Int32).toUInt32 &&& Int32.toUInt32 31)).toInt32 &&& 858993459)) + (((((x0 - (((x0 : Int32).toUInt32 >>> ((1 : Int32).toUInt32 &&& Int32.toUInt32 31)).toInt32 &&& 1431655765)) &&& 858993459) + ((((x0 - (((x0 : Int32).toUInt32 >>> ((1 : Int32).toUInt32 &&& Int32.toUInt32 31)).toInt32 &&& 1431655765)) : Int32).toUInt32 >>> ((2 : Int32).toUInt32 &&& Int32.toUInt32 31)).toInt32 &&& 858993459)) : Int32).toUInt32 >>> ((4 : Int32).toUInt32 &&& Int32.toUInt32 31)).toInt32) &&& 252645135) : Int32).toUInt32 >>> ((8 : Int32).toUInt32 &&& Int32.toUInt32 31)).toInt32) + ((((((((x0 - (((x0 : Int32).toUInt32 >>> ((1 : Int32).toUInt32 &&& Int32.toUInt32 31)).toInt32 &&& 1431655765)) &&& 858993459) + ((((x0 - (((x0 : Int32).toUInt32 >>> ((1 : Int32).toUInt32 &&& Int32.toUInt32 31)).toInt32 &&& 1431655765)) : Int32).toUInt32 >>> ((2 : Int32).toUInt32 &&& Int32.toUInt32 31)).toInt32 &&& 858993459)) + (((((x0 - (((x0 : Int32).toUInt32 >>> ((1 : Int32).toUInt32 &&& Int32.toUInt32 31)).toInt32 &&& 1431655765)) &&& 858993459) + ((((x0 - (((x0 : Int32).toUInt32 >>> ((1 : Int32).toUInt32 &&& Int32.toUInt32 31)).toInt32 &&& 1431655765)) : Int32).toUInt32 >>> ((2 : Int32).toUInt32 &&& Int32.toUInt32 31)).toInt32 &&& 858993459)) : Int32).toUInt32 >>> ((4 : Int32).toUInt32 &&& Int32.toUInt32 31)).toInt32) &&& 252645135) + (((((((x0 - (((x0 : Int32).toUInt32 >>> ((1 : Int32).toUInt32 &&& Int32.toUInt32 31)).toInt32 &&& 1431655765)) &&& 858993459) + ((((x0 - (((x0 : Int32).toUInt32 >>> ((1 : Int32).toUInt32 &&& Int32.toUInt32 31)).toInt32 &&& 1431655765)) : Int32).toUInt32 >>> ((2 : Int32).toUInt32 &&& Int32.toUInt32 31)).toInt32 &&& 858993459)) + (((((x0 - (((x0 : Int32).toUInt32 >>> ((1 : Int32).toUInt32 &&& Int32.toUInt32 31)).toInt32 &&& 1431655765)) &&& 858993459) + ((((x0 - (((x0 : Int32).toUInt32 >>> ((1 : Int32).toUInt32 &&& Int32.toUInt32 31)).toInt32 &&& 1431655765)) : Int32).toUInt32 >>> ((2 : Int32).toUInt32 &&& Int32.toUInt32 31)).toInt32 &&& 858993459)) : Int32).toUInt32 >>> ((4 : Int32).toUInt32 &&& Int32.toUInt32 31)).toInt32) &&& 252645135) : Int32).toUInt32 >>> ((8 : Int32).toUInt32 &&& Int32.toUInt32 31)).toInt32) : Int32).toUInt32 >>> ((16 : Int32).toUInt32 &&& Int32.toUInt32 31)).toInt32) &&& 63))
set_option maxRecDepth 100000 in
set_option maxHeartbeats 4000000 in
theorem i_JI_bitCount {p : Program} {l : Launch} {e : Env} {s : State} {m : MethodId} {args : Array Value} {below : List Frame} {meth : Method} {c : Code} {D : va_G} {ct : im_ct} {A : Nat → Prop} (X : im_X p (im_rm 0) s m args meth c D ct A RJI cJI_bitCount 1 (some .int)) (F : Nat) (x0 : Int32) : Im p l e (im_rm 0) s m args below meth c D A 1 (QI D A (fun z : Int32 => z) (fun z : Int32 => (cat []))) 0 [(0, .int x0)] [] (cat []) (f_JI_bitCount F x0) := by
  unfold f_JI_bitCount
  refine im_iload_n X 0 dJI_bitCount_0 rfl rfl ?_
  refine im_iload_n X 0 dJI_bitCount_1 rfl rfl ?_
  refine im_iconst X 1 dJI_bitCount_2 (by decide) ?_
  refine im_iushr X dJI_bitCount_3 ?_
  refine im_ldcw X kc_JI_265 dJI_bitCount_4 ?_
  refine im_iand X dJI_bitCount_7 ?_
  refine im_isub X dJI_bitCount_8 ?_
  refine im_istore_n X [0] [(0, .int (x0 - (((x0 : Int32).toUInt32 >>> ((1 : Int32).toUInt32 &&& Int32.toUInt32 31)).toInt32 &&& 1431655765)))] dJI_bitCount_9 rfl (by decide) rfl ?_
  refine im_iload_n X 0 dJI_bitCount_10 rfl rfl ?_
  refine im_ldcw X kc_JI_266 dJI_bitCount_11 ?_
  refine im_iand X dJI_bitCount_14 ?_
  refine im_iload_n X 0 dJI_bitCount_15 rfl rfl ?_
  refine im_iconst X 2 dJI_bitCount_16 (by decide) ?_
  refine im_iushr X dJI_bitCount_17 ?_
  refine im_ldcw X kc_JI_266 dJI_bitCount_18 ?_
  refine im_iand X dJI_bitCount_21 ?_
  refine im_iadd X dJI_bitCount_22 ?_
  refine im_istore_n X [0] [(0, .int (((x0 - (((x0 : Int32).toUInt32 >>> ((1 : Int32).toUInt32 &&& Int32.toUInt32 31)).toInt32 &&& 1431655765)) &&& 858993459) + ((((x0 - (((x0 : Int32).toUInt32 >>> ((1 : Int32).toUInt32 &&& Int32.toUInt32 31)).toInt32 &&& 1431655765)) : Int32).toUInt32 >>> ((2 : Int32).toUInt32 &&& Int32.toUInt32 31)).toInt32 &&& 858993459)))] dJI_bitCount_23 rfl (by decide) rfl ?_
  refine im_iload_n X 0 dJI_bitCount_24 rfl rfl ?_
  refine im_iload_n X 0 dJI_bitCount_25 rfl rfl ?_
  refine im_iconst X 4 dJI_bitCount_26 (by decide) ?_
  refine im_iushr X dJI_bitCount_27 ?_
  refine im_iadd X dJI_bitCount_28 ?_
  refine im_ldcw X kc_JI_267 dJI_bitCount_29 ?_
  refine im_iand X dJI_bitCount_32 ?_
  refine im_istore_n X [0] [(0, .int (((((x0 - (((x0 : Int32).toUInt32 >>> ((1 : Int32).toUInt32 &&& Int32.toUInt32 31)).toInt32 &&& 1431655765)) &&& 858993459) + ((((x0 - (((x0 : Int32).toUInt32 >>> ((1 : Int32).toUInt32 &&& Int32.toUInt32 31)).toInt32 &&& 1431655765)) : Int32).toUInt32 >>> ((2 : Int32).toUInt32 &&& Int32.toUInt32 31)).toInt32 &&& 858993459)) + (((((x0 - (((x0 : Int32).toUInt32 >>> ((1 : Int32).toUInt32 &&& Int32.toUInt32 31)).toInt32 &&& 1431655765)) &&& 858993459) + ((((x0 - (((x0 : Int32).toUInt32 >>> ((1 : Int32).toUInt32 &&& Int32.toUInt32 31)).toInt32 &&& 1431655765)) : Int32).toUInt32 >>> ((2 : Int32).toUInt32 &&& Int32.toUInt32 31)).toInt32 &&& 858993459)) : Int32).toUInt32 >>> ((4 : Int32).toUInt32 &&& Int32.toUInt32 31)).toInt32) &&& 252645135))] dJI_bitCount_33 rfl (by decide) rfl ?_
  refine im_iload_n X 0 dJI_bitCount_34 rfl rfl ?_
  refine im_iload_n X 0 dJI_bitCount_35 rfl rfl ?_
  refine im_bipush X 8 dJI_bitCount_36 (by decide) ?_
  refine im_iushr X dJI_bitCount_38 ?_
  refine im_iadd X dJI_bitCount_39 ?_
  refine im_istore_n X [0] [(0, .int ((((((x0 - (((x0 : Int32).toUInt32 >>> ((1 : Int32).toUInt32 &&& Int32.toUInt32 31)).toInt32 &&& 1431655765)) &&& 858993459) + ((((x0 - (((x0 : Int32).toUInt32 >>> ((1 : Int32).toUInt32 &&& Int32.toUInt32 31)).toInt32 &&& 1431655765)) : Int32).toUInt32 >>> ((2 : Int32).toUInt32 &&& Int32.toUInt32 31)).toInt32 &&& 858993459)) + (((((x0 - (((x0 : Int32).toUInt32 >>> ((1 : Int32).toUInt32 &&& Int32.toUInt32 31)).toInt32 &&& 1431655765)) &&& 858993459) + ((((x0 - (((x0 : Int32).toUInt32 >>> ((1 : Int32).toUInt32 &&& Int32.toUInt32 31)).toInt32 &&& 1431655765)) : Int32).toUInt32 >>> ((2 : Int32).toUInt32 &&& Int32.toUInt32 31)).toInt32 &&& 858993459)) : Int32).toUInt32 >>> ((4 : Int32).toUInt32 &&& Int32.toUInt32 31)).toInt32) &&& 252645135) + (((((((x0 - (((x0 : Int32).toUInt32 >>> ((1 : Int32).toUInt32 &&& Int32.toUInt32 31)).toInt32 &&& 1431655765)) &&& 858993459) + ((((x0 - (((x0 : Int32).toUInt32 >>> ((1 : Int32).toUInt32 &&& Int32.toUInt32 31)).toInt32 &&& 1431655765)) : Int32).toUInt32 >>> ((2 : Int32).toUInt32 &&& Int32.toUInt32 31)).toInt32 &&& 858993459)) + (((((x0 - (((x0 : Int32).toUInt32 >>> ((1 : Int32).toUInt32 &&& Int32.toUInt32 31)).toInt32 &&& 1431655765)) &&& 858993459) + ((((x0 - (((x0 : Int32).toUInt32 >>> ((1 : Int32).toUInt32 &&& Int32.toUInt32 31)).toInt32 &&& 1431655765)) : Int32).toUInt32 >>> ((2 : Int32).toUInt32 &&& Int32.toUInt32 31)).toInt32 &&& 858993459)) : Int32).toUInt32 >>> ((4 : Int32).toUInt32 &&& Int32.toUInt32 31)).toInt32) &&& 252645135) : Int32).toUInt32 >>> ((8 : Int32).toUInt32 &&& Int32.toUInt32 31)).toInt32))] dJI_bitCount_40 rfl (by decide) rfl ?_
  refine im_iload_n X 0 dJI_bitCount_41 rfl rfl ?_
  refine im_iload_n X 0 dJI_bitCount_42 rfl rfl ?_
  refine im_bipush X 16 dJI_bitCount_43 (by decide) ?_
  refine im_iushr X dJI_bitCount_45 ?_
  refine im_iadd X dJI_bitCount_46 ?_
  refine im_istore_n X [0] [(0, .int (((((((x0 - (((x0 : Int32).toUInt32 >>> ((1 : Int32).toUInt32 &&& Int32.toUInt32 31)).toInt32 &&& 1431655765)) &&& 858993459) + ((((x0 - (((x0 : Int32).toUInt32 >>> ((1 : Int32).toUInt32 &&& Int32.toUInt32 31)).toInt32 &&& 1431655765)) : Int32).toUInt32 >>> ((2 : Int32).toUInt32 &&& Int32.toUInt32 31)).toInt32 &&& 858993459)) + (((((x0 - (((x0 : Int32).toUInt32 >>> ((1 : Int32).toUInt32 &&& Int32.toUInt32 31)).toInt32 &&& 1431655765)) &&& 858993459) + ((((x0 - (((x0 : Int32).toUInt32 >>> ((1 : Int32).toUInt32 &&& Int32.toUInt32 31)).toInt32 &&& 1431655765)) : Int32).toUInt32 >>> ((2 : Int32).toUInt32 &&& Int32.toUInt32 31)).toInt32 &&& 858993459)) : Int32).toUInt32 >>> ((4 : Int32).toUInt32 &&& Int32.toUInt32 31)).toInt32) &&& 252645135) + (((((((x0 - (((x0 : Int32).toUInt32 >>> ((1 : Int32).toUInt32 &&& Int32.toUInt32 31)).toInt32 &&& 1431655765)) &&& 858993459) + ((((x0 - (((x0 : Int32).toUInt32 >>> ((1 : Int32).toUInt32 &&& Int32.toUInt32 31)).toInt32 &&& 1431655765)) : Int32).toUInt32 >>> ((2 : Int32).toUInt32 &&& Int32.toUInt32 31)).toInt32 &&& 858993459)) + (((((x0 - (((x0 : Int32).toUInt32 >>> ((1 : Int32).toUInt32 &&& Int32.toUInt32 31)).toInt32 &&& 1431655765)) &&& 858993459) + ((((x0 - (((x0 : Int32).toUInt32 >>> ((1 : Int32).toUInt32 &&& Int32.toUInt32 31)).toInt32 &&& 1431655765)) : Int32).toUInt32 >>> ((2 : Int32).toUInt32 &&& Int32.toUInt32 31)).toInt32 &&& 858993459)) : Int32).toUInt32 >>> ((4 : Int32).toUInt32 &&& Int32.toUInt32 31)).toInt32) &&& 252645135) : Int32).toUInt32 >>> ((8 : Int32).toUInt32 &&& Int32.toUInt32 31)).toInt32) + ((((((((x0 - (((x0 : Int32).toUInt32 >>> ((1 : Int32).toUInt32 &&& Int32.toUInt32 31)).toInt32 &&& 1431655765)) &&& 858993459) + ((((x0 - (((x0 : Int32).toUInt32 >>> ((1 : Int32).toUInt32 &&& Int32.toUInt32 31)).toInt32 &&& 1431655765)) : Int32).toUInt32 >>> ((2 : Int32).toUInt32 &&& Int32.toUInt32 31)).toInt32 &&& 858993459)) + (((((x0 - (((x0 : Int32).toUInt32 >>> ((1 : Int32).toUInt32 &&& Int32.toUInt32 31)).toInt32 &&& 1431655765)) &&& 858993459) + ((((x0 - (((x0 : Int32).toUInt32 >>> ((1 : Int32).toUInt32 &&& Int32.toUInt32 31)).toInt32 &&& 1431655765)) : Int32).toUInt32 >>> ((2 : Int32).toUInt32 &&& Int32.toUInt32 31)).toInt32 &&& 858993459)) : Int32).toUInt32 >>> ((4 : Int32).toUInt32 &&& Int32.toUInt32 31)).toInt32) &&& 252645135) + (((((((x0 - (((x0 : Int32).toUInt32 >>> ((1 : Int32).toUInt32 &&& Int32.toUInt32 31)).toInt32 &&& 1431655765)) &&& 858993459) + ((((x0 - (((x0 : Int32).toUInt32 >>> ((1 : Int32).toUInt32 &&& Int32.toUInt32 31)).toInt32 &&& 1431655765)) : Int32).toUInt32 >>> ((2 : Int32).toUInt32 &&& Int32.toUInt32 31)).toInt32 &&& 858993459)) + (((((x0 - (((x0 : Int32).toUInt32 >>> ((1 : Int32).toUInt32 &&& Int32.toUInt32 31)).toInt32 &&& 1431655765)) &&& 858993459) + ((((x0 - (((x0 : Int32).toUInt32 >>> ((1 : Int32).toUInt32 &&& Int32.toUInt32 31)).toInt32 &&& 1431655765)) : Int32).toUInt32 >>> ((2 : Int32).toUInt32 &&& Int32.toUInt32 31)).toInt32 &&& 858993459)) : Int32).toUInt32 >>> ((4 : Int32).toUInt32 &&& Int32.toUInt32 31)).toInt32) &&& 252645135) : Int32).toUInt32 >>> ((8 : Int32).toUInt32 &&& Int32.toUInt32 31)).toInt32) : Int32).toUInt32 >>> ((16 : Int32).toUInt32 &&& Int32.toUInt32 31)).toInt32))] dJI_bitCount_47 rfl (by decide) rfl ?_
  refine im_iload_n X 0 dJI_bitCount_48 rfl rfl ?_
  refine im_bipush X 63 dJI_bitCount_49 (by decide) ?_
  refine im_iand X dJI_bitCount_51 ?_
  exact im_ireturn X ((((((((x0 - (((x0 : Int32).toUInt32 >>> ((1 : Int32).toUInt32 &&& Int32.toUInt32 31)).toInt32 &&& 1431655765)) &&& 858993459) + ((((x0 - (((x0 : Int32).toUInt32 >>> ((1 : Int32).toUInt32 &&& Int32.toUInt32 31)).toInt32 &&& 1431655765)) : Int32).toUInt32 >>> ((2 : Int32).toUInt32 &&& Int32.toUInt32 31)).toInt32 &&& 858993459)) + (((((x0 - (((x0 : Int32).toUInt32 >>> ((1 : Int32).toUInt32 &&& Int32.toUInt32 31)).toInt32 &&& 1431655765)) &&& 858993459) + ((((x0 - (((x0 : Int32).toUInt32 >>> ((1 : Int32).toUInt32 &&& Int32.toUInt32 31)).toInt32 &&& 1431655765)) : Int32).toUInt32 >>> ((2 : Int32).toUInt32 &&& Int32.toUInt32 31)).toInt32 &&& 858993459)) : Int32).toUInt32 >>> ((4 : Int32).toUInt32 &&& Int32.toUInt32 31)).toInt32) &&& 252645135) + (((((((x0 - (((x0 : Int32).toUInt32 >>> ((1 : Int32).toUInt32 &&& Int32.toUInt32 31)).toInt32 &&& 1431655765)) &&& 858993459) + ((((x0 - (((x0 : Int32).toUInt32 >>> ((1 : Int32).toUInt32 &&& Int32.toUInt32 31)).toInt32 &&& 1431655765)) : Int32).toUInt32 >>> ((2 : Int32).toUInt32 &&& Int32.toUInt32 31)).toInt32 &&& 858993459)) + (((((x0 - (((x0 : Int32).toUInt32 >>> ((1 : Int32).toUInt32 &&& Int32.toUInt32 31)).toInt32 &&& 1431655765)) &&& 858993459) + ((((x0 - (((x0 : Int32).toUInt32 >>> ((1 : Int32).toUInt32 &&& Int32.toUInt32 31)).toInt32 &&& 1431655765)) : Int32).toUInt32 >>> ((2 : Int32).toUInt32 &&& Int32.toUInt32 31)).toInt32 &&& 858993459)) : Int32).toUInt32 >>> ((4 : Int32).toUInt32 &&& Int32.toUInt32 31)).toInt32) &&& 252645135) : Int32).toUInt32 >>> ((8 : Int32).toUInt32 &&& Int32.toUInt32 31)).toInt32) + ((((((((x0 - (((x0 : Int32).toUInt32 >>> ((1 : Int32).toUInt32 &&& Int32.toUInt32 31)).toInt32 &&& 1431655765)) &&& 858993459) + ((((x0 - (((x0 : Int32).toUInt32 >>> ((1 : Int32).toUInt32 &&& Int32.toUInt32 31)).toInt32 &&& 1431655765)) : Int32).toUInt32 >>> ((2 : Int32).toUInt32 &&& Int32.toUInt32 31)).toInt32 &&& 858993459)) + (((((x0 - (((x0 : Int32).toUInt32 >>> ((1 : Int32).toUInt32 &&& Int32.toUInt32 31)).toInt32 &&& 1431655765)) &&& 858993459) + ((((x0 - (((x0 : Int32).toUInt32 >>> ((1 : Int32).toUInt32 &&& Int32.toUInt32 31)).toInt32 &&& 1431655765)) : Int32).toUInt32 >>> ((2 : Int32).toUInt32 &&& Int32.toUInt32 31)).toInt32 &&& 858993459)) : Int32).toUInt32 >>> ((4 : Int32).toUInt32 &&& Int32.toUInt32 31)).toInt32) &&& 252645135) + (((((((x0 - (((x0 : Int32).toUInt32 >>> ((1 : Int32).toUInt32 &&& Int32.toUInt32 31)).toInt32 &&& 1431655765)) &&& 858993459) + ((((x0 - (((x0 : Int32).toUInt32 >>> ((1 : Int32).toUInt32 &&& Int32.toUInt32 31)).toInt32 &&& 1431655765)) : Int32).toUInt32 >>> ((2 : Int32).toUInt32 &&& Int32.toUInt32 31)).toInt32 &&& 858993459)) + (((((x0 - (((x0 : Int32).toUInt32 >>> ((1 : Int32).toUInt32 &&& Int32.toUInt32 31)).toInt32 &&& 1431655765)) &&& 858993459) + ((((x0 - (((x0 : Int32).toUInt32 >>> ((1 : Int32).toUInt32 &&& Int32.toUInt32 31)).toInt32 &&& 1431655765)) : Int32).toUInt32 >>> ((2 : Int32).toUInt32 &&& Int32.toUInt32 31)).toInt32 &&& 858993459)) : Int32).toUInt32 >>> ((4 : Int32).toUInt32 &&& Int32.toUInt32 31)).toInt32) &&& 252645135) : Int32).toUInt32 >>> ((8 : Int32).toUInt32 &&& Int32.toUInt32 31)).toInt32) : Int32).toUInt32 >>> ((16 : Int32).toUInt32 &&& Int32.toUInt32 31)).toInt32) &&& 63) rfl rfl dJI_bitCount_52
theorem c_JI_bitCount (l : Launch) (D : va_G) (ct : im_ct) (F : Nat) (x0 : Int32) : CMi l D ct yJI_bitCount cJI_bitCount 1 (some .int) 0 [.int x0] (cat []) (f_JI_bitCount F x0) (fun z : Int32 => z) (fun z : Int32 => (cat [])) :=
  im_met (Qb := fun A => QI D A (fun z : Int32 => z) (fun z : Int32 => (cat []))) (by decide +kernel) (Nat.le_of_ble_eq_true rfl) (fun p e s m args below meth c A X => i_JI_bitCount X F x0)

noncomputable def f_X1_changeOf_16 (F : Nat) (E : Mem) (x1 : Int32) (s0 : Int32) : Option (Int32) :=
  (if x1 = (E 0 2) then (some (s0 + (E 0 3))) else (some (s0 + 0)))
set_option maxRecDepth 100000 in
set_option maxHeartbeats 4000000 in
theorem i_X1_changeOf_16 {p : Program} {l : Launch} {e : Env} {s : State} {m : MethodId} {args : Array Value} {below : List Frame} {meth : Method} {c : Code} {D : va_G} {ct : im_ct} {A : Nat → Prop} (X : im_X p (im_rm 0) s m args meth c D ct A RX1 cX1_changeOf 2 (some .int)) (F : Nat) (aE : Nat → Nat) (E : Mem) (x1 : Int32) (s0 : Int32) : Im p l e (im_rm 0) s m args below meth c D A 2 (QI D A (fun z : Int32 => z) (fun z : Int32 => (cat [w_Effect ct aE E]))) 16 [(0, .ref (aE 0)), (1, .int x1)] [.int s0] (cat [w_Effect ct aE E]) (f_X1_changeOf_16 F E x1 s0) := by
  unfold f_X1_changeOf_16
  refine im_iload_n X 1 dX1_changeOf_16 rfl rfl ?_
  refine im_aload_n X 0 dX1_changeOf_17 rfl rfl ?_
  refine im_cget X 0 0 (v := .int (E 0 2)) fl_X1_16 rfl rfl rfl dX1_changeOf_18 ?_
  refine im_icmp_ne (tgt := 31) X dX1_changeOf_21 rfl ?_ ?_
  · refine im_iconst X 0 dX1_changeOf_31 (by decide) ?_
    refine im_iadd X dX1_changeOf_32 ?_
    exact im_ireturn X (s0 + 0) rfl rfl dX1_changeOf_33
  · refine im_aload_n X 0 dX1_changeOf_24 rfl rfl ?_
    refine im_cget X 0 0 (v := .int (E 0 3)) fl_X1_19 rfl rfl rfl dX1_changeOf_25 ?_
    refine im_goto (tgt := 32) X dX1_changeOf_28 rfl ?_
    refine im_iadd X dX1_changeOf_32 ?_
    exact im_ireturn X (s0 + (E 0 3)) rfl rfl dX1_changeOf_33
noncomputable def f_X1_changeOf (F : Nat) (E : Mem) (x1 : Int32) : Option (Int32) :=
  (if x1 = (E 0 0) then f_X1_changeOf_16 F E x1 (E 0 1) else f_X1_changeOf_16 F E x1 0)
set_option maxRecDepth 100000 in
set_option maxHeartbeats 4000000 in
theorem i_X1_changeOf {p : Program} {l : Launch} {e : Env} {s : State} {m : MethodId} {args : Array Value} {below : List Frame} {meth : Method} {c : Code} {D : va_G} {ct : im_ct} {A : Nat → Prop} (X : im_X p (im_rm 0) s m args meth c D ct A RX1 cX1_changeOf 2 (some .int)) (F : Nat) (aE : Nat → Nat) (E : Mem) (x1 : Int32) : Im p l e (im_rm 0) s m args below meth c D A 2 (QI D A (fun z : Int32 => z) (fun z : Int32 => (cat [w_Effect ct aE E]))) 0 [(0, .ref (aE 0)), (1, .int x1)] [] (cat [w_Effect ct aE E]) (f_X1_changeOf F E x1) := by
  unfold f_X1_changeOf
  refine im_iload_n X 1 dX1_changeOf_0 rfl rfl ?_
  refine im_aload_n X 0 dX1_changeOf_1 rfl rfl ?_
  refine im_cget X 0 0 (v := .int (E 0 0)) fl_X1_7 rfl rfl rfl dX1_changeOf_2 ?_
  refine im_icmp_ne (tgt := 15) X dX1_changeOf_5 rfl ?_ ?_
  · refine im_iconst X 0 dX1_changeOf_15 (by decide) ?_
    exact i_X1_changeOf_16 X F aE E x1 0 
  · refine im_aload_n X 0 dX1_changeOf_8 rfl rfl ?_
    refine im_cget X 0 0 (v := .int (E 0 1)) fl_X1_13 rfl rfl rfl dX1_changeOf_9 ?_
    refine im_goto (tgt := 16) X dX1_changeOf_12 rfl ?_
    exact i_X1_changeOf_16 X F aE E x1 (E 0 1) 
theorem c_X1_changeOf (l : Launch) (D : va_G) (ct : im_ct) (F : Nat) (aE : Nat → Nat) (E : Mem) (x1 : Int32) : CMi l D ct yX1_changeOf cX1_changeOf 2 (some .int) 0 [.ref (aE 0), .int x1] (cat [w_Effect ct aE E]) (f_X1_changeOf F E x1) (fun z : Int32 => z) (fun z : Int32 => (cat [w_Effect ct aE E])) :=
  im_met (Qb := fun A => QI D A (fun z : Int32 => z) (fun z : Int32 => (cat [w_Effect ct aE E]))) (by decide +kernel) (Nat.le_of_ble_eq_true rfl) (fun p e s m args below meth c A X => i_X1_changeOf X F aE E x1)
