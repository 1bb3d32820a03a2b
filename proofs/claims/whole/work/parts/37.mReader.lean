noncomputable def f_X6_blanksEnd_5 (F : Nat) (R : Mem) (T : Mem) (k41 : Int32 → Option (Int32)) : Nat → Int32 → Option (Int32)
  | 0, _ => none
  | n + 1, x1 =>
  (if (R 0 5) ≤ x1 then k41 x1 else ck x1 400 ((if ((T 1) x1.toNatClampNeg) = 32 then f_X6_blanksEnd_5 F R T k41 n (x1 + 1) else ck x1 400 ((if ((T 1) x1.toNatClampNeg) = 10 then f_X6_blanksEnd_5 F R T k41 n (x1 + 1) else k41 x1)))))
set_option maxRecDepth 100000 in
set_option maxHeartbeats 4000000 in
theorem i_X6_blanksEnd_5 {p : Program} {l : Launch} {e : Env} {s : State} {m : MethodId} {args : Array Value} {below : List Frame} {meth : Method} {c : Code} {D : va_G} {ct : im_ct} {A : Nat → Prop} (X : im_X p (im_rm 0) s m args meth c D ct A RX6 cX6_blanksEnd 2 (some .int)) (F : Nat) (aR aDR aRE aT : Nat → Nat) (R : Mem) (T : Mem) (k41 : Int32 → Option (Int32)) (hk41 : ∀ (x1 : Int32), Im p l e (im_rm 0) s m args below meth c D A 2 (QI D A (fun z : Int32 => z) (fun z : Int32 => (cat [w_Reader ct aR aDR aRE aT R, w_Tape ct aT T]))) 41 [(1, .int x1)] [] (cat [w_Reader ct aR aDR aRE aT R, w_Tape ct aT T]) (k41 x1)) : ∀ (n : Nat) (x1 : Int32), Im p l e (im_rm 0) s m args below meth c D A 2 (QI D A (fun z : Int32 => z) (fun z : Int32 => (cat [w_Reader ct aR aDR aRE aT R, w_Tape ct aT T]))) 5 [(0, .ref (aR 0)), (1, .int x1)] [] (cat [w_Reader ct aR aDR aRE aT R, w_Tape ct aT T]) (f_X6_blanksEnd_5 F R T k41 n x1) := by
  intro n
  induction n with
  | zero => intros; exact im_none
  | succ n ih =>
    intro x1
    unfold f_X6_blanksEnd_5
    refine im_iload_n X 1 dX6_blanksEnd_5 rfl rfl ?_
    refine im_aload_n X 0 dX6_blanksEnd_6 rfl rfl ?_
    refine im_cget X 0 0 (v := .int (R 0 5)) fl_X6_44 rfl rfl rfl dX6_blanksEnd_7 ?_
    refine im_icmp_ge (tgt := 41) X dX6_blanksEnd_10 rfl ?_ ?_
    · refine im_lv [1] [(1, .int x1)] rfl ?_
      exact hk41 x1
    · refine im_aload_n X 0 dX6_blanksEnd_13 rfl rfl ?_
      refine im_cget X 0 0 (v := .ref (aT 1)) fl_X6_39 rfl rfl rfl dX6_blanksEnd_14 ?_
      refine im_iload_n X 1 dX6_blanksEnd_17 rfl rfl ?_
      refine im_ciald X 1 1 0 (f := (T 1)) rfl rfl rfl dX6_blanksEnd_18 ?_
      refine im_bipush X 32 dX6_blanksEnd_19 (by decide) ?_
      refine im_icmp_eq (tgt := 35) X dX6_blanksEnd_21 rfl ?_ ?_
      · refine im_iinc X 1 1 [1, 0] [(0, .ref (aR 0)), (1, .int (x1 + 1))] dX6_blanksEnd_35 (by decide) rfl (by decide) rfl ?_
        refine im_goto (tgt := 5) X dX6_blanksEnd_38 rfl ?_
        exact ih (x1 + 1)
      · refine im_aload_n X 0 dX6_blanksEnd_24 rfl rfl ?_
        refine im_cget X 0 0 (v := .ref (aT 1)) fl_X6_39 rfl rfl rfl dX6_blanksEnd_25 ?_
        refine im_iload_n X 1 dX6_blanksEnd_28 rfl rfl ?_
        refine im_ciald X 1 1 0 (f := (T 1)) rfl rfl rfl dX6_blanksEnd_29 ?_
        refine im_bipush X 10 dX6_blanksEnd_30 (by decide) ?_
        refine im_icmp_ne (tgt := 41) X dX6_blanksEnd_32 rfl ?_ ?_
        · refine im_lv [1] [(1, .int x1)] rfl ?_
          exact hk41 x1
        · refine im_iinc X 1 1 [1, 0] [(0, .ref (aR 0)), (1, .int (x1 + 1))] dX6_blanksEnd_35 (by decide) rfl (by decide) rfl ?_
          refine im_goto (tgt := 5) X dX6_blanksEnd_38 rfl ?_
          exact ih (x1 + 1)
noncomputable def f_X6_blanksEnd (F : Nat) (R : Mem) (T : Mem) : Option (Int32) :=
  f_X6_blanksEnd_5 F R T (fun x1_41 => (some x1_41)) F (R 0 6)
set_option maxRecDepth 100000 in
set_option maxHeartbeats 4000000 in
theorem i_X6_blanksEnd {p : Program} {l : Launch} {e : Env} {s : State} {m : MethodId} {args : Array Value} {below : List Frame} {meth : Method} {c : Code} {D : va_G} {ct : im_ct} {A : Nat → Prop} (X : im_X p (im_rm 0) s m args meth c D ct A RX6 cX6_blanksEnd 2 (some .int)) (F : Nat) (aR aDR aRE aT : Nat → Nat) (R : Mem) (T : Mem) : Im p l e (im_rm 0) s m args below meth c D A 2 (QI D A (fun z : Int32 => z) (fun z : Int32 => (cat [w_Reader ct aR aDR aRE aT R, w_Tape ct aT T]))) 0 [(0, .ref (aR 0))] [] (cat [w_Reader ct aR aDR aRE aT R, w_Tape ct aT T]) (f_X6_blanksEnd F R T) := by
  unfold f_X6_blanksEnd
  refine im_aload_n X 0 dX6_blanksEnd_0 rfl rfl ?_
  refine im_cget X 0 0 (v := .int (R 0 6)) fl_X6_45 rfl rfl rfl dX6_blanksEnd_1 ?_
  refine im_istore_n X [1, 0] [(0, .ref (aR 0)), (1, .int (R 0 6))] dX6_blanksEnd_4 rfl (by decide) rfl ?_
  refine i_X6_blanksEnd_5 X F aR aDR aRE aT R T  _ (fun x1_41 => ?_) F (R 0 6)
  refine im_iload_n X 0 dX6_blanksEnd_41 rfl rfl ?_
  exact im_ireturn X x1_41 rfl rfl dX6_blanksEnd_42
theorem c_X6_blanksEnd (l : Launch) (D : va_G) (ct : im_ct) (F : Nat) (aR aDR aRE aT : Nat → Nat) (R : Mem) (T : Mem) : CMi l D ct yX6_blanksEnd cX6_blanksEnd 2 (some .int) 0 [.ref (aR 0)] (cat [w_Reader ct aR aDR aRE aT R, w_Tape ct aT T]) (f_X6_blanksEnd F R T) (fun z : Int32 => z) (fun z : Int32 => (cat [w_Reader ct aR aDR aRE aT R, w_Tape ct aT T])) :=
  im_met (Qb := fun A => QI D A (fun z : Int32 => z) (fun z : Int32 => (cat [w_Reader ct aR aDR aRE aT R, w_Tape ct aT T]))) (by decide +kernel) (Nat.le_of_ble_eq_true rfl) (fun p e s m args below meth c A X => i_X6_blanksEnd X F aR aDR aRE aT R T)

noncomputable def f_X6_skipBlanks (F : Nat) (R : Mem) (T : Mem) : Option (Mem) :=
  (f_X6_blanksEnd F R T).bind (fun z2 => (some (mr R 0 (fu (R 0) 6 z2))))
set_option maxRecDepth 100000 in
set_option maxHeartbeats 4000000 in
theorem i_X6_skipBlanks {p : Program} {l : Launch} {e : Env} {s : State} {m : MethodId} {args : Array Value} {below : List Frame} {meth : Method} {c : Code} {D : va_G} {ct : im_ct} {A : Nat → Prop} (X : im_X p (im_rm 1) s m args meth c D ct A RX6 cX6_skipBlanks 1 none) (F : Nat) (aR aDR aRE aT : Nat → Nat) (R : Mem) (T : Mem) : Im p l e (im_rm 1) s m args below meth c D A 1 (QV D A (fun z : Mem => (cat [w_Reader ct aR aDR aRE aT z, w_Tape ct aT T]))) 0 [(0, .ref (aR 0))] [] (cat [w_Reader ct aR aDR aRE aT R, w_Tape ct aT T]) (f_X6_skipBlanks F R T) := by
  unfold f_X6_skipBlanks
  refine im_aload_n X 0 dX6_skipBlanks_0 rfl rfl ?_
  refine im_aload_n X 0 dX6_skipBlanks_1 rfl rfl ?_
  refine im_cciV X [] [.ref (aR 0)] [w_Reader ct aR aDR aRE aT R, w_Tape ct aT T] [w_Reader ct aR aDR aRE aT R, w_Tape ct aT T] [0, 1] (fun z2 => [w_Reader ct aR aDR aRE aT R, w_Tape ct aT T]) 0 0 6 rfl rfl rfl cl_X6_178 (c_X6_blanksEnd l D ct F aR aDR aRE aT R T) rfl (by decide) (fun _ => lc rfl (lc rfl (rfl))) rfl ⟨by decide, by decide⟩ (Nat.le_of_ble_eq_true rfl) rfl dX6_skipBlanks_2 (fun z2 => ?_)
  refine im_ws (cat [w_Reader ct aR aDR aRE aT R, w_Tape ct aT T]) rfl ?_
  refine im_cput X 0 0 (wx_Reader ct aR aDR aRE aT (R 0 5) z2 (R 0 7) (R 0 8) (R 1)) [wx_Reader ct aR aDR aRE aT (R 0 5) z2 (R 0 7) (R 0 8) (R 1), w_Tape ct aT T] fl_X6_45 rfl rfl rfl rfl (Nat.le_of_ble_eq_true rfl) rfl rfl dX6_skipBlanks_5 ?_
  exact im_return X (mr R 0 (fu (R 0) 6 z2)) rfl dX6_skipBlanks_8
theorem c_X6_skipBlanks (l : Launch) (D : va_G) (ct : im_ct) (F : Nat) (aR aDR aRE aT : Nat → Nat) (R : Mem) (T : Mem) : CMv l D ct yX6_skipBlanks cX6_skipBlanks 1 none 1 [.ref (aR 0)] (cat [w_Reader ct aR aDR aRE aT R, w_Tape ct aT T]) (f_X6_skipBlanks F R T) (fun z : Mem => (cat [w_Reader ct aR aDR aRE aT z, w_Tape ct aT T])) :=
  im_met (Qb := fun A => QV D A (fun z : Mem => (cat [w_Reader ct aR aDR aRE aT z, w_Tape ct aT T]))) (by decide +kernel) (Nat.le_of_ble_eq_true rfl) (fun p e s m args below meth c A X => i_X6_skipBlanks X F aR aDR aRE aT R T)

noncomputable def f_X6_moveWord (F : Nat) (x0 : Int32) : Option (Nat) :=
  (if x0 = 0 then (some 0) else if x0 = 1 then (some 1) else if x0 = 2 then (some 2) else if x0 = 3 then (some 3) else (some 4))
set_option maxRecDepth 100000 in
set_option maxHeartbeats 4000000 in
theorem i_X6_moveWord {p : Program} {l : Launch} {e : Env} {s : State} {m : MethodId} {args : Array Value} {below : List Frame} {meth : Method} {c : Code} {D : va_G} {ct : im_ct} {A : Nat → Prop} (X : im_X p (im_rm 0) s m args meth c D ct A RX6 cX6_moveWord 1 (some (.object "java/lang/String"))) (F : Nat) (x0 : Int32) : Im p l e (im_rm 0) s m args below meth c D A 1 (QS ct D A (fun z : Nat => z) (fun z : Nat => (cat []))) 0 [(0, .int x0)] [] (cat []) (f_X6_moveWord F x0) := by
  unfold f_X6_moveWord
  refine im_iload_n X 0 dX6_moveWord_0 rfl rfl ?_
  refine im_ite (fun q0 => ?_) (fun q0 => ?_)
  · refine im_tabIn (tgt := 32) X dX6_moveWord_1 (by rw [q0]; decide) (by rw [q0]; decide) (by rw [q0]; rfl) rfl ?_
    refine im_ldcS X "ExchequerCloth$Reader" "put" 0 rfl (by decide) dX6_moveWord_32 ?_
    exact im_sreturn X 0 rfl rfl dX6_moveWord_34
  · refine im_ite (fun q1 => ?_) (fun q1 => ?_)
    · refine im_tabIn (tgt := 35) X dX6_moveWord_1 (by rw [q1]; decide) (by rw [q1]; decide) (by rw [q1]; rfl) rfl ?_
      refine im_ldcS X "ExchequerCloth$Reader" "take" 1 rfl (by decide) dX6_moveWord_35 ?_
      exact im_sreturn X 1 rfl rfl dX6_moveWord_37
    · refine im_ite (fun q2 => ?_) (fun q2 => ?_)
      · refine im_tabIn (tgt := 38) X dX6_moveWord_1 (by rw [q2]; decide) (by rw [q2]; decide) (by rw [q2]; rfl) rfl ?_
        refine im_ldcS X "ExchequerCloth$Reader" "carry" 2 rfl (by decide) dX6_moveWord_38 ?_
        exact im_sreturn X 2 rfl rfl dX6_moveWord_40
      · refine im_ite (fun q3 => ?_) (fun q3 => ?_)
        · refine im_tabIn (tgt := 41) X dX6_moveWord_1 (by rw [q3]; decide) (by rw [q3]; decide) (by rw [q3]; rfl) rfl ?_
          refine im_ldcS X "ExchequerCloth$Reader" "break" 3 rfl (by decide) dX6_moveWord_41 ?_
          exact im_sreturn X 3 rfl rfl dX6_moveWord_43
        · refine im_tabOut (tgt := 44) X dX6_moveWord_1 (by have h0 := i32_ne q0 (by decide : (0 : Int32).toInt = 0); have h1 := i32_ne q1 (by decide : (1 : Int32).toInt = 1); have h2 := i32_ne q2 (by decide : (2 : Int32).toInt = 2); have h3 := i32_ne q3 (by decide : (3 : Int32).toInt = 3); omega) rfl ?_
          refine im_ldcS X "ExchequerCloth$Reader" "shift" 4 rfl (by decide) dX6_moveWord_44 ?_
          exact im_sreturn X 4 rfl rfl dX6_moveWord_46
theorem c_X6_moveWord (l : Launch) (D : va_G) (ct : im_ct) (F : Nat) (x0 : Int32) : CMs l D ct yX6_moveWord cX6_moveWord 1 (some (.object "java/lang/String")) 0 [.int x0] (cat []) (f_X6_moveWord F x0) (fun z : Nat => z) (fun z : Nat => (cat [])) :=
  im_met (Qb := fun A => QS ct D A (fun z : Nat => z) (fun z : Nat => (cat []))) (by decide +kernel) (Nat.le_of_ble_eq_true rfl) (fun p e s m args below meth c A X => i_X6_moveWord X F x0)

noncomputable def f_X6_spelled (F : Nat) (x0 : Int32) : Option (Nat) :=
  (if x0 = 5 then (some 5) else if x0 = 6 then (some 6) else if x0 = 7 then (some 7) else (f_X6_moveWord F x0).bind (fun z38 => (some z38)))
set_option maxRecDepth 100000 in
set_option maxHeartbeats 4000000 in
theorem i_X6_spelled {p : Program} {l : Launch} {e : Env} {s : State} {m : MethodId} {args : Array Value} {below : List Frame} {meth : Method} {c : Code} {D : va_G} {ct : im_ct} {A : Nat → Prop} (X : im_X p (im_rm 1) s m args meth c D ct A RX6 cX6_spelled 1 (some (.object "java/lang/String"))) (F : Nat) (x0 : Int32) : Im p l e (im_rm 1) s m args below meth c D A 1 (QS ct D A (fun z : Nat => z) (fun z : Nat => (cat []))) 0 [(0, .int x0)] [] (cat []) (f_X6_spelled F x0) := by
  unfold f_X6_spelled
  refine im_iload_n X 0 dX6_spelled_0 rfl rfl ?_
  refine im_ite (fun q0 => ?_) (fun q0 => ?_)
  · refine im_tabIn (tgt := 28) X dX6_spelled_1 (by rw [q0]; decide) (by rw [q0]; decide) (by rw [q0]; rfl) rfl ?_
    refine im_ldcS X "ExchequerCloth$Reader" "column" 5 rfl (by decide) dX6_spelled_28 ?_
    exact im_sreturn X 5 rfl rfl dX6_spelled_30
  · refine im_ite (fun q1 => ?_) (fun q1 => ?_)
    · refine im_tabIn (tgt := 31) X dX6_spelled_1 (by rw [q1]; decide) (by rw [q1]; decide) (by rw [q1]; rfl) rfl ?_
      refine im_ldcS X "ExchequerCloth$Reader" "row" 6 rfl (by decide) dX6_spelled_31 ?_
      exact im_sreturn X 6 rfl rfl dX6_spelled_33
    · refine im_ite (fun q2 => ?_) (fun q2 => ?_)
      · refine im_tabIn (tgt := 34) X dX6_spelled_1 (by rw [q2]; decide) (by rw [q2]; decide) (by rw [q2]; rfl) rfl ?_
        refine im_ldcS X "ExchequerCloth$Reader" "seen" 7 rfl (by decide) dX6_spelled_34 ?_
        exact im_sreturn X 7 rfl rfl dX6_spelled_36
      · refine im_tabOut (tgt := 37) X dX6_spelled_1 (by have h5 := i32_ne q0 (by decide : (5 : Int32).toInt = 5); have h6 := i32_ne q1 (by decide : (6 : Int32).toInt = 6); have h7 := i32_ne q2 (by decide : (7 : Int32).toInt = 7); omega) rfl ?_
        refine im_iload_n X 0 dX6_spelled_37 rfl rfl ?_
        refine im_callsS X [.int x0] [] [] cl_X6_165 (c_X6_moveWord l D ct F x0) rfl (by decide) (fun _ => rfl) rfl ⟨by decide, by decide⟩ (Nat.le_of_ble_eq_true rfl) rfl dX6_spelled_38 (fun z38 => ?_)
        refine im_ws (cat []) rfl ?_
        exact im_sreturn X z38 rfl rfl dX6_spelled_41
theorem c_X6_spelled (l : Launch) (D : va_G) (ct : im_ct) (F : Nat) (x0 : Int32) : CMs l D ct yX6_spelled cX6_spelled 1 (some (.object "java/lang/String")) 1 [.int x0] (cat []) (f_X6_spelled F x0) (fun z : Nat => z) (fun z : Nat => (cat [])) :=
  im_met (Qb := fun A => QS ct D A (fun z : Nat => z) (fun z : Nat => (cat []))) (by decide +kernel) (Nat.le_of_ble_eq_true rfl) (fun p e s m args below meth c A X => i_X6_spelled X F x0)

noncomputable def f_X6_stands_17 (F : Nat) (R : Mem) (T : Mem) (x1 : Int32) (x2 : Nat) (k41 : Option (Int32)) (k49 : Option (Int32)) : Nat → Int32 → Option (Int32)
  | 0, _ => none
  | n + 1, x3 =>
  sk x2 ((if (s_len x2) ≤ x3 then k49 else ck (x1 + x3) 400 (sk x2 (ck x3 (im_len.getD x2 0) ((if ((T 1) ((x1 + x3)).toNatClampNeg) = (s_ch x2 x3) then f_X6_stands_17 F R T x1 x2 k41 k49 n (x3 + 1) else k41))))))
set_option maxRecDepth 100000 in
set_option maxHeartbeats 4000000 in
theorem i_X6_stands_17 {p : Program} {l : Launch} {e : Env} {s : State} {m : MethodId} {args : Array Value} {below : List Frame} {meth : Method} {c : Code} {D : va_G} {ct : im_ct} {A : Nat → Prop} (X : im_X p (im_rm 4) s m args meth c D ct A RX6 cX6_stands 4 (some .boolean)) (F : Nat) (aR aDR aRE aT : Nat → Nat) (R : Mem) (T : Mem) (x1 : Int32) (x2 : Nat) (k41 : Option (Int32)) (hk41 : Im p l e (im_rm 4) s m args below meth c D A 4 (QI D A (fun z : Int32 => z) (fun z : Int32 => (cat [w_Reader ct aR aDR aRE aT R, w_Tape ct aT T]))) 41 [] [] (cat [w_Reader ct aR aDR aRE aT R, w_Tape ct aT T]) (k41)) (k49 : Option (Int32)) (hk49 : Im p l e (im_rm 4) s m args below meth c D A 4 (QI D A (fun z : Int32 => z) (fun z : Int32 => (cat [w_Reader ct aR aDR aRE aT R, w_Tape ct aT T]))) 49 [] [] (cat [w_Reader ct aR aDR aRE aT R, w_Tape ct aT T]) (k49)) : ∀ (n : Nat) (x3 : Int32), Im p l e (im_rm 4) s m args below meth c D A 4 (QI D A (fun z : Int32 => z) (fun z : Int32 => (cat [w_Reader ct aR aDR aRE aT R, w_Tape ct aT T]))) 17 [(0, .ref (aR 0)), (1, .int x1), (2, .ref (ct (10 + x2))), (3, .int x3)] [] (cat [w_Reader ct aR aDR aRE aT R, w_Tape ct aT T]) (f_X6_stands_17 F R T x1 x2 k41 k49 n x3) := by
  intro n
  induction n with
  | zero => intros; exact im_none
  | succ n ih =>
    intro x3
    unfold f_X6_stands_17
    refine im_iload_n X 3 dX6_stands_17 rfl rfl ?_
    refine im_aload_n X 2 dX6_stands_18 rfl rfl ?_
    refine im_sk (fun hi => ?_)
    refine im_slength X cl_X6_151 hi ⟨by decide, by decide⟩ (Nat.le_of_ble_eq_true rfl) dX6_stands_19 ?_
    refine im_icmp_ge (tgt := 49) X dX6_stands_22 rfl ?_ ?_
    · refine im_lv [] [] rfl ?_
      exact hk49
    · refine im_aload_n X 0 dX6_stands_25 rfl rfl ?_
      refine im_cget X 0 0 (v := .ref (aT 1)) fl_X6_39 rfl rfl rfl dX6_stands_26 ?_
      refine im_iload_n X 1 dX6_stands_29 rfl rfl ?_
      refine im_iload_n X 3 dX6_stands_30 rfl rfl ?_
      refine im_iadd X dX6_stands_31 ?_
      refine im_ciald X 1 1 0 (f := (T 1)) rfl rfl rfl dX6_stands_32 ?_
      refine im_aload_n X 2 dX6_stands_33 rfl rfl ?_
      refine im_iload_n X 3 dX6_stands_34 rfl rfl ?_
      refine im_sk (fun hi => ?_)
      refine im_scharAt X cl_X6_155 hi ⟨by decide, by decide⟩ (Nat.le_of_ble_eq_true rfl) dX6_stands_35 ?_
      refine im_icmp_eq (tgt := 43) X dX6_stands_38 rfl ?_ ?_
      · refine im_iinc X 3 1 [1, 2, 3, 0] [(0, .ref (aR 0)), (1, .int x1), (2, .ref (ct (10 + x2))), (3, .int (x3 + 1))] dX6_stands_43 (by decide) rfl (by decide) rfl ?_
        refine im_goto (tgt := 17) X dX6_stands_46 rfl ?_
        exact ih (x3 + 1)
      · refine im_lv [] [] rfl ?_
        exact hk41
noncomputable def f_X6_stands (F : Nat) (R : Mem) (T : Mem) (x1 : Int32) (x2 : Nat) : Option (Int32) :=
  sk x2 ((if ((R 0 6) - x1) = (s_len x2) then f_X6_stands_17 F R T x1 x2 ((some 0)) ((some 1)) F 0 else (some 0)))
set_option maxRecDepth 100000 in
set_option maxHeartbeats 4000000 in
theorem i_X6_stands {p : Program} {l : Launch} {e : Env} {s : State} {m : MethodId} {args : Array Value} {below : List Frame} {meth : Method} {c : Code} {D : va_G} {ct : im_ct} {A : Nat → Prop} (X : im_X p (im_rm 4) s m args meth c D ct A RX6 cX6_stands 4 (some .boolean)) (F : Nat) (aR aDR aRE aT : Nat → Nat) (R : Mem) (T : Mem) (x1 : Int32) (x2 : Nat) : Im p l e (im_rm 4) s m args below meth c D A 4 (QI D A (fun z : Int32 => z) (fun z : Int32 => (cat [w_Reader ct aR aDR aRE aT R, w_Tape ct aT T]))) 0 [(0, .ref (aR 0)), (1, .int x1), (2, .ref (ct (10 + x2)))] [] (cat [w_Reader ct aR aDR aRE aT R, w_Tape ct aT T]) (f_X6_stands F R T x1 x2) := by
  unfold f_X6_stands
  refine im_aload_n X 0 dX6_stands_0 rfl rfl ?_
  refine im_cget X 0 0 (v := .int (R 0 6)) fl_X6_45 rfl rfl rfl dX6_stands_1 ?_
  refine im_iload_n X 1 dX6_stands_4 rfl rfl ?_
  refine im_isub X dX6_stands_5 ?_
  refine im_aload_n X 2 dX6_stands_6 rfl rfl ?_
  refine im_sk (fun hi => ?_)
  refine im_slength X cl_X6_151 hi ⟨by decide, by decide⟩ (Nat.le_of_ble_eq_true rfl) dX6_stands_7 ?_
  refine im_icmp_eq (tgt := 15) X dX6_stands_10 rfl ?_ ?_
  · refine im_iconst X 0 dX6_stands_15 (by decide) ?_
    refine im_istore_n X [1, 2, 3, 0] [(0, .ref (aR 0)), (1, .int x1), (2, .ref (ct (10 + x2))), (3, .int 0)] dX6_stands_16 rfl (by decide) rfl ?_
    refine i_X6_stands_17 X F aR aDR aRE aT R T x1 x2 _ ?_ _ ?_ F 0
    · refine im_iconst X 0 dX6_stands_41 (by decide) ?_
      exact im_zreturn X 0 rfl rfl rfl dX6_stands_42
    · refine im_iconst X 1 dX6_stands_49 (by decide) ?_
      exact im_zreturn X 1 rfl rfl rfl dX6_stands_50
  · refine im_iconst X 0 dX6_stands_13 (by decide) ?_
    exact im_zreturn X 0 rfl rfl rfl dX6_stands_14
theorem c_X6_stands (l : Launch) (D : va_G) (ct : im_ct) (F : Nat) (aR aDR aRE aT : Nat → Nat) (R : Mem) (T : Mem) (x1 : Int32) (x2 : Nat) : CMi l D ct yX6_stands cX6_stands 4 (some .boolean) 4 [.ref (aR 0), .int x1, .ref (ct (10 + x2))] (cat [w_Reader ct aR aDR aRE aT R, w_Tape ct aT T]) (f_X6_stands F R T x1 x2) (fun z : Int32 => z) (fun z : Int32 => (cat [w_Reader ct aR aDR aRE aT R, w_Tape ct aT T])) :=
  im_met (Qb := fun A => QI D A (fun z : Int32 => z) (fun z : Int32 => (cat [w_Reader ct aR aDR aRE aT R, w_Tape ct aT T]))) (by decide +kernel) (Nat.le_of_ble_eq_true rfl) (fun p e s m args below meth c A X => i_X6_stands X F aR aDR aRE aT R T x1 x2)

noncomputable def f_X6_readWord_5 (F : Nat) (T : Mem) (x1 : Int32) (k57 : Mem → Option (Int32 × Mem)) : Nat → Mem → Option (Int32 × Mem)
  | 0, _ => none
  | n + 1, R =>
  (if (R 0 5) ≤ (R 0 6) then k57 R else ck (R 0 6) 400 ((if ((T 1) ((R 0 6)).toNatClampNeg) < 97 then k57 R else ck (R 0 6) 400 ((if 122 < ((T 1) ((R 0 6)).toNatClampNeg) then k57 R else f_X6_readWord_5 F T x1 k57 n (mr R 0 (fu (R 0) 6 ((R 0 6) + 1))))))))
set_option maxRecDepth 100000 in
set_option maxHeartbeats 4000000 in
theorem i_X6_readWord_5 {p : Program} {l : Launch} {e : Env} {s : State} {m : MethodId} {args : Array Value} {below : List Frame} {meth : Method} {c : Code} {D : va_G} {ct : im_ct} {A : Nat → Prop} (X : im_X p (im_rm 5) s m args meth c D ct A RX6 cX6_readWord 3 (some .int)) (F : Nat) (aR aDR aRE aT : Nat → Nat) (T : Mem) (x1 : Int32) (k57 : Mem → Option (Int32 × Mem)) (hk57 : ∀ (R : Mem), Im p l e (im_rm 5) s m args below meth c D A 3 (QI D A (fun z : Int32 × Mem => z.1) (fun z : Int32 × Mem => (cat [w_Reader ct aR aDR aRE aT z.2, w_Tape ct aT T]))) 57 [(0, .ref (aR 0)), (1, .int x1)] [] (cat [w_Reader ct aR aDR aRE aT R, w_Tape ct aT T]) (k57 R)) : ∀ (n : Nat) (R : Mem), Im p l e (im_rm 5) s m args below meth c D A 3 (QI D A (fun z : Int32 × Mem => z.1) (fun z : Int32 × Mem => (cat [w_Reader ct aR aDR aRE aT z.2, w_Tape ct aT T]))) 5 [(0, .ref (aR 0)), (1, .int x1)] [] (cat [w_Reader ct aR aDR aRE aT R, w_Tape ct aT T]) (f_X6_readWord_5 F T x1 k57 n R) := by
  intro n
  induction n with
  | zero => intros; exact im_none
  | succ n ih =>
    intro R
    unfold f_X6_readWord_5
    refine im_aload_n X 0 dX6_readWord_5 rfl rfl ?_
    refine im_cget X 0 0 (v := .int (R 0 6)) fl_X6_45 rfl rfl rfl dX6_readWord_6 ?_
    refine im_aload_n X 0 dX6_readWord_9 rfl rfl ?_
    refine im_cget X 0 0 (v := .int (R 0 5)) fl_X6_44 rfl rfl rfl dX6_readWord_10 ?_
    refine im_icmp_ge (tgt := 57) X dX6_readWord_13 rfl ?_ ?_
    · exact hk57 R
    · refine im_aload_n X 0 dX6_readWord_16 rfl rfl ?_
      refine im_cget X 0 0 (v := .ref (aT 1)) fl_X6_39 rfl rfl rfl dX6_readWord_17 ?_
      refine im_aload_n X 0 dX6_readWord_20 rfl rfl ?_
      refine im_cget X 0 0 (v := .int (R 0 6)) fl_X6_45 rfl rfl rfl dX6_readWord_21 ?_
      refine im_ciald X 1 1 0 (f := (T 1)) rfl rfl rfl dX6_readWord_24 ?_
      refine im_bipush X 97 dX6_readWord_25 (by decide) ?_
      refine im_icmp_lt (tgt := 57) X dX6_readWord_27 rfl ?_ ?_
      · exact hk57 R
      · refine im_aload_n X 0 dX6_readWord_30 rfl rfl ?_
        refine im_cget X 0 0 (v := .ref (aT 1)) fl_X6_39 rfl rfl rfl dX6_readWord_31 ?_
        refine im_aload_n X 0 dX6_readWord_34 rfl rfl ?_
        refine im_cget X 0 0 (v := .int (R 0 6)) fl_X6_45 rfl rfl rfl dX6_readWord_35 ?_
        refine im_ciald X 1 1 0 (f := (T 1)) rfl rfl rfl dX6_readWord_38 ?_
        refine im_bipush X 122 dX6_readWord_39 (by decide) ?_
        refine im_icmp_gt (tgt := 57) X dX6_readWord_41 rfl ?_ ?_
        · exact hk57 R
        · refine im_aload_n X 0 dX6_readWord_44 rfl rfl ?_
          refine im_dup X rfl dX6_readWord_45 ?_
          refine im_cget X 0 0 (v := .int (R 0 6)) fl_X6_45 rfl rfl rfl dX6_readWord_46 ?_
          refine im_iconst X 1 dX6_readWord_49 (by decide) ?_
          refine im_iadd X dX6_readWord_50 ?_
          refine im_cput X 0 0 (wx_Reader ct aR aDR aRE aT (R 0 5) ((R 0 6) + 1) (R 0 7) (R 0 8) (R 1)) [wx_Reader ct aR aDR aRE aT (R 0 5) ((R 0 6) + 1) (R 0 7) (R 0 8) (R 1), w_Tape ct aT T] fl_X6_45 rfl rfl rfl rfl (Nat.le_of_ble_eq_true rfl) rfl rfl dX6_readWord_51 ?_
          refine im_goto (tgt := 5) X dX6_readWord_54 rfl ?_
          exact ih (mr R 0 (fu (R 0) 6 ((R 0 6) + 1)))
noncomputable def f_X6_readWord_59 (F : Nat) (R : Mem) (T : Mem) (x1 : Int32) (k77 : Int32 → Option (Int32 × Mem)) (k85 : Option (Int32 × Mem)) : Nat → Int32 → Option (Int32 × Mem)
  | 0, _ => none
  | n + 1, x2 =>
  (if 7 < x2 then k85 else (f_X6_spelled F x2).bind (fun z68 => (f_X6_stands F R T x1 z68).bind (fun z71 => (if z71 = 0 then f_X6_readWord_59 F R T x1 k77 k85 n (x2 + 1) else k77 x2))))
set_option maxRecDepth 100000 in
set_option maxHeartbeats 4000000 in
theorem i_X6_readWord_59 {p : Program} {l : Launch} {e : Env} {s : State} {m : MethodId} {args : Array Value} {below : List Frame} {meth : Method} {c : Code} {D : va_G} {ct : im_ct} {A : Nat → Prop} (X : im_X p (im_rm 5) s m args meth c D ct A RX6 cX6_readWord 3 (some .int)) (F : Nat) (aR aDR aRE aT : Nat → Nat) (R : Mem) (T : Mem) (x1 : Int32) (k77 : Int32 → Option (Int32 × Mem)) (hk77 : ∀ (x2 : Int32), Im p l e (im_rm 5) s m args below meth c D A 3 (QI D A (fun z : Int32 × Mem => z.1) (fun z : Int32 × Mem => (cat [w_Reader ct aR aDR aRE aT z.2, w_Tape ct aT T]))) 77 [(2, .int x2)] [] (cat [w_Reader ct aR aDR aRE aT R, w_Tape ct aT T]) (k77 x2)) (k85 : Option (Int32 × Mem)) (hk85 : Im p l e (im_rm 5) s m args below meth c D A 3 (QI D A (fun z : Int32 × Mem => z.1) (fun z : Int32 × Mem => (cat [w_Reader ct aR aDR aRE aT z.2, w_Tape ct aT T]))) 85 [] [] (cat [w_Reader ct aR aDR aRE aT R, w_Tape ct aT T]) (k85)) : ∀ (n : Nat) (x2 : Int32), Im p l e (im_rm 5) s m args below meth c D A 3 (QI D A (fun z : Int32 × Mem => z.1) (fun z : Int32 × Mem => (cat [w_Reader ct aR aDR aRE aT z.2, w_Tape ct aT T]))) 59 [(0, .ref (aR 0)), (1, .int x1), (2, .int x2)] [] (cat [w_Reader ct aR aDR aRE aT R, w_Tape ct aT T]) (f_X6_readWord_59 F R T x1 k77 k85 n x2) := by
  intro n
  induction n with
  | zero => intros; exact im_none
  | succ n ih =>
    intro x2
    unfold f_X6_readWord_59
    refine im_iload_n X 2 dX6_readWord_59 rfl rfl ?_
    refine im_bipush X 7 dX6_readWord_60 (by decide) ?_
    refine im_icmp_gt (tgt := 85) X dX6_readWord_62 rfl ?_ ?_
    · refine im_lv [] [] rfl ?_
      exact hk85
    · refine im_aload_n X 0 dX6_readWord_65 rfl rfl ?_
      refine im_iload_n X 1 dX6_readWord_66 rfl rfl ?_
      refine im_iload_n X 2 dX6_readWord_67 rfl rfl ?_
      refine im_callsS X [.int x2] [.int x1, .ref (aR 0)] [] cl_X6_143 (c_X6_spelled l D ct F x2) rfl (by decide) (fun _ => rfl) rfl ⟨by decide, by decide⟩ (Nat.le_of_ble_eq_true rfl) rfl dX6_readWord_68 (fun z68 => ?_)
      refine im_ws (cat [w_Reader ct aR aDR aRE aT R, w_Tape ct aT T]) rfl ?_
      refine im_cciV X [.int x1, .ref (ct (10 + z68))] [] [w_Reader ct aR aDR aRE aT R, w_Tape ct aT T] [w_Reader ct aR aDR aRE aT R, w_Tape ct aT T] [0, 1] (fun z71 => [w_Reader ct aR aDR aRE aT R, w_Tape ct aT T]) 0 0 6 rfl rfl rfl cl_X6_147 (c_X6_stands l D ct F aR aDR aRE aT R T x1 z68) rfl (by decide) (fun _ => lc rfl (lc rfl (rfl))) rfl ⟨by decide, by decide⟩ (Nat.le_of_ble_eq_true rfl) rfl dX6_readWord_71 (fun z71 => ?_)
      refine im_ws (cat [w_Reader ct aR aDR aRE aT R, w_Tape ct aT T]) rfl ?_
      refine im_if_eq (tgt := 79) X dX6_readWord_74 rfl ?_ ?_
      · refine im_iinc X 2 1 [1, 2, 0] [(0, .ref (aR 0)), (1, .int x1), (2, .int (x2 + 1))] dX6_readWord_79 (by decide) rfl (by decide) rfl ?_
        refine im_goto (tgt := 59) X dX6_readWord_82 rfl ?_
        exact ih (x2 + 1)
      · refine im_lv [2] [(2, .int x2)] rfl ?_
        exact hk77 x2
noncomputable def f_X6_readWord (F : Nat) (R : Mem) (T : Mem) : Option (Int32 × Mem) :=
  f_X6_readWord_5 F T (R 0 6) (fun R_57 => f_X6_readWord_59 F R_57 T (R 0 6) (fun x2_77 => (some (x2_77, R_57))) ((some ((-1), R_57))) F 0) F R
set_option maxRecDepth 100000 in
set_option maxHeartbeats 4000000 in
theorem i_X6_readWord {p : Program} {l : Launch} {e : Env} {s : State} {m : MethodId} {args : Array Value} {below : List Frame} {meth : Method} {c : Code} {D : va_G} {ct : im_ct} {A : Nat → Prop} (X : im_X p (im_rm 5) s m args meth c D ct A RX6 cX6_readWord 3 (some .int)) (F : Nat) (aR aDR aRE aT : Nat → Nat) (R : Mem) (T : Mem) : Im p l e (im_rm 5) s m args below meth c D A 3 (QI D A (fun z : Int32 × Mem => z.1) (fun z : Int32 × Mem => (cat [w_Reader ct aR aDR aRE aT z.2, w_Tape ct aT T]))) 0 [(0, .ref (aR 0))] [] (cat [w_Reader ct aR aDR aRE aT R, w_Tape ct aT T]) (f_X6_readWord F R T) := by
  unfold f_X6_readWord
  refine im_aload_n X 0 dX6_readWord_0 rfl rfl ?_
  refine im_cget X 0 0 (v := .int (R 0 6)) fl_X6_45 rfl rfl rfl dX6_readWord_1 ?_
  refine im_istore_n X [1, 0] [(0, .ref (aR 0)), (1, .int (R 0 6))] dX6_readWord_4 rfl (by decide) rfl ?_
  refine i_X6_readWord_5 X F aR aDR aRE aT T (R 0 6) _ (fun R_57 => ?_) F R
  refine im_iconst X 0 dX6_readWord_57 (by decide) ?_
  refine im_istore_n X [1, 2, 0] [(0, .ref (aR 0)), (1, .int (R 0 6)), (2, .int 0)] dX6_readWord_58 rfl (by decide) rfl ?_
  refine i_X6_readWord_59 X F aR aDR aRE aT R_57 T (R 0 6) _ (fun x2_77 => ?_) _ ?_ F 0
  · refine im_iload_n X 0 dX6_readWord_77 rfl rfl ?_
    exact im_ireturn X (x2_77, R_57) rfl rfl dX6_readWord_78
  · refine im_iconst X (-1) dX6_readWord_85 (by decide) ?_
    exact im_ireturn X ((-1), R_57) rfl rfl dX6_readWord_86
theorem c_X6_readWord (l : Launch) (D : va_G) (ct : im_ct) (F : Nat) (aR aDR aRE aT : Nat → Nat) (R : Mem) (T : Mem) : CMi l D ct yX6_readWord cX6_readWord 3 (some .int) 5 [.ref (aR 0)] (cat [w_Reader ct aR aDR aRE aT R, w_Tape ct aT T]) (f_X6_readWord F R T) (fun z : Int32 × Mem => z.1) (fun z : Int32 × Mem => (cat [w_Reader ct aR aDR aRE aT z.2, w_Tape ct aT T])) :=
  im_met (Qb := fun A => QI D A (fun z : Int32 × Mem => z.1) (fun z : Int32 × Mem => (cat [w_Reader ct aR aDR aRE aT z.2, w_Tape ct aT T]))) (by decide +kernel) (Nat.le_of_ble_eq_true rfl) (fun p e s m args below meth c A X => i_X6_readWord X F aR aDR aRE aT R T)

noncomputable def f_X6_stageOf (F : Nat) (x1 : Int32) : Option (Int32) :=
  (if x1 = 5 then (some 0) else if x1 = 6 then (some 1) else if x1 = 7 then (some 3) else (some 2))
set_option maxRecDepth 100000 in
set_option maxHeartbeats 4000000 in
theorem i_X6_stageOf {p : Program} {l : Launch} {e : Env} {s : State} {m : MethodId} {args : Array Value} {below : List Frame} {meth : Method} {c : Code} {D : va_G} {ct : im_ct} {A : Nat → Prop} (X : im_X p (im_rm 0) s m args meth c D ct A RX6 cX6_stageOf 2 (some .int)) (F : Nat) (aR aDR aRE aT : Nat → Nat) (x1 : Int32) : Im p l e (im_rm 0) s m args below meth c D A 2 (QI D A (fun z : Int32 => z) (fun z : Int32 => (cat []))) 0 [(0, .ref (aR 0)), (1, .int x1)] [] (cat []) (f_X6_stageOf F x1) := by
  unfold f_X6_stageOf
  refine im_iload_n X 1 dX6_stageOf_0 rfl rfl ?_
  refine im_ite (fun q0 => ?_) (fun q0 => ?_)
  · refine im_tabIn (tgt := 28) X dX6_stageOf_1 (by rw [q0]; decide) (by rw [q0]; decide) (by rw [q0]; rfl) rfl ?_
    refine im_iconst X 0 dX6_stageOf_28 (by decide) ?_
    exact im_ireturn X 0 rfl rfl dX6_stageOf_29
  · refine im_ite (fun q1 => ?_) (fun q1 => ?_)
    · refine im_tabIn (tgt := 30) X dX6_stageOf_1 (by rw [q1]; decide) (by rw [q1]; decide) (by rw [q1]; rfl) rfl ?_
      refine im_iconst X 1 dX6_stageOf_30 (by decide) ?_
      exact im_ireturn X 1 rfl rfl dX6_stageOf_31
    · refine im_ite (fun q2 => ?_) (fun q2 => ?_)
      · refine im_tabIn (tgt := 32) X dX6_stageOf_1 (by rw [q2]; decide) (by rw [q2]; decide) (by rw [q2]; rfl) rfl ?_
        refine im_iconst X 3 dX6_stageOf_32 (by decide) ?_
        exact im_ireturn X 3 rfl rfl dX6_stageOf_33
      · refine im_tabOut (tgt := 34) X dX6_stageOf_1 (by have h5 := i32_ne q0 (by decide : (5 : Int32).toInt = 5); have h6 := i32_ne q1 (by decide : (6 : Int32).toInt = 6); have h7 := i32_ne q2 (by decide : (7 : Int32).toInt = 7); omega) rfl ?_
        refine im_iconst X 2 dX6_stageOf_34 (by decide) ?_
        exact im_ireturn X 2 rfl rfl dX6_stageOf_35
theorem c_X6_stageOf (l : Launch) (D : va_G) (ct : im_ct) (F : Nat) (aR aDR aRE aT : Nat → Nat) (x1 : Int32) : CMi l D ct yX6_stageOf cX6_stageOf 2 (some .int) 0 [.ref (aR 0), .int x1] (cat []) (f_X6_stageOf F x1) (fun z : Int32 => z) (fun z : Int32 => (cat [])) :=
  im_met (Qb := fun A => QI D A (fun z : Int32 => z) (fun z : Int32 => (cat []))) (by decide +kernel) (Nat.le_of_ble_eq_true rfl) (fun p e s m args below meth c A X => i_X6_stageOf X F aR aDR aRE aT x1)

noncomputable def f_X6_mayStand (F : Nat) (R : Mem) (DR : Mem) (x1 : Int32) : Option (Int32) :=
  (if x1 = (-1) then (some 0) else (f_X6_stageOf F x1).bind (fun z7 => (if (R 0 7) ≤ z7 then (if x1 = 5 then (if 6 ≤ (DR 0 6) then (some 0) else (some 1)) else if x1 = 6 then (f_X0_mayAddRow F DR).bind (fun z70 => (cb z70 (some z70))) else if x1 = 7 then (if 12 ≤ (DR 0 9) then (some 0) else (some 1)) else (some 1)) else (some 0))))
set_option maxRecDepth 100000 in
set_option maxHeartbeats 4000000 in
theorem i_X6_mayStand {p : Program} {l : Launch} {e : Env} {s : State} {m : MethodId} {args : Array Value} {below : List Frame} {meth : Method} {c : Code} {D : va_G} {ct : im_ct} {A : Nat → Prop} (X : im_X p (im_rm 1) s m args meth c D ct A RX6 cX6_mayStand 2 (some .boolean)) (F : Nat) (aR aDR aRE aT : Nat → Nat) (R : Mem) (DR : Mem) (x1 : Int32) : Im p l e (im_rm 1) s m args below meth c D A 2 (QI D A (fun z : Int32 => z) (fun z : Int32 => (cat [w_Reader ct aR aDR aRE aT R, w_Cloth ct aDR DR]))) 0 [(0, .ref (aR 0)), (1, .int x1)] [] (cat [w_Reader ct aR aDR aRE aT R, w_Cloth ct aDR DR]) (f_X6_mayStand F R DR x1) := by
  unfold f_X6_mayStand
  refine im_iload_n X 1 dX6_mayStand_0 rfl rfl ?_
  refine im_iconst X (-1) dX6_mayStand_1 (by decide) ?_
  refine im_icmp_eq (tgt := 17) X dX6_mayStand_2 rfl ?_ ?_
  · refine im_iconst X 0 dX6_mayStand_17 (by decide) ?_
    exact im_zreturn X 0 rfl rfl rfl dX6_mayStand_18
  · refine im_aload_n X 0 dX6_mayStand_5 rfl rfl ?_
    refine im_iload_n X 1 dX6_mayStand_6 rfl rfl ?_
    refine im_cciV X [.int x1] [] [w_Reader ct aR aDR aRE aT R, w_Cloth ct aDR DR] [] [] (fun z7 => []) 0 0 6 rfl rfl rfl cl_X6_75 (c_X6_stageOf l D ct F aR aDR aRE aT x1) rfl (by decide) (fun _ => rfl) rfl ⟨by decide, by decide⟩ (Nat.le_of_ble_eq_true rfl) rfl dX6_mayStand_7 (fun z7 => ?_)
    refine im_ws (cat [w_Reader ct aR aDR aRE aT R, w_Cloth ct aDR DR]) rfl ?_
    refine im_aload_n X 0 dX6_mayStand_10 rfl rfl ?_
    refine im_cget X 0 0 (v := .int (R 0 7)) fl_X6_48 rfl rfl rfl dX6_mayStand_11 ?_
    refine im_icmp_ge (tgt := 19) X dX6_mayStand_14 rfl ?_ ?_
    · refine im_iload_n X 1 dX6_mayStand_19 rfl rfl ?_
      refine im_ite (fun q0 => ?_) (fun q0 => ?_)
      · refine im_tabIn (tgt := 48) X dX6_mayStand_20 (by rw [q0]; decide) (by rw [q0]; decide) (by rw [q0]; rfl) rfl ?_
        refine im_aload_n X 0 dX6_mayStand_48 rfl rfl ?_
        refine im_cget X 0 0 (v := .ref (aDR 0)) fl_X6_12 rfl rfl rfl dX6_mayStand_49 ?_
        refine im_cget X 1 0 (v := .int (DR 0 6)) fl_X6_92 rfl rfl rfl dX6_mayStand_52 ?_
        refine im_bipush X 6 dX6_mayStand_55 (by decide) ?_
        refine im_icmp_ge (tgt := 64) X dX6_mayStand_57 rfl ?_ ?_
        · refine im_iconst X 0 dX6_mayStand_64 (by decide) ?_
          exact im_zreturn X 0 rfl rfl rfl dX6_mayStand_65
        · refine im_iconst X 1 dX6_mayStand_60 (by decide) ?_
          refine im_goto (tgt := 65) X dX6_mayStand_61 rfl ?_
          exact im_zreturn X 1 rfl rfl rfl dX6_mayStand_65
      · refine im_ite (fun q1 => ?_) (fun q1 => ?_)
        · refine im_tabIn (tgt := 66) X dX6_mayStand_20 (by rw [q1]; decide) (by rw [q1]; decide) (by rw [q1]; rfl) rfl ?_
          refine im_aload_n X 0 dX6_mayStand_66 rfl rfl ?_
          refine im_cget X 0 0 (v := .ref (aDR 0)) fl_X6_12 rfl rfl rfl dX6_mayStand_67 ?_
          refine im_cciV X [] [] [w_Reader ct aR aDR aRE aT R, w_Cloth ct aDR DR] [w_Cloth ct aDR DR] [1] (fun z70 => [w_Cloth ct aDR DR]) 1 0 0 rfl rfl rfl cl_X6_95 (c_X0_mayAddRow l D ct F aDR DR) rfl (by decide) (fun _ => lc rfl (rfl)) rfl ⟨by decide, by decide⟩ (Nat.le_of_ble_eq_true rfl) rfl dX6_mayStand_70 (fun z70 => ?_)
          refine im_ws (cat [w_Reader ct aR aDR aRE aT R, w_Cloth ct aDR DR]) rfl ?_
          exact im_zreturnc X z70 rfl rfl dX6_mayStand_73
        · refine im_ite (fun q2 => ?_) (fun q2 => ?_)
          · refine im_tabIn (tgt := 74) X dX6_mayStand_20 (by rw [q2]; decide) (by rw [q2]; decide) (by rw [q2]; rfl) rfl ?_
            refine im_aload_n X 0 dX6_mayStand_74 rfl rfl ?_
            refine im_cget X 0 0 (v := .ref (aDR 0)) fl_X6_12 rfl rfl rfl dX6_mayStand_75 ?_
            refine im_cget X 1 0 (v := .int (DR 0 9)) fl_X6_98 rfl rfl rfl dX6_mayStand_78 ?_
            refine im_bipush X 12 dX6_mayStand_81 (by decide) ?_
            refine im_icmp_ge (tgt := 90) X dX6_mayStand_83 rfl ?_ ?_
            · refine im_iconst X 0 dX6_mayStand_90 (by decide) ?_
              exact im_zreturn X 0 rfl rfl rfl dX6_mayStand_91
            · refine im_iconst X 1 dX6_mayStand_86 (by decide) ?_
              refine im_goto (tgt := 91) X dX6_mayStand_87 rfl ?_
              exact im_zreturn X 1 rfl rfl rfl dX6_mayStand_91
          · refine im_tabOut (tgt := 92) X dX6_mayStand_20 (by have h5 := i32_ne q0 (by decide : (5 : Int32).toInt = 5); have h6 := i32_ne q1 (by decide : (6 : Int32).toInt = 6); have h7 := i32_ne q2 (by decide : (7 : Int32).toInt = 7); omega) rfl ?_
            refine im_iconst X 1 dX6_mayStand_92 (by decide) ?_
            exact im_zreturn X 1 rfl rfl rfl dX6_mayStand_93
    · refine im_iconst X 0 dX6_mayStand_17 (by decide) ?_
      exact im_zreturn X 0 rfl rfl rfl dX6_mayStand_18
theorem c_X6_mayStand (l : Launch) (D : va_G) (ct : im_ct) (F : Nat) (aR aDR aRE aT : Nat → Nat) (R : Mem) (DR : Mem) (x1 : Int32) : CMi l D ct yX6_mayStand cX6_mayStand 2 (some .boolean) 1 [.ref (aR 0), .int x1] (cat [w_Reader ct aR aDR aRE aT R, w_Cloth ct aDR DR]) (f_X6_mayStand F R DR x1) (fun z : Int32 => z) (fun z : Int32 => (cat [w_Reader ct aR aDR aRE aT R, w_Cloth ct aDR DR])) :=
  im_met (Qb := fun A => QI D A (fun z : Int32 => z) (fun z : Int32 => (cat [w_Reader ct aR aDR aRE aT R, w_Cloth ct aDR DR]))) (by decide +kernel) (Nat.le_of_ble_eq_true rfl) (fun p e s m args below meth c A X => i_X6_mayStand X F aR aDR aRE aT R DR x1)

noncomputable def f_X6_failAt (F : Nat) (R : Mem) (x1 : Int32) : Option (Int32 × Mem) :=
  (some (0, (mr R 0 (fu (R 0) 8 x1))))
set_option maxRecDepth 100000 in
set_option maxHeartbeats 4000000 in
theorem i_X6_failAt {p : Program} {l : Launch} {e : Env} {s : State} {m : MethodId} {args : Array Value} {below : List Frame} {meth : Method} {c : Code} {D : va_G} {ct : im_ct} {A : Nat → Prop} (X : im_X p (im_rm 0) s m args meth c D ct A RX6 cX6_failAt 2 (some .boolean)) (F : Nat) (aR aDR aRE aT : Nat → Nat) (R : Mem) (x1 : Int32) : Im p l e (im_rm 0) s m args below meth c D A 2 (QI D A (fun z : Int32 × Mem => z.1) (fun z : Int32 × Mem => (cat [w_Reader ct aR aDR aRE aT z.2]))) 0 [(0, .ref (aR 0)), (1, .int x1)] [] (cat [w_Reader ct aR aDR aRE aT R]) (f_X6_failAt F R x1) := by
  unfold f_X6_failAt
  refine im_aload_n X 0 dX6_failAt_0 rfl rfl ?_
  refine im_iload_n X 1 dX6_failAt_1 rfl rfl ?_
  refine im_cput X 0 0 (wx_Reader ct aR aDR aRE aT (R 0 5) (R 0 6) (R 0 7) x1 (R 1)) [wx_Reader ct aR aDR aRE aT (R 0 5) (R 0 6) (R 0 7) x1 (R 1)] fl_X6_51 rfl rfl rfl rfl (Nat.le_of_ble_eq_true rfl) rfl rfl dX6_failAt_2 ?_
  refine im_iconst X 0 dX6_failAt_5 (by decide) ?_
  exact im_zreturn X (0, (mr R 0 (fu (R 0) 8 x1))) rfl rfl rfl dX6_failAt_6
theorem c_X6_failAt (l : Launch) (D : va_G) (ct : im_ct) (F : Nat) (aR aDR aRE aT : Nat → Nat) (R : Mem) (x1 : Int32) : CMi l D ct yX6_failAt cX6_failAt 2 (some .boolean) 0 [.ref (aR 0), .int x1] (cat [w_Reader ct aR aDR aRE aT R]) (f_X6_failAt F R x1) (fun z : Int32 × Mem => z.1) (fun z : Int32 × Mem => (cat [w_Reader ct aR aDR aRE aT z.2])) :=
  im_met (Qb := fun A => QI D A (fun z : Int32 × Mem => z.1) (fun z : Int32 × Mem => (cat [w_Reader ct aR aDR aRE aT z.2]))) (by decide +kernel) (Nat.le_of_ble_eq_true rfl) (fun p e s m args below meth c A X => i_X6_failAt X F aR aDR aRE aT R x1)

noncomputable def f_X6_readNumber_92 (F : Nat) (R : Mem) (T : Mem) (x1 : Int32) (x2 : Int32) (x3 : Int32) (x4 : Int32) (x5 : Int32) (s0 : Int32) (k19 : Mem → Int32 → Option (Int32 × Mem)) : Option (Int32 × Mem) :=
  k19 (mr R 0 (fu (R 0) 6 ((R 0 6) + 1))) s0
set_option maxRecDepth 100000 in
set_option maxHeartbeats 4000000 in
theorem i_X6_readNumber_92 {p : Program} {l : Launch} {e : Env} {s : State} {m : MethodId} {args : Array Value} {below : List Frame} {meth : Method} {c : Code} {D : va_G} {ct : im_ct} {A : Nat → Prop} (X : im_X p (im_rm 2) s m args meth c D ct A RX6 cX6_readNumber 8 (some .boolean)) (F : Nat) (aR aDR aRE aT : Nat → Nat) (R : Mem) (T : Mem) (x1 : Int32) (x2 : Int32) (x3 : Int32) (x4 : Int32) (x5 : Int32) (s0 : Int32) (k19 : Mem → Int32 → Option (Int32 × Mem)) (hk19 : ∀ (R : Mem) (x6 : Int32), Im p l e (im_rm 2) s m args below meth c D A 8 (QI D A (fun z : Int32 × Mem => z.1) (fun z : Int32 × Mem => (cat [w_Reader ct aR aDR aRE aT z.2, w_Tape ct aT T]))) 19 [(0, .ref (aR 0)), (1, .int x1), (2, .int x2), (3, .int x3), (4, .int x4), (5, .int x5), (6, .int x6)] [] (cat [w_Reader ct aR aDR aRE aT R, w_Tape ct aT T]) (k19 R x6)) : Im p l e (im_rm 2) s m args below meth c D A 8 (QI D A (fun z : Int32 × Mem => z.1) (fun z : Int32 × Mem => (cat [w_Reader ct aR aDR aRE aT z.2, w_Tape ct aT T]))) 92 [(0, .ref (aR 0)), (1, .int x1), (2, .int x2), (3, .int x3), (4, .int x4), (5, .int x5)] [.int s0] (cat [w_Reader ct aR aDR aRE aT R, w_Tape ct aT T]) (f_X6_readNumber_92 F R T x1 x2 x3 x4 x5 s0 k19) := by
  unfold f_X6_readNumber_92
  refine im_istore X [1, 2, 3, 4, 5, 6, 0] [(0, .ref (aR 0)), (1, .int x1), (2, .int x2), (3, .int x3), (4, .int x4), (5, .int x5), (6, .int s0)] dX6_readNumber_92 (by decide) rfl ?_
  refine im_aload_n X 0 dX6_readNumber_94 rfl rfl ?_
  refine im_dup X rfl dX6_readNumber_95 ?_
  refine im_cget X 0 0 (v := .int (R 0 6)) fl_X6_45 rfl rfl rfl dX6_readNumber_96 ?_
  refine im_iconst X 1 dX6_readNumber_99 (by decide) ?_
  refine im_iadd X dX6_readNumber_100 ?_
  refine im_cput X 0 0 (wx_Reader ct aR aDR aRE aT (R 0 5) ((R 0 6) + 1) (R 0 7) (R 0 8) (R 1)) [wx_Reader ct aR aDR aRE aT (R 0 5) ((R 0 6) + 1) (R 0 7) (R 0 8) (R 1), w_Tape ct aT T] fl_X6_45 rfl rfl rfl rfl (Nat.le_of_ble_eq_true rfl) rfl rfl dX6_readNumber_101 ?_
  refine im_goto (tgt := 19) X dX6_readNumber_104 rfl ?_
  exact hk19 (mr R 0 (fu (R 0) 6 ((R 0 6) + 1))) s0
noncomputable def f_X6_readNumber_19 (F : Nat) (T : Mem) (x1 : Int32) (x2 : Int32) (x3 : Int32) (x4 : Int32) (x5 : Int32) (k107 : Mem → Int32 → Option (Int32 × Mem)) : Nat → Mem → Int32 → Option (Int32 × Mem)
  | 0, _, _ => none
  | n + 1, R, x6 =>
  (if (R 0 5) ≤ (R 0 6) then k107 R x6 else ck (R 0 6) 400 ((if ((T 1) ((R 0 6)).toNatClampNeg) < 48 then k107 R x6 else ck (R 0 6) 400 ((if 57 < ((T 1) ((R 0 6)).toNatClampNeg) then k107 R x6 else (if 2 ≤ ((R 0 6) - x5) then f_X6_readNumber_92 F R T x1 x2 x3 x4 x5 x6 (f_X6_readNumber_19 F T x1 x2 x3 x4 x5 k107 n) else ck (R 0 6) 400 (f_X6_readNumber_92 F R T x1 x2 x3 x4 x5 (((x6 * 10) + ((T 1) ((R 0 6)).toNatClampNeg)) - 48) (f_X6_readNumber_19 F T x1 x2 x3 x4 x5 k107 n))))))))
set_option maxRecDepth 100000 in
set_option maxHeartbeats 4000000 in
theorem i_X6_readNumber_19 {p : Program} {l : Launch} {e : Env} {s : State} {m : MethodId} {args : Array Value} {below : List Frame} {meth : Method} {c : Code} {D : va_G} {ct : im_ct} {A : Nat → Prop} (X : im_X p (im_rm 2) s m args meth c D ct A RX6 cX6_readNumber 8 (some .boolean)) (F : Nat) (aR aDR aRE aT : Nat → Nat) (T : Mem) (x1 : Int32) (x2 : Int32) (x3 : Int32) (x4 : Int32) (x5 : Int32) (k107 : Mem → Int32 → Option (Int32 × Mem)) (hk107 : ∀ (R : Mem) (x6 : Int32), Im p l e (im_rm 2) s m args below meth c D A 8 (QI D A (fun z : Int32 × Mem => z.1) (fun z : Int32 × Mem => (cat [w_Reader ct aR aDR aRE aT z.2, w_Tape ct aT T]))) 107 [(0, .ref (aR 0)), (1, .int x1), (2, .int x2), (3, .int x3), (4, .int x4), (5, .int x5), (6, .int x6)] [] (cat [w_Reader ct aR aDR aRE aT R, w_Tape ct aT T]) (k107 R x6)) : ∀ (n : Nat) (R : Mem) (x6 : Int32), Im p l e (im_rm 2) s m args below meth c D A 8 (QI D A (fun z : Int32 × Mem => z.1) (fun z : Int32 × Mem => (cat [w_Reader ct aR aDR aRE aT z.2, w_Tape ct aT T]))) 19 [(0, .ref (aR 0)), (1, .int x1), (2, .int x2), (3, .int x3), (4, .int x4), (5, .int x5), (6, .int x6)] [] (cat [w_Reader ct aR aDR aRE aT R, w_Tape ct aT T]) (f_X6_readNumber_19 F T x1 x2 x3 x4 x5 k107 n R x6) := by
  intro n
  induction n with
  | zero => intros; exact im_none
  | succ n ih =>
    intro R x6
    unfold f_X6_readNumber_19
    refine im_aload_n X 0 dX6_readNumber_19 rfl rfl ?_
    refine im_cget X 0 0 (v := .int (R 0 6)) fl_X6_45 rfl rfl rfl dX6_readNumber_20 ?_
    refine im_aload_n X 0 dX6_readNumber_23 rfl rfl ?_
    refine im_cget X 0 0 (v := .int (R 0 5)) fl_X6_44 rfl rfl rfl dX6_readNumber_24 ?_
    refine im_icmp_ge (tgt := 107) X dX6_readNumber_27 rfl ?_ ?_
    · exact hk107 R x6
    · refine im_aload_n X 0 dX6_readNumber_30 rfl rfl ?_
      refine im_cget X 0 0 (v := .ref (aT 1)) fl_X6_39 rfl rfl rfl dX6_readNumber_31 ?_
      refine im_aload_n X 0 dX6_readNumber_34 rfl rfl ?_
      refine im_cget X 0 0 (v := .int (R 0 6)) fl_X6_45 rfl rfl rfl dX6_readNumber_35 ?_
      refine im_ciald X 1 1 0 (f := (T 1)) rfl rfl rfl dX6_readNumber_38 ?_
      refine im_bipush X 48 dX6_readNumber_39 (by decide) ?_
      refine im_icmp_lt (tgt := 107) X dX6_readNumber_41 rfl ?_ ?_
      · exact hk107 R x6
      · refine im_aload_n X 0 dX6_readNumber_44 rfl rfl ?_
        refine im_cget X 0 0 (v := .ref (aT 1)) fl_X6_39 rfl rfl rfl dX6_readNumber_45 ?_
        refine im_aload_n X 0 dX6_readNumber_48 rfl rfl ?_
        refine im_cget X 0 0 (v := .int (R 0 6)) fl_X6_45 rfl rfl rfl dX6_readNumber_49 ?_
        refine im_ciald X 1 1 0 (f := (T 1)) rfl rfl rfl dX6_readNumber_52 ?_
        refine im_bipush X 57 dX6_readNumber_53 (by decide) ?_
        refine im_icmp_gt (tgt := 107) X dX6_readNumber_55 rfl ?_ ?_
        · exact hk107 R x6
        · refine im_aload_n X 0 dX6_readNumber_58 rfl rfl ?_
          refine im_cget X 0 0 (v := .int (R 0 6)) fl_X6_45 rfl rfl rfl dX6_readNumber_59 ?_
          refine im_iload X 5 dX6_readNumber_62 rfl ?_
          refine im_isub X dX6_readNumber_64 ?_
          refine im_iconst X 2 dX6_readNumber_65 (by decide) ?_
          refine im_icmp_ge (tgt := 90) X dX6_readNumber_66 rfl ?_ ?_
          · refine im_iload X 6 dX6_readNumber_90 rfl ?_
            refine im_lv [0, 1, 2, 3, 4, 5] [(0, .ref (aR 0)), (1, .int x1), (2, .int x2), (3, .int x3), (4, .int x4), (5, .int x5)] rfl ?_
            exact i_X6_readNumber_92 X F aR aDR aRE aT R T x1 x2 x3 x4 x5 x6 _ ih
          · refine im_iload X 6 dX6_readNumber_69 rfl ?_
            refine im_bipush X 10 dX6_readNumber_71 (by decide) ?_
            refine im_imul X dX6_readNumber_73 ?_
            refine im_aload_n X 0 dX6_readNumber_74 rfl rfl ?_
            refine im_cget X 0 0 (v := .ref (aT 1)) fl_X6_39 rfl rfl rfl dX6_readNumber_75 ?_
            refine im_aload_n X 0 dX6_readNumber_78 rfl rfl ?_
            refine im_cget X 0 0 (v := .int (R 0 6)) fl_X6_45 rfl rfl rfl dX6_readNumber_79 ?_
            refine im_ciald X 1 1 0 (f := (T 1)) rfl rfl rfl dX6_readNumber_82 ?_
            refine im_iadd X dX6_readNumber_83 ?_
            refine im_bipush X 48 dX6_readNumber_84 (by decide) ?_
            refine im_isub X dX6_readNumber_86 ?_
            refine im_goto (tgt := 92) X dX6_readNumber_87 rfl ?_
            refine im_lv [0, 1, 2, 3, 4, 5] [(0, .ref (aR 0)), (1, .int x1), (2, .int x2), (3, .int x3), (4, .int x4), (5, .int x5)] rfl ?_
            exact i_X6_readNumber_92 X F aR aDR aRE aT R T x1 x2 x3 x4 x5 (((x6 * 10) + ((T 1) ((R 0 6)).toNatClampNeg)) - 48) _ ih
noncomputable def f_X6_readNumber_147 (F : Nat) (R : Mem) (T : Mem) (x5 : Int32) : Option (Int32 × Mem) :=
  (f_X6_failAt F R x5).bind (fun z150 => (cb z150.1 (some (z150.1, z150.2))))
set_option maxRecDepth 100000 in
set_option maxHeartbeats 4000000 in
theorem i_X6_readNumber_147 {p : Program} {l : Launch} {e : Env} {s : State} {m : MethodId} {args : Array Value} {below : List Frame} {meth : Method} {c : Code} {D : va_G} {ct : im_ct} {A : Nat → Prop} (X : im_X p (im_rm 2) s m args meth c D ct A RX6 cX6_readNumber 8 (some .boolean)) (F : Nat) (aR aDR aRE aT : Nat → Nat) (R : Mem) (T : Mem) (x5 : Int32) : Im p l e (im_rm 2) s m args below meth c D A 8 (QI D A (fun z : Int32 × Mem => z.1) (fun z : Int32 × Mem => (cat [w_Reader ct aR aDR aRE aT z.2, w_Tape ct aT T]))) 147 [(0, .ref (aR 0)), (5, .int x5)] [] (cat [w_Reader ct aR aDR aRE aT R, w_Tape ct aT T]) (f_X6_readNumber_147 F R T x5) := by
  unfold f_X6_readNumber_147
  refine im_aload_n X 0 dX6_readNumber_147 rfl rfl ?_
  refine im_iload X 1 dX6_readNumber_148 rfl ?_
  refine im_cciV X [.int x5] [] [w_Reader ct aR aDR aRE aT R, w_Tape ct aT T] [w_Reader ct aR aDR aRE aT R] [0] (fun z150 => [w_Reader ct aR aDR aRE aT z150.2]) 0 0 6 rfl rfl rfl cl_X6_72 (c_X6_failAt l D ct F aR aDR aRE aT R x5) rfl (by decide) (fun _ => lc fa_Reader (rfl)) rfl ⟨by decide, by decide⟩ (Nat.le_of_ble_eq_true rfl) rfl dX6_readNumber_150 (fun z150 => ?_)
  refine im_ws (cat [w_Reader ct aR aDR aRE aT z150.2, w_Tape ct aT T]) rfl ?_
  exact im_zreturnc X (z150.1, z150.2) rfl rfl dX6_readNumber_153
noncomputable def f_X6_readNumber_107 (F : Nat) (R : Mem) (T : Mem) (x1 : Int32) (x2 : Int32) (x3 : Int32) (x4 : Int32) (x5 : Int32) (x6 : Int32) : Option (Int32 × Mem) :=
  (if x5 = x4 then f_X6_readNumber_147 F R T x5 else (if ((R 0 6) - x5) < 1 then f_X6_readNumber_147 F R T x5 else (if 2 < ((R 0 6) - x5) then f_X6_readNumber_147 F R T x5 else (if x6 < x2 then f_X6_readNumber_147 F R T x5 else (if x6 ≤ x3 then ck x1 4 ((some (1, (mr R 1 (upd (R 1) x1.toNatClampNeg x6))))) else f_X6_readNumber_147 F R T x5)))))
set_option maxRecDepth 100000 in
set_option maxHeartbeats 4000000 in
theorem i_X6_readNumber_107 {p : Program} {l : Launch} {e : Env} {s : State} {m : MethodId} {args : Array Value} {below : List Frame} {meth : Method} {c : Code} {D : va_G} {ct : im_ct} {A : Nat → Prop} (X : im_X p (im_rm 2) s m args meth c D ct A RX6 cX6_readNumber 8 (some .boolean)) (F : Nat) (aR aDR aRE aT : Nat → Nat) (R : Mem) (T : Mem) (x1 : Int32) (x2 : Int32) (x3 : Int32) (x4 : Int32) (x5 : Int32) (x6 : Int32) : Im p l e (im_rm 2) s m args below meth c D A 8 (QI D A (fun z : Int32 × Mem => z.1) (fun z : Int32 × Mem => (cat [w_Reader ct aR aDR aRE aT z.2, w_Tape ct aT T]))) 107 [(0, .ref (aR 0)), (1, .int x1), (2, .int x2), (3, .int x3), (4, .int x4), (5, .int x5), (6, .int x6)] [] (cat [w_Reader ct aR aDR aRE aT R, w_Tape ct aT T]) (f_X6_readNumber_107 F R T x1 x2 x3 x4 x5 x6) := by
  unfold f_X6_readNumber_107
  refine im_aload_n X 0 dX6_readNumber_107 rfl rfl ?_
  refine im_cget X 0 0 (v := .int (R 0 6)) fl_X6_45 rfl rfl rfl dX6_readNumber_108 ?_
  refine im_iload X 5 dX6_readNumber_111 rfl ?_
  refine im_isub X dX6_readNumber_113 ?_
  refine im_istore X [1, 2, 3, 4, 5, 6, 7, 0] [(0, .ref (aR 0)), (1, .int x1), (2, .int x2), (3, .int x3), (4, .int x4), (5, .int x5), (6, .int x6), (7, .int ((R 0 6) - x5))] dX6_readNumber_114 (by decide) rfl ?_
  refine im_iload X 5 dX6_readNumber_116 rfl ?_
  refine im_iload X 4 dX6_readNumber_118 rfl ?_
  refine im_icmp_eq (tgt := 147) X dX6_readNumber_120 rfl ?_ ?_
  · refine im_lv [0, 5] [(0, .ref (aR 0)), (5, .int x5)] rfl ?_
    exact i_X6_readNumber_147 X F aR aDR aRE aT R T x5 
  · refine im_iload X 7 dX6_readNumber_123 rfl ?_
    refine im_iconst X 1 dX6_readNumber_125 (by decide) ?_
    refine im_icmp_lt (tgt := 147) X dX6_readNumber_126 rfl ?_ ?_
    · refine im_lv [0, 5] [(0, .ref (aR 0)), (5, .int x5)] rfl ?_
      exact i_X6_readNumber_147 X F aR aDR aRE aT R T x5 
    · refine im_iload X 7 dX6_readNumber_129 rfl ?_
      refine im_iconst X 2 dX6_readNumber_131 (by decide) ?_
      refine im_icmp_gt (tgt := 147) X dX6_readNumber_132 rfl ?_ ?_
      · refine im_lv [0, 5] [(0, .ref (aR 0)), (5, .int x5)] rfl ?_
        exact i_X6_readNumber_147 X F aR aDR aRE aT R T x5 
      · refine im_iload X 6 dX6_readNumber_135 rfl ?_
        refine im_iload_n X 2 dX6_readNumber_137 rfl rfl ?_
        refine im_icmp_lt (tgt := 147) X dX6_readNumber_138 rfl ?_ ?_
        · refine im_lv [0, 5] [(0, .ref (aR 0)), (5, .int x5)] rfl ?_
          exact i_X6_readNumber_147 X F aR aDR aRE aT R T x5 
        · refine im_iload X 6 dX6_readNumber_141 rfl ?_
          refine im_iload_n X 3 dX6_readNumber_143 rfl rfl ?_
          refine im_icmp_le (tgt := 154) X dX6_readNumber_144 rfl ?_ ?_
          · refine im_aload_n X 0 dX6_readNumber_154 rfl rfl ?_
            refine im_cget X 0 0 (v := .ref (aR 1)) fl_X6_25 rfl rfl rfl dX6_readNumber_155 ?_
            refine im_iload_n X 1 dX6_readNumber_158 rfl rfl ?_
            refine im_iload X 6 dX6_readNumber_159 rfl ?_
            refine im_ciast X 0 1 0 (wx_Reader ct aR aDR aRE aT (R 0 5) (R 0 6) (R 0 7) (R 0 8) (upd (R 1) x1.toNatClampNeg x6)) [wx_Reader ct aR aDR aRE aT (R 0 5) (R 0 6) (R 0 7) (R 0 8) (upd (R 1) x1.toNatClampNeg x6), w_Tape ct aT T] (f := (R 1)) rfl rfl rfl rfl rfl dX6_readNumber_161 ?_
            refine im_iconst X 1 dX6_readNumber_162 (by decide) ?_
            exact im_zreturn X (1, (mr R 1 (upd (R 1) x1.toNatClampNeg x6))) rfl rfl rfl dX6_readNumber_163
          · refine im_lv [0, 5] [(0, .ref (aR 0)), (5, .int x5)] rfl ?_
            exact i_X6_readNumber_147 X F aR aDR aRE aT R T x5 
noncomputable def f_X6_readNumber (F : Nat) (R : Mem) (T : Mem) (x1 : Int32) (x2 : Int32) (x3 : Int32) : Option (Int32 × Mem) :=
  (f_X6_skipBlanks F R T).bind (fun z7 => f_X6_readNumber_19 F T x1 x2 x3 (R 0 6) (z7 0 6) (fun R_107 x6_107 => f_X6_readNumber_107 F R_107 T x1 x2 x3 (R 0 6) (z7 0 6) x6_107) F z7 0)
set_option maxRecDepth 100000 in
set_option maxHeartbeats 4000000 in
theorem i_X6_readNumber {p : Program} {l : Launch} {e : Env} {s : State} {m : MethodId} {args : Array Value} {below : List Frame} {meth : Method} {c : Code} {D : va_G} {ct : im_ct} {A : Nat → Prop} (X : im_X p (im_rm 2) s m args meth c D ct A RX6 cX6_readNumber 8 (some .boolean)) (F : Nat) (aR aDR aRE aT : Nat → Nat) (R : Mem) (T : Mem) (x1 : Int32) (x2 : Int32) (x3 : Int32) : Im p l e (im_rm 2) s m args below meth c D A 8 (QI D A (fun z : Int32 × Mem => z.1) (fun z : Int32 × Mem => (cat [w_Reader ct aR aDR aRE aT z.2, w_Tape ct aT T]))) 0 [(0, .ref (aR 0)), (1, .int x1), (2, .int x2), (3, .int x3)] [] (cat [w_Reader ct aR aDR aRE aT R, w_Tape ct aT T]) (f_X6_readNumber F R T x1 x2 x3) := by
  unfold f_X6_readNumber
  refine im_aload_n X 0 dX6_readNumber_0 rfl rfl ?_
  refine im_cget X 0 0 (v := .int (R 0 6)) fl_X6_45 rfl rfl rfl dX6_readNumber_1 ?_
  refine im_istore X [1, 2, 3, 4, 0] [(0, .ref (aR 0)), (1, .int x1), (2, .int x2), (3, .int x3), (4, .int (R 0 6))] dX6_readNumber_4 (by decide) rfl ?_
  refine im_aload_n X 0 dX6_readNumber_6 rfl rfl ?_
  refine im_ccvV X [] [] [w_Reader ct aR aDR aRE aT R, w_Tape ct aT T] [w_Reader ct aR aDR aRE aT R, w_Tape ct aT T] [0, 1] (fun z7 => [w_Reader ct aR aDR aRE aT z7, w_Tape ct aT T]) 0 0 6 rfl rfl rfl cl_X6_57 (c_X6_skipBlanks l D ct F aR aDR aRE aT R T) rfl (by decide) (fun _ => lc fa_Reader (lc rfl (rfl))) rfl ⟨by decide, by decide⟩ (Nat.le_of_ble_eq_true rfl) rfl dX6_readNumber_7 (fun z7 => ?_)
  refine im_ws (cat [w_Reader ct aR aDR aRE aT z7, w_Tape ct aT T]) rfl ?_
  refine im_aload_n X 0 dX6_readNumber_10 rfl rfl ?_
  refine im_cget X 0 0 (v := .int (z7 0 6)) fl_X6_45 rfl rfl rfl dX6_readNumber_11 ?_
  refine im_istore X [1, 2, 3, 4, 5, 0] [(0, .ref (aR 0)), (1, .int x1), (2, .int x2), (3, .int x3), (4, .int (R 0 6)), (5, .int (z7 0 6))] dX6_readNumber_14 (by decide) rfl ?_
  refine im_iconst X 0 dX6_readNumber_16 (by decide) ?_
  refine im_istore X [1, 2, 3, 4, 5, 6, 0] [(0, .ref (aR 0)), (1, .int x1), (2, .int x2), (3, .int x3), (4, .int (R 0 6)), (5, .int (z7 0 6)), (6, .int 0)] dX6_readNumber_17 (by decide) rfl ?_
  refine i_X6_readNumber_19 X F aR aDR aRE aT T x1 x2 x3 (R 0 6) (z7 0 6) _ (fun R_107 x6_107 => ?_) F z7 0
  exact i_X6_readNumber_107 X F aR aDR aRE aT R_107 T x1 x2 x3 (R 0 6) (z7 0 6) x6_107 
theorem c_X6_readNumber (l : Launch) (D : va_G) (ct : im_ct) (F : Nat) (aR aDR aRE aT : Nat → Nat) (R : Mem) (T : Mem) (x1 : Int32) (x2 : Int32) (x3 : Int32) : CMi l D ct yX6_readNumber cX6_readNumber 8 (some .boolean) 2 [.ref (aR 0), .int x1, .int x2, .int x3] (cat [w_Reader ct aR aDR aRE aT R, w_Tape ct aT T]) (f_X6_readNumber F R T x1 x2 x3) (fun z : Int32 × Mem => z.1) (fun z : Int32 × Mem => (cat [w_Reader ct aR aDR aRE aT z.2, w_Tape ct aT T])) :=
  im_met (Qb := fun A => QI D A (fun z : Int32 × Mem => z.1) (fun z : Int32 × Mem => (cat [w_Reader ct aR aDR aRE aT z.2, w_Tape ct aT T]))) (by decide +kernel) (Nat.le_of_ble_eq_true rfl) (fun p e s m args below meth c A X => i_X6_readNumber X F aR aDR aRE aT R T x1 x2 x3)

noncomputable def f_X6_readEnd_29 (F : Nat) (R : Mem) (T : Mem) : Option (Int32 × Mem) :=
  (f_X6_failAt F R (R 0 6)).bind (fun z34 => (cb z34.1 (some (z34.1, z34.2))))
set_option maxRecDepth 100000 in
set_option maxHeartbeats 4000000 in
theorem i_X6_readEnd_29 {p : Program} {l : Launch} {e : Env} {s : State} {m : MethodId} {args : Array Value} {below : List Frame} {meth : Method} {c : Code} {D : va_G} {ct : im_ct} {A : Nat → Prop} (X : im_X p (im_rm 2) s m args meth c D ct A RX6 cX6_readEnd 1 (some .boolean)) (F : Nat) (aR aDR aRE aT : Nat → Nat) (R : Mem) (T : Mem) : Im p l e (im_rm 2) s m args below meth c D A 1 (QI D A (fun z : Int32 × Mem => z.1) (fun z : Int32 × Mem => (cat [w_Reader ct aR aDR aRE aT z.2, w_Tape ct aT T]))) 29 [(0, .ref (aR 0))] [] (cat [w_Reader ct aR aDR aRE aT R, w_Tape ct aT T]) (f_X6_readEnd_29 F R T) := by
  unfold f_X6_readEnd_29
  refine im_aload_n X 0 dX6_readEnd_29 rfl rfl ?_
  refine im_aload_n X 0 dX6_readEnd_30 rfl rfl ?_
  refine im_cget X 0 0 (v := .int (R 0 6)) fl_X6_45 rfl rfl rfl dX6_readEnd_31 ?_
  refine im_cciV X [.int (R 0 6)] [] [w_Reader ct aR aDR aRE aT R, w_Tape ct aT T] [w_Reader ct aR aDR aRE aT R] [0] (fun z34 => [w_Reader ct aR aDR aRE aT z34.2]) 0 0 6 rfl rfl rfl cl_X6_72 (c_X6_failAt l D ct F aR aDR aRE aT R (R 0 6)) rfl (by decide) (fun _ => lc fa_Reader (rfl)) rfl ⟨by decide, by decide⟩ (Nat.le_of_ble_eq_true rfl) rfl dX6_readEnd_34 (fun z34 => ?_)
  refine im_ws (cat [w_Reader ct aR aDR aRE aT z34.2, w_Tape ct aT T]) rfl ?_
  exact im_zreturnc X (z34.1, z34.2) rfl rfl dX6_readEnd_37
noncomputable def f_X6_readEnd (F : Nat) (R : Mem) (T : Mem) : Option (Int32 × Mem) :=
  (f_X6_skipBlanks F R T).bind (fun z1 => (if (z1 0 5) ≤ (z1 0 6) then f_X6_readEnd_29 F z1 T else ck (z1 0 6) 400 ((if ((T 1) ((z1 0 6)).toNatClampNeg) = 59 then (some (1, (mr z1 0 (fu (z1 0) 6 ((z1 0 6) + 1))))) else f_X6_readEnd_29 F z1 T))))
set_option maxRecDepth 100000 in
set_option maxHeartbeats 4000000 in
theorem i_X6_readEnd {p : Program} {l : Launch} {e : Env} {s : State} {m : MethodId} {args : Array Value} {below : List Frame} {meth : Method} {c : Code} {D : va_G} {ct : im_ct} {A : Nat → Prop} (X : im_X p (im_rm 2) s m args meth c D ct A RX6 cX6_readEnd 1 (some .boolean)) (F : Nat) (aR aDR aRE aT : Nat → Nat) (R : Mem) (T : Mem) : Im p l e (im_rm 2) s m args below meth c D A 1 (QI D A (fun z : Int32 × Mem => z.1) (fun z : Int32 × Mem => (cat [w_Reader ct aR aDR aRE aT z.2, w_Tape ct aT T]))) 0 [(0, .ref (aR 0))] [] (cat [w_Reader ct aR aDR aRE aT R, w_Tape ct aT T]) (f_X6_readEnd F R T) := by
  unfold f_X6_readEnd
  refine im_aload_n X 0 dX6_readEnd_0 rfl rfl ?_
  refine im_ccvV X [] [] [w_Reader ct aR aDR aRE aT R, w_Tape ct aT T] [w_Reader ct aR aDR aRE aT R, w_Tape ct aT T] [0, 1] (fun z1 => [w_Reader ct aR aDR aRE aT z1, w_Tape ct aT T]) 0 0 6 rfl rfl rfl cl_X6_57 (c_X6_skipBlanks l D ct F aR aDR aRE aT R T) rfl (by decide) (fun _ => lc fa_Reader (lc rfl (rfl))) rfl ⟨by decide, by decide⟩ (Nat.le_of_ble_eq_true rfl) rfl dX6_readEnd_1 (fun z1 => ?_)
  refine im_ws (cat [w_Reader ct aR aDR aRE aT z1, w_Tape ct aT T]) rfl ?_
  refine im_aload_n X 0 dX6_readEnd_4 rfl rfl ?_
  refine im_cget X 0 0 (v := .int (z1 0 6)) fl_X6_45 rfl rfl rfl dX6_readEnd_5 ?_
  refine im_aload_n X 0 dX6_readEnd_8 rfl rfl ?_
  refine im_cget X 0 0 (v := .int (z1 0 5)) fl_X6_44 rfl rfl rfl dX6_readEnd_9 ?_
  refine im_icmp_ge (tgt := 29) X dX6_readEnd_12 rfl ?_ ?_
  · exact i_X6_readEnd_29 X F aR aDR aRE aT z1 T  
  · refine im_aload_n X 0 dX6_readEnd_15 rfl rfl ?_
    refine im_cget X 0 0 (v := .ref (aT 1)) fl_X6_39 rfl rfl rfl dX6_readEnd_16 ?_
    refine im_aload_n X 0 dX6_readEnd_19 rfl rfl ?_
    refine im_cget X 0 0 (v := .int (z1 0 6)) fl_X6_45 rfl rfl rfl dX6_readEnd_20 ?_
    refine im_ciald X 1 1 0 (f := (T 1)) rfl rfl rfl dX6_readEnd_23 ?_
    refine im_bipush X 59 dX6_readEnd_24 (by decide) ?_
    refine im_icmp_eq (tgt := 38) X dX6_readEnd_26 rfl ?_ ?_
    · refine im_aload_n X 0 dX6_readEnd_38 rfl rfl ?_
      refine im_dup X rfl dX6_readEnd_39 ?_
      refine im_cget X 0 0 (v := .int (z1 0 6)) fl_X6_45 rfl rfl rfl dX6_readEnd_40 ?_
      refine im_iconst X 1 dX6_readEnd_43 (by decide) ?_
      refine im_iadd X dX6_readEnd_44 ?_
      refine im_cput X 0 0 (wx_Reader ct aR aDR aRE aT (z1 0 5) ((z1 0 6) + 1) (z1 0 7) (z1 0 8) (z1 1)) [wx_Reader ct aR aDR aRE aT (z1 0 5) ((z1 0 6) + 1) (z1 0 7) (z1 0 8) (z1 1), w_Tape ct aT T] fl_X6_45 rfl rfl rfl rfl (Nat.le_of_ble_eq_true rfl) rfl rfl dX6_readEnd_45 ?_
      refine im_iconst X 1 dX6_readEnd_48 (by decide) ?_
      exact im_zreturn X (1, (mr z1 0 (fu (z1 0) 6 ((z1 0 6) + 1)))) rfl rfl rfl dX6_readEnd_49
    · exact i_X6_readEnd_29 X F aR aDR aRE aT z1 T  
theorem c_X6_readEnd (l : Launch) (D : va_G) (ct : im_ct) (F : Nat) (aR aDR aRE aT : Nat → Nat) (R : Mem) (T : Mem) : CMi l D ct yX6_readEnd cX6_readEnd 1 (some .boolean) 2 [.ref (aR 0)] (cat [w_Reader ct aR aDR aRE aT R, w_Tape ct aT T]) (f_X6_readEnd F R T) (fun z : Int32 × Mem => z.1) (fun z : Int32 × Mem => (cat [w_Reader ct aR aDR aRE aT z.2, w_Tape ct aT T])) :=
  im_met (Qb := fun A => QI D A (fun z : Int32 × Mem => z.1) (fun z : Int32 × Mem => (cat [w_Reader ct aR aDR aRE aT z.2, w_Tape ct aT T]))) (by decide +kernel) (Nat.le_of_ble_eq_true rfl) (fun p e s m args below meth c A X => i_X6_readEnd X F aR aDR aRE aT R T)

noncomputable def f_X6_readMove_35 (F : Nat) (DR : Mem) (RE : Mem) (T : Mem) (x1 : Int32) (x2 : Int32) (x3 : Int32) (k53 : Mem → Option (Int32 × Mem × Mem × Mem)) (k61 : Mem → Option (Int32 × Mem × Mem × Mem)) : Nat → Mem → Int32 → Option (Int32 × Mem × Mem × Mem)
  | 0, _, _ => none
  | n + 1, R, x4 =>
  (if x3 ≤ x4 then k61 R else (f_X6_readNumber F R T x4 0 99).bind (fun z47 => (if z47.1 = 0 then k53 z47.2 else f_X6_readMove_35 F DR RE T x1 x2 x3 k53 k61 n z47.2 (x4 + 1))))
set_option maxRecDepth 100000 in
set_option maxHeartbeats 4000000 in
theorem i_X6_readMove_35 {p : Program} {l : Launch} {e : Env} {s : State} {m : MethodId} {args : Array Value} {below : List Frame} {meth : Method} {c : Code} {D : va_G} {ct : im_ct} {A : Nat → Prop} (X : im_X p (im_rm 3) s m args meth c D ct A RX6 cX6_readMove 8 (some .boolean)) (F : Nat) (aR aDR aRE aT : Nat → Nat) (DR : Mem) (RE : Mem) (T : Mem) (x1 : Int32) (x2 : Int32) (x3 : Int32) (k53 : Mem → Option (Int32 × Mem × Mem × Mem)) (hk53 : ∀ (R : Mem), Im p l e (im_rm 3) s m args below meth c D A 8 (QI D A (fun z : Int32 × Mem × Mem × Mem => z.1) (fun z : Int32 × Mem × Mem × Mem => (cat [w_Reader ct aR aDR aRE aT z.2.1, w_Cloth ct aDR z.2.2.1, w_Effect ct aRE z.2.2.2, w_Tape ct aT T]))) 53 [] [] (cat [w_Reader ct aR aDR aRE aT R, w_Cloth ct aDR DR, w_Effect ct aRE RE, w_Tape ct aT T]) (k53 R)) (k61 : Mem → Option (Int32 × Mem × Mem × Mem)) (hk61 : ∀ (R : Mem), Im p l e (im_rm 3) s m args below meth c D A 8 (QI D A (fun z : Int32 × Mem × Mem × Mem => z.1) (fun z : Int32 × Mem × Mem × Mem => (cat [w_Reader ct aR aDR aRE aT z.2.1, w_Cloth ct aDR z.2.2.1, w_Effect ct aRE z.2.2.2, w_Tape ct aT T]))) 61 [(0, .ref (aR 0)), (1, .int x1), (2, .int x2)] [] (cat [w_Reader ct aR aDR aRE aT R, w_Cloth ct aDR DR, w_Effect ct aRE RE, w_Tape ct aT T]) (k61 R)) : ∀ (n : Nat) (R : Mem) (x4 : Int32), Im p l e (im_rm 3) s m args below meth c D A 8 (QI D A (fun z : Int32 × Mem × Mem × Mem => z.1) (fun z : Int32 × Mem × Mem × Mem => (cat [w_Reader ct aR aDR aRE aT z.2.1, w_Cloth ct aDR z.2.2.1, w_Effect ct aRE z.2.2.2, w_Tape ct aT T]))) 35 [(0, .ref (aR 0)), (1, .int x1), (2, .int x2), (3, .int x3), (4, .int x4)] [] (cat [w_Reader ct aR aDR aRE aT R, w_Cloth ct aDR DR, w_Effect ct aRE RE, w_Tape ct aT T]) (f_X6_readMove_35 F DR RE T x1 x2 x3 k53 k61 n R x4) := by
  intro n
  induction n with
  | zero => intros; exact im_none
  | succ n ih =>
    intro R x4
    unfold f_X6_readMove_35
    refine im_iload X 4 dX6_readMove_35 rfl ?_
    refine im_iload_n X 3 dX6_readMove_37 rfl rfl ?_
    refine im_icmp_ge (tgt := 61) X dX6_readMove_38 rfl ?_ ?_
    · refine im_lv [0, 1, 2] [(0, .ref (aR 0)), (1, .int x1), (2, .int x2)] rfl ?_
      exact hk61 R
    · refine im_aload_n X 0 dX6_readMove_41 rfl rfl ?_
      refine im_iload X 4 dX6_readMove_42 rfl ?_
      refine im_iconst X 0 dX6_readMove_44 (by decide) ?_
      refine im_bipush X 99 dX6_readMove_45 (by decide) ?_
      refine im_cciV X [.int x4, .int 0, .int 99] [] [w_Reader ct aR aDR aRE aT R, w_Cloth ct aDR DR, w_Effect ct aRE RE, w_Tape ct aT T] [w_Reader ct aR aDR aRE aT R, w_Tape ct aT T] [0, 3] (fun z47 => [w_Reader ct aR aDR aRE aT z47.2, w_Tape ct aT T]) 0 0 6 rfl rfl rfl cl_X6_101 (c_X6_readNumber l D ct F aR aDR aRE aT R T x4 0 99) rfl (by decide) (fun _ => lc fa_Reader (lc rfl (rfl))) rfl ⟨by decide, by decide⟩ (Nat.le_of_ble_eq_true rfl) rfl dX6_readMove_47 (fun z47 => ?_)
      refine im_ws (cat [w_Reader ct aR aDR aRE aT z47.2, w_Cloth ct aDR DR, w_Effect ct aRE RE, w_Tape ct aT T]) rfl ?_
      refine im_if_ne (tgt := 55) X dX6_readMove_50 rfl ?_ ?_
      · refine im_iinc X 4 1 [1, 2, 3, 4, 0] [(0, .ref (aR 0)), (1, .int x1), (2, .int x2), (3, .int x3), (4, .int (x4 + 1))] dX6_readMove_55 (by decide) rfl (by decide) rfl ?_
        refine im_goto (tgt := 35) X dX6_readMove_58 rfl ?_
        exact ih z47.2 (x4 + 1)
      · refine im_lv [] [] rfl ?_
        exact hk53 z47.2
noncomputable def f_X6_readMove_182 (F : Nat) (R : Mem) (DR : Mem) (RE : Mem) (T : Mem) (x1 : Int32) : Option (Int32 × Mem × Mem × Mem) :=
  (f_X6_failAt F R x1).bind (fun z184 => (cb z184.1 (some (z184.1, z184.2, DR, RE))))
set_option maxRecDepth 100000 in
set_option maxHeartbeats 4000000 in
theorem i_X6_readMove_182 {p : Program} {l : Launch} {e : Env} {s : State} {m : MethodId} {args : Array Value} {below : List Frame} {meth : Method} {c : Code} {D : va_G} {ct : im_ct} {A : Nat → Prop} (X : im_X p (im_rm 3) s m args meth c D ct A RX6 cX6_readMove 8 (some .boolean)) (F : Nat) (aR aDR aRE aT : Nat → Nat) (R : Mem) (DR : Mem) (RE : Mem) (T : Mem) (x1 : Int32) : Im p l e (im_rm 3) s m args below meth c D A 8 (QI D A (fun z : Int32 × Mem × Mem × Mem => z.1) (fun z : Int32 × Mem × Mem × Mem => (cat [w_Reader ct aR aDR aRE aT z.2.1, w_Cloth ct aDR z.2.2.1, w_Effect ct aRE z.2.2.2, w_Tape ct aT T]))) 182 [(0, .ref (aR 0)), (1, .int x1)] [] (cat [w_Reader ct aR aDR aRE aT R, w_Cloth ct aDR DR, w_Effect ct aRE RE, w_Tape ct aT T]) (f_X6_readMove_182 F R DR RE T x1) := by
  unfold f_X6_readMove_182
  refine im_aload_n X 0 dX6_readMove_182 rfl rfl ?_
  refine im_iload_n X 1 dX6_readMove_183 rfl rfl ?_
  refine im_cciV X [.int x1] [] [w_Reader ct aR aDR aRE aT R, w_Cloth ct aDR DR, w_Effect ct aRE RE, w_Tape ct aT T] [w_Reader ct aR aDR aRE aT R] [0] (fun z184 => [w_Reader ct aR aDR aRE aT z184.2]) 0 0 6 rfl rfl rfl cl_X6_72 (c_X6_failAt l D ct F aR aDR aRE aT R x1) rfl (by decide) (fun _ => lc fa_Reader (rfl)) rfl ⟨by decide, by decide⟩ (Nat.le_of_ble_eq_true rfl) rfl dX6_readMove_184 (fun z184 => ?_)
  refine im_ws (cat [w_Reader ct aR aDR aRE aT z184.2, w_Cloth ct aDR DR, w_Effect ct aRE RE, w_Tape ct aT T]) rfl ?_
  exact im_zreturnc X (z184.1, z184.2, DR, RE) rfl rfl dX6_readMove_187
noncomputable def f_X6_readMove_141 (F : Nat) (R : Mem) (DR : Mem) (RE : Mem) (T : Mem) (x1 : Int32) (x2 : Int32) (x5 : Int32) (x6 : Int32) (s0 : Int32) : Option (Int32 × Mem × Mem × Mem) :=
  (if 24 ≤ (DR 0 8) then f_X6_readMove_182 F R DR RE T x1 else ck 0 4 ((f_X0_canMake F DR RE x2 ((R 1) (0 : Int32).toNatClampNeg) x5 x6 s0).bind (fun z176 => (if z176.1 = 0 then f_X6_readMove_182 F R DR z176.2 T x1 else (f_X0_apply F DR z176.2).bind (fun z196 => ck 0 4 ((f_X0_writeMove F z196 x2 ((R 1) (0 : Int32).toNatClampNeg) x5 x6 s0).bind (fun z216 => (some (1, R, z216, z176.2)))))))))
set_option maxRecDepth 100000 in
set_option maxHeartbeats 4000000 in
theorem i_X6_readMove_141 {p : Program} {l : Launch} {e : Env} {s : State} {m : MethodId} {args : Array Value} {below : List Frame} {meth : Method} {c : Code} {D : va_G} {ct : im_ct} {A : Nat → Prop} (X : im_X p (im_rm 3) s m args meth c D ct A RX6 cX6_readMove 8 (some .boolean)) (F : Nat) (aR aDR aRE aT : Nat → Nat) (R : Mem) (DR : Mem) (RE : Mem) (T : Mem) (x1 : Int32) (x2 : Int32) (x5 : Int32) (x6 : Int32) (s0 : Int32) : Im p l e (im_rm 3) s m args below meth c D A 8 (QI D A (fun z : Int32 × Mem × Mem × Mem => z.1) (fun z : Int32 × Mem × Mem × Mem => (cat [w_Reader ct aR aDR aRE aT z.2.1, w_Cloth ct aDR z.2.2.1, w_Effect ct aRE z.2.2.2, w_Tape ct aT T]))) 141 [(0, .ref (aR 0)), (1, .int x1), (2, .int x2), (5, .int x5), (6, .int x6)] [.int s0] (cat [w_Reader ct aR aDR aRE aT R, w_Cloth ct aDR DR, w_Effect ct aRE RE, w_Tape ct aT T]) (f_X6_readMove_141 F R DR RE T x1 x2 x5 x6 s0) := by
  unfold f_X6_readMove_141
  refine im_istore X [1, 2, 3, 4, 5, 0] [(0, .ref (aR 0)), (1, .int x1), (2, .int x2), (5, .int x5), (6, .int x6), (7, .int s0)] dX6_readMove_141 (by decide) rfl ?_
  refine im_aload_n X 0 dX6_readMove_143 rfl rfl ?_
  refine im_cget X 0 0 (v := .ref (aDR 0)) fl_X6_12 rfl rfl rfl dX6_readMove_144 ?_
  refine im_cget X 1 0 (v := .int (DR 0 8)) fl_X6_124 rfl rfl rfl dX6_readMove_147 ?_
  refine im_bipush X 24 dX6_readMove_150 (by decide) ?_
  refine im_icmp_ge (tgt := 182) X dX6_readMove_152 rfl ?_ ?_
  · refine im_lv [0, 1] [(0, .ref (aR 0)), (1, .int x1)] rfl ?_
    exact i_X6_readMove_182 X F aR aDR aRE aT R DR RE T x1 
  · refine im_aload_n X 0 dX6_readMove_155 rfl rfl ?_
    refine im_cget X 0 0 (v := .ref (aDR 0)) fl_X6_12 rfl rfl rfl dX6_readMove_156 ?_
    refine im_aload_n X 0 dX6_readMove_159 rfl rfl ?_
    refine im_cget X 0 0 (v := .ref (aRE 0)) fl_X6_21 rfl rfl rfl dX6_readMove_160 ?_
    refine im_iload_n X 2 dX6_readMove_163 rfl rfl ?_
    refine im_aload_n X 0 dX6_readMove_164 rfl rfl ?_
    refine im_cget X 0 0 (v := .ref (aR 1)) fl_X6_25 rfl rfl rfl dX6_readMove_165 ?_
    refine im_iconst X 0 dX6_readMove_168 (by decide) ?_
    refine im_ciald X 0 1 0 (f := (R 1)) rfl rfl rfl dX6_readMove_169 ?_
    refine im_iload X 3 dX6_readMove_170 rfl ?_
    refine im_iload X 4 dX6_readMove_172 rfl ?_
    refine im_iload X 5 dX6_readMove_174 rfl ?_
    refine im_cciV X [.ref (aRE 0), .int x2, .int ((R 1) (0 : Int32).toNatClampNeg), .int x5, .int x6, .int s0] [] [w_Reader ct aR aDR aRE aT R, w_Cloth ct aDR DR, w_Effect ct aRE RE, w_Tape ct aT T] [w_Cloth ct aDR DR, w_Effect ct aRE RE] [1, 2] (fun z176 => [w_Cloth ct aDR DR, w_Effect ct aRE z176.2]) 1 0 0 rfl rfl rfl cl_X6_127 (c_X0_canMake l D ct F aDR aRE DR RE x2 ((R 1) (0 : Int32).toNatClampNeg) x5 x6 s0) rfl (by decide) (fun _ => lc rfl (lc fa_Effect (rfl))) rfl ⟨by decide, by decide⟩ (Nat.le_of_ble_eq_true rfl) rfl dX6_readMove_176 (fun z176 => ?_)
    refine im_ws (cat [w_Reader ct aR aDR aRE aT R, w_Cloth ct aDR DR, w_Effect ct aRE z176.2, w_Tape ct aT T]) rfl ?_
    refine im_if_ne (tgt := 188) X dX6_readMove_179 rfl ?_ ?_
    · refine im_aload_n X 0 dX6_readMove_188 rfl rfl ?_
      refine im_cget X 0 0 (v := .ref (aDR 0)) fl_X6_12 rfl rfl rfl dX6_readMove_189 ?_
      refine im_aload_n X 0 dX6_readMove_192 rfl rfl ?_
      refine im_cget X 0 0 (v := .ref (aRE 0)) fl_X6_21 rfl rfl rfl dX6_readMove_193 ?_
      refine im_ccvV X [.ref (aRE 0)] [] [w_Reader ct aR aDR aRE aT R, w_Cloth ct aDR DR, w_Effect ct aRE z176.2, w_Tape ct aT T] [w_Cloth ct aDR DR, w_Effect ct aRE z176.2] [1, 2] (fun z196 => [w_Cloth ct aDR z196, w_Effect ct aRE z176.2]) 1 0 0 rfl rfl rfl cl_X6_131 (c_X0_apply l D ct F aDR aRE DR z176.2) rfl (by decide) (fun _ => lc fa_Cloth (lc rfl (rfl))) rfl ⟨by decide, by decide⟩ (Nat.le_of_ble_eq_true rfl) rfl dX6_readMove_196 (fun z196 => ?_)
      refine im_ws (cat [w_Reader ct aR aDR aRE aT R, w_Cloth ct aDR z196, w_Effect ct aRE z176.2, w_Tape ct aT T]) rfl ?_
      refine im_aload_n X 0 dX6_readMove_199 rfl rfl ?_
      refine im_cget X 0 0 (v := .ref (aDR 0)) fl_X6_12 rfl rfl rfl dX6_readMove_200 ?_
      refine im_iload_n X 2 dX6_readMove_203 rfl rfl ?_
      refine im_aload_n X 0 dX6_readMove_204 rfl rfl ?_
      refine im_cget X 0 0 (v := .ref (aR 1)) fl_X6_25 rfl rfl rfl dX6_readMove_205 ?_
      refine im_iconst X 0 dX6_readMove_208 (by decide) ?_
      refine im_ciald X 0 1 0 (f := (R 1)) rfl rfl rfl dX6_readMove_209 ?_
      refine im_iload X 3 dX6_readMove_210 rfl ?_
      refine im_iload X 4 dX6_readMove_212 rfl ?_
      refine im_iload X 5 dX6_readMove_214 rfl ?_
      refine im_ccvV X [.int x2, .int ((R 1) (0 : Int32).toNatClampNeg), .int x5, .int x6, .int s0] [] [w_Reader ct aR aDR aRE aT R, w_Cloth ct aDR z196, w_Effect ct aRE z176.2, w_Tape ct aT T] [w_Cloth ct aDR z196] [1] (fun z216 => [w_Cloth ct aDR z216]) 1 0 0 rfl rfl rfl cl_X6_135 (c_X0_writeMove l D ct F aDR z196 x2 ((R 1) (0 : Int32).toNatClampNeg) x5 x6 s0) rfl (by decide) (fun _ => lc fa_Cloth (rfl)) rfl ⟨by decide, by decide⟩ (Nat.le_of_ble_eq_true rfl) rfl dX6_readMove_216 (fun z216 => ?_)
      refine im_ws (cat [w_Reader ct aR aDR aRE aT R, w_Cloth ct aDR z216, w_Effect ct aRE z176.2, w_Tape ct aT T]) rfl ?_
      refine im_iconst X 1 dX6_readMove_219 (by decide) ?_
      exact im_zreturn X (1, R, z216, z176.2) rfl rfl rfl dX6_readMove_220
    · refine im_lv [0, 1] [(0, .ref (aR 0)), (1, .int x1)] rfl ?_
      exact i_X6_readMove_182 X F aR aDR aRE aT R DR z176.2 T x1 
noncomputable def f_X6_readMove_119 (F : Nat) (R : Mem) (DR : Mem) (RE : Mem) (T : Mem) (x1 : Int32) (x2 : Int32) (x4 : Int32) (x5 : Int32) (s0 : Int32) : Option (Int32 × Mem × Mem × Mem) :=
  (if x4 = 0 then ck 2 4 (f_X6_readMove_141 F R DR RE T x1 x2 x5 s0 ((R 1) (2 : Int32).toNatClampNeg)) else ck 3 4 (f_X6_readMove_141 F R DR RE T x1 x2 x5 s0 ((R 1) (3 : Int32).toNatClampNeg)))
set_option maxRecDepth 100000 in
set_option maxHeartbeats 4000000 in
theorem i_X6_readMove_119 {p : Program} {l : Launch} {e : Env} {s : State} {m : MethodId} {args : Array Value} {below : List Frame} {meth : Method} {c : Code} {D : va_G} {ct : im_ct} {A : Nat → Prop} (X : im_X p (im_rm 3) s m args meth c D ct A RX6 cX6_readMove 8 (some .boolean)) (F : Nat) (aR aDR aRE aT : Nat → Nat) (R : Mem) (DR : Mem) (RE : Mem) (T : Mem) (x1 : Int32) (x2 : Int32) (x4 : Int32) (x5 : Int32) (s0 : Int32) : Im p l e (im_rm 3) s m args below meth c D A 8 (QI D A (fun z : Int32 × Mem × Mem × Mem => z.1) (fun z : Int32 × Mem × Mem × Mem => (cat [w_Reader ct aR aDR aRE aT z.2.1, w_Cloth ct aDR z.2.2.1, w_Effect ct aRE z.2.2.2, w_Tape ct aT T]))) 119 [(0, .ref (aR 0)), (1, .int x1), (2, .int x2), (4, .int x4), (5, .int x5)] [.int s0] (cat [w_Reader ct aR aDR aRE aT R, w_Cloth ct aDR DR, w_Effect ct aRE RE, w_Tape ct aT T]) (f_X6_readMove_119 F R DR RE T x1 x2 x4 x5 s0) := by
  unfold f_X6_readMove_119
  refine im_istore X [1, 2, 3, 4, 5, 0] [(0, .ref (aR 0)), (1, .int x1), (2, .int x2), (4, .int x4), (5, .int x5), (6, .int s0)] dX6_readMove_119 (by decide) rfl ?_
  refine im_iload X 3 dX6_readMove_121 rfl ?_
  refine im_if_eq (tgt := 135) X dX6_readMove_123 rfl ?_ ?_
  · refine im_aload_n X 0 dX6_readMove_135 rfl rfl ?_
    refine im_cget X 0 0 (v := .ref (aR 1)) fl_X6_25 rfl rfl rfl dX6_readMove_136 ?_
    refine im_iconst X 2 dX6_readMove_139 (by decide) ?_
    refine im_ciald X 0 1 0 (f := (R 1)) rfl rfl rfl dX6_readMove_140 ?_
    refine im_lv [0, 1, 2, 4, 5] [(0, .ref (aR 0)), (1, .int x1), (2, .int x2), (5, .int x5), (6, .int s0)] rfl ?_
    exact i_X6_readMove_141 X F aR aDR aRE aT R DR RE T x1 x2 x5 s0 ((R 1) (2 : Int32).toNatClampNeg) 
  · refine im_aload_n X 0 dX6_readMove_126 rfl rfl ?_
    refine im_cget X 0 0 (v := .ref (aR 1)) fl_X6_25 rfl rfl rfl dX6_readMove_127 ?_
    refine im_iconst X 3 dX6_readMove_130 (by decide) ?_
    refine im_ciald X 0 1 0 (f := (R 1)) rfl rfl rfl dX6_readMove_131 ?_
    refine im_goto (tgt := 141) X dX6_readMove_132 rfl ?_
    refine im_lv [0, 1, 2, 4, 5] [(0, .ref (aR 0)), (1, .int x1), (2, .int x2), (5, .int x5), (6, .int s0)] rfl ?_
    exact i_X6_readMove_141 X F aR aDR aRE aT R DR RE T x1 x2 x5 s0 ((R 1) (3 : Int32).toNatClampNeg) 
noncomputable def f_X6_readMove_97 (F : Nat) (R : Mem) (DR : Mem) (RE : Mem) (T : Mem) (x1 : Int32) (x2 : Int32) (x4 : Int32) (s0 : Int32) : Option (Int32 × Mem × Mem × Mem) :=
  (if x4 = 0 then ck 1 4 (f_X6_readMove_119 F R DR RE T x1 x2 x4 s0 ((R 1) (1 : Int32).toNatClampNeg)) else ck 2 4 (f_X6_readMove_119 F R DR RE T x1 x2 x4 s0 ((R 1) (2 : Int32).toNatClampNeg)))
set_option maxRecDepth 100000 in
set_option maxHeartbeats 4000000 in
theorem i_X6_readMove_97 {p : Program} {l : Launch} {e : Env} {s : State} {m : MethodId} {args : Array Value} {below : List Frame} {meth : Method} {c : Code} {D : va_G} {ct : im_ct} {A : Nat → Prop} (X : im_X p (im_rm 3) s m args meth c D ct A RX6 cX6_readMove 8 (some .boolean)) (F : Nat) (aR aDR aRE aT : Nat → Nat) (R : Mem) (DR : Mem) (RE : Mem) (T : Mem) (x1 : Int32) (x2 : Int32) (x4 : Int32) (s0 : Int32) : Im p l e (im_rm 3) s m args below meth c D A 8 (QI D A (fun z : Int32 × Mem × Mem × Mem => z.1) (fun z : Int32 × Mem × Mem × Mem => (cat [w_Reader ct aR aDR aRE aT z.2.1, w_Cloth ct aDR z.2.2.1, w_Effect ct aRE z.2.2.2, w_Tape ct aT T]))) 97 [(0, .ref (aR 0)), (1, .int x1), (2, .int x2), (4, .int x4)] [.int s0] (cat [w_Reader ct aR aDR aRE aT R, w_Cloth ct aDR DR, w_Effect ct aRE RE, w_Tape ct aT T]) (f_X6_readMove_97 F R DR RE T x1 x2 x4 s0) := by
  unfold f_X6_readMove_97
  refine im_istore X [1, 2, 3, 4, 0] [(0, .ref (aR 0)), (1, .int x1), (2, .int x2), (4, .int x4), (5, .int s0)] dX6_readMove_97 (by decide) rfl ?_
  refine im_iload X 3 dX6_readMove_99 rfl ?_
  refine im_if_eq (tgt := 113) X dX6_readMove_101 rfl ?_ ?_
  · refine im_aload_n X 0 dX6_readMove_113 rfl rfl ?_
    refine im_cget X 0 0 (v := .ref (aR 1)) fl_X6_25 rfl rfl rfl dX6_readMove_114 ?_
    refine im_iconst X 1 dX6_readMove_117 (by decide) ?_
    refine im_ciald X 0 1 0 (f := (R 1)) rfl rfl rfl dX6_readMove_118 ?_
    exact i_X6_readMove_119 X F aR aDR aRE aT R DR RE T x1 x2 x4 s0 ((R 1) (1 : Int32).toNatClampNeg) 
  · refine im_aload_n X 0 dX6_readMove_104 rfl rfl ?_
    refine im_cget X 0 0 (v := .ref (aR 1)) fl_X6_25 rfl rfl rfl dX6_readMove_105 ?_
    refine im_iconst X 2 dX6_readMove_108 (by decide) ?_
    refine im_ciald X 0 1 0 (f := (R 1)) rfl rfl rfl dX6_readMove_109 ?_
    refine im_goto (tgt := 119) X dX6_readMove_110 rfl ?_
    exact i_X6_readMove_119 X F aR aDR aRE aT R DR RE T x1 x2 x4 s0 ((R 1) (2 : Int32).toNatClampNeg) 
noncomputable def f_X6_readMove_80 (F : Nat) (R : Mem) (DR : Mem) (RE : Mem) (T : Mem) (x1 : Int32) (x2 : Int32) (s0 : Int32) : Option (Int32 × Mem × Mem × Mem) :=
  (if s0 = 0 then f_X6_readMove_97 F R DR RE T x1 x2 s0 0 else ck 1 4 (f_X6_readMove_97 F R DR RE T x1 x2 s0 ((R 1) (1 : Int32).toNatClampNeg)))
set_option maxRecDepth 100000 in
set_option maxHeartbeats 4000000 in
theorem i_X6_readMove_80 {p : Program} {l : Launch} {e : Env} {s : State} {m : MethodId} {args : Array Value} {below : List Frame} {meth : Method} {c : Code} {D : va_G} {ct : im_ct} {A : Nat → Prop} (X : im_X p (im_rm 3) s m args meth c D ct A RX6 cX6_readMove 8 (some .boolean)) (F : Nat) (aR aDR aRE aT : Nat → Nat) (R : Mem) (DR : Mem) (RE : Mem) (T : Mem) (x1 : Int32) (x2 : Int32) (s0 : Int32) : Im p l e (im_rm 3) s m args below meth c D A 8 (QI D A (fun z : Int32 × Mem × Mem × Mem => z.1) (fun z : Int32 × Mem × Mem × Mem => (cat [w_Reader ct aR aDR aRE aT z.2.1, w_Cloth ct aDR z.2.2.1, w_Effect ct aRE z.2.2.2, w_Tape ct aT T]))) 80 [(0, .ref (aR 0)), (1, .int x1), (2, .int x2)] [.int s0] (cat [w_Reader ct aR aDR aRE aT R, w_Cloth ct aDR DR, w_Effect ct aRE RE, w_Tape ct aT T]) (f_X6_readMove_80 F R DR RE T x1 x2 s0) := by
  unfold f_X6_readMove_80
  refine im_istore X [1, 2, 3, 0] [(0, .ref (aR 0)), (1, .int x1), (2, .int x2), (4, .int s0)] dX6_readMove_80 (by decide) rfl ?_
  refine im_iload X 3 dX6_readMove_82 rfl ?_
  refine im_if_eq (tgt := 96) X dX6_readMove_84 rfl ?_ ?_
  · refine im_iconst X 0 dX6_readMove_96 (by decide) ?_
    exact i_X6_readMove_97 X F aR aDR aRE aT R DR RE T x1 x2 s0 0 
  · refine im_aload_n X 0 dX6_readMove_87 rfl rfl ?_
    refine im_cget X 0 0 (v := .ref (aR 1)) fl_X6_25 rfl rfl rfl dX6_readMove_88 ?_
    refine im_iconst X 1 dX6_readMove_91 (by decide) ?_
    refine im_ciald X 0 1 0 (f := (R 1)) rfl rfl rfl dX6_readMove_92 ?_
    refine im_goto (tgt := 97) X dX6_readMove_93 rfl ?_
    exact i_X6_readMove_97 X F aR aDR aRE aT R DR RE T x1 x2 s0 ((R 1) (1 : Int32).toNatClampNeg) 
noncomputable def f_X6_readMove_24 (F : Nat) (R : Mem) (DR : Mem) (RE : Mem) (T : Mem) (x1 : Int32) (x2 : Int32) (s0 : Int32) : Option (Int32 × Mem × Mem × Mem) :=
  ck 2 4 (f_X6_readMove_35 F DR RE T x1 x2 s0 (fun R_53 => (some (0, R_53, DR, RE))) (fun R_61 => (f_X6_readEnd F R_61 T).bind (fun z62 => (if z62.1 = 0 then (some (0, z62.2, DR, RE)) else (if x2 = 4 then f_X6_readMove_80 F z62.2 DR RE T x1 x2 1 else f_X6_readMove_80 F z62.2 DR RE T x1 x2 0)))) F (mr R 1 (upd (R 1) (2 : Int32).toNatClampNeg 0)) 0)
set_option maxRecDepth 100000 in
set_option maxHeartbeats 4000000 in
theorem i_X6_readMove_24 {p : Program} {l : Launch} {e : Env} {s : State} {m : MethodId} {args : Array Value} {below : List Frame} {meth : Method} {c : Code} {D : va_G} {ct : im_ct} {A : Nat → Prop} (X : im_X p (im_rm 3) s m args meth c D ct A RX6 cX6_readMove 8 (some .boolean)) (F : Nat) (aR aDR aRE aT : Nat → Nat) (R : Mem) (DR : Mem) (RE : Mem) (T : Mem) (x1 : Int32) (x2 : Int32) (s0 : Int32) : Im p l e (im_rm 3) s m args below meth c D A 8 (QI D A (fun z : Int32 × Mem × Mem × Mem => z.1) (fun z : Int32 × Mem × Mem × Mem => (cat [w_Reader ct aR aDR aRE aT z.2.1, w_Cloth ct aDR z.2.2.1, w_Effect ct aRE z.2.2.2, w_Tape ct aT T]))) 24 [(0, .ref (aR 0)), (1, .int x1), (2, .int x2)] [.int s0] (cat [w_Reader ct aR aDR aRE aT R, w_Cloth ct aDR DR, w_Effect ct aRE RE, w_Tape ct aT T]) (f_X6_readMove_24 F R DR RE T x1 x2 s0) := by
  unfold f_X6_readMove_24
  refine im_istore_n X [1, 2, 3, 0] [(0, .ref (aR 0)), (1, .int x1), (2, .int x2), (3, .int s0)] dX6_readMove_24 rfl (by decide) rfl ?_
  refine im_aload_n X 0 dX6_readMove_25 rfl rfl ?_
  refine im_cget X 0 0 (v := .ref (aR 1)) fl_X6_25 rfl rfl rfl dX6_readMove_26 ?_
  refine im_iconst X 2 dX6_readMove_29 (by decide) ?_
  refine im_iconst X 0 dX6_readMove_30 (by decide) ?_
  refine im_ciast X 0 1 0 (wx_Reader ct aR aDR aRE aT (R 0 5) (R 0 6) (R 0 7) (R 0 8) (upd (R 1) (2 : Int32).toNatClampNeg 0)) [wx_Reader ct aR aDR aRE aT (R 0 5) (R 0 6) (R 0 7) (R 0 8) (upd (R 1) (2 : Int32).toNatClampNeg 0), w_Cloth ct aDR DR, w_Effect ct aRE RE, w_Tape ct aT T] (f := (R 1)) rfl rfl rfl rfl rfl dX6_readMove_31 ?_
  refine im_iconst X 0 dX6_readMove_32 (by decide) ?_
  refine im_istore X [1, 2, 3, 4, 0] [(0, .ref (aR 0)), (1, .int x1), (2, .int x2), (3, .int s0), (4, .int 0)] dX6_readMove_33 (by decide) rfl ?_
  refine i_X6_readMove_35 X F aR aDR aRE aT DR RE T x1 x2 s0 _ (fun R_53 => ?_) _ (fun R_61 => ?_) F (mr R 1 (upd (R 1) (2 : Int32).toNatClampNeg 0)) 0
  · refine im_iconst X 0 dX6_readMove_53 (by decide) ?_
    exact im_zreturn X (0, R_53, DR, RE) rfl rfl rfl dX6_readMove_54
  · refine im_aload_n X 0 dX6_readMove_61 rfl rfl ?_
    refine im_cciV X [] [] [w_Reader ct aR aDR aRE aT R_61, w_Cloth ct aDR DR, w_Effect ct aRE RE, w_Tape ct aT T] [w_Reader ct aR aDR aRE aT R_61, w_Tape ct aT T] [0, 3] (fun z62 => [w_Reader ct aR aDR aRE aT z62.2, w_Tape ct aT T]) 0 0 6 rfl rfl rfl cl_X6_105 (c_X6_readEnd l D ct F aR aDR aRE aT R_61 T) rfl (by decide) (fun _ => lc fa_Reader (lc rfl (rfl))) rfl ⟨by decide, by decide⟩ (Nat.le_of_ble_eq_true rfl) rfl dX6_readMove_62 (fun z62 => ?_)
    refine im_ws (cat [w_Reader ct aR aDR aRE aT z62.2, w_Cloth ct aDR DR, w_Effect ct aRE RE, w_Tape ct aT T]) rfl ?_
    refine im_if_ne (tgt := 70) X dX6_readMove_65 rfl ?_ ?_
    · refine im_iload_n X 2 dX6_readMove_70 rfl rfl ?_
      refine im_iconst X 4 dX6_readMove_71 (by decide) ?_
      refine im_icmp_ne (tgt := 79) X dX6_readMove_72 rfl ?_ ?_
      · refine im_iconst X 0 dX6_readMove_79 (by decide) ?_
        exact i_X6_readMove_80 X F aR aDR aRE aT z62.2 DR RE T x1 x2 0 
      · refine im_iconst X 1 dX6_readMove_75 (by decide) ?_
        refine im_goto (tgt := 80) X dX6_readMove_76 rfl ?_
        exact i_X6_readMove_80 X F aR aDR aRE aT z62.2 DR RE T x1 x2 1 
    · refine im_iconst X 0 dX6_readMove_68 (by decide) ?_
      exact im_zreturn X (0, z62.2, DR, RE) rfl rfl rfl dX6_readMove_69
noncomputable def f_X6_readMove (F : Nat) (R : Mem) (DR : Mem) (RE : Mem) (T : Mem) (x1 : Int32) (x2 : Int32) : Option (Int32 × Mem × Mem × Mem) :=
  (if x2 = 4 then f_X6_readMove_24 F R DR RE T x1 x2 4 else (if x2 = 2 then f_X6_readMove_24 F R DR RE T x1 x2 2 else (if x2 = 3 then f_X6_readMove_24 F R DR RE T x1 x2 2 else f_X6_readMove_24 F R DR RE T x1 x2 3)))
set_option maxRecDepth 100000 in
set_option maxHeartbeats 4000000 in
theorem i_X6_readMove {p : Program} {l : Launch} {e : Env} {s : State} {m : MethodId} {args : Array Value} {below : List Frame} {meth : Method} {c : Code} {D : va_G} {ct : im_ct} {A : Nat → Prop} (X : im_X p (im_rm 3) s m args meth c D ct A RX6 cX6_readMove 8 (some .boolean)) (F : Nat) (aR aDR aRE aT : Nat → Nat) (R : Mem) (DR : Mem) (RE : Mem) (T : Mem) (x1 : Int32) (x2 : Int32) : Im p l e (im_rm 3) s m args below meth c D A 8 (QI D A (fun z : Int32 × Mem × Mem × Mem => z.1) (fun z : Int32 × Mem × Mem × Mem => (cat [w_Reader ct aR aDR aRE aT z.2.1, w_Cloth ct aDR z.2.2.1, w_Effect ct aRE z.2.2.2, w_Tape ct aT T]))) 0 [(0, .ref (aR 0)), (1, .int x1), (2, .int x2)] [] (cat [w_Reader ct aR aDR aRE aT R, w_Cloth ct aDR DR, w_Effect ct aRE RE, w_Tape ct aT T]) (f_X6_readMove F R DR RE T x1 x2) := by
  unfold f_X6_readMove
  refine im_iload_n X 2 dX6_readMove_0 rfl rfl ?_
  refine im_iconst X 4 dX6_readMove_1 (by decide) ?_
  refine im_icmp_ne (tgt := 9) X dX6_readMove_2 rfl ?_ ?_
  · refine im_iload_n X 2 dX6_readMove_9 rfl rfl ?_
    refine im_iconst X 2 dX6_readMove_10 (by decide) ?_
    refine im_icmp_eq (tgt := 19) X dX6_readMove_11 rfl ?_ ?_
    · refine im_iconst X 2 dX6_readMove_19 (by decide) ?_
      refine im_goto (tgt := 24) X dX6_readMove_20 rfl ?_
      exact i_X6_readMove_24 X F aR aDR aRE aT R DR RE T x1 x2 2 
    · refine im_iload_n X 2 dX6_readMove_14 rfl rfl ?_
      refine im_iconst X 3 dX6_readMove_15 (by decide) ?_
      refine im_icmp_ne (tgt := 23) X dX6_readMove_16 rfl ?_ ?_
      · refine im_iconst X 3 dX6_readMove_23 (by decide) ?_
        exact i_X6_readMove_24 X F aR aDR aRE aT R DR RE T x1 x2 3 
      · refine im_iconst X 2 dX6_readMove_19 (by decide) ?_
        refine im_goto (tgt := 24) X dX6_readMove_20 rfl ?_
        exact i_X6_readMove_24 X F aR aDR aRE aT R DR RE T x1 x2 2 
  · refine im_iconst X 4 dX6_readMove_5 (by decide) ?_
    refine im_goto (tgt := 24) X dX6_readMove_6 rfl ?_
    exact i_X6_readMove_24 X F aR aDR aRE aT R DR RE T x1 x2 4 
theorem c_X6_readMove (l : Launch) (D : va_G) (ct : im_ct) (F : Nat) (aR aDR aRE aT : Nat → Nat) (R : Mem) (DR : Mem) (RE : Mem) (T : Mem) (x1 : Int32) (x2 : Int32) : CMi l D ct yX6_readMove cX6_readMove 8 (some .boolean) 3 [.ref (aR 0), .int x1, .int x2] (cat [w_Reader ct aR aDR aRE aT R, w_Cloth ct aDR DR, w_Effect ct aRE RE, w_Tape ct aT T]) (f_X6_readMove F R DR RE T x1 x2) (fun z : Int32 × Mem × Mem × Mem => z.1) (fun z : Int32 × Mem × Mem × Mem => (cat [w_Reader ct aR aDR aRE aT z.2.1, w_Cloth ct aDR z.2.2.1, w_Effect ct aRE z.2.2.2, w_Tape ct aT T])) :=
  im_met (Qb := fun A => QI D A (fun z : Int32 × Mem × Mem × Mem => z.1) (fun z : Int32 × Mem × Mem × Mem => (cat [w_Reader ct aR aDR aRE aT z.2.1, w_Cloth ct aDR z.2.2.1, w_Effect ct aRE z.2.2.2, w_Tape ct aT T]))) (by decide +kernel) (Nat.le_of_ble_eq_true rfl) (fun p e s m args below meth c A X => i_X6_readMove X F aR aDR aRE aT R DR RE T x1 x2)

noncomputable def f_X6_readSeen_75 (F : Nat) (R : Mem) (DR : Mem) (T : Mem) (s0 : Int32) : Option (Int32 × Mem × Mem) :=
  (if s0 = 0 then (cb s0 (some (s0, R, DR))) else ck 0 4 (ck 1 4 (ck 2 4 (ck 3 4 ((f_X0_addSight F DR ((R 1) (0 : Int32).toNatClampNeg) ((R 1) (1 : Int32).toNatClampNeg) ((R 1) (2 : Int32).toNatClampNeg) ((R 1) (3 : Int32).toNatClampNeg)).bind (fun z108 => (cb s0 (some (s0, R, z108)))))))))
set_option maxRecDepth 100000 in
set_option maxHeartbeats 4000000 in
theorem i_X6_readSeen_75 {p : Program} {l : Launch} {e : Env} {s : State} {m : MethodId} {args : Array Value} {below : List Frame} {meth : Method} {c : Code} {D : va_G} {ct : im_ct} {A : Nat → Prop} (X : im_X p (im_rm 3) s m args meth c D ct A RX6 cX6_readSeen 2 (some .boolean)) (F : Nat) (aR aDR aRE aT : Nat → Nat) (R : Mem) (DR : Mem) (T : Mem) (s0 : Int32) : Im p l e (im_rm 3) s m args below meth c D A 2 (QI D A (fun z : Int32 × Mem × Mem => z.1) (fun z : Int32 × Mem × Mem => (cat [w_Reader ct aR aDR aRE aT z.2.1, w_Cloth ct aDR z.2.2, w_Tape ct aT T]))) 75 [(0, .ref (aR 0))] [.int s0] (cat [w_Reader ct aR aDR aRE aT R, w_Cloth ct aDR DR, w_Tape ct aT T]) (f_X6_readSeen_75 F R DR T s0) := by
  unfold f_X6_readSeen_75
  refine im_istore_n X [1, 0] [(0, .ref (aR 0)), (1, .int s0)] dX6_readSeen_75 rfl (by decide) rfl ?_
  refine im_iload_n X 1 dX6_readSeen_76 rfl rfl ?_
  refine im_if_eq (tgt := 111) X dX6_readSeen_77 rfl ?_ ?_
  · refine im_iload_n X 1 dX6_readSeen_111 rfl rfl ?_
    exact im_zreturnc X (s0, R, DR) rfl rfl dX6_readSeen_112
  · refine im_aload_n X 0 dX6_readSeen_80 rfl rfl ?_
    refine im_cget X 0 0 (v := .ref (aDR 0)) fl_X6_12 rfl rfl rfl dX6_readSeen_81 ?_
    refine im_aload_n X 0 dX6_readSeen_84 rfl rfl ?_
    refine im_cget X 0 0 (v := .ref (aR 1)) fl_X6_25 rfl rfl rfl dX6_readSeen_85 ?_
    refine im_iconst X 0 dX6_readSeen_88 (by decide) ?_
    refine im_ciald X 0 1 0 (f := (R 1)) rfl rfl rfl dX6_readSeen_89 ?_
    refine im_aload_n X 0 dX6_readSeen_90 rfl rfl ?_
    refine im_cget X 0 0 (v := .ref (aR 1)) fl_X6_25 rfl rfl rfl dX6_readSeen_91 ?_
    refine im_iconst X 1 dX6_readSeen_94 (by decide) ?_
    refine im_ciald X 0 1 0 (f := (R 1)) rfl rfl rfl dX6_readSeen_95 ?_
    refine im_aload_n X 0 dX6_readSeen_96 rfl rfl ?_
    refine im_cget X 0 0 (v := .ref (aR 1)) fl_X6_25 rfl rfl rfl dX6_readSeen_97 ?_
    refine im_iconst X 2 dX6_readSeen_100 (by decide) ?_
    refine im_ciald X 0 1 0 (f := (R 1)) rfl rfl rfl dX6_readSeen_101 ?_
    refine im_aload_n X 0 dX6_readSeen_102 rfl rfl ?_
    refine im_cget X 0 0 (v := .ref (aR 1)) fl_X6_25 rfl rfl rfl dX6_readSeen_103 ?_
    refine im_iconst X 3 dX6_readSeen_106 (by decide) ?_
    refine im_ciald X 0 1 0 (f := (R 1)) rfl rfl rfl dX6_readSeen_107 ?_
    refine im_ccvV X [.int ((R 1) (0 : Int32).toNatClampNeg), .int ((R 1) (1 : Int32).toNatClampNeg), .int ((R 1) (2 : Int32).toNatClampNeg), .int ((R 1) (3 : Int32).toNatClampNeg)] [] [w_Reader ct aR aDR aRE aT R, w_Cloth ct aDR DR, w_Tape ct aT T] [w_Cloth ct aDR DR] [1] (fun z108 => [w_Cloth ct aDR z108]) 1 0 0 rfl rfl rfl cl_X6_139 (c_X0_addSight l D ct F aDR DR ((R 1) (0 : Int32).toNatClampNeg) ((R 1) (1 : Int32).toNatClampNeg) ((R 1) (2 : Int32).toNatClampNeg) ((R 1) (3 : Int32).toNatClampNeg)) rfl (by decide) (fun _ => lc fa_Cloth (rfl)) rfl ⟨by decide, by decide⟩ (Nat.le_of_ble_eq_true rfl) rfl dX6_readSeen_108 (fun z108 => ?_)
    refine im_ws (cat [w_Reader ct aR aDR aRE aT R, w_Cloth ct aDR z108, w_Tape ct aT T]) rfl ?_
    refine im_iload_n X 1 dX6_readSeen_111 rfl rfl ?_
    exact im_zreturnc X (s0, R, z108) rfl rfl dX6_readSeen_112
noncomputable def f_X6_readSeen (F : Nat) (R : Mem) (DR : Mem) (T : Mem) : Option (Int32 × Mem × Mem) :=
  (f_X6_readNumber F R T 0 0 (DR 0 8)).bind (fun z10 => (if z10.1 = 0 then f_X6_readSeen_75 F z10.2 DR T 0 else (f_X6_readNumber F z10.2 T 1 0 ((DR 0 7) - 1)).bind (fun z28 => (if z28.1 = 0 then f_X6_readSeen_75 F z28.2 DR T 0 else (f_X6_readNumber F z28.2 T 2 0 ((DR 0 6) - 1)).bind (fun z46 => (if z46.1 = 0 then f_X6_readSeen_75 F z46.2 DR T 0 else (f_X6_readNumber F z46.2 T 3 0 99).bind (fun z57 => (if z57.1 = 0 then f_X6_readSeen_75 F z57.2 DR T 0 else (f_X6_readEnd F z57.2 T).bind (fun z64 => (if z64.1 = 0 then f_X6_readSeen_75 F z64.2 DR T 0 else f_X6_readSeen_75 F z64.2 DR T 1))))))))))
set_option maxRecDepth 100000 in
set_option maxHeartbeats 4000000 in
theorem i_X6_readSeen {p : Program} {l : Launch} {e : Env} {s : State} {m : MethodId} {args : Array Value} {below : List Frame} {meth : Method} {c : Code} {D : va_G} {ct : im_ct} {A : Nat → Prop} (X : im_X p (im_rm 3) s m args meth c D ct A RX6 cX6_readSeen 2 (some .boolean)) (F : Nat) (aR aDR aRE aT : Nat → Nat) (R : Mem) (DR : Mem) (T : Mem) : Im p l e (im_rm 3) s m args below meth c D A 2 (QI D A (fun z : Int32 × Mem × Mem => z.1) (fun z : Int32 × Mem × Mem => (cat [w_Reader ct aR aDR aRE aT z.2.1, w_Cloth ct aDR z.2.2, w_Tape ct aT T]))) 0 [(0, .ref (aR 0))] [] (cat [w_Reader ct aR aDR aRE aT R, w_Cloth ct aDR DR, w_Tape ct aT T]) (f_X6_readSeen F R DR T) := by
  unfold f_X6_readSeen
  refine im_aload_n X 0 dX6_readSeen_0 rfl rfl ?_
  refine im_iconst X 0 dX6_readSeen_1 (by decide) ?_
  refine im_iconst X 0 dX6_readSeen_2 (by decide) ?_
  refine im_aload_n X 0 dX6_readSeen_3 rfl rfl ?_
  refine im_cget X 0 0 (v := .ref (aDR 0)) fl_X6_12 rfl rfl rfl dX6_readSeen_4 ?_
  refine im_cget X 1 0 (v := .int (DR 0 8)) fl_X6_124 rfl rfl rfl dX6_readSeen_7 ?_
  refine im_cciV X [.int 0, .int 0, .int (DR 0 8)] [] [w_Reader ct aR aDR aRE aT R, w_Cloth ct aDR DR, w_Tape ct aT T] [w_Reader ct aR aDR aRE aT R, w_Tape ct aT T] [0, 2] (fun z10 => [w_Reader ct aR aDR aRE aT z10.2, w_Tape ct aT T]) 0 0 6 rfl rfl rfl cl_X6_101 (c_X6_readNumber l D ct F aR aDR aRE aT R T 0 0 (DR 0 8)) rfl (by decide) (fun _ => lc fa_Reader (lc rfl (rfl))) rfl ⟨by decide, by decide⟩ (Nat.le_of_ble_eq_true rfl) rfl dX6_readSeen_10 (fun z10 => ?_)
  refine im_ws (cat [w_Reader ct aR aDR aRE aT z10.2, w_Cloth ct aDR DR, w_Tape ct aT T]) rfl ?_
  refine im_if_eq (tgt := 74) X dX6_readSeen_13 rfl ?_ ?_
  · refine im_iconst X 0 dX6_readSeen_74 (by decide) ?_
    exact i_X6_readSeen_75 X F aR aDR aRE aT z10.2 DR T 0 
  · refine im_aload_n X 0 dX6_readSeen_16 rfl rfl ?_
    refine im_iconst X 1 dX6_readSeen_17 (by decide) ?_
    refine im_iconst X 0 dX6_readSeen_18 (by decide) ?_
    refine im_aload_n X 0 dX6_readSeen_19 rfl rfl ?_
    refine im_cget X 0 0 (v := .ref (aDR 0)) fl_X6_12 rfl rfl rfl dX6_readSeen_20 ?_
    refine im_cget X 1 0 (v := .int (DR 0 7)) fl_X6_112 rfl rfl rfl dX6_readSeen_23 ?_
    refine im_iconst X 1 dX6_readSeen_26 (by decide) ?_
    refine im_isub X dX6_readSeen_27 ?_
    refine im_cciV X [.int 1, .int 0, .int ((DR 0 7) - 1)] [] [w_Reader ct aR aDR aRE aT z10.2, w_Cloth ct aDR DR, w_Tape ct aT T] [w_Reader ct aR aDR aRE aT z10.2, w_Tape ct aT T] [0, 2] (fun z28 => [w_Reader ct aR aDR aRE aT z28.2, w_Tape ct aT T]) 0 0 6 rfl rfl rfl cl_X6_101 (c_X6_readNumber l D ct F aR aDR aRE aT z10.2 T 1 0 ((DR 0 7) - 1)) rfl (by decide) (fun _ => lc fa_Reader (lc rfl (rfl))) rfl ⟨by decide, by decide⟩ (Nat.le_of_ble_eq_true rfl) rfl dX6_readSeen_28 (fun z28 => ?_)
    refine im_ws (cat [w_Reader ct aR aDR aRE aT z28.2, w_Cloth ct aDR DR, w_Tape ct aT T]) rfl ?_
    refine im_if_eq (tgt := 74) X dX6_readSeen_31 rfl ?_ ?_
    · refine im_iconst X 0 dX6_readSeen_74 (by decide) ?_
      exact i_X6_readSeen_75 X F aR aDR aRE aT z28.2 DR T 0 
    · refine im_aload_n X 0 dX6_readSeen_34 rfl rfl ?_
      refine im_iconst X 2 dX6_readSeen_35 (by decide) ?_
      refine im_iconst X 0 dX6_readSeen_36 (by decide) ?_
      refine im_aload_n X 0 dX6_readSeen_37 rfl rfl ?_
      refine im_cget X 0 0 (v := .ref (aDR 0)) fl_X6_12 rfl rfl rfl dX6_readSeen_38 ?_
      refine im_cget X 1 0 (v := .int (DR 0 6)) fl_X6_92 rfl rfl rfl dX6_readSeen_41 ?_
      refine im_iconst X 1 dX6_readSeen_44 (by decide) ?_
      refine im_isub X dX6_readSeen_45 ?_
      refine im_cciV X [.int 2, .int 0, .int ((DR 0 6) - 1)] [] [w_Reader ct aR aDR aRE aT z28.2, w_Cloth ct aDR DR, w_Tape ct aT T] [w_Reader ct aR aDR aRE aT z28.2, w_Tape ct aT T] [0, 2] (fun z46 => [w_Reader ct aR aDR aRE aT z46.2, w_Tape ct aT T]) 0 0 6 rfl rfl rfl cl_X6_101 (c_X6_readNumber l D ct F aR aDR aRE aT z28.2 T 2 0 ((DR 0 6) - 1)) rfl (by decide) (fun _ => lc fa_Reader (lc rfl (rfl))) rfl ⟨by decide, by decide⟩ (Nat.le_of_ble_eq_true rfl) rfl dX6_readSeen_46 (fun z46 => ?_)
      refine im_ws (cat [w_Reader ct aR aDR aRE aT z46.2, w_Cloth ct aDR DR, w_Tape ct aT T]) rfl ?_
      refine im_if_eq (tgt := 74) X dX6_readSeen_49 rfl ?_ ?_
      · refine im_iconst X 0 dX6_readSeen_74 (by decide) ?_
        exact i_X6_readSeen_75 X F aR aDR aRE aT z46.2 DR T 0 
      · refine im_aload_n X 0 dX6_readSeen_52 rfl rfl ?_
        refine im_iconst X 3 dX6_readSeen_53 (by decide) ?_
        refine im_iconst X 0 dX6_readSeen_54 (by decide) ?_
        refine im_bipush X 99 dX6_readSeen_55 (by decide) ?_
        refine im_cciV X [.int 3, .int 0, .int 99] [] [w_Reader ct aR aDR aRE aT z46.2, w_Cloth ct aDR DR, w_Tape ct aT T] [w_Reader ct aR aDR aRE aT z46.2, w_Tape ct aT T] [0, 2] (fun z57 => [w_Reader ct aR aDR aRE aT z57.2, w_Tape ct aT T]) 0 0 6 rfl rfl rfl cl_X6_101 (c_X6_readNumber l D ct F aR aDR aRE aT z46.2 T 3 0 99) rfl (by decide) (fun _ => lc fa_Reader (lc rfl (rfl))) rfl ⟨by decide, by decide⟩ (Nat.le_of_ble_eq_true rfl) rfl dX6_readSeen_57 (fun z57 => ?_)
        refine im_ws (cat [w_Reader ct aR aDR aRE aT z57.2, w_Cloth ct aDR DR, w_Tape ct aT T]) rfl ?_
        refine im_if_eq (tgt := 74) X dX6_readSeen_60 rfl ?_ ?_
        · refine im_iconst X 0 dX6_readSeen_74 (by decide) ?_
          exact i_X6_readSeen_75 X F aR aDR aRE aT z57.2 DR T 0 
        · refine im_aload_n X 0 dX6_readSeen_63 rfl rfl ?_
          refine im_cciV X [] [] [w_Reader ct aR aDR aRE aT z57.2, w_Cloth ct aDR DR, w_Tape ct aT T] [w_Reader ct aR aDR aRE aT z57.2, w_Tape ct aT T] [0, 2] (fun z64 => [w_Reader ct aR aDR aRE aT z64.2, w_Tape ct aT T]) 0 0 6 rfl rfl rfl cl_X6_105 (c_X6_readEnd l D ct F aR aDR aRE aT z57.2 T) rfl (by decide) (fun _ => lc fa_Reader (lc rfl (rfl))) rfl ⟨by decide, by decide⟩ (Nat.le_of_ble_eq_true rfl) rfl dX6_readSeen_64 (fun z64 => ?_)
          refine im_ws (cat [w_Reader ct aR aDR aRE aT z64.2, w_Cloth ct aDR DR, w_Tape ct aT T]) rfl ?_
          refine im_if_eq (tgt := 74) X dX6_readSeen_67 rfl ?_ ?_
          · refine im_iconst X 0 dX6_readSeen_74 (by decide) ?_
            exact i_X6_readSeen_75 X F aR aDR aRE aT z64.2 DR T 0 
          · refine im_iconst X 1 dX6_readSeen_70 (by decide) ?_
            refine im_goto (tgt := 75) X dX6_readSeen_71 rfl ?_
            exact i_X6_readSeen_75 X F aR aDR aRE aT z64.2 DR T 1 
theorem c_X6_readSeen (l : Launch) (D : va_G) (ct : im_ct) (F : Nat) (aR aDR aRE aT : Nat → Nat) (R : Mem) (DR : Mem) (T : Mem) : CMi l D ct yX6_readSeen cX6_readSeen 2 (some .boolean) 3 [.ref (aR 0)] (cat [w_Reader ct aR aDR aRE aT R, w_Cloth ct aDR DR, w_Tape ct aT T]) (f_X6_readSeen F R DR T) (fun z : Int32 × Mem × Mem => z.1) (fun z : Int32 × Mem × Mem => (cat [w_Reader ct aR aDR aRE aT z.2.1, w_Cloth ct aDR z.2.2, w_Tape ct aT T])) :=
  im_met (Qb := fun A => QI D A (fun z : Int32 × Mem × Mem => z.1) (fun z : Int32 × Mem × Mem => (cat [w_Reader ct aR aDR aRE aT z.2.1, w_Cloth ct aDR z.2.2, w_Tape ct aT T]))) (by decide +kernel) (Nat.le_of_ble_eq_true rfl) (fun p e s m args below meth c A X => i_X6_readSeen X F aR aDR aRE aT R DR T)

noncomputable def f_X6_endComesNext (F : Nat) (R : Mem) (T : Mem) : Option (Int32) :=
  (f_X6_blanksEnd F R T).bind (fun z1 => (if (R 0 5) ≤ z1 then (some 0) else ck z1 400 ((if ((T 1) z1.toNatClampNeg) = 59 then (some 1) else (some 0)))))
set_option maxRecDepth 100000 in
set_option maxHeartbeats 4000000 in
theorem i_X6_endComesNext {p : Program} {l : Launch} {e : Env} {s : State} {m : MethodId} {args : Array Value} {below : List Frame} {meth : Method} {c : Code} {D : va_G} {ct : im_ct} {A : Nat → Prop} (X : im_X p (im_rm 1) s m args meth c D ct A RX6 cX6_endComesNext 2 (some .boolean)) (F : Nat) (aR aDR aRE aT : Nat → Nat) (R : Mem) (T : Mem) : Im p l e (im_rm 1) s m args below meth c D A 2 (QI D A (fun z : Int32 => z) (fun z : Int32 => (cat [w_Reader ct aR aDR aRE aT R, w_Tape ct aT T]))) 0 [(0, .ref (aR 0))] [] (cat [w_Reader ct aR aDR aRE aT R, w_Tape ct aT T]) (f_X6_endComesNext F R T) := by
  unfold f_X6_endComesNext
  refine im_aload_n X 0 dX6_endComesNext_0 rfl rfl ?_
  refine im_cciV X [] [] [w_Reader ct aR aDR aRE aT R, w_Tape ct aT T] [w_Reader ct aR aDR aRE aT R, w_Tape ct aT T] [0, 1] (fun z1 => [w_Reader ct aR aDR aRE aT R, w_Tape ct aT T]) 0 0 6 rfl rfl rfl cl_X6_178 (c_X6_blanksEnd l D ct F aR aDR aRE aT R T) rfl (by decide) (fun _ => lc rfl (lc rfl (rfl))) rfl ⟨by decide, by decide⟩ (Nat.le_of_ble_eq_true rfl) rfl dX6_endComesNext_1 (fun z1 => ?_)
  refine im_ws (cat [w_Reader ct aR aDR aRE aT R, w_Tape ct aT T]) rfl ?_
  refine im_istore_n X [1, 0] [(0, .ref (aR 0)), (1, .int z1)] dX6_endComesNext_4 rfl (by decide) rfl ?_
  refine im_iload_n X 1 dX6_endComesNext_5 rfl rfl ?_
  refine im_aload_n X 0 dX6_endComesNext_6 rfl rfl ?_
  refine im_cget X 0 0 (v := .int (R 0 5)) fl_X6_44 rfl rfl rfl dX6_endComesNext_7 ?_
  refine im_icmp_ge (tgt := 28) X dX6_endComesNext_10 rfl ?_ ?_
  · refine im_iconst X 0 dX6_endComesNext_28 (by decide) ?_
    exact im_zreturn X 0 rfl rfl rfl dX6_endComesNext_29
  · refine im_aload_n X 0 dX6_endComesNext_13 rfl rfl ?_
    refine im_cget X 0 0 (v := .ref (aT 1)) fl_X6_39 rfl rfl rfl dX6_endComesNext_14 ?_
    refine im_iload_n X 1 dX6_endComesNext_17 rfl rfl ?_
    refine im_ciald X 1 1 0 (f := (T 1)) rfl rfl rfl dX6_endComesNext_18 ?_
    refine im_bipush X 59 dX6_endComesNext_19 (by decide) ?_
    refine im_icmp_ne (tgt := 28) X dX6_endComesNext_21 rfl ?_ ?_
    · refine im_iconst X 0 dX6_endComesNext_28 (by decide) ?_
      exact im_zreturn X 0 rfl rfl rfl dX6_endComesNext_29
    · refine im_iconst X 1 dX6_endComesNext_24 (by decide) ?_
      refine im_goto (tgt := 29) X dX6_endComesNext_25 rfl ?_
      exact im_zreturn X 1 rfl rfl rfl dX6_endComesNext_29
theorem c_X6_endComesNext (l : Launch) (D : va_G) (ct : im_ct) (F : Nat) (aR aDR aRE aT : Nat → Nat) (R : Mem) (T : Mem) : CMi l D ct yX6_endComesNext cX6_endComesNext 2 (some .boolean) 1 [.ref (aR 0)] (cat [w_Reader ct aR aDR aRE aT R, w_Tape ct aT T]) (f_X6_endComesNext F R T) (fun z : Int32 => z) (fun z : Int32 => (cat [w_Reader ct aR aDR aRE aT R, w_Tape ct aT T])) :=
  im_met (Qb := fun A => QI D A (fun z : Int32 => z) (fun z : Int32 => (cat [w_Reader ct aR aDR aRE aT R, w_Tape ct aT T]))) (by decide +kernel) (Nat.le_of_ble_eq_true rfl) (fun p e s m args below meth c A X => i_X6_endComesNext X F aR aDR aRE aT R T)

noncomputable def f_X6_readRow_38 (F : Nat) (R : Mem) (DR : Mem) (T : Mem) (x1 : Int32) (x2 : Int32) (k13 : Mem → Mem → Int32 → Option (Int32 × Mem × Mem)) (k49 : Mem → Mem → Option (Int32 × Mem × Mem)) : Option (Int32 × Mem × Mem) :=
  (f_X6_readNumber F R T 0 0 99).bind (fun z43 => (if z43.1 = 0 then k49 z43.2 DR else ck 0 4 (ck (x1 + x2) 24 (k13 z43.2 (mr DR 3 (upd (DR 3) ((x1 + x2)).toNatClampNeg ((z43.2 1) (0 : Int32).toNatClampNeg))) (x2 + 1)))))
set_option maxRecDepth 100000 in
set_option maxHeartbeats 4000000 in
theorem i_X6_readRow_38 {p : Program} {l : Launch} {e : Env} {s : State} {m : MethodId} {args : Array Value} {below : List Frame} {meth : Method} {c : Code} {D : va_G} {ct : im_ct} {A : Nat → Prop} (X : im_X p (im_rm 3) s m args meth c D ct A RX6 cX6_readRow 3 (some .boolean)) (F : Nat) (aR aDR aRE aT : Nat → Nat) (R : Mem) (DR : Mem) (T : Mem) (x1 : Int32) (x2 : Int32) (k13 : Mem → Mem → Int32 → Option (Int32 × Mem × Mem)) (hk13 : ∀ (R : Mem) (DR : Mem) (x2 : Int32), Im p l e (im_rm 3) s m args below meth c D A 3 (QI D A (fun z : Int32 × Mem × Mem => z.1) (fun z : Int32 × Mem × Mem => (cat [w_Reader ct aR aDR aRE aT z.2.1, w_Cloth ct aDR z.2.2, w_Tape ct aT T]))) 13 [(0, .ref (aR 0)), (1, .int x1), (2, .int x2)] [] (cat [w_Reader ct aR aDR aRE aT R, w_Cloth ct aDR DR, w_Tape ct aT T]) (k13 R DR x2)) (k49 : Mem → Mem → Option (Int32 × Mem × Mem)) (hk49 : ∀ (R : Mem) (DR : Mem), Im p l e (im_rm 3) s m args below meth c D A 3 (QI D A (fun z : Int32 × Mem × Mem => z.1) (fun z : Int32 × Mem × Mem => (cat [w_Reader ct aR aDR aRE aT z.2.1, w_Cloth ct aDR z.2.2, w_Tape ct aT T]))) 49 [] [] (cat [w_Reader ct aR aDR aRE aT R, w_Cloth ct aDR DR, w_Tape ct aT T]) (k49 R DR)) : Im p l e (im_rm 3) s m args below meth c D A 3 (QI D A (fun z : Int32 × Mem × Mem => z.1) (fun z : Int32 × Mem × Mem => (cat [w_Reader ct aR aDR aRE aT z.2.1, w_Cloth ct aDR z.2.2, w_Tape ct aT T]))) 38 [(0, .ref (aR 0)), (1, .int x1), (2, .int x2)] [] (cat [w_Reader ct aR aDR aRE aT R, w_Cloth ct aDR DR, w_Tape ct aT T]) (f_X6_readRow_38 F R DR T x1 x2 k13 k49) := by
  unfold f_X6_readRow_38
  refine im_aload_n X 0 dX6_readRow_38 rfl rfl ?_
  refine im_iconst X 0 dX6_readRow_39 (by decide) ?_
  refine im_iconst X 0 dX6_readRow_40 (by decide) ?_
  refine im_bipush X 99 dX6_readRow_41 (by decide) ?_
  refine im_cciV X [.int 0, .int 0, .int 99] [] [w_Reader ct aR aDR aRE aT R, w_Cloth ct aDR DR, w_Tape ct aT T] [w_Reader ct aR aDR aRE aT R, w_Tape ct aT T] [0, 2] (fun z43 => [w_Reader ct aR aDR aRE aT z43.2, w_Tape ct aT T]) 0 0 6 rfl rfl rfl cl_X6_101 (c_X6_readNumber l D ct F aR aDR aRE aT R T 0 0 99) rfl (by decide) (fun _ => lc fa_Reader (lc rfl (rfl))) rfl ⟨by decide, by decide⟩ (Nat.le_of_ble_eq_true rfl) rfl dX6_readRow_43 (fun z43 => ?_)
  refine im_ws (cat [w_Reader ct aR aDR aRE aT z43.2, w_Cloth ct aDR DR, w_Tape ct aT T]) rfl ?_
  refine im_if_ne (tgt := 51) X dX6_readRow_46 rfl ?_ ?_
  · refine im_aload_n X 0 dX6_readRow_51 rfl rfl ?_
    refine im_cget X 0 0 (v := .ref (aDR 0)) fl_X6_12 rfl rfl rfl dX6_readRow_52 ?_
    refine im_cget X 1 0 (v := .ref (aDR 3)) fl_X6_118 rfl rfl rfl dX6_readRow_55 ?_
    refine im_iload_n X 1 dX6_readRow_58 rfl rfl ?_
    refine im_iload_n X 2 dX6_readRow_59 rfl rfl ?_
    refine im_iadd X dX6_readRow_60 ?_
    refine im_aload_n X 0 dX6_readRow_61 rfl rfl ?_
    refine im_cget X 0 0 (v := .ref (aR 1)) fl_X6_25 rfl rfl rfl dX6_readRow_62 ?_
    refine im_iconst X 0 dX6_readRow_65 (by decide) ?_
    refine im_ciald X 0 1 0 (f := (z43.2 1)) rfl rfl rfl dX6_readRow_66 ?_
    refine im_ciast X 1 3 0 (wx_Cloth ct aDR (DR 0 6) (DR 0 7) (DR 0 8) (DR 0 9) (DR 1) (DR 2) (upd (DR 3) ((x1 + x2)).toNatClampNeg ((z43.2 1) (0 : Int32).toNatClampNeg)) (DR 4) (DR 5) (DR 6)) [w_Reader ct aR aDR aRE aT z43.2, wx_Cloth ct aDR (DR 0 6) (DR 0 7) (DR 0 8) (DR 0 9) (DR 1) (DR 2) (upd (DR 3) ((x1 + x2)).toNatClampNeg ((z43.2 1) (0 : Int32).toNatClampNeg)) (DR 4) (DR 5) (DR 6), w_Tape ct aT T] (f := (DR 3)) rfl rfl rfl rfl rfl dX6_readRow_67 ?_
    refine im_iinc X 2 1 [1, 2, 0] [(0, .ref (aR 0)), (1, .int x1), (2, .int (x2 + 1))] dX6_readRow_68 (by decide) rfl (by decide) rfl ?_
    refine im_goto (tgt := 13) X dX6_readRow_71 rfl ?_
    exact hk13 z43.2 (mr DR 3 (upd (DR 3) ((x1 + x2)).toNatClampNeg ((z43.2 1) (0 : Int32).toNatClampNeg))) (x2 + 1)
  · refine im_lv [] [] rfl ?_
    exact hk49 z43.2 DR
noncomputable def f_X6_readRow_13 (F : Nat) (T : Mem) (x1 : Int32) (k35 : Mem → Mem → Option (Int32 × Mem × Mem)) (k49 : Mem → Mem → Option (Int32 × Mem × Mem)) (k74 : Mem → Mem → Option (Int32 × Mem × Mem)) : Nat → Mem → Mem → Int32 → Option (Int32 × Mem × Mem)
  | 0, _, _, _ => none
  | n + 1, R, DR, x2 =>
  (if (DR 0 6) ≤ x2 then k74 R DR else (if x2 ≤ 0 then f_X6_readRow_38 F R DR T x1 x2 (f_X6_readRow_13 F T x1 k35 k49 k74 n) k49 else (f_X6_endComesNext F R T).bind (fun z29 => (if z29 = 0 then f_X6_readRow_38 F R DR T x1 x2 (f_X6_readRow_13 F T x1 k35 k49 k74 n) k49 else k35 R DR))))
set_option maxRecDepth 100000 in
set_option maxHeartbeats 4000000 in
theorem i_X6_readRow_13 {p : Program} {l : Launch} {e : Env} {s : State} {m : MethodId} {args : Array Value} {below : List Frame} {meth : Method} {c : Code} {D : va_G} {ct : im_ct} {A : Nat → Prop} (X : im_X p (im_rm 3) s m args meth c D ct A RX6 cX6_readRow 3 (some .boolean)) (F : Nat) (aR aDR aRE aT : Nat → Nat) (T : Mem) (x1 : Int32) (k35 : Mem → Mem → Option (Int32 × Mem × Mem)) (hk35 : ∀ (R : Mem) (DR : Mem), Im p l e (im_rm 3) s m args below meth c D A 3 (QI D A (fun z : Int32 × Mem × Mem => z.1) (fun z : Int32 × Mem × Mem => (cat [w_Reader ct aR aDR aRE aT z.2.1, w_Cloth ct aDR z.2.2, w_Tape ct aT T]))) 35 [(0, .ref (aR 0))] [] (cat [w_Reader ct aR aDR aRE aT R, w_Cloth ct aDR DR, w_Tape ct aT T]) (k35 R DR)) (k49 : Mem → Mem → Option (Int32 × Mem × Mem)) (hk49 : ∀ (R : Mem) (DR : Mem), Im p l e (im_rm 3) s m args below meth c D A 3 (QI D A (fun z : Int32 × Mem × Mem => z.1) (fun z : Int32 × Mem × Mem => (cat [w_Reader ct aR aDR aRE aT z.2.1, w_Cloth ct aDR z.2.2, w_Tape ct aT T]))) 49 [] [] (cat [w_Reader ct aR aDR aRE aT R, w_Cloth ct aDR DR, w_Tape ct aT T]) (k49 R DR)) (k74 : Mem → Mem → Option (Int32 × Mem × Mem)) (hk74 : ∀ (R : Mem) (DR : Mem), Im p l e (im_rm 3) s m args below meth c D A 3 (QI D A (fun z : Int32 × Mem × Mem => z.1) (fun z : Int32 × Mem × Mem => (cat [w_Reader ct aR aDR aRE aT z.2.1, w_Cloth ct aDR z.2.2, w_Tape ct aT T]))) 74 [(0, .ref (aR 0))] [] (cat [w_Reader ct aR aDR aRE aT R, w_Cloth ct aDR DR, w_Tape ct aT T]) (k74 R DR)) : ∀ (n : Nat) (R : Mem) (DR : Mem) (x2 : Int32), Im p l e (im_rm 3) s m args below meth c D A 3 (QI D A (fun z : Int32 × Mem × Mem => z.1) (fun z : Int32 × Mem × Mem => (cat [w_Reader ct aR aDR aRE aT z.2.1, w_Cloth ct aDR z.2.2, w_Tape ct aT T]))) 13 [(0, .ref (aR 0)), (1, .int x1), (2, .int x2)] [] (cat [w_Reader ct aR aDR aRE aT R, w_Cloth ct aDR DR, w_Tape ct aT T]) (f_X6_readRow_13 F T x1 k35 k49 k74 n R DR x2) := by
  intro n
  induction n with
  | zero => intros; exact im_none
  | succ n ih =>
    intro R DR x2
    unfold f_X6_readRow_13
    refine im_iload_n X 2 dX6_readRow_13 rfl rfl ?_
    refine im_aload_n X 0 dX6_readRow_14 rfl rfl ?_
    refine im_cget X 0 0 (v := .ref (aDR 0)) fl_X6_12 rfl rfl rfl dX6_readRow_15 ?_
    refine im_cget X 1 0 (v := .int (DR 0 6)) fl_X6_92 rfl rfl rfl dX6_readRow_18 ?_
    refine im_icmp_ge (tgt := 74) X dX6_readRow_21 rfl ?_ ?_
    · refine im_lv [0] [(0, .ref (aR 0))] rfl ?_
      exact hk74 R DR
    · refine im_iload_n X 2 dX6_readRow_24 rfl rfl ?_
      refine im_if_le (tgt := 38) X dX6_readRow_25 rfl ?_ ?_
      · exact i_X6_readRow_38 X F aR aDR aRE aT R DR T x1 x2 _ ih _ hk49
      · refine im_aload_n X 0 dX6_readRow_28 rfl rfl ?_
        refine im_cciV X [] [] [w_Reader ct aR aDR aRE aT R, w_Cloth ct aDR DR, w_Tape ct aT T] [w_Reader ct aR aDR aRE aT R, w_Tape ct aT T] [0, 2] (fun z29 => [w_Reader ct aR aDR aRE aT R, w_Tape ct aT T]) 0 0 6 rfl rfl rfl cl_X6_115 (c_X6_endComesNext l D ct F aR aDR aRE aT R T) rfl (by decide) (fun _ => lc rfl (lc rfl (rfl))) rfl ⟨by decide, by decide⟩ (Nat.le_of_ble_eq_true rfl) rfl dX6_readRow_29 (fun z29 => ?_)
        refine im_ws (cat [w_Reader ct aR aDR aRE aT R, w_Cloth ct aDR DR, w_Tape ct aT T]) rfl ?_
        refine im_if_eq (tgt := 38) X dX6_readRow_32 rfl ?_ ?_
        · exact i_X6_readRow_38 X F aR aDR aRE aT R DR T x1 x2 _ ih _ hk49
        · refine im_lv [0] [(0, .ref (aR 0))] rfl ?_
          exact hk35 R DR
noncomputable def f_X6_readRow_74 (F : Nat) (R : Mem) (DR : Mem) (T : Mem) : Option (Int32 × Mem × Mem) :=
  (f_X6_readEnd F R T).bind (fun z75 => (if z75.1 = 0 then (some (0, z75.2, DR)) else (f_X0_makeAnew F (mr DR 0 (fu (DR 0) 7 ((DR 0 7) + 1)))).bind (fun z100 => (some (1, z75.2, z100)))))
set_option maxRecDepth 100000 in
set_option maxHeartbeats 4000000 in
theorem i_X6_readRow_74 {p : Program} {l : Launch} {e : Env} {s : State} {m : MethodId} {args : Array Value} {below : List Frame} {meth : Method} {c : Code} {D : va_G} {ct : im_ct} {A : Nat → Prop} (X : im_X p (im_rm 3) s m args meth c D ct A RX6 cX6_readRow 3 (some .boolean)) (F : Nat) (aR aDR aRE aT : Nat → Nat) (R : Mem) (DR : Mem) (T : Mem) : Im p l e (im_rm 3) s m args below meth c D A 3 (QI D A (fun z : Int32 × Mem × Mem => z.1) (fun z : Int32 × Mem × Mem => (cat [w_Reader ct aR aDR aRE aT z.2.1, w_Cloth ct aDR z.2.2, w_Tape ct aT T]))) 74 [(0, .ref (aR 0))] [] (cat [w_Reader ct aR aDR aRE aT R, w_Cloth ct aDR DR, w_Tape ct aT T]) (f_X6_readRow_74 F R DR T) := by
  unfold f_X6_readRow_74
  refine im_aload_n X 0 dX6_readRow_74 rfl rfl ?_
  refine im_cciV X [] [] [w_Reader ct aR aDR aRE aT R, w_Cloth ct aDR DR, w_Tape ct aT T] [w_Reader ct aR aDR aRE aT R, w_Tape ct aT T] [0, 2] (fun z75 => [w_Reader ct aR aDR aRE aT z75.2, w_Tape ct aT T]) 0 0 6 rfl rfl rfl cl_X6_105 (c_X6_readEnd l D ct F aR aDR aRE aT R T) rfl (by decide) (fun _ => lc fa_Reader (lc rfl (rfl))) rfl ⟨by decide, by decide⟩ (Nat.le_of_ble_eq_true rfl) rfl dX6_readRow_75 (fun z75 => ?_)
  refine im_ws (cat [w_Reader ct aR aDR aRE aT z75.2, w_Cloth ct aDR DR, w_Tape ct aT T]) rfl ?_
  refine im_if_ne (tgt := 83) X dX6_readRow_78 rfl ?_ ?_
  · refine im_aload_n X 0 dX6_readRow_83 rfl rfl ?_
    refine im_cget X 0 0 (v := .ref (aDR 0)) fl_X6_12 rfl rfl rfl dX6_readRow_84 ?_
    refine im_dup X rfl dX6_readRow_87 ?_
    refine im_cget X 1 0 (v := .int (DR 0 7)) fl_X6_112 rfl rfl rfl dX6_readRow_88 ?_
    refine im_iconst X 1 dX6_readRow_91 (by decide) ?_
    refine im_iadd X dX6_readRow_92 ?_
    refine im_cput X 1 0 (wx_Cloth ct aDR (DR 0 6) ((DR 0 7) + 1) (DR 0 8) (DR 0 9) (DR 1) (DR 2) (DR 3) (DR 4) (DR 5) (DR 6)) [w_Reader ct aR aDR aRE aT z75.2, wx_Cloth ct aDR (DR 0 6) ((DR 0 7) + 1) (DR 0 8) (DR 0 9) (DR 1) (DR 2) (DR 3) (DR 4) (DR 5) (DR 6), w_Tape ct aT T] fl_X6_112 rfl rfl rfl rfl (Nat.le_of_ble_eq_true rfl) rfl rfl dX6_readRow_93 ?_
    refine im_aload_n X 0 dX6_readRow_96 rfl rfl ?_
    refine im_cget X 0 0 (v := .ref (aDR 0)) fl_X6_12 rfl rfl rfl dX6_readRow_97 ?_
    refine im_ccvV X [] [] [w_Reader ct aR aDR aRE aT z75.2, wx_Cloth ct aDR (DR 0 6) ((DR 0 7) + 1) (DR 0 8) (DR 0 9) (DR 1) (DR 2) (DR 3) (DR 4) (DR 5) (DR 6), w_Tape ct aT T] [w_Cloth ct aDR (mr DR 0 (fu (DR 0) 7 ((DR 0 7) + 1)))] [1] (fun z100 => [w_Cloth ct aDR z100]) 1 0 0 rfl rfl rfl cl_X6_121 (c_X0_makeAnew l D ct F aDR (mr DR 0 (fu (DR 0) 7 ((DR 0 7) + 1)))) rfl (by decide) (fun _ => lc fa_Cloth (rfl)) rfl ⟨by decide, by decide⟩ (Nat.le_of_ble_eq_true rfl) rfl dX6_readRow_100 (fun z100 => ?_)
    refine im_ws (cat [w_Reader ct aR aDR aRE aT z75.2, w_Cloth ct aDR z100, w_Tape ct aT T]) rfl ?_
    refine im_iconst X 1 dX6_readRow_103 (by decide) ?_
    exact im_zreturn X (1, z75.2, z100) rfl rfl rfl dX6_readRow_104
  · refine im_iconst X 0 dX6_readRow_81 (by decide) ?_
    exact im_zreturn X (0, z75.2, DR) rfl rfl rfl dX6_readRow_82
noncomputable def f_X6_readRow (F : Nat) (R : Mem) (DR : Mem) (T : Mem) : Option (Int32 × Mem × Mem) :=
  f_X6_readRow_13 F T ((DR 0 7) * 6) (fun R_35 DR_35 => f_X6_readRow_74 F R_35 DR_35 T) (fun R_49 DR_49 => (some (0, R_49, DR_49))) (fun R_74 DR_74 => f_X6_readRow_74 F R_74 DR_74 T) F R DR 0
set_option maxRecDepth 100000 in
set_option maxHeartbeats 4000000 in
theorem i_X6_readRow {p : Program} {l : Launch} {e : Env} {s : State} {m : MethodId} {args : Array Value} {below : List Frame} {meth : Method} {c : Code} {D : va_G} {ct : im_ct} {A : Nat → Prop} (X : im_X p (im_rm 3) s m args meth c D ct A RX6 cX6_readRow 3 (some .boolean)) (F : Nat) (aR aDR aRE aT : Nat → Nat) (R : Mem) (DR : Mem) (T : Mem) : Im p l e (im_rm 3) s m args below meth c D A 3 (QI D A (fun z : Int32 × Mem × Mem => z.1) (fun z : Int32 × Mem × Mem => (cat [w_Reader ct aR aDR aRE aT z.2.1, w_Cloth ct aDR z.2.2, w_Tape ct aT T]))) 0 [(0, .ref (aR 0))] [] (cat [w_Reader ct aR aDR aRE aT R, w_Cloth ct aDR DR, w_Tape ct aT T]) (f_X6_readRow F R DR T) := by
  unfold f_X6_readRow
  refine im_aload_n X 0 dX6_readRow_0 rfl rfl ?_
  refine im_cget X 0 0 (v := .ref (aDR 0)) fl_X6_12 rfl rfl rfl dX6_readRow_1 ?_
  refine im_cget X 1 0 (v := .int (DR 0 7)) fl_X6_112 rfl rfl rfl dX6_readRow_4 ?_
  refine im_bipush X 6 dX6_readRow_7 (by decide) ?_
  refine im_imul X dX6_readRow_9 ?_
  refine im_istore_n X [1, 0] [(0, .ref (aR 0)), (1, .int ((DR 0 7) * 6))] dX6_readRow_10 rfl (by decide) rfl ?_
  refine im_iconst X 0 dX6_readRow_11 (by decide) ?_
  refine im_istore_n X [1, 2, 0] [(0, .ref (aR 0)), (1, .int ((DR 0 7) * 6)), (2, .int 0)] dX6_readRow_12 rfl (by decide) rfl ?_
  refine i_X6_readRow_13 X F aR aDR aRE aT T ((DR 0 7) * 6) _ (fun R_35 DR_35 => ?_) _ (fun R_49 DR_49 => ?_) _ (fun R_74 DR_74 => ?_) F R DR 0
  · refine im_goto (tgt := 74) X dX6_readRow_35 rfl ?_
    exact i_X6_readRow_74 X F aR aDR aRE aT R_35 DR_35 T  
  · refine im_iconst X 0 dX6_readRow_49 (by decide) ?_
    exact im_zreturn X (0, R_49, DR_49) rfl rfl rfl dX6_readRow_50
  · exact i_X6_readRow_74 X F aR aDR aRE aT R_74 DR_74 T  
theorem c_X6_readRow (l : Launch) (D : va_G) (ct : im_ct) (F : Nat) (aR aDR aRE aT : Nat → Nat) (R : Mem) (DR : Mem) (T : Mem) : CMi l D ct yX6_readRow cX6_readRow 3 (some .boolean) 3 [.ref (aR 0)] (cat [w_Reader ct aR aDR aRE aT R, w_Cloth ct aDR DR, w_Tape ct aT T]) (f_X6_readRow F R DR T) (fun z : Int32 × Mem × Mem => z.1) (fun z : Int32 × Mem × Mem => (cat [w_Reader ct aR aDR aRE aT z.2.1, w_Cloth ct aDR z.2.2, w_Tape ct aT T])) :=
  im_met (Qb := fun A => QI D A (fun z : Int32 × Mem × Mem => z.1) (fun z : Int32 × Mem × Mem => (cat [w_Reader ct aR aDR aRE aT z.2.1, w_Cloth ct aDR z.2.2, w_Tape ct aT T]))) (by decide +kernel) (Nat.le_of_ble_eq_true rfl) (fun p e s m args below meth c A X => i_X6_readRow X F aR aDR aRE aT R DR T)

noncomputable def f_X6_readColumn_32 (F : Nat) (R : Mem) (DR : Mem) (T : Mem) (x1 : Int32) (s0 : Int32) : Option (Int32 × Mem × Mem) :=
  (f_X6_readNumber F R T 0 s0 x1).bind (fun z37 => (if z37.1 = 0 then (some (0, z37.2, DR)) else (f_X6_readEnd F z37.2 T).bind (fun z44 => (if z44.1 = 0 then (some (0, z44.2, DR)) else ck 0 4 ((f_X0_addColumn F DR ((z44.2 1) (0 : Int32).toNatClampNeg)).bind (fun z62 => (some (1, z44.2, z62))))))))
set_option maxRecDepth 100000 in
set_option maxHeartbeats 4000000 in
theorem i_X6_readColumn_32 {p : Program} {l : Launch} {e : Env} {s : State} {m : MethodId} {args : Array Value} {below : List Frame} {meth : Method} {c : Code} {D : va_G} {ct : im_ct} {A : Nat → Prop} (X : im_X p (im_rm 3) s m args meth c D ct A RX6 cX6_readColumn 3 (some .boolean)) (F : Nat) (aR aDR aRE aT : Nat → Nat) (R : Mem) (DR : Mem) (T : Mem) (x1 : Int32) (s0 : Int32) : Im p l e (im_rm 3) s m args below meth c D A 3 (QI D A (fun z : Int32 × Mem × Mem => z.1) (fun z : Int32 × Mem × Mem => (cat [w_Reader ct aR aDR aRE aT z.2.1, w_Cloth ct aDR z.2.2, w_Tape ct aT T]))) 32 [(0, .ref (aR 0)), (1, .int x1)] [.int s0] (cat [w_Reader ct aR aDR aRE aT R, w_Cloth ct aDR DR, w_Tape ct aT T]) (f_X6_readColumn_32 F R DR T x1 s0) := by
  unfold f_X6_readColumn_32
  refine im_istore_n X [1, 2, 0] [(0, .ref (aR 0)), (1, .int x1), (2, .int s0)] dX6_readColumn_32 rfl (by decide) rfl ?_
  refine im_aload_n X 0 dX6_readColumn_33 rfl rfl ?_
  refine im_iconst X 0 dX6_readColumn_34 (by decide) ?_
  refine im_iload_n X 2 dX6_readColumn_35 rfl rfl ?_
  refine im_iload_n X 1 dX6_readColumn_36 rfl rfl ?_
  refine im_cciV X [.int 0, .int s0, .int x1] [] [w_Reader ct aR aDR aRE aT R, w_Cloth ct aDR DR, w_Tape ct aT T] [w_Reader ct aR aDR aRE aT R, w_Tape ct aT T] [0, 2] (fun z37 => [w_Reader ct aR aDR aRE aT z37.2, w_Tape ct aT T]) 0 0 6 rfl rfl rfl cl_X6_101 (c_X6_readNumber l D ct F aR aDR aRE aT R T 0 s0 x1) rfl (by decide) (fun _ => lc fa_Reader (lc rfl (rfl))) rfl ⟨by decide, by decide⟩ (Nat.le_of_ble_eq_true rfl) rfl dX6_readColumn_37 (fun z37 => ?_)
  refine im_ws (cat [w_Reader ct aR aDR aRE aT z37.2, w_Cloth ct aDR DR, w_Tape ct aT T]) rfl ?_
  refine im_if_eq (tgt := 50) X dX6_readColumn_40 rfl ?_ ?_
  · refine im_iconst X 0 dX6_readColumn_50 (by decide) ?_
    exact im_zreturn X (0, z37.2, DR) rfl rfl rfl dX6_readColumn_51
  · refine im_aload_n X 0 dX6_readColumn_43 rfl rfl ?_
    refine im_cciV X [] [] [w_Reader ct aR aDR aRE aT z37.2, w_Cloth ct aDR DR, w_Tape ct aT T] [w_Reader ct aR aDR aRE aT z37.2, w_Tape ct aT T] [0, 2] (fun z44 => [w_Reader ct aR aDR aRE aT z44.2, w_Tape ct aT T]) 0 0 6 rfl rfl rfl cl_X6_105 (c_X6_readEnd l D ct F aR aDR aRE aT z37.2 T) rfl (by decide) (fun _ => lc fa_Reader (lc rfl (rfl))) rfl ⟨by decide, by decide⟩ (Nat.le_of_ble_eq_true rfl) rfl dX6_readColumn_44 (fun z44 => ?_)
    refine im_ws (cat [w_Reader ct aR aDR aRE aT z44.2, w_Cloth ct aDR DR, w_Tape ct aT T]) rfl ?_
    refine im_if_ne (tgt := 52) X dX6_readColumn_47 rfl ?_ ?_
    · refine im_aload_n X 0 dX6_readColumn_52 rfl rfl ?_
      refine im_cget X 0 0 (v := .ref (aDR 0)) fl_X6_12 rfl rfl rfl dX6_readColumn_53 ?_
      refine im_aload_n X 0 dX6_readColumn_56 rfl rfl ?_
      refine im_cget X 0 0 (v := .ref (aR 1)) fl_X6_25 rfl rfl rfl dX6_readColumn_57 ?_
      refine im_iconst X 0 dX6_readColumn_60 (by decide) ?_
      refine im_ciald X 0 1 0 (f := (z44.2 1)) rfl rfl rfl dX6_readColumn_61 ?_
      refine im_ccvV X [.int ((z44.2 1) (0 : Int32).toNatClampNeg)] [] [w_Reader ct aR aDR aRE aT z44.2, w_Cloth ct aDR DR, w_Tape ct aT T] [w_Cloth ct aDR DR] [1] (fun z62 => [w_Cloth ct aDR z62]) 1 0 0 rfl rfl rfl cl_X6_108 (c_X0_addColumn l D ct F aDR DR ((z44.2 1) (0 : Int32).toNatClampNeg)) rfl (by decide) (fun _ => lc fa_Cloth (rfl)) rfl ⟨by decide, by decide⟩ (Nat.le_of_ble_eq_true rfl) rfl dX6_readColumn_62 (fun z62 => ?_)
      refine im_ws (cat [w_Reader ct aR aDR aRE aT z44.2, w_Cloth ct aDR z62, w_Tape ct aT T]) rfl ?_
      refine im_iconst X 1 dX6_readColumn_65 (by decide) ?_
      exact im_zreturn X (1, z44.2, z62) rfl rfl rfl dX6_readColumn_66
    · refine im_iconst X 0 dX6_readColumn_50 (by decide) ?_
      exact im_zreturn X (0, z44.2, DR) rfl rfl rfl dX6_readColumn_51
noncomputable def f_X6_readColumn_16 (F : Nat) (R : Mem) (DR : Mem) (T : Mem) (s0 : Int32) : Option (Int32 × Mem × Mem) :=
  (if (DR 0 6) = 0 then f_X6_readColumn_32 F R DR T s0 1 else f_X6_readColumn_32 F R DR T s0 2)
set_option maxRecDepth 100000 in
set_option maxHeartbeats 4000000 in
theorem i_X6_readColumn_16 {p : Program} {l : Launch} {e : Env} {s : State} {m : MethodId} {args : Array Value} {below : List Frame} {meth : Method} {c : Code} {D : va_G} {ct : im_ct} {A : Nat → Prop} (X : im_X p (im_rm 3) s m args meth c D ct A RX6 cX6_readColumn 3 (some .boolean)) (F : Nat) (aR aDR aRE aT : Nat → Nat) (R : Mem) (DR : Mem) (T : Mem) (s0 : Int32) : Im p l e (im_rm 3) s m args below meth c D A 3 (QI D A (fun z : Int32 × Mem × Mem => z.1) (fun z : Int32 × Mem × Mem => (cat [w_Reader ct aR aDR aRE aT z.2.1, w_Cloth ct aDR z.2.2, w_Tape ct aT T]))) 16 [(0, .ref (aR 0))] [.int s0] (cat [w_Reader ct aR aDR aRE aT R, w_Cloth ct aDR DR, w_Tape ct aT T]) (f_X6_readColumn_16 F R DR T s0) := by
  unfold f_X6_readColumn_16
  refine im_istore_n X [1, 0] [(0, .ref (aR 0)), (1, .int s0)] dX6_readColumn_16 rfl (by decide) rfl ?_
  refine im_aload_n X 0 dX6_readColumn_17 rfl rfl ?_
  refine im_cget X 0 0 (v := .ref (aDR 0)) fl_X6_12 rfl rfl rfl dX6_readColumn_18 ?_
  refine im_cget X 1 0 (v := .int (DR 0 6)) fl_X6_92 rfl rfl rfl dX6_readColumn_21 ?_
  refine im_if_ne (tgt := 31) X dX6_readColumn_24 rfl ?_ ?_
  · refine im_iconst X 2 dX6_readColumn_31 (by decide) ?_
    exact i_X6_readColumn_32 X F aR aDR aRE aT R DR T s0 2 
  · refine im_iconst X 1 dX6_readColumn_27 (by decide) ?_
    refine im_goto (tgt := 32) X dX6_readColumn_28 rfl ?_
    exact i_X6_readColumn_32 X F aR aDR aRE aT R DR T s0 1 
noncomputable def f_X6_readColumn (F : Nat) (R : Mem) (DR : Mem) (T : Mem) : Option (Int32 × Mem × Mem) :=
  (if (DR 0 6) = 0 then f_X6_readColumn_16 F R DR T 1 else f_X6_readColumn_16 F R DR T 20)
set_option maxRecDepth 100000 in
set_option maxHeartbeats 4000000 in
theorem i_X6_readColumn {p : Program} {l : Launch} {e : Env} {s : State} {m : MethodId} {args : Array Value} {below : List Frame} {meth : Method} {c : Code} {D : va_G} {ct : im_ct} {A : Nat → Prop} (X : im_X p (im_rm 3) s m args meth c D ct A RX6 cX6_readColumn 3 (some .boolean)) (F : Nat) (aR aDR aRE aT : Nat → Nat) (R : Mem) (DR : Mem) (T : Mem) : Im p l e (im_rm 3) s m args below meth c D A 3 (QI D A (fun z : Int32 × Mem × Mem => z.1) (fun z : Int32 × Mem × Mem => (cat [w_Reader ct aR aDR aRE aT z.2.1, w_Cloth ct aDR z.2.2, w_Tape ct aT T]))) 0 [(0, .ref (aR 0))] [] (cat [w_Reader ct aR aDR aRE aT R, w_Cloth ct aDR DR, w_Tape ct aT T]) (f_X6_readColumn F R DR T) := by
  unfold f_X6_readColumn
  refine im_aload_n X 0 dX6_readColumn_0 rfl rfl ?_
  refine im_cget X 0 0 (v := .ref (aDR 0)) fl_X6_12 rfl rfl rfl dX6_readColumn_1 ?_
  refine im_cget X 1 0 (v := .int (DR 0 6)) fl_X6_92 rfl rfl rfl dX6_readColumn_4 ?_
  refine im_if_ne (tgt := 14) X dX6_readColumn_7 rfl ?_ ?_
  · refine im_bipush X 20 dX6_readColumn_14 (by decide) ?_
    exact i_X6_readColumn_16 X F aR aDR aRE aT R DR T 20 
  · refine im_iconst X 1 dX6_readColumn_10 (by decide) ?_
    refine im_goto (tgt := 16) X dX6_readColumn_11 rfl ?_
    exact i_X6_readColumn_16 X F aR aDR aRE aT R DR T 1 
theorem c_X6_readColumn (l : Launch) (D : va_G) (ct : im_ct) (F : Nat) (aR aDR aRE aT : Nat → Nat) (R : Mem) (DR : Mem) (T : Mem) : CMi l D ct yX6_readColumn cX6_readColumn 3 (some .boolean) 3 [.ref (aR 0)] (cat [w_Reader ct aR aDR aRE aT R, w_Cloth ct aDR DR, w_Tape ct aT T]) (f_X6_readColumn F R DR T) (fun z : Int32 × Mem × Mem => z.1) (fun z : Int32 × Mem × Mem => (cat [w_Reader ct aR aDR aRE aT z.2.1, w_Cloth ct aDR z.2.2, w_Tape ct aT T])) :=
  im_met (Qb := fun A => QI D A (fun z : Int32 × Mem × Mem => z.1) (fun z : Int32 × Mem × Mem => (cat [w_Reader ct aR aDR aRE aT z.2.1, w_Cloth ct aDR z.2.2, w_Tape ct aT T]))) (by decide +kernel) (Nat.le_of_ble_eq_true rfl) (fun p e s m args below meth c A X => i_X6_readColumn X F aR aDR aRE aT R DR T)

noncomputable def f_X6_readLine (F : Nat) (R : Mem) (DR : Mem) (RE : Mem) (T : Mem) : Option (Int32 × Mem × Mem × Mem) :=
  (f_X6_readWord F R T).bind (fun z6 => (f_X6_mayStand F z6.2 DR z6.1).bind (fun z12 => (if z12 = 0 then (f_X6_failAt F z6.2 (R 0 6)).bind (fun z20 => (cb z20.1 (some (z20.1, z20.2, DR, RE)))) else (f_X6_stageOf F z6.1).bind (fun z27 => (if z6.1 = 5 then (f_X6_readColumn F (mr z6.2 0 (fu (z6.2 0) 7 z27)) DR T).bind (fun z61 => (cb z61.1 (some (z61.1, z61.2.1, z61.2.2, RE)))) else if z6.1 = 6 then (f_X6_readRow F (mr z6.2 0 (fu (z6.2 0) 7 z27)) DR T).bind (fun z66 => (cb z66.1 (some (z66.1, z66.2.1, z66.2.2, RE)))) else if z6.1 = 7 then (f_X6_readSeen F (mr z6.2 0 (fu (z6.2 0) 7 z27)) DR T).bind (fun z71 => (cb z71.1 (some (z71.1, z71.2.1, z71.2.2, RE)))) else (f_X6_readMove F (mr z6.2 0 (fu (z6.2 0) 7 z27)) DR RE T (R 0 6) z6.1).bind (fun z78 => (cb z78.1 (some (z78.1, z78.2.1, z78.2.2.1, z78.2.2.2)))))))))
set_option maxRecDepth 100000 in
set_option maxHeartbeats 4000000 in
theorem i_X6_readLine {p : Program} {l : Launch} {e : Env} {s : State} {m : MethodId} {args : Array Value} {below : List Frame} {meth : Method} {c : Code} {D : va_G} {ct : im_ct} {A : Nat → Prop} (X : im_X p (im_rm 6) s m args meth c D ct A RX6 cX6_readLine 3 (some .boolean)) (F : Nat) (aR aDR aRE aT : Nat → Nat) (R : Mem) (DR : Mem) (RE : Mem) (T : Mem) : Im p l e (im_rm 6) s m args below meth c D A 3 (QI D A (fun z : Int32 × Mem × Mem × Mem => z.1) (fun z : Int32 × Mem × Mem × Mem => (cat [w_Reader ct aR aDR aRE aT z.2.1, w_Cloth ct aDR z.2.2.1, w_Effect ct aRE z.2.2.2, w_Tape ct aT T]))) 0 [(0, .ref (aR 0))] [] (cat [w_Reader ct aR aDR aRE aT R, w_Cloth ct aDR DR, w_Effect ct aRE RE, w_Tape ct aT T]) (f_X6_readLine F R DR RE T) := by
  unfold f_X6_readLine
  refine im_aload_n X 0 dX6_readLine_0 rfl rfl ?_
  refine im_cget X 0 0 (v := .int (R 0 6)) fl_X6_45 rfl rfl rfl dX6_readLine_1 ?_
  refine im_istore_n X [1, 0] [(0, .ref (aR 0)), (1, .int (R 0 6))] dX6_readLine_4 rfl (by decide) rfl ?_
  refine im_aload_n X 0 dX6_readLine_5 rfl rfl ?_
  refine im_cciV X [] [] [w_Reader ct aR aDR aRE aT R, w_Cloth ct aDR DR, w_Effect ct aRE RE, w_Tape ct aT T] [w_Reader ct aR aDR aRE aT R, w_Tape ct aT T] [0, 3] (fun z6 => [w_Reader ct aR aDR aRE aT z6.2, w_Tape ct aT T]) 0 0 6 rfl rfl rfl cl_X6_64 (c_X6_readWord l D ct F aR aDR aRE aT R T) rfl (by decide) (fun _ => lc fa_Reader (lc rfl (rfl))) rfl ⟨by decide, by decide⟩ (Nat.le_of_ble_eq_true rfl) rfl dX6_readLine_6 (fun z6 => ?_)
  refine im_ws (cat [w_Reader ct aR aDR aRE aT z6.2, w_Cloth ct aDR DR, w_Effect ct aRE RE, w_Tape ct aT T]) rfl ?_
  refine im_istore_n X [1, 2, 0] [(0, .ref (aR 0)), (1, .int (R 0 6)), (2, .int z6.1)] dX6_readLine_9 rfl (by decide) rfl ?_
  refine im_aload_n X 0 dX6_readLine_10 rfl rfl ?_
  refine im_iload_n X 2 dX6_readLine_11 rfl rfl ?_
  refine im_cciV X [.int z6.1] [] [w_Reader ct aR aDR aRE aT z6.2, w_Cloth ct aDR DR, w_Effect ct aRE RE, w_Tape ct aT T] [w_Reader ct aR aDR aRE aT z6.2, w_Cloth ct aDR DR] [0, 1] (fun z12 => [w_Reader ct aR aDR aRE aT z6.2, w_Cloth ct aDR DR]) 0 0 6 rfl rfl rfl cl_X6_68 (c_X6_mayStand l D ct F aR aDR aRE aT z6.2 DR z6.1) rfl (by decide) (fun _ => lc rfl (lc rfl (rfl))) rfl ⟨by decide, by decide⟩ (Nat.le_of_ble_eq_true rfl) rfl dX6_readLine_12 (fun z12 => ?_)
  refine im_ws (cat [w_Reader ct aR aDR aRE aT z6.2, w_Cloth ct aDR DR, w_Effect ct aRE RE, w_Tape ct aT T]) rfl ?_
  refine im_if_ne (tgt := 24) X dX6_readLine_15 rfl ?_ ?_
  · refine im_aload_n X 0 dX6_readLine_24 rfl rfl ?_
    refine im_aload_n X 0 dX6_readLine_25 rfl rfl ?_
    refine im_iload_n X 2 dX6_readLine_26 rfl rfl ?_
    refine im_cciV X [.int z6.1] [.ref (aR 0)] [w_Reader ct aR aDR aRE aT z6.2, w_Cloth ct aDR DR, w_Effect ct aRE RE, w_Tape ct aT T] [] [] (fun z27 => []) 0 0 6 rfl rfl rfl cl_X6_75 (c_X6_stageOf l D ct F aR aDR aRE aT z6.1) rfl (by decide) (fun _ => rfl) rfl ⟨by decide, by decide⟩ (Nat.le_of_ble_eq_true rfl) rfl dX6_readLine_27 (fun z27 => ?_)
    refine im_ws (cat [w_Reader ct aR aDR aRE aT z6.2, w_Cloth ct aDR DR, w_Effect ct aRE RE, w_Tape ct aT T]) rfl ?_
    refine im_cput X 0 0 (wx_Reader ct aR aDR aRE aT (z6.2 0 5) (z6.2 0 6) z27 (z6.2 0 8) (z6.2 1)) [wx_Reader ct aR aDR aRE aT (z6.2 0 5) (z6.2 0 6) z27 (z6.2 0 8) (z6.2 1), w_Cloth ct aDR DR, w_Effect ct aRE RE, w_Tape ct aT T] fl_X6_48 rfl rfl rfl rfl (Nat.le_of_ble_eq_true rfl) rfl rfl dX6_readLine_30 ?_
    refine im_iload_n X 2 dX6_readLine_33 rfl rfl ?_
    refine im_ite (fun q0 => ?_) (fun q0 => ?_)
    · refine im_tabIn (tgt := 60) X dX6_readLine_34 (by rw [q0]; decide) (by rw [q0]; decide) (by rw [q0]; rfl) rfl ?_
      refine im_aload_n X 0 dX6_readLine_60 rfl rfl ?_
      refine im_cciV X [] [] [wx_Reader ct aR aDR aRE aT (z6.2 0 5) (z6.2 0 6) z27 (z6.2 0 8) (z6.2 1), w_Cloth ct aDR DR, w_Effect ct aRE RE, w_Tape ct aT T] [w_Reader ct aR aDR aRE aT (mr z6.2 0 (fu (z6.2 0) 7 z27)), w_Cloth ct aDR DR, w_Tape ct aT T] [0, 1, 3] (fun z61 => [w_Reader ct aR aDR aRE aT z61.2.1, w_Cloth ct aDR z61.2.2, w_Tape ct aT T]) 0 0 6 rfl rfl rfl cl_X6_79 (c_X6_readColumn l D ct F aR aDR aRE aT (mr z6.2 0 (fu (z6.2 0) 7 z27)) DR T) rfl (by decide) (fun _ => lc fa_Reader (lc fa_Cloth (lc rfl (rfl)))) rfl ⟨by decide, by decide⟩ (Nat.le_of_ble_eq_true rfl) rfl dX6_readLine_61 (fun z61 => ?_)
      refine im_ws (cat [w_Reader ct aR aDR aRE aT z61.2.1, w_Cloth ct aDR z61.2.2, w_Effect ct aRE RE, w_Tape ct aT T]) rfl ?_
      exact im_zreturnc X (z61.1, z61.2.1, z61.2.2, RE) rfl rfl dX6_readLine_64
    · refine im_ite (fun q1 => ?_) (fun q1 => ?_)
      · refine im_tabIn (tgt := 65) X dX6_readLine_34 (by rw [q1]; decide) (by rw [q1]; decide) (by rw [q1]; rfl) rfl ?_
        refine im_aload_n X 0 dX6_readLine_65 rfl rfl ?_
        refine im_cciV X [] [] [wx_Reader ct aR aDR aRE aT (z6.2 0 5) (z6.2 0 6) z27 (z6.2 0 8) (z6.2 1), w_Cloth ct aDR DR, w_Effect ct aRE RE, w_Tape ct aT T] [w_Reader ct aR aDR aRE aT (mr z6.2 0 (fu (z6.2 0) 7 z27)), w_Cloth ct aDR DR, w_Tape ct aT T] [0, 1, 3] (fun z66 => [w_Reader ct aR aDR aRE aT z66.2.1, w_Cloth ct aDR z66.2.2, w_Tape ct aT T]) 0 0 6 rfl rfl rfl cl_X6_82 (c_X6_readRow l D ct F aR aDR aRE aT (mr z6.2 0 (fu (z6.2 0) 7 z27)) DR T) rfl (by decide) (fun _ => lc fa_Reader (lc fa_Cloth (lc rfl (rfl)))) rfl ⟨by decide, by decide⟩ (Nat.le_of_ble_eq_true rfl) rfl dX6_readLine_66 (fun z66 => ?_)
        refine im_ws (cat [w_Reader ct aR aDR aRE aT z66.2.1, w_Cloth ct aDR z66.2.2, w_Effect ct aRE RE, w_Tape ct aT T]) rfl ?_
        exact im_zreturnc X (z66.1, z66.2.1, z66.2.2, RE) rfl rfl dX6_readLine_69
      · refine im_ite (fun q2 => ?_) (fun q2 => ?_)
        · refine im_tabIn (tgt := 70) X dX6_readLine_34 (by rw [q2]; decide) (by rw [q2]; decide) (by rw [q2]; rfl) rfl ?_
          refine im_aload_n X 0 dX6_readLine_70 rfl rfl ?_
          refine im_cciV X [] [] [wx_Reader ct aR aDR aRE aT (z6.2 0 5) (z6.2 0 6) z27 (z6.2 0 8) (z6.2 1), w_Cloth ct aDR DR, w_Effect ct aRE RE, w_Tape ct aT T] [w_Reader ct aR aDR aRE aT (mr z6.2 0 (fu (z6.2 0) 7 z27)), w_Cloth ct aDR DR, w_Tape ct aT T] [0, 1, 3] (fun z71 => [w_Reader ct aR aDR aRE aT z71.2.1, w_Cloth ct aDR z71.2.2, w_Tape ct aT T]) 0 0 6 rfl rfl rfl cl_X6_85 (c_X6_readSeen l D ct F aR aDR aRE aT (mr z6.2 0 (fu (z6.2 0) 7 z27)) DR T) rfl (by decide) (fun _ => lc fa_Reader (lc fa_Cloth (lc rfl (rfl)))) rfl ⟨by decide, by decide⟩ (Nat.le_of_ble_eq_true rfl) rfl dX6_readLine_71 (fun z71 => ?_)
          refine im_ws (cat [w_Reader ct aR aDR aRE aT z71.2.1, w_Cloth ct aDR z71.2.2, w_Effect ct aRE RE, w_Tape ct aT T]) rfl ?_
          exact im_zreturnc X (z71.1, z71.2.1, z71.2.2, RE) rfl rfl dX6_readLine_74
        · refine im_tabOut (tgt := 75) X dX6_readLine_34 (by have h5 := i32_ne q0 (by decide : (5 : Int32).toInt = 5); have h6 := i32_ne q1 (by decide : (6 : Int32).toInt = 6); have h7 := i32_ne q2 (by decide : (7 : Int32).toInt = 7); omega) rfl ?_
          refine im_aload_n X 0 dX6_readLine_75 rfl rfl ?_
          refine im_iload_n X 1 dX6_readLine_76 rfl rfl ?_
          refine im_iload_n X 2 dX6_readLine_77 rfl rfl ?_
          refine im_cciV X [.int (R 0 6), .int z6.1] [] [wx_Reader ct aR aDR aRE aT (z6.2 0 5) (z6.2 0 6) z27 (z6.2 0 8) (z6.2 1), w_Cloth ct aDR DR, w_Effect ct aRE RE, w_Tape ct aT T] [w_Reader ct aR aDR aRE aT (mr z6.2 0 (fu (z6.2 0) 7 z27)), w_Cloth ct aDR DR, w_Effect ct aRE RE, w_Tape ct aT T] [0, 1, 2, 3] (fun z78 => [w_Reader ct aR aDR aRE aT z78.2.1, w_Cloth ct aDR z78.2.2.1, w_Effect ct aRE z78.2.2.2, w_Tape ct aT T]) 0 0 6 rfl rfl rfl cl_X6_88 (c_X6_readMove l D ct F aR aDR aRE aT (mr z6.2 0 (fu (z6.2 0) 7 z27)) DR RE T (R 0 6) z6.1) rfl (by decide) (fun _ => lc fa_Reader (lc fa_Cloth (lc fa_Effect (lc rfl (rfl))))) rfl ⟨by decide, by decide⟩ (Nat.le_of_ble_eq_true rfl) rfl dX6_readLine_78 (fun z78 => ?_)
          refine im_ws (cat [w_Reader ct aR aDR aRE aT z78.2.1, w_Cloth ct aDR z78.2.2.1, w_Effect ct aRE z78.2.2.2, w_Tape ct aT T]) rfl ?_
          exact im_zreturnc X (z78.1, z78.2.1, z78.2.2.1, z78.2.2.2) rfl rfl dX6_readLine_81
  · refine im_aload_n X 0 dX6_readLine_18 rfl rfl ?_
    refine im_iload_n X 1 dX6_readLine_19 rfl rfl ?_
    refine im_cciV X [.int (R 0 6)] [] [w_Reader ct aR aDR aRE aT z6.2, w_Cloth ct aDR DR, w_Effect ct aRE RE, w_Tape ct aT T] [w_Reader ct aR aDR aRE aT z6.2] [0] (fun z20 => [w_Reader ct aR aDR aRE aT z20.2]) 0 0 6 rfl rfl rfl cl_X6_72 (c_X6_failAt l D ct F aR aDR aRE aT z6.2 (R 0 6)) rfl (by decide) (fun _ => lc fa_Reader (rfl)) rfl ⟨by decide, by decide⟩ (Nat.le_of_ble_eq_true rfl) rfl dX6_readLine_20 (fun z20 => ?_)
    refine im_ws (cat [w_Reader ct aR aDR aRE aT z20.2, w_Cloth ct aDR DR, w_Effect ct aRE RE, w_Tape ct aT T]) rfl ?_
    exact im_zreturnc X (z20.1, z20.2, DR, RE) rfl rfl dX6_readLine_23
theorem c_X6_readLine (l : Launch) (D : va_G) (ct : im_ct) (F : Nat) (aR aDR aRE aT : Nat → Nat) (R : Mem) (DR : Mem) (RE : Mem) (T : Mem) : CMi l D ct yX6_readLine cX6_readLine 3 (some .boolean) 6 [.ref (aR 0)] (cat [w_Reader ct aR aDR aRE aT R, w_Cloth ct aDR DR, w_Effect ct aRE RE, w_Tape ct aT T]) (f_X6_readLine F R DR RE T) (fun z : Int32 × Mem × Mem × Mem => z.1) (fun z : Int32 × Mem × Mem × Mem => (cat [w_Reader ct aR aDR aRE aT z.2.1, w_Cloth ct aDR z.2.2.1, w_Effect ct aRE z.2.2.2, w_Tape ct aT T])) :=
  im_met (Qb := fun A => QI D A (fun z : Int32 × Mem × Mem × Mem => z.1) (fun z : Int32 × Mem × Mem × Mem => (cat [w_Reader ct aR aDR aRE aT z.2.1, w_Cloth ct aDR z.2.2.1, w_Effect ct aRE z.2.2.2, w_Tape ct aT T]))) (by decide +kernel) (Nat.le_of_ble_eq_true rfl) (fun p e s m args below meth c A X => i_X6_readLine X F aR aDR aRE aT R DR RE T)

noncomputable def f_X6_readAll_39 (F : Nat) (T : Mem) (k64 : Mem → Mem → Mem → Option (Int32 × Mem × Mem × Mem)) (k79 : Mem → Mem → Mem → Option (Int32 × Mem × Mem × Mem)) : Nat → Mem → Mem → Mem → Int32 → Option (Int32 × Mem × Mem × Mem)
  | 0, _, _, _, _ => none
  | n + 1, R, DR, RE, x1 =>
  (if 400 ≤ x1 then k79 R DR RE else (if (R 0 5) ≤ (R 0 6) then k79 R DR RE else (f_X6_readLine F R DR RE T).bind (fun z58 => (if z58.1 = 0 then k64 z58.2.1 z58.2.2.1 z58.2.2.2 else (f_X6_skipBlanks F z58.2.1 T).bind (fun z70 => f_X6_readAll_39 F T k64 k79 n z70 z58.2.2.1 z58.2.2.2 (x1 + 1))))))
set_option maxRecDepth 100000 in
set_option maxHeartbeats 4000000 in
theorem i_X6_readAll_39 {p : Program} {l : Launch} {e : Env} {s : State} {m : MethodId} {args : Array Value} {below : List Frame} {meth : Method} {c : Code} {D : va_G} {ct : im_ct} {A : Nat → Prop} (X : im_X p (im_rm 7) s m args meth c D ct A RX6 cX6_readAll 2 (some .int)) (F : Nat) (aR aDR aRE aT : Nat → Nat) (T : Mem) (k64 : Mem → Mem → Mem → Option (Int32 × Mem × Mem × Mem)) (hk64 : ∀ (R : Mem) (DR : Mem) (RE : Mem), Im p l e (im_rm 7) s m args below meth c D A 2 (QI D A (fun z : Int32 × Mem × Mem × Mem => z.1) (fun z : Int32 × Mem × Mem × Mem => (cat [w_Reader ct aR aDR aRE aT z.2.1, w_Cloth ct aDR z.2.2.1, w_Effect ct aRE z.2.2.2, w_Tape ct aT T]))) 64 [(0, .ref (aR 0))] [] (cat [w_Reader ct aR aDR aRE aT R, w_Cloth ct aDR DR, w_Effect ct aRE RE, w_Tape ct aT T]) (k64 R DR RE)) (k79 : Mem → Mem → Mem → Option (Int32 × Mem × Mem × Mem)) (hk79 : ∀ (R : Mem) (DR : Mem) (RE : Mem), Im p l e (im_rm 7) s m args below meth c D A 2 (QI D A (fun z : Int32 × Mem × Mem × Mem => z.1) (fun z : Int32 × Mem × Mem × Mem => (cat [w_Reader ct aR aDR aRE aT z.2.1, w_Cloth ct aDR z.2.2.1, w_Effect ct aRE z.2.2.2, w_Tape ct aT T]))) 79 [] [] (cat [w_Reader ct aR aDR aRE aT R, w_Cloth ct aDR DR, w_Effect ct aRE RE, w_Tape ct aT T]) (k79 R DR RE)) : ∀ (n : Nat) (R : Mem) (DR : Mem) (RE : Mem) (x1 : Int32), Im p l e (im_rm 7) s m args below meth c D A 2 (QI D A (fun z : Int32 × Mem × Mem × Mem => z.1) (fun z : Int32 × Mem × Mem × Mem => (cat [w_Reader ct aR aDR aRE aT z.2.1, w_Cloth ct aDR z.2.2.1, w_Effect ct aRE z.2.2.2, w_Tape ct aT T]))) 39 [(0, .ref (aR 0)), (1, .int x1)] [] (cat [w_Reader ct aR aDR aRE aT R, w_Cloth ct aDR DR, w_Effect ct aRE RE, w_Tape ct aT T]) (f_X6_readAll_39 F T k64 k79 n R DR RE x1) := by
  intro n
  induction n with
  | zero => intros; exact im_none
  | succ n ih =>
    intro R DR RE x1
    unfold f_X6_readAll_39
    refine im_iload_n X 1 dX6_readAll_39 rfl rfl ?_
    refine im_sipush X 400 dX6_readAll_40 (by decide) ?_
    refine im_icmp_ge (tgt := 79) X dX6_readAll_43 rfl ?_ ?_
    · refine im_lv [] [] rfl ?_
      exact hk79 R DR RE
    · refine im_aload_n X 0 dX6_readAll_46 rfl rfl ?_
      refine im_cget X 0 0 (v := .int (R 0 6)) fl_X6_45 rfl rfl rfl dX6_readAll_47 ?_
      refine im_aload_n X 0 dX6_readAll_50 rfl rfl ?_
      refine im_cget X 0 0 (v := .int (R 0 5)) fl_X6_44 rfl rfl rfl dX6_readAll_51 ?_
      refine im_icmp_ge (tgt := 79) X dX6_readAll_54 rfl ?_ ?_
      · refine im_lv [] [] rfl ?_
        exact hk79 R DR RE
      · refine im_aload_n X 0 dX6_readAll_57 rfl rfl ?_
        refine im_cciV X [] [] [w_Reader ct aR aDR aRE aT R, w_Cloth ct aDR DR, w_Effect ct aRE RE, w_Tape ct aT T] [w_Reader ct aR aDR aRE aT R, w_Cloth ct aDR DR, w_Effect ct aRE RE, w_Tape ct aT T] [0, 1, 2, 3] (fun z58 => [w_Reader ct aR aDR aRE aT z58.2.1, w_Cloth ct aDR z58.2.2.1, w_Effect ct aRE z58.2.2.2, w_Tape ct aT T]) 0 0 6 rfl rfl rfl cl_X6_60 (c_X6_readLine l D ct F aR aDR aRE aT R DR RE T) rfl (by decide) (fun _ => lc fa_Reader (lc fa_Cloth (lc fa_Effect (lc rfl (rfl))))) rfl ⟨by decide, by decide⟩ (Nat.le_of_ble_eq_true rfl) rfl dX6_readAll_58 (fun z58 => ?_)
        refine im_ws (cat [w_Reader ct aR aDR aRE aT z58.2.1, w_Cloth ct aDR z58.2.2.1, w_Effect ct aRE z58.2.2.2, w_Tape ct aT T]) rfl ?_
        refine im_if_ne (tgt := 69) X dX6_readAll_61 rfl ?_ ?_
        · refine im_aload_n X 0 dX6_readAll_69 rfl rfl ?_
          refine im_ccvV X [] [] [w_Reader ct aR aDR aRE aT z58.2.1, w_Cloth ct aDR z58.2.2.1, w_Effect ct aRE z58.2.2.2, w_Tape ct aT T] [w_Reader ct aR aDR aRE aT z58.2.1, w_Tape ct aT T] [0, 3] (fun z70 => [w_Reader ct aR aDR aRE aT z70, w_Tape ct aT T]) 0 0 6 rfl rfl rfl cl_X6_57 (c_X6_skipBlanks l D ct F aR aDR aRE aT z58.2.1 T) rfl (by decide) (fun _ => lc fa_Reader (lc rfl (rfl))) rfl ⟨by decide, by decide⟩ (Nat.le_of_ble_eq_true rfl) rfl dX6_readAll_70 (fun z70 => ?_)
          refine im_ws (cat [w_Reader ct aR aDR aRE aT z70, w_Cloth ct aDR z58.2.2.1, w_Effect ct aRE z58.2.2.2, w_Tape ct aT T]) rfl ?_
          refine im_iinc X 1 1 [1, 0] [(0, .ref (aR 0)), (1, .int (x1 + 1))] dX6_readAll_73 (by decide) rfl (by decide) rfl ?_
          refine im_goto (tgt := 39) X dX6_readAll_76 rfl ?_
          exact ih z70 z58.2.2.1 z58.2.2.2 (x1 + 1)
        · refine im_lv [0] [(0, .ref (aR 0))] rfl ?_
          exact hk64 z58.2.1 z58.2.2.1 z58.2.2.2
noncomputable def f_X6_readAll (F : Nat) (R : Mem) (DR : Mem) (RE : Mem) (T : Mem) : Option (Int32 × Mem × Mem × Mem) :=
  (f_X0_emptyAll F DR).bind (fun z30 => (f_X6_skipBlanks F (mr R 0 (fu (fu (fu (fu (R 0) 5 (T 0 1)) 6 0) 7 0) 8 (-1))) T).bind (fun z34 => f_X6_readAll_39 F T (fun R_64 DR_64 RE_64 => (some ((R_64 0 8), R_64, DR_64, RE_64))) (fun R_79 DR_79 RE_79 => (some ((-1), R_79, DR_79, RE_79))) F z34 z30 RE 0))
set_option maxRecDepth 100000 in
set_option maxHeartbeats 4000000 in
theorem i_X6_readAll {p : Program} {l : Launch} {e : Env} {s : State} {m : MethodId} {args : Array Value} {below : List Frame} {meth : Method} {c : Code} {D : va_G} {ct : im_ct} {A : Nat → Prop} (X : im_X p (im_rm 7) s m args meth c D ct A RX6 cX6_readAll 2 (some .int)) (F : Nat) (aR aDR aRE aT : Nat → Nat) (R : Mem) (DR : Mem) (RE : Mem) (T : Mem) : Im p l e (im_rm 7) s m args below meth c D A 2 (QI D A (fun z : Int32 × Mem × Mem × Mem => z.1) (fun z : Int32 × Mem × Mem × Mem => (cat [w_Reader ct aR aDR aRE aT z.2.1, w_Cloth ct aDR z.2.2.1, w_Effect ct aRE z.2.2.2, w_Tape ct aT T]))) 0 [(0, .ref (aR 0))] [] (cat [w_Reader ct aR aDR aRE aT R, w_Cloth ct aDR DR, w_Effect ct aRE RE, w_Tape ct aT T]) (f_X6_readAll F R DR RE T) := by
  unfold f_X6_readAll
  refine im_aload_n X 0 dX6_readAll_0 rfl rfl ?_
  refine im_aload_n X 0 dX6_readAll_1 rfl rfl ?_
  refine im_cget X 0 0 (v := .ref (aT 0)) fl_X6_32 rfl rfl rfl dX6_readAll_2 ?_
  refine im_cget X 3 0 (v := .int (T 0 1)) fl_X6_40 rfl rfl rfl dX6_readAll_5 ?_
  refine im_cput X 0 0 (wx_Reader ct aR aDR aRE aT (T 0 1) (R 0 6) (R 0 7) (R 0 8) (R 1)) [wx_Reader ct aR aDR aRE aT (T 0 1) (R 0 6) (R 0 7) (R 0 8) (R 1), w_Cloth ct aDR DR, w_Effect ct aRE RE, w_Tape ct aT T] fl_X6_44 rfl rfl rfl rfl (Nat.le_of_ble_eq_true rfl) rfl rfl dX6_readAll_8 ?_
  refine im_aload_n X 0 dX6_readAll_11 rfl rfl ?_
  refine im_iconst X 0 dX6_readAll_12 (by decide) ?_
  refine im_cput X 0 0 (wx_Reader ct aR aDR aRE aT (T 0 1) 0 (R 0 7) (R 0 8) (R 1)) [wx_Reader ct aR aDR aRE aT (T 0 1) 0 (R 0 7) (R 0 8) (R 1), w_Cloth ct aDR DR, w_Effect ct aRE RE, w_Tape ct aT T] fl_X6_45 rfl rfl rfl rfl (Nat.le_of_ble_eq_true rfl) rfl rfl dX6_readAll_13 ?_
  refine im_aload_n X 0 dX6_readAll_16 rfl rfl ?_
  refine im_iconst X 0 dX6_readAll_17 (by decide) ?_
  refine im_cput X 0 0 (wx_Reader ct aR aDR aRE aT (T 0 1) 0 0 (R 0 8) (R 1)) [wx_Reader ct aR aDR aRE aT (T 0 1) 0 0 (R 0 8) (R 1), w_Cloth ct aDR DR, w_Effect ct aRE RE, w_Tape ct aT T] fl_X6_48 rfl rfl rfl rfl (Nat.le_of_ble_eq_true rfl) rfl rfl dX6_readAll_18 ?_
  refine im_aload_n X 0 dX6_readAll_21 rfl rfl ?_
  refine im_iconst X (-1) dX6_readAll_22 (by decide) ?_
  refine im_cput X 0 0 (wx_Reader ct aR aDR aRE aT (T 0 1) 0 0 (-1) (R 1)) [wx_Reader ct aR aDR aRE aT (T 0 1) 0 0 (-1) (R 1), w_Cloth ct aDR DR, w_Effect ct aRE RE, w_Tape ct aT T] fl_X6_51 rfl rfl rfl rfl (Nat.le_of_ble_eq_true rfl) rfl rfl dX6_readAll_23 ?_
  refine im_aload_n X 0 dX6_readAll_26 rfl rfl ?_
  refine im_cget X 0 0 (v := .ref (aDR 0)) fl_X6_12 rfl rfl rfl dX6_readAll_27 ?_
  refine im_ccvV X [] [] [wx_Reader ct aR aDR aRE aT (T 0 1) 0 0 (-1) (R 1), w_Cloth ct aDR DR, w_Effect ct aRE RE, w_Tape ct aT T] [w_Cloth ct aDR DR] [1] (fun z30 => [w_Cloth ct aDR z30]) 1 0 0 rfl rfl rfl cl_X6_54 (c_X0_emptyAll l D ct F aDR DR) rfl (by decide) (fun _ => lc fa_Cloth (rfl)) rfl ⟨by decide, by decide⟩ (Nat.le_of_ble_eq_true rfl) rfl dX6_readAll_30 (fun z30 => ?_)
  refine im_ws (cat [wx_Reader ct aR aDR aRE aT (T 0 1) 0 0 (-1) (R 1), w_Cloth ct aDR z30, w_Effect ct aRE RE, w_Tape ct aT T]) rfl ?_
  refine im_aload_n X 0 dX6_readAll_33 rfl rfl ?_
  refine im_ccvV X [] [] [wx_Reader ct aR aDR aRE aT (T 0 1) 0 0 (-1) (R 1), w_Cloth ct aDR z30, w_Effect ct aRE RE, w_Tape ct aT T] [w_Reader ct aR aDR aRE aT (mr R 0 (fu (fu (fu (fu (R 0) 5 (T 0 1)) 6 0) 7 0) 8 (-1))), w_Tape ct aT T] [0, 3] (fun z34 => [w_Reader ct aR aDR aRE aT z34, w_Tape ct aT T]) 0 0 6 rfl rfl rfl cl_X6_57 (c_X6_skipBlanks l D ct F aR aDR aRE aT (mr R 0 (fu (fu (fu (fu (R 0) 5 (T 0 1)) 6 0) 7 0) 8 (-1))) T) rfl (by decide) (fun _ => lc fa_Reader (lc rfl (rfl))) rfl ⟨by decide, by decide⟩ (Nat.le_of_ble_eq_true rfl) rfl dX6_readAll_34 (fun z34 => ?_)
  refine im_ws (cat [w_Reader ct aR aDR aRE aT z34, w_Cloth ct aDR z30, w_Effect ct aRE RE, w_Tape ct aT T]) rfl ?_
  refine im_iconst X 0 dX6_readAll_37 (by decide) ?_
  refine im_istore_n X [1, 0] [(0, .ref (aR 0)), (1, .int 0)] dX6_readAll_38 rfl (by decide) rfl ?_
  refine i_X6_readAll_39 X F aR aDR aRE aT T  _ (fun R_64 DR_64 RE_64 => ?_) _ (fun R_79 DR_79 RE_79 => ?_) F z34 z30 RE 0
  · refine im_aload_n X 0 dX6_readAll_64 rfl rfl ?_
    refine im_cget X 0 0 (v := .int (R_64 0 8)) fl_X6_51 rfl rfl rfl dX6_readAll_65 ?_
    exact im_ireturn X ((R_64 0 8), R_64, DR_64, RE_64) rfl rfl dX6_readAll_68
  · refine im_iconst X (-1) dX6_readAll_79 (by decide) ?_
    exact im_ireturn X ((-1), R_79, DR_79, RE_79) rfl rfl dX6_readAll_80
theorem c_X6_readAll (l : Launch) (D : va_G) (ct : im_ct) (F : Nat) (aR aDR aRE aT : Nat → Nat) (R : Mem) (DR : Mem) (RE : Mem) (T : Mem) : CMi l D ct yX6_readAll cX6_readAll 2 (some .int) 7 [.ref (aR 0)] (cat [w_Reader ct aR aDR aRE aT R, w_Cloth ct aDR DR, w_Effect ct aRE RE, w_Tape ct aT T]) (f_X6_readAll F R DR RE T) (fun z : Int32 × Mem × Mem × Mem => z.1) (fun z : Int32 × Mem × Mem × Mem => (cat [w_Reader ct aR aDR aRE aT z.2.1, w_Cloth ct aDR z.2.2.1, w_Effect ct aRE z.2.2.2, w_Tape ct aT T])) :=
  im_met (Qb := fun A => QI D A (fun z : Int32 × Mem × Mem × Mem => z.1) (fun z : Int32 × Mem × Mem × Mem => (cat [w_Reader ct aR aDR aRE aT z.2.1, w_Cloth ct aDR z.2.2.1, w_Effect ct aRE z.2.2.2, w_Tape ct aT T]))) (by decide +kernel) (Nat.le_of_ble_eq_true rfl) (fun p e s m args below meth c A X => i_X6_readAll X F aR aDR aRE aT R DR RE T)
