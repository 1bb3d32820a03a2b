noncomputable def f_X4_setBounds_3 (F : Nat) (C : Mem) (x2 : Int32) (x3 : Int32) (k81 : Mem → Option (Mem)) : Nat → Mem → Int32 → Option (Mem)
  | 0, _, _ => none
  | n + 1, Y, x4 =>
  (if (Y 0 7) ≤ x4 then k81 Y else ck ((x2 * 6) + x4) 24 (ck ((x3 * 6) + x4) 24 (ck x4 6 (ck x4 6 (f_X4_setBounds_3 F C x2 x3 k81 n (mr (mr Y 2 (upd (Y 2) x4.toNatClampNeg (if (-((C 3) (((x3 * 6) + x4)).toNatClampNeg)) < (((C 3) (((x2 * 6) + x4)).toNatClampNeg) - 99) then (((C 3) (((x2 * 6) + x4)).toNatClampNeg) - 99) else (-((C 3) (((x3 * 6) + x4)).toNatClampNeg))))) 3 (upd (Y 3) x4.toNatClampNeg (if (99 - ((C 3) (((x3 * 6) + x4)).toNatClampNeg)) < ((C 3) (((x2 * 6) + x4)).toNatClampNeg) then (99 - ((C 3) (((x3 * 6) + x4)).toNatClampNeg)) else ((C 3) (((x2 * 6) + x4)).toNatClampNeg)))) (x4 + 1))))))
set_option maxRecDepth 100000 in
set_option maxHeartbeats 4000000 in
theorem i_X4_setBounds_3 {p : Program} {l : Launch} {e : Env} {s : State} {m : MethodId} {args : Array Value} {below : List Frame} {meth : Method} {c : Code} {D : va_G} {ct : im_ct} {A : Nat → Prop} (X : im_X p (im_rm 1) s m args meth c D ct A RX4 cX4_setBounds 7 none) (F : Nat) (aY aC : Nat → Nat) (C : Mem) (x2 : Int32) (x3 : Int32) (k81 : Mem → Option (Mem)) (hk81 : ∀ (Y : Mem), Im p l e (im_rm 1) s m args below meth c D A 7 (QV D A (fun z : Mem => (cat [w_Payment ct aY z, w_Cloth ct aC C]))) 81 [] [] (cat [w_Payment ct aY Y, w_Cloth ct aC C]) (k81 Y)) : ∀ (n : Nat) (Y : Mem) (x4 : Int32), Im p l e (im_rm 1) s m args below meth c D A 7 (QV D A (fun z : Mem => (cat [w_Payment ct aY z, w_Cloth ct aC C]))) 3 [(0, .ref (aY 0)), (1, .ref (aC 0)), (2, .int x2), (3, .int x3), (4, .int x4)] [] (cat [w_Payment ct aY Y, w_Cloth ct aC C]) (f_X4_setBounds_3 F C x2 x3 k81 n Y x4) := by
  intro n
  induction n with
  | zero => intros; exact im_none
  | succ n ih =>
    intro Y x4
    unfold f_X4_setBounds_3
    refine im_iload X 4 dX4_setBounds_3 rfl ?_
    refine im_aload_n X 0 dX4_setBounds_5 rfl rfl ?_
    refine im_cget X 0 0 (v := .int (Y 0 7)) fl_X4_59 rfl rfl rfl dX4_setBounds_6 ?_
    refine im_icmp_ge (tgt := 81) X dX4_setBounds_9 rfl ?_ ?_
    · refine im_lv [] [] rfl ?_
      exact hk81 Y
    · refine im_aload_n X 1 dX4_setBounds_12 rfl rfl ?_
      refine im_cget X 1 0 (v := .ref (aC 3)) fl_X4_83 rfl rfl rfl dX4_setBounds_13 ?_
      refine im_iload_n X 2 dX4_setBounds_16 rfl rfl ?_
      refine im_bipush X 6 dX4_setBounds_17 (by decide) ?_
      refine im_imul X dX4_setBounds_19 ?_
      refine im_iload X 4 dX4_setBounds_20 rfl ?_
      refine im_iadd X dX4_setBounds_22 ?_
      refine im_ciald X 1 3 0 (f := (C 3)) rfl rfl rfl dX4_setBounds_23 ?_
      refine im_istore X [1, 2, 3, 4, 5, 0] [(0, .ref (aY 0)), (1, .ref (aC 0)), (2, .int x2), (3, .int x3), (4, .int x4), (5, .int ((C 3) (((x2 * 6) + x4)).toNatClampNeg))] dX4_setBounds_24 (by decide) rfl ?_
      refine im_aload_n X 1 dX4_setBounds_26 rfl rfl ?_
      refine im_cget X 1 0 (v := .ref (aC 3)) fl_X4_83 rfl rfl rfl dX4_setBounds_27 ?_
      refine im_iload_n X 3 dX4_setBounds_30 rfl rfl ?_
      refine im_bipush X 6 dX4_setBounds_31 (by decide) ?_
      refine im_imul X dX4_setBounds_33 ?_
      refine im_iload X 4 dX4_setBounds_34 rfl ?_
      refine im_iadd X dX4_setBounds_36 ?_
      refine im_ciald X 1 3 0 (f := (C 3)) rfl rfl rfl dX4_setBounds_37 ?_
      refine im_istore X [1, 2, 3, 4, 5, 6, 0] [(0, .ref (aY 0)), (1, .ref (aC 0)), (2, .int x2), (3, .int x3), (4, .int x4), (5, .int ((C 3) (((x2 * 6) + x4)).toNatClampNeg)), (6, .int ((C 3) (((x3 * 6) + x4)).toNatClampNeg))] dX4_setBounds_38 (by decide) rfl ?_
      refine im_aload_n X 0 dX4_setBounds_40 rfl rfl ?_
      refine im_cget X 0 0 (v := .ref (aY 2)) fl_X4_15 rfl rfl rfl dX4_setBounds_41 ?_
      refine im_iload X 4 dX4_setBounds_44 rfl ?_
      refine im_iload X 6 dX4_setBounds_46 rfl ?_
      refine im_ineg X dX4_setBounds_48 ?_
      refine im_iload X 5 dX4_setBounds_49 rfl ?_
      refine im_bipush X 99 dX4_setBounds_51 (by decide) ?_
      refine im_isub X dX4_setBounds_53 ?_
      refine im_mmax X mt1_X4_86 mt2_max mt3 mt4_max ⟨by decide, Nat.le_of_ble_eq_true rfl⟩ dX4_setBounds_54 ?_
      refine im_ciast X 0 2 0 (wx_Payment ct aY (Y 0 7) (Y 0 8) (Y 0 9) (Y 0 10) (Y 0 11) (Y 0 12) (Y 1) (upd (Y 2) x4.toNatClampNeg (if (-((C 3) (((x3 * 6) + x4)).toNatClampNeg)) < (((C 3) (((x2 * 6) + x4)).toNatClampNeg) - 99) then (((C 3) (((x2 * 6) + x4)).toNatClampNeg) - 99) else (-((C 3) (((x3 * 6) + x4)).toNatClampNeg)))) (Y 3) (Y 4) (Y 5) (Y 6) (Y 7)) [wx_Payment ct aY (Y 0 7) (Y 0 8) (Y 0 9) (Y 0 10) (Y 0 11) (Y 0 12) (Y 1) (upd (Y 2) x4.toNatClampNeg (if (-((C 3) (((x3 * 6) + x4)).toNatClampNeg)) < (((C 3) (((x2 * 6) + x4)).toNatClampNeg) - 99) then (((C 3) (((x2 * 6) + x4)).toNatClampNeg) - 99) else (-((C 3) (((x3 * 6) + x4)).toNatClampNeg)))) (Y 3) (Y 4) (Y 5) (Y 6) (Y 7), w_Cloth ct aC C] (f := (Y 2)) rfl rfl rfl rfl rfl dX4_setBounds_57 ?_
      refine im_aload_n X 0 dX4_setBounds_58 rfl rfl ?_
      refine im_cget X 0 0 (v := .ref (aY 3)) fl_X4_18 rfl rfl rfl dX4_setBounds_59 ?_
      refine im_iload X 4 dX4_setBounds_62 rfl ?_
      refine im_iload X 5 dX4_setBounds_64 rfl ?_
      refine im_bipush X 99 dX4_setBounds_66 (by decide) ?_
      refine im_iload X 6 dX4_setBounds_68 rfl ?_
      refine im_isub X dX4_setBounds_70 ?_
      refine im_mmin X mt1_X4_91 mt2_min mt3 mt4_min ⟨by decide, Nat.le_of_ble_eq_true rfl⟩ dX4_setBounds_71 ?_
      refine im_ciast X 0 3 0 (wx_Payment ct aY (Y 0 7) (Y 0 8) (Y 0 9) (Y 0 10) (Y 0 11) (Y 0 12) (Y 1) (upd (Y 2) x4.toNatClampNeg (if (-((C 3) (((x3 * 6) + x4)).toNatClampNeg)) < (((C 3) (((x2 * 6) + x4)).toNatClampNeg) - 99) then (((C 3) (((x2 * 6) + x4)).toNatClampNeg) - 99) else (-((C 3) (((x3 * 6) + x4)).toNatClampNeg)))) (upd (Y 3) x4.toNatClampNeg (if (99 - ((C 3) (((x3 * 6) + x4)).toNatClampNeg)) < ((C 3) (((x2 * 6) + x4)).toNatClampNeg) then (99 - ((C 3) (((x3 * 6) + x4)).toNatClampNeg)) else ((C 3) (((x2 * 6) + x4)).toNatClampNeg))) (Y 4) (Y 5) (Y 6) (Y 7)) [wx_Payment ct aY (Y 0 7) (Y 0 8) (Y 0 9) (Y 0 10) (Y 0 11) (Y 0 12) (Y 1) (upd (Y 2) x4.toNatClampNeg (if (-((C 3) (((x3 * 6) + x4)).toNatClampNeg)) < (((C 3) (((x2 * 6) + x4)).toNatClampNeg) - 99) then (((C 3) (((x2 * 6) + x4)).toNatClampNeg) - 99) else (-((C 3) (((x3 * 6) + x4)).toNatClampNeg)))) (upd (Y 3) x4.toNatClampNeg (if (99 - ((C 3) (((x3 * 6) + x4)).toNatClampNeg)) < ((C 3) (((x2 * 6) + x4)).toNatClampNeg) then (99 - ((C 3) (((x3 * 6) + x4)).toNatClampNeg)) else ((C 3) (((x2 * 6) + x4)).toNatClampNeg))) (Y 4) (Y 5) (Y 6) (Y 7), w_Cloth ct aC C] (f := (Y 3)) rfl rfl rfl rfl rfl dX4_setBounds_74 ?_
      refine im_iinc X 4 1 [1, 2, 3, 4, 0, 5, 6] [(0, .ref (aY 0)), (1, .ref (aC 0)), (2, .int x2), (3, .int x3), (4, .int (x4 + 1)), (5, .int ((C 3) (((x2 * 6) + x4)).toNatClampNeg)), (6, .int ((C 3) (((x3 * 6) + x4)).toNatClampNeg))] dX4_setBounds_75 (by decide) rfl (by decide) rfl ?_
      refine im_goto (tgt := 3) X dX4_setBounds_78 rfl ?_
      refine im_lv [0, 1, 2, 3, 4] [(0, .ref (aY 0)), (1, .ref (aC 0)), (2, .int x2), (3, .int x3), (4, .int (x4 + 1))] rfl ?_
      exact ih (mr (mr Y 2 (upd (Y 2) x4.toNatClampNeg (if (-((C 3) (((x3 * 6) + x4)).toNatClampNeg)) < (((C 3) (((x2 * 6) + x4)).toNatClampNeg) - 99) then (((C 3) (((x2 * 6) + x4)).toNatClampNeg) - 99) else (-((C 3) (((x3 * 6) + x4)).toNatClampNeg))))) 3 (upd (Y 3) x4.toNatClampNeg (if (99 - ((C 3) (((x3 * 6) + x4)).toNatClampNeg)) < ((C 3) (((x2 * 6) + x4)).toNatClampNeg) then (99 - ((C 3) (((x3 * 6) + x4)).toNatClampNeg)) else ((C 3) (((x2 * 6) + x4)).toNatClampNeg)))) (x4 + 1)
noncomputable def f_X4_setBounds (F : Nat) (Y : Mem) (C : Mem) (x2 : Int32) (x3 : Int32) : Option (Mem) :=
  f_X4_setBounds_3 F C x2 x3 (fun Y_81 => (some Y_81)) F Y 0
set_option maxRecDepth 100000 in
set_option maxHeartbeats 4000000 in
theorem i_X4_setBounds {p : Program} {l : Launch} {e : Env} {s : State} {m : MethodId} {args : Array Value} {below : List Frame} {meth : Method} {c : Code} {D : va_G} {ct : im_ct} {A : Nat → Prop} (X : im_X p (im_rm 1) s m args meth c D ct A RX4 cX4_setBounds 7 none) (F : Nat) (aY aC : Nat → Nat) (Y : Mem) (C : Mem) (x2 : Int32) (x3 : Int32) : Im p l e (im_rm 1) s m args below meth c D A 7 (QV D A (fun z : Mem => (cat [w_Payment ct aY z, w_Cloth ct aC C]))) 0 [(0, .ref (aY 0)), (1, .ref (aC 0)), (2, .int x2), (3, .int x3)] [] (cat [w_Payment ct aY Y, w_Cloth ct aC C]) (f_X4_setBounds F Y C x2 x3) := by
  unfold f_X4_setBounds
  refine im_iconst X 0 dX4_setBounds_0 (by decide) ?_
  refine im_istore X [1, 2, 3, 4, 0] [(0, .ref (aY 0)), (1, .ref (aC 0)), (2, .int x2), (3, .int x3), (4, .int 0)] dX4_setBounds_1 (by decide) rfl ?_
  refine i_X4_setBounds_3 X F aY aC C x2 x3 _ (fun Y_81 => ?_) F Y 0
  exact im_return X Y_81 rfl dX4_setBounds_81
theorem c_X4_setBounds (l : Launch) (D : va_G) (ct : im_ct) (F : Nat) (aY aC : Nat → Nat) (Y : Mem) (C : Mem) (x2 : Int32) (x3 : Int32) : CMv l D ct yX4_setBounds cX4_setBounds 7 none 1 [.ref (aY 0), .ref (aC 0), .int x2, .int x3] (cat [w_Payment ct aY Y, w_Cloth ct aC C]) (f_X4_setBounds F Y C x2 x3) (fun z : Mem => (cat [w_Payment ct aY z, w_Cloth ct aC C])) :=
  im_met (Qb := fun A => QV D A (fun z : Mem => (cat [w_Payment ct aY z, w_Cloth ct aC C]))) (by decide +kernel) (Nat.le_of_ble_eq_true rfl) (fun p e s m args below meth c A X => i_X4_setBounds X F aY aC Y C x2 x3)

noncomputable def f_X4_setShifts_23 (F : Nat) (C : Mem) (k160 : Mem → Option (Mem)) : Nat → Mem → Int32 → Option (Mem)
  | 0, _, _ => none
  | n + 1, Y, x3 =>
  (if (Y 0 7) ≤ x3 then k160 Y else ck x3 6 (ck (x3 - 1) 6 (dv (if 2 < ((C 1) x3.toNatClampNeg) then ((C 1) x3.toNatClampNeg) else 2) (ck x3 6 (ck (x3 - 1) 6 (dv (if 2 < ((C 1) x3.toNatClampNeg) then ((C 1) x3.toNatClampNeg) else 2) (ck (x3 - 1) 6 (ck (x3 - 1) 6 ((f_JM_floorDiv F ((((Y 3) ((x3 - 1)).toNatClampNeg) - ((Y 5) ((x3 - 1)).toNatClampNeg)) - (((upd (Y 4) x3.toNatClampNeg (((Y 4) ((x3 - 1)).toNatClampNeg) / (if 2 < ((C 1) x3.toNatClampNeg) then ((C 1) x3.toNatClampNeg) else 2))) ((x3 - 1)).toNatClampNeg) - ((upd (Y 4) x3.toNatClampNeg (((Y 4) ((x3 - 1)).toNatClampNeg) / (if 2 < ((C 1) x3.toNatClampNeg) then ((C 1) x3.toNatClampNeg) else 2))) ((x3 - 1)).toNatClampNeg) / (if 2 < ((C 1) x3.toNatClampNeg) then ((C 1) x3.toNatClampNeg) else 2) * (if 2 < ((C 1) x3.toNatClampNeg) then ((C 1) x3.toNatClampNeg) else 2))) (if 2 < ((C 1) x3.toNatClampNeg) then ((C 1) x3.toNatClampNeg) else 2)).bind (fun z95 => ck (x3 - 1) 6 (ck (x3 - 1) 6 ((f_JM_floorDiv F (((((upd (Y 4) x3.toNatClampNeg (((Y 4) ((x3 - 1)).toNatClampNeg) / (if 2 < ((C 1) x3.toNatClampNeg) then ((C 1) x3.toNatClampNeg) else 2))) ((x3 - 1)).toNatClampNeg) - ((upd (Y 4) x3.toNatClampNeg (((Y 4) ((x3 - 1)).toNatClampNeg) / (if 2 < ((C 1) x3.toNatClampNeg) then ((C 1) x3.toNatClampNeg) else 2))) ((x3 - 1)).toNatClampNeg) / (if 2 < ((C 1) x3.toNatClampNeg) then ((C 1) x3.toNatClampNeg) else 2) * (if 2 < ((C 1) x3.toNatClampNeg) then ((C 1) x3.toNatClampNeg) else 2)) + ((Y 6) ((x3 - 1)).toNatClampNeg)) - ((Y 2) ((x3 - 1)).toNatClampNeg)) (if 2 < ((C 1) x3.toNatClampNeg) then ((C 1) x3.toNatClampNeg) else 2)).bind (fun z123 => ck x3 6 (ck x3 6 (f_X4_setShifts_23 F C k160 n (mr (mr (mr Y 4 (upd (Y 4) x3.toNatClampNeg (((Y 4) ((x3 - 1)).toNatClampNeg) / (if 2 < ((C 1) x3.toNatClampNeg) then ((C 1) x3.toNatClampNeg) else 2)))) 5 (upd (Y 5) x3.toNatClampNeg (if (-100) < (-z95) then (-z95) else (-100)))) 6 (upd (Y 6) x3.toNatClampNeg (if z123 < 100 then z123 else 100))) (x3 + 1))))))))))))))))
set_option maxRecDepth 100000 in
set_option maxHeartbeats 4000000 in
theorem i_X4_setShifts_23 {p : Program} {l : Launch} {e : Env} {s : State} {m : MethodId} {args : Array Value} {below : List Frame} {meth : Method} {c : Code} {D : va_G} {ct : im_ct} {A : Nat → Prop} (X : im_X p (im_rm 1) s m args meth c D ct A RX4 cX4_setShifts 8 none) (F : Nat) (aY aC : Nat → Nat) (C : Mem) (k160 : Mem → Option (Mem)) (hk160 : ∀ (Y : Mem), Im p l e (im_rm 1) s m args below meth c D A 8 (QV D A (fun z : Mem => (cat [w_Payment ct aY z, w_Cloth ct aC C]))) 160 [] [] (cat [w_Payment ct aY Y, w_Cloth ct aC C]) (k160 Y)) : ∀ (n : Nat) (Y : Mem) (x3 : Int32), Im p l e (im_rm 1) s m args below meth c D A 8 (QV D A (fun z : Mem => (cat [w_Payment ct aY z, w_Cloth ct aC C]))) 23 [(0, .ref (aY 0)), (1, .ref (aC 0)), (3, .int x3)] [] (cat [w_Payment ct aY Y, w_Cloth ct aC C]) (f_X4_setShifts_23 F C k160 n Y x3) := by
  intro n
  induction n with
  | zero => intros; exact im_none
  | succ n ih =>
    intro Y x3
    unfold f_X4_setShifts_23
    refine im_iload_n X 2 dX4_setShifts_23 rfl rfl ?_
    refine im_aload_n X 0 dX4_setShifts_24 rfl rfl ?_
    refine im_cget X 0 0 (v := .int (Y 0 7)) fl_X4_59 rfl rfl rfl dX4_setShifts_25 ?_
    refine im_icmp_ge (tgt := 160) X dX4_setShifts_28 rfl ?_ ?_
    · refine im_lv [] [] rfl ?_
      exact hk160 Y
    · refine im_iconst X 2 dX4_setShifts_31 (by decide) ?_
      refine im_aload_n X 1 dX4_setShifts_32 rfl rfl ?_
      refine im_cget X 1 0 (v := .ref (aC 1)) fl_X4_94 rfl rfl rfl dX4_setShifts_33 ?_
      refine im_iload_n X 2 dX4_setShifts_36 rfl rfl ?_
      refine im_ciald X 1 1 0 (f := (C 1)) rfl rfl rfl dX4_setShifts_37 ?_
      refine im_mmax X mt1_X4_86 mt2_max mt3 mt4_max ⟨by decide, Nat.le_of_ble_eq_true rfl⟩ dX4_setShifts_38 ?_
      refine im_istore X [1, 2, 3, 0] [(0, .ref (aY 0)), (1, .ref (aC 0)), (3, .int x3), (4, .int (if 2 < ((C 1) x3.toNatClampNeg) then ((C 1) x3.toNatClampNeg) else 2))] dX4_setShifts_41 (by decide) rfl ?_
      refine im_aload_n X 0 dX4_setShifts_43 rfl rfl ?_
      refine im_cget X 0 0 (v := .ref (aY 4)) fl_X4_21 rfl rfl rfl dX4_setShifts_44 ?_
      refine im_iload_n X 2 dX4_setShifts_47 rfl rfl ?_
      refine im_aload_n X 0 dX4_setShifts_48 rfl rfl ?_
      refine im_cget X 0 0 (v := .ref (aY 4)) fl_X4_21 rfl rfl rfl dX4_setShifts_49 ?_
      refine im_iload_n X 2 dX4_setShifts_52 rfl rfl ?_
      refine im_iconst X 1 dX4_setShifts_53 (by decide) ?_
      refine im_isub X dX4_setShifts_54 ?_
      refine im_ciald X 0 4 0 (f := (Y 4)) rfl rfl rfl dX4_setShifts_55 ?_
      refine im_iload X 3 dX4_setShifts_56 rfl ?_
      refine im_idiv X dX4_setShifts_58 ?_
      refine im_ciast X 0 4 0 (wx_Payment ct aY (Y 0 7) (Y 0 8) (Y 0 9) (Y 0 10) (Y 0 11) (Y 0 12) (Y 1) (Y 2) (Y 3) (upd (Y 4) x3.toNatClampNeg (((Y 4) ((x3 - 1)).toNatClampNeg) / (if 2 < ((C 1) x3.toNatClampNeg) then ((C 1) x3.toNatClampNeg) else 2))) (Y 5) (Y 6) (Y 7)) [wx_Payment ct aY (Y 0 7) (Y 0 8) (Y 0 9) (Y 0 10) (Y 0 11) (Y 0 12) (Y 1) (Y 2) (Y 3) (upd (Y 4) x3.toNatClampNeg (((Y 4) ((x3 - 1)).toNatClampNeg) / (if 2 < ((C 1) x3.toNatClampNeg) then ((C 1) x3.toNatClampNeg) else 2))) (Y 5) (Y 6) (Y 7), w_Cloth ct aC C] (f := (Y 4)) rfl rfl rfl rfl rfl dX4_setShifts_59 ?_
      refine im_aload_n X 0 dX4_setShifts_60 rfl rfl ?_
      refine im_cget X 0 0 (v := .ref (aY 4)) fl_X4_21 rfl rfl rfl dX4_setShifts_61 ?_
      refine im_iload_n X 2 dX4_setShifts_64 rfl rfl ?_
      refine im_iconst X 1 dX4_setShifts_65 (by decide) ?_
      refine im_isub X dX4_setShifts_66 ?_
      refine im_ciald X 0 4 0 (f := (upd (Y 4) x3.toNatClampNeg (((Y 4) ((x3 - 1)).toNatClampNeg) / (if 2 < ((C 1) x3.toNatClampNeg) then ((C 1) x3.toNatClampNeg) else 2)))) rfl rfl rfl dX4_setShifts_67 ?_
      refine im_iload X 3 dX4_setShifts_68 rfl ?_
      refine im_irem X dX4_setShifts_70 ?_
      refine im_istore X [1, 2, 3, 4, 0] [(0, .ref (aY 0)), (1, .ref (aC 0)), (3, .int x3), (4, .int (if 2 < ((C 1) x3.toNatClampNeg) then ((C 1) x3.toNatClampNeg) else 2)), (5, .int (((upd (Y 4) x3.toNatClampNeg (((Y 4) ((x3 - 1)).toNatClampNeg) / (if 2 < ((C 1) x3.toNatClampNeg) then ((C 1) x3.toNatClampNeg) else 2))) ((x3 - 1)).toNatClampNeg) - ((upd (Y 4) x3.toNatClampNeg (((Y 4) ((x3 - 1)).toNatClampNeg) / (if 2 < ((C 1) x3.toNatClampNeg) then ((C 1) x3.toNatClampNeg) else 2))) ((x3 - 1)).toNatClampNeg) / (if 2 < ((C 1) x3.toNatClampNeg) then ((C 1) x3.toNatClampNeg) else 2) * (if 2 < ((C 1) x3.toNatClampNeg) then ((C 1) x3.toNatClampNeg) else 2)))] dX4_setShifts_71 (by decide) rfl ?_
      refine im_aload_n X 0 dX4_setShifts_73 rfl rfl ?_
      refine im_cget X 0 0 (v := .ref (aY 3)) fl_X4_18 rfl rfl rfl dX4_setShifts_74 ?_
      refine im_iload_n X 2 dX4_setShifts_77 rfl rfl ?_
      refine im_iconst X 1 dX4_setShifts_78 (by decide) ?_
      refine im_isub X dX4_setShifts_79 ?_
      refine im_ciald X 0 3 0 (f := (Y 3)) rfl rfl rfl dX4_setShifts_80 ?_
      refine im_aload_n X 0 dX4_setShifts_81 rfl rfl ?_
      refine im_cget X 0 0 (v := .ref (aY 5)) fl_X4_24 rfl rfl rfl dX4_setShifts_82 ?_
      refine im_iload_n X 2 dX4_setShifts_85 rfl rfl ?_
      refine im_iconst X 1 dX4_setShifts_86 (by decide) ?_
      refine im_isub X dX4_setShifts_87 ?_
      refine im_ciald X 0 5 0 (f := (Y 5)) rfl rfl rfl dX4_setShifts_88 ?_
      refine im_isub X dX4_setShifts_89 ?_
      refine im_iload X 4 dX4_setShifts_90 rfl ?_
      refine im_isub X dX4_setShifts_92 ?_
      refine im_iload X 3 dX4_setShifts_93 rfl ?_
      refine im_cciS X [.int ((((Y 3) ((x3 - 1)).toNatClampNeg) - ((Y 5) ((x3 - 1)).toNatClampNeg)) - (((upd (Y 4) x3.toNatClampNeg (((Y 4) ((x3 - 1)).toNatClampNeg) / (if 2 < ((C 1) x3.toNatClampNeg) then ((C 1) x3.toNatClampNeg) else 2))) ((x3 - 1)).toNatClampNeg) - ((upd (Y 4) x3.toNatClampNeg (((Y 4) ((x3 - 1)).toNatClampNeg) / (if 2 < ((C 1) x3.toNatClampNeg) then ((C 1) x3.toNatClampNeg) else 2))) ((x3 - 1)).toNatClampNeg) / (if 2 < ((C 1) x3.toNatClampNeg) then ((C 1) x3.toNatClampNeg) else 2) * (if 2 < ((C 1) x3.toNatClampNeg) then ((C 1) x3.toNatClampNeg) else 2))), .int (if 2 < ((C 1) x3.toNatClampNeg) then ((C 1) x3.toNatClampNeg) else 2)] [] [wx_Payment ct aY (Y 0 7) (Y 0 8) (Y 0 9) (Y 0 10) (Y 0 11) (Y 0 12) (Y 1) (Y 2) (Y 3) (upd (Y 4) x3.toNatClampNeg (((Y 4) ((x3 - 1)).toNatClampNeg) / (if 2 < ((C 1) x3.toNatClampNeg) then ((C 1) x3.toNatClampNeg) else 2))) (Y 5) (Y 6) (Y 7), w_Cloth ct aC C] [] [] (fun z95 => []) cl_X4_97 (c_JM_floorDiv l D ct F ((((Y 3) ((x3 - 1)).toNatClampNeg) - ((Y 5) ((x3 - 1)).toNatClampNeg)) - (((upd (Y 4) x3.toNatClampNeg (((Y 4) ((x3 - 1)).toNatClampNeg) / (if 2 < ((C 1) x3.toNatClampNeg) then ((C 1) x3.toNatClampNeg) else 2))) ((x3 - 1)).toNatClampNeg) - ((upd (Y 4) x3.toNatClampNeg (((Y 4) ((x3 - 1)).toNatClampNeg) / (if 2 < ((C 1) x3.toNatClampNeg) then ((C 1) x3.toNatClampNeg) else 2))) ((x3 - 1)).toNatClampNeg) / (if 2 < ((C 1) x3.toNatClampNeg) then ((C 1) x3.toNatClampNeg) else 2) * (if 2 < ((C 1) x3.toNatClampNeg) then ((C 1) x3.toNatClampNeg) else 2))) (if 2 < ((C 1) x3.toNatClampNeg) then ((C 1) x3.toNatClampNeg) else 2)) rfl (by decide) (fun _ => rfl) rfl ⟨by decide, by decide⟩ (Nat.le_of_ble_eq_true rfl) rfl dX4_setShifts_95 (fun z95 => ?_)
      refine im_ws (cat [wx_Payment ct aY (Y 0 7) (Y 0 8) (Y 0 9) (Y 0 10) (Y 0 11) (Y 0 12) (Y 1) (Y 2) (Y 3) (upd (Y 4) x3.toNatClampNeg (((Y 4) ((x3 - 1)).toNatClampNeg) / (if 2 < ((C 1) x3.toNatClampNeg) then ((C 1) x3.toNatClampNeg) else 2))) (Y 5) (Y 6) (Y 7), w_Cloth ct aC C]) rfl ?_
      refine im_ineg X dX4_setShifts_98 ?_
      refine im_istore X [1, 2, 3, 4, 5, 0] [(0, .ref (aY 0)), (1, .ref (aC 0)), (3, .int x3), (4, .int (if 2 < ((C 1) x3.toNatClampNeg) then ((C 1) x3.toNatClampNeg) else 2)), (5, .int (((upd (Y 4) x3.toNatClampNeg (((Y 4) ((x3 - 1)).toNatClampNeg) / (if 2 < ((C 1) x3.toNatClampNeg) then ((C 1) x3.toNatClampNeg) else 2))) ((x3 - 1)).toNatClampNeg) - ((upd (Y 4) x3.toNatClampNeg (((Y 4) ((x3 - 1)).toNatClampNeg) / (if 2 < ((C 1) x3.toNatClampNeg) then ((C 1) x3.toNatClampNeg) else 2))) ((x3 - 1)).toNatClampNeg) / (if 2 < ((C 1) x3.toNatClampNeg) then ((C 1) x3.toNatClampNeg) else 2) * (if 2 < ((C 1) x3.toNatClampNeg) then ((C 1) x3.toNatClampNeg) else 2))), (6, .int (-z95))] dX4_setShifts_99 (by decide) rfl ?_
      refine im_iload X 4 dX4_setShifts_101 rfl ?_
      refine im_aload_n X 0 dX4_setShifts_103 rfl rfl ?_
      refine im_cget X 0 0 (v := .ref (aY 6)) fl_X4_27 rfl rfl rfl dX4_setShifts_104 ?_
      refine im_iload_n X 2 dX4_setShifts_107 rfl rfl ?_
      refine im_iconst X 1 dX4_setShifts_108 (by decide) ?_
      refine im_isub X dX4_setShifts_109 ?_
      refine im_ciald X 0 6 0 (f := (Y 6)) rfl rfl rfl dX4_setShifts_110 ?_
      refine im_iadd X dX4_setShifts_111 ?_
      refine im_aload_n X 0 dX4_setShifts_112 rfl rfl ?_
      refine im_cget X 0 0 (v := .ref (aY 2)) fl_X4_15 rfl rfl rfl dX4_setShifts_113 ?_
      refine im_iload_n X 2 dX4_setShifts_116 rfl rfl ?_
      refine im_iconst X 1 dX4_setShifts_117 (by decide) ?_
      refine im_isub X dX4_setShifts_118 ?_
      refine im_ciald X 0 2 0 (f := (Y 2)) rfl rfl rfl dX4_setShifts_119 ?_
      refine im_isub X dX4_setShifts_120 ?_
      refine im_iload X 3 dX4_setShifts_121 rfl ?_
      refine im_cciS X [.int (((((upd (Y 4) x3.toNatClampNeg (((Y 4) ((x3 - 1)).toNatClampNeg) / (if 2 < ((C 1) x3.toNatClampNeg) then ((C 1) x3.toNatClampNeg) else 2))) ((x3 - 1)).toNatClampNeg) - ((upd (Y 4) x3.toNatClampNeg (((Y 4) ((x3 - 1)).toNatClampNeg) / (if 2 < ((C 1) x3.toNatClampNeg) then ((C 1) x3.toNatClampNeg) else 2))) ((x3 - 1)).toNatClampNeg) / (if 2 < ((C 1) x3.toNatClampNeg) then ((C 1) x3.toNatClampNeg) else 2) * (if 2 < ((C 1) x3.toNatClampNeg) then ((C 1) x3.toNatClampNeg) else 2)) + ((Y 6) ((x3 - 1)).toNatClampNeg)) - ((Y 2) ((x3 - 1)).toNatClampNeg)), .int (if 2 < ((C 1) x3.toNatClampNeg) then ((C 1) x3.toNatClampNeg) else 2)] [] [wx_Payment ct aY (Y 0 7) (Y 0 8) (Y 0 9) (Y 0 10) (Y 0 11) (Y 0 12) (Y 1) (Y 2) (Y 3) (upd (Y 4) x3.toNatClampNeg (((Y 4) ((x3 - 1)).toNatClampNeg) / (if 2 < ((C 1) x3.toNatClampNeg) then ((C 1) x3.toNatClampNeg) else 2))) (Y 5) (Y 6) (Y 7), w_Cloth ct aC C] [] [] (fun z123 => []) cl_X4_97 (c_JM_floorDiv l D ct F (((((upd (Y 4) x3.toNatClampNeg (((Y 4) ((x3 - 1)).toNatClampNeg) / (if 2 < ((C 1) x3.toNatClampNeg) then ((C 1) x3.toNatClampNeg) else 2))) ((x3 - 1)).toNatClampNeg) - ((upd (Y 4) x3.toNatClampNeg (((Y 4) ((x3 - 1)).toNatClampNeg) / (if 2 < ((C 1) x3.toNatClampNeg) then ((C 1) x3.toNatClampNeg) else 2))) ((x3 - 1)).toNatClampNeg) / (if 2 < ((C 1) x3.toNatClampNeg) then ((C 1) x3.toNatClampNeg) else 2) * (if 2 < ((C 1) x3.toNatClampNeg) then ((C 1) x3.toNatClampNeg) else 2)) + ((Y 6) ((x3 - 1)).toNatClampNeg)) - ((Y 2) ((x3 - 1)).toNatClampNeg)) (if 2 < ((C 1) x3.toNatClampNeg) then ((C 1) x3.toNatClampNeg) else 2)) rfl (by decide) (fun _ => rfl) rfl ⟨by decide, by decide⟩ (Nat.le_of_ble_eq_true rfl) rfl dX4_setShifts_123 (fun z123 => ?_)
      refine im_ws (cat [wx_Payment ct aY (Y 0 7) (Y 0 8) (Y 0 9) (Y 0 10) (Y 0 11) (Y 0 12) (Y 1) (Y 2) (Y 3) (upd (Y 4) x3.toNatClampNeg (((Y 4) ((x3 - 1)).toNatClampNeg) / (if 2 < ((C 1) x3.toNatClampNeg) then ((C 1) x3.toNatClampNeg) else 2))) (Y 5) (Y 6) (Y 7), w_Cloth ct aC C]) rfl ?_
      refine im_istore X [1, 2, 3, 4, 5, 6, 0] [(0, .ref (aY 0)), (1, .ref (aC 0)), (3, .int x3), (4, .int (if 2 < ((C 1) x3.toNatClampNeg) then ((C 1) x3.toNatClampNeg) else 2)), (5, .int (((upd (Y 4) x3.toNatClampNeg (((Y 4) ((x3 - 1)).toNatClampNeg) / (if 2 < ((C 1) x3.toNatClampNeg) then ((C 1) x3.toNatClampNeg) else 2))) ((x3 - 1)).toNatClampNeg) - ((upd (Y 4) x3.toNatClampNeg (((Y 4) ((x3 - 1)).toNatClampNeg) / (if 2 < ((C 1) x3.toNatClampNeg) then ((C 1) x3.toNatClampNeg) else 2))) ((x3 - 1)).toNatClampNeg) / (if 2 < ((C 1) x3.toNatClampNeg) then ((C 1) x3.toNatClampNeg) else 2) * (if 2 < ((C 1) x3.toNatClampNeg) then ((C 1) x3.toNatClampNeg) else 2))), (6, .int (-z95)), (7, .int z123)] dX4_setShifts_126 (by decide) rfl ?_
      refine im_aload_n X 0 dX4_setShifts_128 rfl rfl ?_
      refine im_cget X 0 0 (v := .ref (aY 5)) fl_X4_24 rfl rfl rfl dX4_setShifts_129 ?_
      refine im_iload_n X 2 dX4_setShifts_132 rfl rfl ?_
      refine im_bipush X (-100) dX4_setShifts_133 (by decide) ?_
      refine im_iload X 5 dX4_setShifts_135 rfl ?_
      refine im_mmax X mt1_X4_86 mt2_max mt3 mt4_max ⟨by decide, Nat.le_of_ble_eq_true rfl⟩ dX4_setShifts_137 ?_
      refine im_ciast X 0 5 0 (wx_Payment ct aY (Y 0 7) (Y 0 8) (Y 0 9) (Y 0 10) (Y 0 11) (Y 0 12) (Y 1) (Y 2) (Y 3) (upd (Y 4) x3.toNatClampNeg (((Y 4) ((x3 - 1)).toNatClampNeg) / (if 2 < ((C 1) x3.toNatClampNeg) then ((C 1) x3.toNatClampNeg) else 2))) (upd (Y 5) x3.toNatClampNeg (if (-100) < (-z95) then (-z95) else (-100))) (Y 6) (Y 7)) [wx_Payment ct aY (Y 0 7) (Y 0 8) (Y 0 9) (Y 0 10) (Y 0 11) (Y 0 12) (Y 1) (Y 2) (Y 3) (upd (Y 4) x3.toNatClampNeg (((Y 4) ((x3 - 1)).toNatClampNeg) / (if 2 < ((C 1) x3.toNatClampNeg) then ((C 1) x3.toNatClampNeg) else 2))) (upd (Y 5) x3.toNatClampNeg (if (-100) < (-z95) then (-z95) else (-100))) (Y 6) (Y 7), w_Cloth ct aC C] (f := (Y 5)) rfl rfl rfl rfl rfl dX4_setShifts_140 ?_
      refine im_aload_n X 0 dX4_setShifts_141 rfl rfl ?_
      refine im_cget X 0 0 (v := .ref (aY 6)) fl_X4_27 rfl rfl rfl dX4_setShifts_142 ?_
      refine im_iload_n X 2 dX4_setShifts_145 rfl rfl ?_
      refine im_bipush X 100 dX4_setShifts_146 (by decide) ?_
      refine im_iload X 6 dX4_setShifts_148 rfl ?_
      refine im_mmin X mt1_X4_91 mt2_min mt3 mt4_min ⟨by decide, Nat.le_of_ble_eq_true rfl⟩ dX4_setShifts_150 ?_
      refine im_ciast X 0 6 0 (wx_Payment ct aY (Y 0 7) (Y 0 8) (Y 0 9) (Y 0 10) (Y 0 11) (Y 0 12) (Y 1) (Y 2) (Y 3) (upd (Y 4) x3.toNatClampNeg (((Y 4) ((x3 - 1)).toNatClampNeg) / (if 2 < ((C 1) x3.toNatClampNeg) then ((C 1) x3.toNatClampNeg) else 2))) (upd (Y 5) x3.toNatClampNeg (if (-100) < (-z95) then (-z95) else (-100))) (upd (Y 6) x3.toNatClampNeg (if z123 < 100 then z123 else 100)) (Y 7)) [wx_Payment ct aY (Y 0 7) (Y 0 8) (Y 0 9) (Y 0 10) (Y 0 11) (Y 0 12) (Y 1) (Y 2) (Y 3) (upd (Y 4) x3.toNatClampNeg (((Y 4) ((x3 - 1)).toNatClampNeg) / (if 2 < ((C 1) x3.toNatClampNeg) then ((C 1) x3.toNatClampNeg) else 2))) (upd (Y 5) x3.toNatClampNeg (if (-100) < (-z95) then (-z95) else (-100))) (upd (Y 6) x3.toNatClampNeg (if z123 < 100 then z123 else 100)) (Y 7), w_Cloth ct aC C] (f := (Y 6)) rfl rfl rfl rfl rfl dX4_setShifts_153 ?_
      refine im_iinc X 2 1 [1, 2, 0, 3, 4, 5, 6] [(0, .ref (aY 0)), (1, .ref (aC 0)), (3, .int (x3 + 1)), (4, .int (if 2 < ((C 1) x3.toNatClampNeg) then ((C 1) x3.toNatClampNeg) else 2)), (5, .int (((upd (Y 4) x3.toNatClampNeg (((Y 4) ((x3 - 1)).toNatClampNeg) / (if 2 < ((C 1) x3.toNatClampNeg) then ((C 1) x3.toNatClampNeg) else 2))) ((x3 - 1)).toNatClampNeg) - ((upd (Y 4) x3.toNatClampNeg (((Y 4) ((x3 - 1)).toNatClampNeg) / (if 2 < ((C 1) x3.toNatClampNeg) then ((C 1) x3.toNatClampNeg) else 2))) ((x3 - 1)).toNatClampNeg) / (if 2 < ((C 1) x3.toNatClampNeg) then ((C 1) x3.toNatClampNeg) else 2) * (if 2 < ((C 1) x3.toNatClampNeg) then ((C 1) x3.toNatClampNeg) else 2))), (6, .int (-z95)), (7, .int z123)] dX4_setShifts_154 (by decide) rfl (by decide) rfl ?_
      refine im_goto (tgt := 23) X dX4_setShifts_157 rfl ?_
      refine im_lv [0, 1, 2] [(0, .ref (aY 0)), (1, .ref (aC 0)), (3, .int (x3 + 1))] rfl ?_
      exact ih (mr (mr (mr Y 4 (upd (Y 4) x3.toNatClampNeg (((Y 4) ((x3 - 1)).toNatClampNeg) / (if 2 < ((C 1) x3.toNatClampNeg) then ((C 1) x3.toNatClampNeg) else 2)))) 5 (upd (Y 5) x3.toNatClampNeg (if (-100) < (-z95) then (-z95) else (-100)))) 6 (upd (Y 6) x3.toNatClampNeg (if z123 < 100 then z123 else 100))) (x3 + 1)
noncomputable def f_X4_setShifts (F : Nat) (Y : Mem) (C : Mem) (x2 : Int32) : Option (Mem) :=
  ck 0 6 (ck 0 6 (ck 0 6 (f_X4_setShifts_23 F C (fun Y_160 => (some Y_160)) F (mr (mr (mr Y 4 (upd (Y 4) (0 : Int32).toNatClampNeg x2)) 5 (upd (Y 5) (0 : Int32).toNatClampNeg 0)) 6 (upd (Y 6) (0 : Int32).toNatClampNeg 0)) 1)))
set_option maxRecDepth 100000 in
set_option maxHeartbeats 4000000 in
theorem i_X4_setShifts {p : Program} {l : Launch} {e : Env} {s : State} {m : MethodId} {args : Array Value} {below : List Frame} {meth : Method} {c : Code} {D : va_G} {ct : im_ct} {A : Nat → Prop} (X : im_X p (im_rm 1) s m args meth c D ct A RX4 cX4_setShifts 8 none) (F : Nat) (aY aC : Nat → Nat) (Y : Mem) (C : Mem) (x2 : Int32) : Im p l e (im_rm 1) s m args below meth c D A 8 (QV D A (fun z : Mem => (cat [w_Payment ct aY z, w_Cloth ct aC C]))) 0 [(0, .ref (aY 0)), (1, .ref (aC 0)), (2, .int x2)] [] (cat [w_Payment ct aY Y, w_Cloth ct aC C]) (f_X4_setShifts F Y C x2) := by
  unfold f_X4_setShifts
  refine im_aload_n X 0 dX4_setShifts_0 rfl rfl ?_
  refine im_cget X 0 0 (v := .ref (aY 4)) fl_X4_21 rfl rfl rfl dX4_setShifts_1 ?_
  refine im_iconst X 0 dX4_setShifts_4 (by decide) ?_
  refine im_iload_n X 2 dX4_setShifts_5 rfl rfl ?_
  refine im_ciast X 0 4 0 (wx_Payment ct aY (Y 0 7) (Y 0 8) (Y 0 9) (Y 0 10) (Y 0 11) (Y 0 12) (Y 1) (Y 2) (Y 3) (upd (Y 4) (0 : Int32).toNatClampNeg x2) (Y 5) (Y 6) (Y 7)) [wx_Payment ct aY (Y 0 7) (Y 0 8) (Y 0 9) (Y 0 10) (Y 0 11) (Y 0 12) (Y 1) (Y 2) (Y 3) (upd (Y 4) (0 : Int32).toNatClampNeg x2) (Y 5) (Y 6) (Y 7), w_Cloth ct aC C] (f := (Y 4)) rfl rfl rfl rfl rfl dX4_setShifts_6 ?_
  refine im_aload_n X 0 dX4_setShifts_7 rfl rfl ?_
  refine im_cget X 0 0 (v := .ref (aY 5)) fl_X4_24 rfl rfl rfl dX4_setShifts_8 ?_
  refine im_iconst X 0 dX4_setShifts_11 (by decide) ?_
  refine im_iconst X 0 dX4_setShifts_12 (by decide) ?_
  refine im_ciast X 0 5 0 (wx_Payment ct aY (Y 0 7) (Y 0 8) (Y 0 9) (Y 0 10) (Y 0 11) (Y 0 12) (Y 1) (Y 2) (Y 3) (upd (Y 4) (0 : Int32).toNatClampNeg x2) (upd (Y 5) (0 : Int32).toNatClampNeg 0) (Y 6) (Y 7)) [wx_Payment ct aY (Y 0 7) (Y 0 8) (Y 0 9) (Y 0 10) (Y 0 11) (Y 0 12) (Y 1) (Y 2) (Y 3) (upd (Y 4) (0 : Int32).toNatClampNeg x2) (upd (Y 5) (0 : Int32).toNatClampNeg 0) (Y 6) (Y 7), w_Cloth ct aC C] (f := (Y 5)) rfl rfl rfl rfl rfl dX4_setShifts_13 ?_
  refine im_aload_n X 0 dX4_setShifts_14 rfl rfl ?_
  refine im_cget X 0 0 (v := .ref (aY 6)) fl_X4_27 rfl rfl rfl dX4_setShifts_15 ?_
  refine im_iconst X 0 dX4_setShifts_18 (by decide) ?_
  refine im_iconst X 0 dX4_setShifts_19 (by decide) ?_
  refine im_ciast X 0 6 0 (wx_Payment ct aY (Y 0 7) (Y 0 8) (Y 0 9) (Y 0 10) (Y 0 11) (Y 0 12) (Y 1) (Y 2) (Y 3) (upd (Y 4) (0 : Int32).toNatClampNeg x2) (upd (Y 5) (0 : Int32).toNatClampNeg 0) (upd (Y 6) (0 : Int32).toNatClampNeg 0) (Y 7)) [wx_Payment ct aY (Y 0 7) (Y 0 8) (Y 0 9) (Y 0 10) (Y 0 11) (Y 0 12) (Y 1) (Y 2) (Y 3) (upd (Y 4) (0 : Int32).toNatClampNeg x2) (upd (Y 5) (0 : Int32).toNatClampNeg 0) (upd (Y 6) (0 : Int32).toNatClampNeg 0) (Y 7), w_Cloth ct aC C] (f := (Y 6)) rfl rfl rfl rfl rfl dX4_setShifts_20 ?_
  refine im_iconst X 1 dX4_setShifts_21 (by decide) ?_
  refine im_istore_n X [1, 2, 3, 0] [(0, .ref (aY 0)), (1, .ref (aC 0)), (2, .int x2), (3, .int 1)] dX4_setShifts_22 rfl (by decide) rfl ?_
  refine im_lv [0, 1, 3] [(0, .ref (aY 0)), (1, .ref (aC 0)), (3, .int 1)] rfl ?_
  refine i_X4_setShifts_23 X F aY aC C  _ (fun Y_160 => ?_) F (mr (mr (mr Y 4 (upd (Y 4) (0 : Int32).toNatClampNeg x2)) 5 (upd (Y 5) (0 : Int32).toNatClampNeg 0)) 6 (upd (Y 6) (0 : Int32).toNatClampNeg 0)) 1
  exact im_return X Y_160 rfl dX4_setShifts_160
theorem c_X4_setShifts (l : Launch) (D : va_G) (ct : im_ct) (F : Nat) (aY aC : Nat → Nat) (Y : Mem) (C : Mem) (x2 : Int32) : CMv l D ct yX4_setShifts cX4_setShifts 8 none 1 [.ref (aY 0), .ref (aC 0), .int x2] (cat [w_Payment ct aY Y, w_Cloth ct aC C]) (f_X4_setShifts F Y C x2) (fun z : Mem => (cat [w_Payment ct aY z, w_Cloth ct aC C])) :=
  im_met (Qb := fun A => QV D A (fun z : Mem => (cat [w_Payment ct aY z, w_Cloth ct aC C]))) (by decide +kernel) (Nat.le_of_ble_eq_true rfl) (fun p e s m args below meth c A X => i_X4_setShifts X F aY aC Y C x2)

noncomputable def f_X4_firstOver (F : Nat) (Y : Mem) (x1 : Int32) (x2 : Int32) (x3 : Int32) : Option (Int32) :=
  ck x1 6 (ck x1 6 ((f_JM_floorMod F (x2 - ((Y 2) x1.toNatClampNeg)) x3).bind (fun z15 => (some (((Y 2) x1.toNatClampNeg) + z15)))))
set_option maxRecDepth 100000 in
set_option maxHeartbeats 4000000 in
theorem i_X4_firstOver {p : Program} {l : Launch} {e : Env} {s : State} {m : MethodId} {args : Array Value} {below : List Frame} {meth : Method} {c : Code} {D : va_G} {ct : im_ct} {A : Nat → Prop} (X : im_X p (im_rm 1) s m args meth c D ct A RX4 cX4_firstOver 4 (some .int)) (F : Nat) (aY : Nat → Nat) (Y : Mem) (x1 : Int32) (x2 : Int32) (x3 : Int32) : Im p l e (im_rm 1) s m args below meth c D A 4 (QI D A (fun z : Int32 => z) (fun z : Int32 => (cat [w_Payment ct aY Y]))) 0 [(0, .ref (aY 0)), (1, .int x1), (2, .int x2), (3, .int x3)] [] (cat [w_Payment ct aY Y]) (f_X4_firstOver F Y x1 x2 x3) := by
  unfold f_X4_firstOver
  refine im_aload_n X 0 dX4_firstOver_0 rfl rfl ?_
  refine im_cget X 0 0 (v := .ref (aY 2)) fl_X4_15 rfl rfl rfl dX4_firstOver_1 ?_
  refine im_iload_n X 1 dX4_firstOver_4 rfl rfl ?_
  refine im_ciald X 0 2 0 (f := (Y 2)) rfl rfl rfl dX4_firstOver_5 ?_
  refine im_iload_n X 2 dX4_firstOver_6 rfl rfl ?_
  refine im_aload_n X 0 dX4_firstOver_7 rfl rfl ?_
  refine im_cget X 0 0 (v := .ref (aY 2)) fl_X4_15 rfl rfl rfl dX4_firstOver_8 ?_
  refine im_iload_n X 1 dX4_firstOver_11 rfl rfl ?_
  refine im_ciald X 0 2 0 (f := (Y 2)) rfl rfl rfl dX4_firstOver_12 ?_
  refine im_isub X dX4_firstOver_13 ?_
  refine im_iload_n X 3 dX4_firstOver_14 rfl rfl ?_
  refine im_cciS X [.int (x2 - ((Y 2) x1.toNatClampNeg)), .int x3] [.int ((Y 2) x1.toNatClampNeg)] [w_Payment ct aY Y] [] [] (fun z15 => []) cl_X4_111 (c_JM_floorMod l D ct F (x2 - ((Y 2) x1.toNatClampNeg)) x3) rfl (by decide) (fun _ => rfl) rfl ⟨by decide, by decide⟩ (Nat.le_of_ble_eq_true rfl) rfl dX4_firstOver_15 (fun z15 => ?_)
  refine im_ws (cat [w_Payment ct aY Y]) rfl ?_
  refine im_iadd X dX4_firstOver_18 ?_
  exact im_ireturn X (((Y 2) x1.toNatClampNeg) + z15) rfl rfl dX4_firstOver_19
theorem c_X4_firstOver (l : Launch) (D : va_G) (ct : im_ct) (F : Nat) (aY : Nat → Nat) (Y : Mem) (x1 : Int32) (x2 : Int32) (x3 : Int32) : CMi l D ct yX4_firstOver cX4_firstOver 4 (some .int) 1 [.ref (aY 0), .int x1, .int x2, .int x3] (cat [w_Payment ct aY Y]) (f_X4_firstOver F Y x1 x2 x3) (fun z : Int32 => z) (fun z : Int32 => (cat [w_Payment ct aY Y])) :=
  im_met (Qb := fun A => QI D A (fun z : Int32 => z) (fun z : Int32 => (cat [w_Payment ct aY Y]))) (by decide +kernel) (Nat.le_of_ble_eq_true rfl) (fun p e s m args below meth c A X => i_X4_firstOver X F aY Y x1 x2 x3)

noncomputable def f_X4_costOf (F : Nat) (Y : Mem) (x1 : Int32) (x2 : Int32) : Option (Int32) :=
  ck x1 6 (ck x1 6 ((if (x2 - ((Y 4) x1.toNatClampNeg)) < ((Y 5) x1.toNatClampNeg) then (some (-2)) else ck x1 6 ((if (x2 - ((Y 4) x1.toNatClampNeg)) ≤ ((Y 6) x1.toNatClampNeg) then ck (((x1 * 201) + 100) + (x2 - ((Y 4) x1.toNatClampNeg))) 1206 ((some ((Y 7) ((((x1 * 201) + 100) + (x2 - ((Y 4) x1.toNatClampNeg)))).toNatClampNeg))) else (some (-2)))))))
set_option maxRecDepth 100000 in
set_option maxHeartbeats 4000000 in
theorem i_X4_costOf {p : Program} {l : Launch} {e : Env} {s : State} {m : MethodId} {args : Array Value} {below : List Frame} {meth : Method} {c : Code} {D : va_G} {ct : im_ct} {A : Nat → Prop} (X : im_X p (im_rm 0) s m args meth c D ct A RX4 cX4_costOf 4 (some .int)) (F : Nat) (aY : Nat → Nat) (Y : Mem) (x1 : Int32) (x2 : Int32) : Im p l e (im_rm 0) s m args below meth c D A 4 (QI D A (fun z : Int32 => z) (fun z : Int32 => (cat [w_Payment ct aY Y]))) 0 [(0, .ref (aY 0)), (1, .int x1), (2, .int x2)] [] (cat [w_Payment ct aY Y]) (f_X4_costOf F Y x1 x2) := by
  unfold f_X4_costOf
  refine im_iload_n X 2 dX4_costOf_0 rfl rfl ?_
  refine im_aload_n X 0 dX4_costOf_1 rfl rfl ?_
  refine im_cget X 0 0 (v := .ref (aY 4)) fl_X4_21 rfl rfl rfl dX4_costOf_2 ?_
  refine im_iload_n X 1 dX4_costOf_5 rfl rfl ?_
  refine im_ciald X 0 4 0 (f := (Y 4)) rfl rfl rfl dX4_costOf_6 ?_
  refine im_isub X dX4_costOf_7 ?_
  refine im_istore_n X [1, 2, 3, 0] [(0, .ref (aY 0)), (1, .int x1), (2, .int x2), (3, .int (x2 - ((Y 4) x1.toNatClampNeg)))] dX4_costOf_8 rfl (by decide) rfl ?_
  refine im_iload_n X 3 dX4_costOf_9 rfl rfl ?_
  refine im_aload_n X 0 dX4_costOf_10 rfl rfl ?_
  refine im_cget X 0 0 (v := .ref (aY 5)) fl_X4_24 rfl rfl rfl dX4_costOf_11 ?_
  refine im_iload_n X 1 dX4_costOf_14 rfl rfl ?_
  refine im_ciald X 0 5 0 (f := (Y 5)) rfl rfl rfl dX4_costOf_15 ?_
  refine im_icmp_lt (tgt := 29) X dX4_costOf_16 rfl ?_ ?_
  · refine im_bipush X (-2) dX4_costOf_29 (by decide) ?_
    refine im_goto (tgt := 49) X dX4_costOf_31 rfl ?_
    exact im_ireturn X (-2) rfl rfl dX4_costOf_49
  · refine im_iload_n X 3 dX4_costOf_19 rfl rfl ?_
    refine im_aload_n X 0 dX4_costOf_20 rfl rfl ?_
    refine im_cget X 0 0 (v := .ref (aY 6)) fl_X4_27 rfl rfl rfl dX4_costOf_21 ?_
    refine im_iload_n X 1 dX4_costOf_24 rfl rfl ?_
    refine im_ciald X 0 6 0 (f := (Y 6)) rfl rfl rfl dX4_costOf_25 ?_
    refine im_icmp_le (tgt := 34) X dX4_costOf_26 rfl ?_ ?_
    · refine im_aload_n X 0 dX4_costOf_34 rfl rfl ?_
      refine im_cget X 0 0 (v := .ref (aY 7)) fl_X4_30 rfl rfl rfl dX4_costOf_35 ?_
      refine im_iload_n X 1 dX4_costOf_38 rfl rfl ?_
      refine im_sipush X 201 dX4_costOf_39 (by decide) ?_
      refine im_imul X dX4_costOf_42 ?_
      refine im_bipush X 100 dX4_costOf_43 (by decide) ?_
      refine im_iadd X dX4_costOf_45 ?_
      refine im_iload_n X 3 dX4_costOf_46 rfl rfl ?_
      refine im_iadd X dX4_costOf_47 ?_
      refine im_ciald X 0 7 0 (f := (Y 7)) rfl rfl rfl dX4_costOf_48 ?_
      exact im_ireturn X ((Y 7) ((((x1 * 201) + 100) + (x2 - ((Y 4) x1.toNatClampNeg)))).toNatClampNeg) rfl rfl dX4_costOf_49
    · refine im_bipush X (-2) dX4_costOf_29 (by decide) ?_
      refine im_goto (tgt := 49) X dX4_costOf_31 rfl ?_
      exact im_ireturn X (-2) rfl rfl dX4_costOf_49
theorem c_X4_costOf (l : Launch) (D : va_G) (ct : im_ct) (F : Nat) (aY : Nat → Nat) (Y : Mem) (x1 : Int32) (x2 : Int32) : CMi l D ct yX4_costOf cX4_costOf 4 (some .int) 0 [.ref (aY 0), .int x1, .int x2] (cat [w_Payment ct aY Y]) (f_X4_costOf F Y x1 x2) (fun z : Int32 => z) (fun z : Int32 => (cat [w_Payment ct aY Y])) :=
  im_met (Qb := fun A => QI D A (fun z : Int32 => z) (fun z : Int32 => (cat [w_Payment ct aY Y]))) (by decide +kernel) (Nat.le_of_ble_eq_true rfl) (fun p e s m args below meth c A X => i_X4_costOf X F aY Y x1 x2)

noncomputable def f_X4_costWith (F : Nat) (Y : Mem) (x1 : Int32) (x2 : Int32) (x3 : Int32) (x4 : Int32) : Option (Int32) :=
  dv x4 ((f_X4_costOf F Y (x1 + 1) ((x2 - x3) / x4)).bind (fun z10 => (if z10 = (-2) then (some (-2)) else (some (z10 + (if 0 ≤ x3 then x3 else 0 - x3))))))
set_option maxRecDepth 100000 in
set_option maxHeartbeats 4000000 in
theorem i_X4_costWith {p : Program} {l : Launch} {e : Env} {s : State} {m : MethodId} {args : Array Value} {below : List Frame} {meth : Method} {c : Code} {D : va_G} {ct : im_ct} {A : Nat → Prop} (X : im_X p (im_rm 1) s m args meth c D ct A RX4 cX4_costWith 6 (some .int)) (F : Nat) (aY : Nat → Nat) (Y : Mem) (x1 : Int32) (x2 : Int32) (x3 : Int32) (x4 : Int32) : Im p l e (im_rm 1) s m args below meth c D A 6 (QI D A (fun z : Int32 => z) (fun z : Int32 => (cat [w_Payment ct aY Y]))) 0 [(0, .ref (aY 0)), (1, .int x1), (2, .int x2), (3, .int x3), (4, .int x4)] [] (cat [w_Payment ct aY Y]) (f_X4_costWith F Y x1 x2 x3 x4) := by
  unfold f_X4_costWith
  refine im_aload_n X 0 dX4_costWith_0 rfl rfl ?_
  refine im_iload_n X 1 dX4_costWith_1 rfl rfl ?_
  refine im_iconst X 1 dX4_costWith_2 (by decide) ?_
  refine im_iadd X dX4_costWith_3 ?_
  refine im_iload_n X 2 dX4_costWith_4 rfl rfl ?_
  refine im_iload_n X 3 dX4_costWith_5 rfl rfl ?_
  refine im_isub X dX4_costWith_6 ?_
  refine im_iload X 4 dX4_costWith_7 rfl ?_
  refine im_idiv X dX4_costWith_9 ?_
  refine im_cciV X [.int (x1 + 1), .int ((x2 - x3) / x4)] [] [w_Payment ct aY Y] [w_Payment ct aY Y] [0] (fun z10 => [w_Payment ct aY Y]) 0 0 4 rfl rfl rfl cl_X4_76 (c_X4_costOf l D ct F aY Y (x1 + 1) ((x2 - x3) / x4)) rfl (by decide) (fun _ => lc rfl (rfl)) rfl ⟨by decide, by decide⟩ (Nat.le_of_ble_eq_true rfl) rfl dX4_costWith_10 (fun z10 => ?_)
  refine im_ws (cat [w_Payment ct aY Y]) rfl ?_
  refine im_istore X [1, 2, 3, 4, 5, 0] [(0, .ref (aY 0)), (1, .int x1), (2, .int x2), (3, .int x3), (4, .int x4), (5, .int z10)] dX4_costWith_13 (by decide) rfl ?_
  refine im_iload X 5 dX4_costWith_15 rfl ?_
  refine im_bipush X (-2) dX4_costWith_17 (by decide) ?_
  refine im_icmp_ne (tgt := 27) X dX4_costWith_19 rfl ?_ ?_
  · refine im_iload X 5 dX4_costWith_27 rfl ?_
    refine im_iload_n X 3 dX4_costWith_29 rfl rfl ?_
    refine im_mabs X mt1_X4_100 mt2_abs mt3 mt4_abs ⟨by decide, Nat.le_of_ble_eq_true rfl⟩ dX4_costWith_30 ?_
    refine im_iadd X dX4_costWith_33 ?_
    exact im_ireturn X (z10 + (if 0 ≤ x3 then x3 else 0 - x3)) rfl rfl dX4_costWith_34
  · refine im_bipush X (-2) dX4_costWith_22 (by decide) ?_
    refine im_goto (tgt := 34) X dX4_costWith_24 rfl ?_
    exact im_ireturn X (-2) rfl rfl dX4_costWith_34
theorem c_X4_costWith (l : Launch) (D : va_G) (ct : im_ct) (F : Nat) (aY : Nat → Nat) (Y : Mem) (x1 : Int32) (x2 : Int32) (x3 : Int32) (x4 : Int32) : CMi l D ct yX4_costWith cX4_costWith 6 (some .int) 1 [.ref (aY 0), .int x1, .int x2, .int x3, .int x4] (cat [w_Payment ct aY Y]) (f_X4_costWith F Y x1 x2 x3 x4) (fun z : Int32 => z) (fun z : Int32 => (cat [w_Payment ct aY Y])) :=
  im_met (Qb := fun A => QI D A (fun z : Int32 => z) (fun z : Int32 => (cat [w_Payment ct aY Y]))) (by decide +kernel) (Nat.le_of_ble_eq_true rfl) (fun p e s m args below meth c A X => i_X4_costWith X F aY Y x1 x2 x3 x4)

noncomputable def f_X4_bestCost_96 (F : Nat) (Y : Mem) (C : Mem) (x2 : Int32) (x3 : Int32) (x4 : Int32) (x5 : Int32) (x6 : Int32) (k68 : Int32 → Int32 → Option (Int32)) : Option (Int32) :=
  (f_X4_costWith F Y x2 x3 x6 x4).bind (fun z103 => (if z103 = (-2) then k68 x5 (x6 + x4) else (if x5 = (-2) then k68 z103 (x6 + x4) else (if x5 ≤ z103 then k68 x5 (x6 + x4) else k68 z103 (x6 + x4)))))
set_option maxRecDepth 100000 in
set_option maxHeartbeats 4000000 in
theorem i_X4_bestCost_96 {p : Program} {l : Launch} {e : Env} {s : State} {m : MethodId} {args : Array Value} {below : List Frame} {meth : Method} {c : Code} {D : va_G} {ct : im_ct} {A : Nat → Prop} (X : im_X p (im_rm 2) s m args meth c D ct A RX4 cX4_bestCost 8 (some .int)) (F : Nat) (aY aC : Nat → Nat) (Y : Mem) (C : Mem) (x2 : Int32) (x3 : Int32) (x4 : Int32) (x5 : Int32) (x6 : Int32) (k68 : Int32 → Int32 → Option (Int32)) (hk68 : ∀ (x5 : Int32) (x6 : Int32), Im p l e (im_rm 2) s m args below meth c D A 8 (QI D A (fun z : Int32 => z) (fun z : Int32 => (cat [w_Payment ct aY Y, w_Cloth ct aC C]))) 68 [(0, .ref (aY 0)), (2, .int x2), (3, .int x3), (4, .int x4), (5, .int x5), (6, .int x6)] [] (cat [w_Payment ct aY Y, w_Cloth ct aC C]) (k68 x5 x6)) : Im p l e (im_rm 2) s m args below meth c D A 8 (QI D A (fun z : Int32 => z) (fun z : Int32 => (cat [w_Payment ct aY Y, w_Cloth ct aC C]))) 96 [(0, .ref (aY 0)), (2, .int x2), (3, .int x3), (4, .int x4), (5, .int x5), (6, .int x6)] [] (cat [w_Payment ct aY Y, w_Cloth ct aC C]) (f_X4_bestCost_96 F Y C x2 x3 x4 x5 x6 k68) := by
  unfold f_X4_bestCost_96
  refine im_aload_n X 0 dX4_bestCost_96 rfl rfl ?_
  refine im_iload_n X 1 dX4_bestCost_97 rfl rfl ?_
  refine im_iload_n X 2 dX4_bestCost_98 rfl rfl ?_
  refine im_iload X 5 dX4_bestCost_99 rfl ?_
  refine im_iload X 3 dX4_bestCost_101 rfl ?_
  refine im_cciV X [.int x2, .int x3, .int x6, .int x4] [] [w_Payment ct aY Y, w_Cloth ct aC C] [w_Payment ct aY Y] [0] (fun z103 => [w_Payment ct aY Y]) 0 0 4 rfl rfl rfl cl_X4_107 (c_X4_costWith l D ct F aY Y x2 x3 x6 x4) rfl (by decide) (fun _ => lc rfl (rfl)) rfl ⟨by decide, by decide⟩ (Nat.le_of_ble_eq_true rfl) rfl dX4_bestCost_103 (fun z103 => ?_)
  refine im_ws (cat [w_Payment ct aY Y, w_Cloth ct aC C]) rfl ?_
  refine im_istore X [1, 2, 3, 4, 5, 6, 0] [(0, .ref (aY 0)), (2, .int x2), (3, .int x3), (4, .int x4), (5, .int x5), (6, .int x6), (7, .int z103)] dX4_bestCost_106 (by decide) rfl ?_
  refine im_iload X 6 dX4_bestCost_108 rfl ?_
  refine im_bipush X (-2) dX4_bestCost_110 (by decide) ?_
  refine im_icmp_eq (tgt := 134) X dX4_bestCost_112 rfl ?_ ?_
  · refine im_iload X 4 dX4_bestCost_134 rfl ?_
    refine im_istore X [1, 2, 3, 4, 0, 5, 6] [(0, .ref (aY 0)), (2, .int x2), (3, .int x3), (4, .int x4), (5, .int x5), (6, .int x6), (7, .int z103)] dX4_bestCost_136 (by decide) rfl ?_
    refine im_iload X 5 dX4_bestCost_138 rfl ?_
    refine im_iload X 3 dX4_bestCost_140 rfl ?_
    refine im_iadd X dX4_bestCost_142 ?_
    refine im_istore X [1, 2, 3, 4, 5, 0, 6] [(0, .ref (aY 0)), (2, .int x2), (3, .int x3), (4, .int x4), (5, .int x5), (6, .int (x6 + x4)), (7, .int z103)] dX4_bestCost_143 (by decide) rfl ?_
    refine im_goto (tgt := 68) X dX4_bestCost_145 rfl ?_
    refine im_lv [0, 1, 2, 3, 4, 5] [(0, .ref (aY 0)), (2, .int x2), (3, .int x3), (4, .int x4), (5, .int x5), (6, .int (x6 + x4))] rfl ?_
    exact hk68 x5 (x6 + x4)
  · refine im_iload X 4 dX4_bestCost_115 rfl ?_
    refine im_bipush X (-2) dX4_bestCost_117 (by decide) ?_
    refine im_icmp_eq (tgt := 129) X dX4_bestCost_119 rfl ?_ ?_
    · refine im_iload X 6 dX4_bestCost_129 rfl ?_
      refine im_goto (tgt := 136) X dX4_bestCost_131 rfl ?_
      refine im_istore X [1, 2, 3, 4, 0, 5, 6] [(0, .ref (aY 0)), (2, .int x2), (3, .int x3), (4, .int x4), (5, .int z103), (6, .int x6), (7, .int z103)] dX4_bestCost_136 (by decide) rfl ?_
      refine im_iload X 5 dX4_bestCost_138 rfl ?_
      refine im_iload X 3 dX4_bestCost_140 rfl ?_
      refine im_iadd X dX4_bestCost_142 ?_
      refine im_istore X [1, 2, 3, 4, 5, 0, 6] [(0, .ref (aY 0)), (2, .int x2), (3, .int x3), (4, .int x4), (5, .int z103), (6, .int (x6 + x4)), (7, .int z103)] dX4_bestCost_143 (by decide) rfl ?_
      refine im_goto (tgt := 68) X dX4_bestCost_145 rfl ?_
      refine im_lv [0, 1, 2, 3, 4, 5] [(0, .ref (aY 0)), (2, .int x2), (3, .int x3), (4, .int x4), (5, .int z103), (6, .int (x6 + x4))] rfl ?_
      exact hk68 z103 (x6 + x4)
    · refine im_iload X 6 dX4_bestCost_122 rfl ?_
      refine im_iload X 4 dX4_bestCost_124 rfl ?_
      refine im_icmp_ge (tgt := 134) X dX4_bestCost_126 rfl ?_ ?_
      · refine im_iload X 4 dX4_bestCost_134 rfl ?_
        refine im_istore X [1, 2, 3, 4, 0, 5, 6] [(0, .ref (aY 0)), (2, .int x2), (3, .int x3), (4, .int x4), (5, .int x5), (6, .int x6), (7, .int z103)] dX4_bestCost_136 (by decide) rfl ?_
        refine im_iload X 5 dX4_bestCost_138 rfl ?_
        refine im_iload X 3 dX4_bestCost_140 rfl ?_
        refine im_iadd X dX4_bestCost_142 ?_
        refine im_istore X [1, 2, 3, 4, 5, 0, 6] [(0, .ref (aY 0)), (2, .int x2), (3, .int x3), (4, .int x4), (5, .int x5), (6, .int (x6 + x4)), (7, .int z103)] dX4_bestCost_143 (by decide) rfl ?_
        refine im_goto (tgt := 68) X dX4_bestCost_145 rfl ?_
        refine im_lv [0, 1, 2, 3, 4, 5] [(0, .ref (aY 0)), (2, .int x2), (3, .int x3), (4, .int x4), (5, .int x5), (6, .int (x6 + x4))] rfl ?_
        exact hk68 x5 (x6 + x4)
      · refine im_iload X 6 dX4_bestCost_129 rfl ?_
        refine im_goto (tgt := 136) X dX4_bestCost_131 rfl ?_
        refine im_istore X [1, 2, 3, 4, 0, 5, 6] [(0, .ref (aY 0)), (2, .int x2), (3, .int x3), (4, .int x4), (5, .int z103), (6, .int x6), (7, .int z103)] dX4_bestCost_136 (by decide) rfl ?_
        refine im_iload X 5 dX4_bestCost_138 rfl ?_
        refine im_iload X 3 dX4_bestCost_140 rfl ?_
        refine im_iadd X dX4_bestCost_142 ?_
        refine im_istore X [1, 2, 3, 4, 5, 0, 6] [(0, .ref (aY 0)), (2, .int x2), (3, .int x3), (4, .int x4), (5, .int z103), (6, .int (x6 + x4)), (7, .int z103)] dX4_bestCost_143 (by decide) rfl ?_
        refine im_goto (tgt := 68) X dX4_bestCost_145 rfl ?_
        refine im_lv [0, 1, 2, 3, 4, 5] [(0, .ref (aY 0)), (2, .int x2), (3, .int x3), (4, .int x4), (5, .int z103), (6, .int (x6 + x4))] rfl ?_
        exact hk68 z103 (x6 + x4)
noncomputable def f_X4_bestCost_68 (F : Nat) (Y : Mem) (C : Mem) (x2 : Int32) (x3 : Int32) (x4 : Int32) (k148 : Int32 → Option (Int32)) : Nat → Int32 → Int32 → Option (Int32)
  | 0, _, _ => none
  | n + 1, x5, x6 =>
  ck x2 6 ((if ((Y 3) x2.toNatClampNeg) < x6 then k148 x5 else (if x5 = (-2) then f_X4_bestCost_96 F Y C x2 x3 x4 x5 x6 (f_X4_bestCost_68 F Y C x2 x3 x4 k148 n) else (if x5 ≤ (if 0 ≤ x6 then x6 else 0 - x6) then f_X4_bestCost_68 F Y C x2 x3 x4 k148 n x5 (x6 + x4) else f_X4_bestCost_96 F Y C x2 x3 x4 x5 x6 (f_X4_bestCost_68 F Y C x2 x3 x4 k148 n)))))
set_option maxRecDepth 100000 in
set_option maxHeartbeats 4000000 in
theorem i_X4_bestCost_68 {p : Program} {l : Launch} {e : Env} {s : State} {m : MethodId} {args : Array Value} {below : List Frame} {meth : Method} {c : Code} {D : va_G} {ct : im_ct} {A : Nat → Prop} (X : im_X p (im_rm 2) s m args meth c D ct A RX4 cX4_bestCost 8 (some .int)) (F : Nat) (aY aC : Nat → Nat) (Y : Mem) (C : Mem) (x2 : Int32) (x3 : Int32) (x4 : Int32) (k148 : Int32 → Option (Int32)) (hk148 : ∀ (x5 : Int32), Im p l e (im_rm 2) s m args below meth c D A 8 (QI D A (fun z : Int32 => z) (fun z : Int32 => (cat [w_Payment ct aY Y, w_Cloth ct aC C]))) 148 [(5, .int x5)] [] (cat [w_Payment ct aY Y, w_Cloth ct aC C]) (k148 x5)) : ∀ (n : Nat) (x5 : Int32) (x6 : Int32), Im p l e (im_rm 2) s m args below meth c D A 8 (QI D A (fun z : Int32 => z) (fun z : Int32 => (cat [w_Payment ct aY Y, w_Cloth ct aC C]))) 68 [(0, .ref (aY 0)), (2, .int x2), (3, .int x3), (4, .int x4), (5, .int x5), (6, .int x6)] [] (cat [w_Payment ct aY Y, w_Cloth ct aC C]) (f_X4_bestCost_68 F Y C x2 x3 x4 k148 n x5 x6) := by
  intro n
  induction n with
  | zero => intros; exact im_none
  | succ n ih =>
    intro x5 x6
    unfold f_X4_bestCost_68
    refine im_iload X 5 dX4_bestCost_68 rfl ?_
    refine im_aload_n X 0 dX4_bestCost_70 rfl rfl ?_
    refine im_cget X 0 0 (v := .ref (aY 3)) fl_X4_18 rfl rfl rfl dX4_bestCost_71 ?_
    refine im_iload_n X 1 dX4_bestCost_74 rfl rfl ?_
    refine im_ciald X 0 3 0 (f := (Y 3)) rfl rfl rfl dX4_bestCost_75 ?_
    refine im_icmp_gt (tgt := 148) X dX4_bestCost_76 rfl ?_ ?_
    · refine im_lv [4] [(5, .int x5)] rfl ?_
      exact hk148 x5
    · refine im_iload X 4 dX4_bestCost_79 rfl ?_
      refine im_bipush X (-2) dX4_bestCost_81 (by decide) ?_
      refine im_icmp_eq (tgt := 96) X dX4_bestCost_83 rfl ?_ ?_
      · exact i_X4_bestCost_96 X F aY aC Y C x2 x3 x4 x5 x6 _ ih
      · refine im_iload X 5 dX4_bestCost_86 rfl ?_
        refine im_mabs X mt1_X4_100 mt2_abs mt3 mt4_abs ⟨by decide, Nat.le_of_ble_eq_true rfl⟩ dX4_bestCost_88 ?_
        refine im_iload X 4 dX4_bestCost_91 rfl ?_
        refine im_icmp_ge (tgt := 138) X dX4_bestCost_93 rfl ?_ ?_
        · refine im_iload X 5 dX4_bestCost_138 rfl ?_
          refine im_iload X 3 dX4_bestCost_140 rfl ?_
          refine im_iadd X dX4_bestCost_142 ?_
          refine im_istore X [1, 2, 3, 4, 5, 0] [(0, .ref (aY 0)), (2, .int x2), (3, .int x3), (4, .int x4), (5, .int x5), (6, .int (x6 + x4))] dX4_bestCost_143 (by decide) rfl ?_
          refine im_goto (tgt := 68) X dX4_bestCost_145 rfl ?_
          exact ih x5 (x6 + x4)
        · exact i_X4_bestCost_96 X F aY aC Y C x2 x3 x4 x5 x6 _ ih
noncomputable def f_X4_bestCost (F : Nat) (Y : Mem) (C : Mem) (x2 : Int32) (x3 : Int32) : Option (Int32) :=
  (if x2 = ((Y 0 7) - 1) then ck x2 6 ((if x3 < ((Y 2) x2.toNatClampNeg) then (some (-2)) else ck x2 6 ((if ((Y 3) x2.toNatClampNeg) < x3 then (some (-2)) else (some (if 0 ≤ x3 then x3 else 0 - x3)))))) else ck (x2 + 1) 6 ((f_X4_firstOver F Y x2 x3 (if 2 < ((C 1) ((x2 + 1)).toNatClampNeg) then ((C 1) ((x2 + 1)).toNatClampNeg) else 2)).bind (fun z63 => f_X4_bestCost_68 F Y C x2 x3 (if 2 < ((C 1) ((x2 + 1)).toNatClampNeg) then ((C 1) ((x2 + 1)).toNatClampNeg) else 2) (fun x5_148 => (some x5_148)) F (-2) z63)))
set_option maxRecDepth 100000 in
set_option maxHeartbeats 4000000 in
theorem i_X4_bestCost {p : Program} {l : Launch} {e : Env} {s : State} {m : MethodId} {args : Array Value} {below : List Frame} {meth : Method} {c : Code} {D : va_G} {ct : im_ct} {A : Nat → Prop} (X : im_X p (im_rm 2) s m args meth c D ct A RX4 cX4_bestCost 8 (some .int)) (F : Nat) (aY aC : Nat → Nat) (Y : Mem) (C : Mem) (x2 : Int32) (x3 : Int32) : Im p l e (im_rm 2) s m args below meth c D A 8 (QI D A (fun z : Int32 => z) (fun z : Int32 => (cat [w_Payment ct aY Y, w_Cloth ct aC C]))) 0 [(0, .ref (aY 0)), (1, .ref (aC 0)), (2, .int x2), (3, .int x3)] [] (cat [w_Payment ct aY Y, w_Cloth ct aC C]) (f_X4_bestCost F Y C x2 x3) := by
  unfold f_X4_bestCost
  refine im_iload_n X 2 dX4_bestCost_0 rfl rfl ?_
  refine im_aload_n X 0 dX4_bestCost_1 rfl rfl ?_
  refine im_cget X 0 0 (v := .int (Y 0 7)) fl_X4_59 rfl rfl rfl dX4_bestCost_2 ?_
  refine im_iconst X 1 dX4_bestCost_5 (by decide) ?_
  refine im_isub X dX4_bestCost_6 ?_
  refine im_icmp_ne (tgt := 40) X dX4_bestCost_7 rfl ?_ ?_
  · refine im_iconst X 2 dX4_bestCost_40 (by decide) ?_
    refine im_aload_n X 1 dX4_bestCost_41 rfl rfl ?_
    refine im_cget X 1 0 (v := .ref (aC 1)) fl_X4_94 rfl rfl rfl dX4_bestCost_42 ?_
    refine im_iload_n X 2 dX4_bestCost_45 rfl rfl ?_
    refine im_iconst X 1 dX4_bestCost_46 (by decide) ?_
    refine im_iadd X dX4_bestCost_47 ?_
    refine im_ciald X 1 1 0 (f := (C 1)) rfl rfl rfl dX4_bestCost_48 ?_
    refine im_mmax X mt1_X4_86 mt2_max mt3 mt4_max ⟨by decide, Nat.le_of_ble_eq_true rfl⟩ dX4_bestCost_49 ?_
    refine im_istore X [1, 2, 3, 4, 0] [(0, .ref (aY 0)), (1, .ref (aC 0)), (2, .int x2), (3, .int x3), (4, .int (if 2 < ((C 1) ((x2 + 1)).toNatClampNeg) then ((C 1) ((x2 + 1)).toNatClampNeg) else 2))] dX4_bestCost_52 (by decide) rfl ?_
    refine im_bipush X (-2) dX4_bestCost_54 (by decide) ?_
    refine im_istore X [1, 2, 3, 4, 5, 0] [(0, .ref (aY 0)), (1, .ref (aC 0)), (2, .int x2), (3, .int x3), (4, .int (if 2 < ((C 1) ((x2 + 1)).toNatClampNeg) then ((C 1) ((x2 + 1)).toNatClampNeg) else 2)), (5, .int (-2))] dX4_bestCost_56 (by decide) rfl ?_
    refine im_aload_n X 0 dX4_bestCost_58 rfl rfl ?_
    refine im_iload_n X 2 dX4_bestCost_59 rfl rfl ?_
    refine im_iload_n X 3 dX4_bestCost_60 rfl rfl ?_
    refine im_iload X 4 dX4_bestCost_61 rfl ?_
    refine im_cciV X [.int x2, .int x3, .int (if 2 < ((C 1) ((x2 + 1)).toNatClampNeg) then ((C 1) ((x2 + 1)).toNatClampNeg) else 2)] [] [w_Payment ct aY Y, w_Cloth ct aC C] [w_Payment ct aY Y] [0] (fun z63 => [w_Payment ct aY Y]) 0 0 4 rfl rfl rfl cl_X4_103 (c_X4_firstOver l D ct F aY Y x2 x3 (if 2 < ((C 1) ((x2 + 1)).toNatClampNeg) then ((C 1) ((x2 + 1)).toNatClampNeg) else 2)) rfl (by decide) (fun _ => lc rfl (rfl)) rfl ⟨by decide, by decide⟩ (Nat.le_of_ble_eq_true rfl) rfl dX4_bestCost_63 (fun z63 => ?_)
    refine im_ws (cat [w_Payment ct aY Y, w_Cloth ct aC C]) rfl ?_
    refine im_istore X [1, 2, 3, 4, 5, 6, 0] [(0, .ref (aY 0)), (1, .ref (aC 0)), (2, .int x2), (3, .int x3), (4, .int (if 2 < ((C 1) ((x2 + 1)).toNatClampNeg) then ((C 1) ((x2 + 1)).toNatClampNeg) else 2)), (5, .int (-2)), (6, .int z63)] dX4_bestCost_66 (by decide) rfl ?_
    refine im_lv [0, 2, 3, 4, 5, 6] [(0, .ref (aY 0)), (2, .int x2), (3, .int x3), (4, .int (if 2 < ((C 1) ((x2 + 1)).toNatClampNeg) then ((C 1) ((x2 + 1)).toNatClampNeg) else 2)), (5, .int (-2)), (6, .int z63)] rfl ?_
    refine i_X4_bestCost_68 X F aY aC Y C x2 x3 (if 2 < ((C 1) ((x2 + 1)).toNatClampNeg) then ((C 1) ((x2 + 1)).toNatClampNeg) else 2) _ (fun x5_148 => ?_) F (-2) z63
    refine im_iload X 0 dX4_bestCost_148 rfl ?_
    exact im_ireturn X x5_148 rfl rfl dX4_bestCost_150
  · refine im_iload_n X 3 dX4_bestCost_10 rfl rfl ?_
    refine im_aload_n X 0 dX4_bestCost_11 rfl rfl ?_
    refine im_cget X 0 0 (v := .ref (aY 2)) fl_X4_15 rfl rfl rfl dX4_bestCost_12 ?_
    refine im_iload_n X 2 dX4_bestCost_15 rfl rfl ?_
    refine im_ciald X 0 2 0 (f := (Y 2)) rfl rfl rfl dX4_bestCost_16 ?_
    refine im_icmp_lt (tgt := 37) X dX4_bestCost_17 rfl ?_ ?_
    · refine im_bipush X (-2) dX4_bestCost_37 (by decide) ?_
      exact im_ireturn X (-2) rfl rfl dX4_bestCost_39
    · refine im_iload_n X 3 dX4_bestCost_20 rfl rfl ?_
      refine im_aload_n X 0 dX4_bestCost_21 rfl rfl ?_
      refine im_cget X 0 0 (v := .ref (aY 3)) fl_X4_18 rfl rfl rfl dX4_bestCost_22 ?_
      refine im_iload_n X 2 dX4_bestCost_25 rfl rfl ?_
      refine im_ciald X 0 3 0 (f := (Y 3)) rfl rfl rfl dX4_bestCost_26 ?_
      refine im_icmp_gt (tgt := 37) X dX4_bestCost_27 rfl ?_ ?_
      · refine im_bipush X (-2) dX4_bestCost_37 (by decide) ?_
        exact im_ireturn X (-2) rfl rfl dX4_bestCost_39
      · refine im_iload_n X 3 dX4_bestCost_30 rfl rfl ?_
        refine im_mabs X mt1_X4_100 mt2_abs mt3 mt4_abs ⟨by decide, Nat.le_of_ble_eq_true rfl⟩ dX4_bestCost_31 ?_
        refine im_goto (tgt := 39) X dX4_bestCost_34 rfl ?_
        exact im_ireturn X (if 0 ≤ x3 then x3 else 0 - x3) rfl rfl dX4_bestCost_39
theorem c_X4_bestCost (l : Launch) (D : va_G) (ct : im_ct) (F : Nat) (aY aC : Nat → Nat) (Y : Mem) (C : Mem) (x2 : Int32) (x3 : Int32) : CMi l D ct yX4_bestCost cX4_bestCost 8 (some .int) 2 [.ref (aY 0), .ref (aC 0), .int x2, .int x3] (cat [w_Payment ct aY Y, w_Cloth ct aC C]) (f_X4_bestCost F Y C x2 x3) (fun z : Int32 => z) (fun z : Int32 => (cat [w_Payment ct aY Y, w_Cloth ct aC C])) :=
  im_met (Qb := fun A => QI D A (fun z : Int32 => z) (fun z : Int32 => (cat [w_Payment ct aY Y, w_Cloth ct aC C]))) (by decide +kernel) (Nat.le_of_ble_eq_true rfl) (fun p e s m args below meth c A X => i_X4_bestCost X F aY aC Y C x2 x3)

noncomputable def f_X4_follow_59 (F : Nat) (Y : Mem) (C : Mem) (x3 : Int32) (x4 : Int32) (x5 : Int32) (x6 : Int32) (k87 : Int32 → Option (Mem)) (k109 : Option (Mem)) : Nat → Int32 → Option (Mem)
  | 0, _ => none
  | n + 1, x7 =>
  ck x4 6 ((if ((Y 3) x4.toNatClampNeg) < x7 then k109 else (f_X4_costWith F Y x4 x3 x7 x5).bind (fun z79 => (if z79 = x6 then k87 x7 else f_X4_follow_59 F Y C x3 x4 x5 x6 k87 k109 n (x7 + x5)))))
set_option maxRecDepth 100000 in
set_option maxHeartbeats 4000000 in
theorem i_X4_follow_59 {p : Program} {l : Launch} {e : Env} {s : State} {m : MethodId} {args : Array Value} {below : List Frame} {meth : Method} {c : Code} {D : va_G} {ct : im_ct} {A : Nat → Prop} (X : im_X p (im_rm 2) s m args meth c D ct A RX4 cX4_follow 8 none) (F : Nat) (aY aC : Nat → Nat) (Y : Mem) (C : Mem) (x3 : Int32) (x4 : Int32) (x5 : Int32) (x6 : Int32) (k87 : Int32 → Option (Mem)) (hk87 : ∀ (x7 : Int32), Im p l e (im_rm 2) s m args below meth c D A 8 (QV D A (fun z : Mem => (cat [w_Payment ct aY z, w_Cloth ct aC C]))) 87 [(0, .ref (aY 0)), (1, .ref (aC 0)), (3, .int x3), (4, .int x4), (5, .int x5), (7, .int x7)] [] (cat [w_Payment ct aY Y, w_Cloth ct aC C]) (k87 x7)) (k109 : Option (Mem)) (hk109 : Im p l e (im_rm 2) s m args below meth c D A 8 (QV D A (fun z : Mem => (cat [w_Payment ct aY z, w_Cloth ct aC C]))) 109 [(0, .ref (aY 0)), (1, .ref (aC 0)), (3, .int x3), (4, .int x4), (5, .int x5)] [] (cat [w_Payment ct aY Y, w_Cloth ct aC C]) (k109)) : ∀ (n : Nat) (x7 : Int32), Im p l e (im_rm 2) s m args below meth c D A 8 (QV D A (fun z : Mem => (cat [w_Payment ct aY z, w_Cloth ct aC C]))) 59 [(0, .ref (aY 0)), (1, .ref (aC 0)), (3, .int x3), (4, .int x4), (5, .int x5), (6, .int x6), (7, .int x7)] [] (cat [w_Payment ct aY Y, w_Cloth ct aC C]) (f_X4_follow_59 F Y C x3 x4 x5 x6 k87 k109 n x7) := by
  intro n
  induction n with
  | zero => intros; exact im_none
  | succ n ih =>
    intro x7
    unfold f_X4_follow_59
    refine im_iload X 6 dX4_follow_59 rfl ?_
    refine im_aload_n X 0 dX4_follow_61 rfl rfl ?_
    refine im_cget X 0 0 (v := .ref (aY 3)) fl_X4_18 rfl rfl rfl dX4_follow_62 ?_
    refine im_iload X 3 dX4_follow_65 rfl ?_
    refine im_ciald X 0 3 0 (f := (Y 3)) rfl rfl rfl dX4_follow_67 ?_
    refine im_icmp_gt (tgt := 109) X dX4_follow_68 rfl ?_ ?_
    · refine im_lv [0, 1, 2, 3, 4] [(0, .ref (aY 0)), (1, .ref (aC 0)), (3, .int x3), (4, .int x4), (5, .int x5)] rfl ?_
      exact hk109
    · refine im_aload_n X 0 dX4_follow_71 rfl rfl ?_
      refine im_iload X 3 dX4_follow_72 rfl ?_
      refine im_iload_n X 2 dX4_follow_74 rfl rfl ?_
      refine im_iload X 6 dX4_follow_75 rfl ?_
      refine im_iload X 4 dX4_follow_77 rfl ?_
      refine im_cciV X [.int x4, .int x3, .int x7, .int x5] [] [w_Payment ct aY Y, w_Cloth ct aC C] [w_Payment ct aY Y] [0] (fun z79 => [w_Payment ct aY Y]) 0 0 4 rfl rfl rfl cl_X4_107 (c_X4_costWith l D ct F aY Y x4 x3 x7 x5) rfl (by decide) (fun _ => lc rfl (rfl)) rfl ⟨by decide, by decide⟩ (Nat.le_of_ble_eq_true rfl) rfl dX4_follow_79 (fun z79 => ?_)
      refine im_ws (cat [w_Payment ct aY Y, w_Cloth ct aC C]) rfl ?_
      refine im_iload X 5 dX4_follow_82 rfl ?_
      refine im_icmp_ne (tgt := 99) X dX4_follow_84 rfl ?_ ?_
      · refine im_iload X 6 dX4_follow_99 rfl ?_
        refine im_iload X 4 dX4_follow_101 rfl ?_
        refine im_iadd X dX4_follow_103 ?_
        refine im_istore X [1, 2, 3, 4, 5, 6, 0] [(0, .ref (aY 0)), (1, .ref (aC 0)), (3, .int x3), (4, .int x4), (5, .int x5), (6, .int x6), (7, .int (x7 + x5))] dX4_follow_104 (by decide) rfl ?_
        refine im_goto (tgt := 59) X dX4_follow_106 rfl ?_
        exact ih (x7 + x5)
      · refine im_lv [0, 1, 2, 3, 4, 6] [(0, .ref (aY 0)), (1, .ref (aC 0)), (3, .int x3), (4, .int x4), (5, .int x5), (7, .int x7)] rfl ?_
        exact hk87 x7
noncomputable def f_X4_follow_109 (F : Nat) (Y : Mem) (C : Mem) (x3 : Int32) (x4 : Int32) (x5 : Int32) (k5 : Mem → Int32 → Int32 → Option (Mem)) : Option (Mem) :=
  ck x4 6 (dv x5 (k5 Y ((x3 - ((Y 1) x4.toNatClampNeg)) / x5) (x4 + 1)))
set_option maxRecDepth 100000 in
set_option maxHeartbeats 4000000 in
theorem i_X4_follow_109 {p : Program} {l : Launch} {e : Env} {s : State} {m : MethodId} {args : Array Value} {below : List Frame} {meth : Method} {c : Code} {D : va_G} {ct : im_ct} {A : Nat → Prop} (X : im_X p (im_rm 2) s m args meth c D ct A RX4 cX4_follow 8 none) (F : Nat) (aY aC : Nat → Nat) (Y : Mem) (C : Mem) (x3 : Int32) (x4 : Int32) (x5 : Int32) (k5 : Mem → Int32 → Int32 → Option (Mem)) (hk5 : ∀ (Y : Mem) (x3 : Int32) (x4 : Int32), Im p l e (im_rm 2) s m args below meth c D A 8 (QV D A (fun z : Mem => (cat [w_Payment ct aY z, w_Cloth ct aC C]))) 5 [(0, .ref (aY 0)), (1, .ref (aC 0)), (3, .int x3), (4, .int x4)] [] (cat [w_Payment ct aY Y, w_Cloth ct aC C]) (k5 Y x3 x4)) : Im p l e (im_rm 2) s m args below meth c D A 8 (QV D A (fun z : Mem => (cat [w_Payment ct aY z, w_Cloth ct aC C]))) 109 [(0, .ref (aY 0)), (1, .ref (aC 0)), (3, .int x3), (4, .int x4), (5, .int x5)] [] (cat [w_Payment ct aY Y, w_Cloth ct aC C]) (f_X4_follow_109 F Y C x3 x4 x5 k5) := by
  unfold f_X4_follow_109
  refine im_iload_n X 2 dX4_follow_109 rfl rfl ?_
  refine im_aload_n X 0 dX4_follow_110 rfl rfl ?_
  refine im_cget X 0 0 (v := .ref (aY 1)) fl_X4_11 rfl rfl rfl dX4_follow_111 ?_
  refine im_iload X 3 dX4_follow_114 rfl ?_
  refine im_ciald X 0 1 0 (f := (Y 1)) rfl rfl rfl dX4_follow_116 ?_
  refine im_isub X dX4_follow_117 ?_
  refine im_iload X 4 dX4_follow_118 rfl ?_
  refine im_idiv X dX4_follow_120 ?_
  refine im_istore_n X [1, 2, 0, 3, 4] [(0, .ref (aY 0)), (1, .ref (aC 0)), (3, .int ((x3 - ((Y 1) x4.toNatClampNeg)) / x5)), (4, .int x4), (5, .int x5)] dX4_follow_121 rfl (by decide) rfl ?_
  refine im_iinc X 3 1 [1, 2, 3, 0, 4] [(0, .ref (aY 0)), (1, .ref (aC 0)), (3, .int ((x3 - ((Y 1) x4.toNatClampNeg)) / x5)), (4, .int (x4 + 1)), (5, .int x5)] dX4_follow_122 (by decide) rfl (by decide) rfl ?_
  refine im_goto (tgt := 5) X dX4_follow_125 rfl ?_
  refine im_lv [0, 1, 2, 3] [(0, .ref (aY 0)), (1, .ref (aC 0)), (3, .int ((x3 - ((Y 1) x4.toNatClampNeg)) / x5)), (4, .int (x4 + 1))] rfl ?_
  exact hk5 Y ((x3 - ((Y 1) x4.toNatClampNeg)) / x5) (x4 + 1)
noncomputable def f_X4_follow_5 (F : Nat) (C : Mem) (k128 : Mem → Int32 → Option (Mem)) : Nat → Mem → Int32 → Int32 → Option (Mem)
  | 0, _, _, _ => none
  | n + 1, Y, x3, x4 =>
  (if ((Y 0 7) - 1) ≤ x4 then k128 Y x3 else ck (x4 + 1) 6 ((f_X4_costOf F Y x4 x3).bind (fun z35 => ck x4 6 ((f_X4_firstOver F (mr Y 1 (upd (Y 1) x4.toNatClampNeg 0)) x4 x3 (if 2 < ((C 1) ((x4 + 1)).toNatClampNeg) then ((C 1) ((x4 + 1)).toNatClampNeg) else 2)).bind (fun z54 => f_X4_follow_59 F (mr Y 1 (upd (Y 1) x4.toNatClampNeg 0)) C x3 x4 (if 2 < ((C 1) ((x4 + 1)).toNatClampNeg) then ((C 1) ((x4 + 1)).toNatClampNeg) else 2) z35 (fun x7_87 => ck x4 6 (f_X4_follow_109 F (mr Y 1 (upd (upd (Y 1) x4.toNatClampNeg 0) x4.toNatClampNeg x7_87)) C x3 x4 (if 2 < ((C 1) ((x4 + 1)).toNatClampNeg) then ((C 1) ((x4 + 1)).toNatClampNeg) else 2) (f_X4_follow_5 F C k128 n))) (f_X4_follow_109 F (mr Y 1 (upd (Y 1) x4.toNatClampNeg 0)) C x3 x4 (if 2 < ((C 1) ((x4 + 1)).toNatClampNeg) then ((C 1) ((x4 + 1)).toNatClampNeg) else 2) (f_X4_follow_5 F C k128 n)) F z54)))))
set_option maxRecDepth 100000 in
set_option maxHeartbeats 4000000 in
theorem i_X4_follow_5 {p : Program} {l : Launch} {e : Env} {s : State} {m : MethodId} {args : Array Value} {below : List Frame} {meth : Method} {c : Code} {D : va_G} {ct : im_ct} {A : Nat → Prop} (X : im_X p (im_rm 2) s m args meth c D ct A RX4 cX4_follow 8 none) (F : Nat) (aY aC : Nat → Nat) (C : Mem) (k128 : Mem → Int32 → Option (Mem)) (hk128 : ∀ (Y : Mem) (x3 : Int32), Im p l e (im_rm 2) s m args below meth c D A 8 (QV D A (fun z : Mem => (cat [w_Payment ct aY z, w_Cloth ct aC C]))) 128 [(0, .ref (aY 0)), (3, .int x3)] [] (cat [w_Payment ct aY Y, w_Cloth ct aC C]) (k128 Y x3)) : ∀ (n : Nat) (Y : Mem) (x3 : Int32) (x4 : Int32), Im p l e (im_rm 2) s m args below meth c D A 8 (QV D A (fun z : Mem => (cat [w_Payment ct aY z, w_Cloth ct aC C]))) 5 [(0, .ref (aY 0)), (1, .ref (aC 0)), (3, .int x3), (4, .int x4)] [] (cat [w_Payment ct aY Y, w_Cloth ct aC C]) (f_X4_follow_5 F C k128 n Y x3 x4) := by
  intro n
  induction n with
  | zero => intros; exact im_none
  | succ n ih =>
    intro Y x3 x4
    unfold f_X4_follow_5
    refine im_iload X 3 dX4_follow_5 rfl ?_
    refine im_aload_n X 0 dX4_follow_7 rfl rfl ?_
    refine im_cget X 0 0 (v := .int (Y 0 7)) fl_X4_59 rfl rfl rfl dX4_follow_8 ?_
    refine im_iconst X 1 dX4_follow_11 (by decide) ?_
    refine im_isub X dX4_follow_12 ?_
    refine im_icmp_ge (tgt := 128) X dX4_follow_13 rfl ?_ ?_
    · refine im_lv [0, 2] [(0, .ref (aY 0)), (3, .int x3)] rfl ?_
      exact hk128 Y x3
    · refine im_iconst X 2 dX4_follow_16 (by decide) ?_
      refine im_aload_n X 1 dX4_follow_17 rfl rfl ?_
      refine im_cget X 1 0 (v := .ref (aC 1)) fl_X4_94 rfl rfl rfl dX4_follow_18 ?_
      refine im_iload X 3 dX4_follow_21 rfl ?_
      refine im_iconst X 1 dX4_follow_23 (by decide) ?_
      refine im_iadd X dX4_follow_24 ?_
      refine im_ciald X 1 1 0 (f := (C 1)) rfl rfl rfl dX4_follow_25 ?_
      refine im_mmax X mt1_X4_86 mt2_max mt3 mt4_max ⟨by decide, Nat.le_of_ble_eq_true rfl⟩ dX4_follow_26 ?_
      refine im_istore X [1, 2, 3, 4, 0] [(0, .ref (aY 0)), (1, .ref (aC 0)), (3, .int x3), (4, .int x4), (5, .int (if 2 < ((C 1) ((x4 + 1)).toNatClampNeg) then ((C 1) ((x4 + 1)).toNatClampNeg) else 2))] dX4_follow_29 (by decide) rfl ?_
      refine im_aload_n X 0 dX4_follow_31 rfl rfl ?_
      refine im_iload X 3 dX4_follow_32 rfl ?_
      refine im_iload_n X 2 dX4_follow_34 rfl rfl ?_
      refine im_cciV X [.int x4, .int x3] [] [w_Payment ct aY Y, w_Cloth ct aC C] [w_Payment ct aY Y] [0] (fun z35 => [w_Payment ct aY Y]) 0 0 4 rfl rfl rfl cl_X4_76 (c_X4_costOf l D ct F aY Y x4 x3) rfl (by decide) (fun _ => lc rfl (rfl)) rfl ⟨by decide, by decide⟩ (Nat.le_of_ble_eq_true rfl) rfl dX4_follow_35 (fun z35 => ?_)
      refine im_ws (cat [w_Payment ct aY Y, w_Cloth ct aC C]) rfl ?_
      refine im_istore X [1, 2, 3, 4, 5, 0] [(0, .ref (aY 0)), (1, .ref (aC 0)), (3, .int x3), (4, .int x4), (5, .int (if 2 < ((C 1) ((x4 + 1)).toNatClampNeg) then ((C 1) ((x4 + 1)).toNatClampNeg) else 2)), (6, .int z35)] dX4_follow_38 (by decide) rfl ?_
      refine im_aload_n X 0 dX4_follow_40 rfl rfl ?_
      refine im_cget X 0 0 (v := .ref (aY 1)) fl_X4_11 rfl rfl rfl dX4_follow_41 ?_
      refine im_iload X 3 dX4_follow_44 rfl ?_
      refine im_iconst X 0 dX4_follow_46 (by decide) ?_
      refine im_ciast X 0 1 0 (wx_Payment ct aY (Y 0 7) (Y 0 8) (Y 0 9) (Y 0 10) (Y 0 11) (Y 0 12) (upd (Y 1) x4.toNatClampNeg 0) (Y 2) (Y 3) (Y 4) (Y 5) (Y 6) (Y 7)) [wx_Payment ct aY (Y 0 7) (Y 0 8) (Y 0 9) (Y 0 10) (Y 0 11) (Y 0 12) (upd (Y 1) x4.toNatClampNeg 0) (Y 2) (Y 3) (Y 4) (Y 5) (Y 6) (Y 7), w_Cloth ct aC C] (f := (Y 1)) rfl rfl rfl rfl rfl dX4_follow_47 ?_
      refine im_aload_n X 0 dX4_follow_48 rfl rfl ?_
      refine im_iload X 3 dX4_follow_49 rfl ?_
      refine im_iload_n X 2 dX4_follow_51 rfl rfl ?_
      refine im_iload X 4 dX4_follow_52 rfl ?_
      refine im_cciV X [.int x4, .int x3, .int (if 2 < ((C 1) ((x4 + 1)).toNatClampNeg) then ((C 1) ((x4 + 1)).toNatClampNeg) else 2)] [] [wx_Payment ct aY (Y 0 7) (Y 0 8) (Y 0 9) (Y 0 10) (Y 0 11) (Y 0 12) (upd (Y 1) x4.toNatClampNeg 0) (Y 2) (Y 3) (Y 4) (Y 5) (Y 6) (Y 7), w_Cloth ct aC C] [w_Payment ct aY (mr Y 1 (upd (Y 1) x4.toNatClampNeg 0))] [0] (fun z54 => [w_Payment ct aY (mr Y 1 (upd (Y 1) x4.toNatClampNeg 0))]) 0 0 4 rfl rfl rfl cl_X4_103 (c_X4_firstOver l D ct F aY (mr Y 1 (upd (Y 1) x4.toNatClampNeg 0)) x4 x3 (if 2 < ((C 1) ((x4 + 1)).toNatClampNeg) then ((C 1) ((x4 + 1)).toNatClampNeg) else 2)) rfl (by decide) (fun _ => lc rfl (rfl)) rfl ⟨by decide, by decide⟩ (Nat.le_of_ble_eq_true rfl) rfl dX4_follow_54 (fun z54 => ?_)
      refine im_ws (cat [wx_Payment ct aY (Y 0 7) (Y 0 8) (Y 0 9) (Y 0 10) (Y 0 11) (Y 0 12) (upd (Y 1) x4.toNatClampNeg 0) (Y 2) (Y 3) (Y 4) (Y 5) (Y 6) (Y 7), w_Cloth ct aC C]) rfl ?_
      refine im_istore X [1, 2, 3, 4, 5, 6, 0] [(0, .ref (aY 0)), (1, .ref (aC 0)), (3, .int x3), (4, .int x4), (5, .int (if 2 < ((C 1) ((x4 + 1)).toNatClampNeg) then ((C 1) ((x4 + 1)).toNatClampNeg) else 2)), (6, .int z35), (7, .int z54)] dX4_follow_57 (by decide) rfl ?_
      refine i_X4_follow_59 X F aY aC (mr Y 1 (upd (Y 1) x4.toNatClampNeg 0)) C x3 x4 (if 2 < ((C 1) ((x4 + 1)).toNatClampNeg) then ((C 1) ((x4 + 1)).toNatClampNeg) else 2) z35 _ (fun x7_87 => ?_) _ ?_ F z54
      · refine im_aload_n X 0 dX4_follow_87 rfl rfl ?_
        refine im_cget X 0 0 (v := .ref (aY 1)) fl_X4_11 rfl rfl rfl dX4_follow_88 ?_
        refine im_iload X 3 dX4_follow_91 rfl ?_
        refine im_iload X 5 dX4_follow_93 rfl ?_
        refine im_ciast X 0 1 0 (wx_Payment ct aY (Y 0 7) (Y 0 8) (Y 0 9) (Y 0 10) (Y 0 11) (Y 0 12) (upd (upd (Y 1) x4.toNatClampNeg 0) x4.toNatClampNeg x7_87) (Y 2) (Y 3) (Y 4) (Y 5) (Y 6) (Y 7)) [wx_Payment ct aY (Y 0 7) (Y 0 8) (Y 0 9) (Y 0 10) (Y 0 11) (Y 0 12) (upd (upd (Y 1) x4.toNatClampNeg 0) x4.toNatClampNeg x7_87) (Y 2) (Y 3) (Y 4) (Y 5) (Y 6) (Y 7), w_Cloth ct aC C] (f := (upd (Y 1) x4.toNatClampNeg 0)) rfl rfl rfl rfl rfl dX4_follow_95 ?_
        refine im_goto (tgt := 109) X dX4_follow_96 rfl ?_
        refine im_lv [0, 1, 2, 3, 4] [(0, .ref (aY 0)), (1, .ref (aC 0)), (3, .int x3), (4, .int x4), (5, .int (if 2 < ((C 1) ((x4 + 1)).toNatClampNeg) then ((C 1) ((x4 + 1)).toNatClampNeg) else 2))] rfl ?_
        exact i_X4_follow_109 X F aY aC (mr Y 1 (upd (upd (Y 1) x4.toNatClampNeg 0) x4.toNatClampNeg x7_87)) C x3 x4 (if 2 < ((C 1) ((x4 + 1)).toNatClampNeg) then ((C 1) ((x4 + 1)).toNatClampNeg) else 2) _ ih
      · exact i_X4_follow_109 X F aY aC (mr Y 1 (upd (Y 1) x4.toNatClampNeg 0)) C x3 x4 (if 2 < ((C 1) ((x4 + 1)).toNatClampNeg) then ((C 1) ((x4 + 1)).toNatClampNeg) else 2) _ ih
noncomputable def f_X4_follow (F : Nat) (Y : Mem) (C : Mem) (x2 : Int32) : Option (Mem) :=
  f_X4_follow_5 F C (fun Y_128 x3_128 => ck ((Y_128 0 7) - 1) 6 ((some (mr Y_128 1 (upd (Y_128 1) (((Y_128 0 7) - 1)).toNatClampNeg x3_128))))) F Y x2 0
set_option maxRecDepth 100000 in
set_option maxHeartbeats 4000000 in
theorem i_X4_follow {p : Program} {l : Launch} {e : Env} {s : State} {m : MethodId} {args : Array Value} {below : List Frame} {meth : Method} {c : Code} {D : va_G} {ct : im_ct} {A : Nat → Prop} (X : im_X p (im_rm 2) s m args meth c D ct A RX4 cX4_follow 8 none) (F : Nat) (aY aC : Nat → Nat) (Y : Mem) (C : Mem) (x2 : Int32) : Im p l e (im_rm 2) s m args below meth c D A 8 (QV D A (fun z : Mem => (cat [w_Payment ct aY z, w_Cloth ct aC C]))) 0 [(0, .ref (aY 0)), (1, .ref (aC 0)), (2, .int x2)] [] (cat [w_Payment ct aY Y, w_Cloth ct aC C]) (f_X4_follow F Y C x2) := by
  unfold f_X4_follow
  refine im_iload_n X 2 dX4_follow_0 rfl rfl ?_
  refine im_istore_n X [1, 2, 3, 0] [(0, .ref (aY 0)), (1, .ref (aC 0)), (2, .int x2), (3, .int x2)] dX4_follow_1 rfl (by decide) rfl ?_
  refine im_iconst X 0 dX4_follow_2 (by decide) ?_
  refine im_istore X [1, 2, 3, 4, 0] [(0, .ref (aY 0)), (1, .ref (aC 0)), (2, .int x2), (3, .int x2), (4, .int 0)] dX4_follow_3 (by decide) rfl ?_
  refine im_lv [0, 1, 3, 4] [(0, .ref (aY 0)), (1, .ref (aC 0)), (3, .int x2), (4, .int 0)] rfl ?_
  refine i_X4_follow_5 X F aY aC C  _ (fun Y_128 x3_128 => ?_) F Y x2 0
  refine im_aload_n X 0 dX4_follow_128 rfl rfl ?_
  refine im_cget X 0 0 (v := .ref (aY 1)) fl_X4_11 rfl rfl rfl dX4_follow_129 ?_
  refine im_aload_n X 0 dX4_follow_132 rfl rfl ?_
  refine im_cget X 0 0 (v := .int (Y_128 0 7)) fl_X4_59 rfl rfl rfl dX4_follow_133 ?_
  refine im_iconst X 1 dX4_follow_136 (by decide) ?_
  refine im_isub X dX4_follow_137 ?_
  refine im_iload_n X 1 dX4_follow_138 rfl rfl ?_
  refine im_ciast X 0 1 0 (wx_Payment ct aY (Y_128 0 7) (Y_128 0 8) (Y_128 0 9) (Y_128 0 10) (Y_128 0 11) (Y_128 0 12) (upd (Y_128 1) (((Y_128 0 7) - 1)).toNatClampNeg x3_128) (Y_128 2) (Y_128 3) (Y_128 4) (Y_128 5) (Y_128 6) (Y_128 7)) [wx_Payment ct aY (Y_128 0 7) (Y_128 0 8) (Y_128 0 9) (Y_128 0 10) (Y_128 0 11) (Y_128 0 12) (upd (Y_128 1) (((Y_128 0 7) - 1)).toNatClampNeg x3_128) (Y_128 2) (Y_128 3) (Y_128 4) (Y_128 5) (Y_128 6) (Y_128 7), w_Cloth ct aC C] (f := (Y_128 1)) rfl rfl rfl rfl rfl dX4_follow_139 ?_
  exact im_return X (mr Y_128 1 (upd (Y_128 1) (((Y_128 0 7) - 1)).toNatClampNeg x3_128)) rfl dX4_follow_140
theorem c_X4_follow (l : Launch) (D : va_G) (ct : im_ct) (F : Nat) (aY aC : Nat → Nat) (Y : Mem) (C : Mem) (x2 : Int32) : CMv l D ct yX4_follow cX4_follow 8 none 2 [.ref (aY 0), .ref (aC 0), .int x2] (cat [w_Payment ct aY Y, w_Cloth ct aC C]) (f_X4_follow F Y C x2) (fun z : Mem => (cat [w_Payment ct aY z, w_Cloth ct aC C])) :=
  im_met (Qb := fun A => QV D A (fun z : Mem => (cat [w_Payment ct aY z, w_Cloth ct aC C]))) (by decide +kernel) (Nat.le_of_ble_eq_true rfl) (fun p e s m args below meth c A X => i_X4_follow X F aY aC Y C x2)

noncomputable def f_X4_workOut_64 (F : Nat) (C : Mem) (x4 : Int32) (x5 : Int32) (k116 : Mem → Option (Int32 × Mem)) : Nat → Mem → Int32 → Option (Int32 × Mem)
  | 0, _, _ => none
  | n + 1, Y, x6 =>
  ck x5 6 ((if ((Y 6) x5.toNatClampNeg) < x6 then k116 Y else ck x5 6 ((f_X4_bestCost F Y C x5 (((Y 4) x5.toNatClampNeg) + x6)).bind (fun z106 => ck (((x5 * 201) + 100) + x6) 1206 (f_X4_workOut_64 F C x4 x5 k116 n (mr Y 7 (upd (Y 7) ((((x5 * 201) + 100) + x6)).toNatClampNeg z106)) (x6 + 1))))))
set_option maxRecDepth 100000 in
set_option maxHeartbeats 4000000 in
theorem i_X4_workOut_64 {p : Program} {l : Launch} {e : Env} {s : State} {m : MethodId} {args : Array Value} {below : List Frame} {meth : Method} {c : Code} {D : va_G} {ct : im_ct} {A : Nat → Prop} (X : im_X p (im_rm 3) s m args meth c D ct A RX4 cX4_workOut 7 (some .int)) (F : Nat) (aY aC : Nat → Nat) (C : Mem) (x4 : Int32) (x5 : Int32) (k116 : Mem → Option (Int32 × Mem)) (hk116 : ∀ (Y : Mem), Im p l e (im_rm 3) s m args below meth c D A 7 (QI D A (fun z : Int32 × Mem => z.1) (fun z : Int32 × Mem => (cat [w_Payment ct aY z.2, w_Cloth ct aC C]))) 116 [(0, .ref (aY 0)), (1, .ref (aC 0)), (4, .int x4), (5, .int x5)] [] (cat [w_Payment ct aY Y, w_Cloth ct aC C]) (k116 Y)) : ∀ (n : Nat) (Y : Mem) (x6 : Int32), Im p l e (im_rm 3) s m args below meth c D A 7 (QI D A (fun z : Int32 × Mem => z.1) (fun z : Int32 × Mem => (cat [w_Payment ct aY z.2, w_Cloth ct aC C]))) 64 [(0, .ref (aY 0)), (1, .ref (aC 0)), (4, .int x4), (5, .int x5), (6, .int x6)] [] (cat [w_Payment ct aY Y, w_Cloth ct aC C]) (f_X4_workOut_64 F C x4 x5 k116 n Y x6) := by
  intro n
  induction n with
  | zero => intros; exact im_none
  | succ n ih =>
    intro Y x6
    unfold f_X4_workOut_64
    refine im_iload X 4 dX4_workOut_64 rfl ?_
    refine im_aload_n X 0 dX4_workOut_66 rfl rfl ?_
    refine im_cget X 0 0 (v := .ref (aY 6)) fl_X4_27 rfl rfl rfl dX4_workOut_67 ?_
    refine im_iload X 3 dX4_workOut_70 rfl ?_
    refine im_ciald X 0 6 0 (f := (Y 6)) rfl rfl rfl dX4_workOut_72 ?_
    refine im_icmp_gt (tgt := 116) X dX4_workOut_73 rfl ?_ ?_
    · refine im_lv [0, 1, 2, 3] [(0, .ref (aY 0)), (1, .ref (aC 0)), (4, .int x4), (5, .int x5)] rfl ?_
      exact hk116 Y
    · refine im_aload_n X 0 dX4_workOut_76 rfl rfl ?_
      refine im_cget X 0 0 (v := .ref (aY 7)) fl_X4_30 rfl rfl rfl dX4_workOut_77 ?_
      refine im_iload X 3 dX4_workOut_80 rfl ?_
      refine im_sipush X 201 dX4_workOut_82 (by decide) ?_
      refine im_imul X dX4_workOut_85 ?_
      refine im_bipush X 100 dX4_workOut_86 (by decide) ?_
      refine im_iadd X dX4_workOut_88 ?_
      refine im_iload X 4 dX4_workOut_89 rfl ?_
      refine im_iadd X dX4_workOut_91 ?_
      refine im_aload_n X 0 dX4_workOut_92 rfl rfl ?_
      refine im_aload_n X 1 dX4_workOut_93 rfl rfl ?_
      refine im_iload X 3 dX4_workOut_94 rfl ?_
      refine im_aload_n X 0 dX4_workOut_96 rfl rfl ?_
      refine im_cget X 0 0 (v := .ref (aY 4)) fl_X4_21 rfl rfl rfl dX4_workOut_97 ?_
      refine im_iload X 3 dX4_workOut_100 rfl ?_
      refine im_ciald X 0 4 0 (f := (Y 4)) rfl rfl rfl dX4_workOut_102 ?_
      refine im_iload X 4 dX4_workOut_103 rfl ?_
      refine im_iadd X dX4_workOut_105 ?_
      refine im_cciV X [.ref (aC 0), .int x5, .int (((Y 4) x5.toNatClampNeg) + x6)] [.int (((x5 * 201) + 100) + x6), .ref (aY 7)] [w_Payment ct aY Y, w_Cloth ct aC C] [w_Payment ct aY Y, w_Cloth ct aC C] [0, 1] (fun z106 => [w_Payment ct aY Y, w_Cloth ct aC C]) 0 0 4 rfl rfl rfl cl_X4_72 (c_X4_bestCost l D ct F aY aC Y C x5 (((Y 4) x5.toNatClampNeg) + x6)) rfl (by decide) (fun _ => lc rfl (lc rfl (rfl))) rfl ⟨by decide, by decide⟩ (Nat.le_of_ble_eq_true rfl) rfl dX4_workOut_106 (fun z106 => ?_)
      refine im_ws (cat [w_Payment ct aY Y, w_Cloth ct aC C]) rfl ?_
      refine im_ciast X 0 7 0 (wx_Payment ct aY (Y 0 7) (Y 0 8) (Y 0 9) (Y 0 10) (Y 0 11) (Y 0 12) (Y 1) (Y 2) (Y 3) (Y 4) (Y 5) (Y 6) (upd (Y 7) ((((x5 * 201) + 100) + x6)).toNatClampNeg z106)) [wx_Payment ct aY (Y 0 7) (Y 0 8) (Y 0 9) (Y 0 10) (Y 0 11) (Y 0 12) (Y 1) (Y 2) (Y 3) (Y 4) (Y 5) (Y 6) (upd (Y 7) ((((x5 * 201) + 100) + x6)).toNatClampNeg z106), w_Cloth ct aC C] (f := (Y 7)) rfl rfl rfl rfl rfl dX4_workOut_109 ?_
      refine im_iinc X 4 1 [1, 2, 3, 4, 0] [(0, .ref (aY 0)), (1, .ref (aC 0)), (4, .int x4), (5, .int x5), (6, .int (x6 + 1))] dX4_workOut_110 (by decide) rfl (by decide) rfl ?_
      refine im_goto (tgt := 64) X dX4_workOut_113 rfl ?_
      exact ih (mr Y 7 (upd (Y 7) ((((x5 * 201) + 100) + x6)).toNatClampNeg z106)) (x6 + 1)
noncomputable def f_X4_workOut_50 (F : Nat) (C : Mem) (x4 : Int32) (k122 : Mem → Option (Int32 × Mem)) : Nat → Mem → Int32 → Option (Int32 × Mem)
  | 0, _, _ => none
  | n + 1, Y, x5 =>
  (if x5 < 0 then k122 Y else ck x5 6 (f_X4_workOut_64 F C x4 x5 (fun Y_116 => f_X4_workOut_50 F C x4 k122 n Y_116 (x5 + (-1))) F Y ((Y 5) x5.toNatClampNeg)))
set_option maxRecDepth 100000 in
set_option maxHeartbeats 4000000 in
theorem i_X4_workOut_50 {p : Program} {l : Launch} {e : Env} {s : State} {m : MethodId} {args : Array Value} {below : List Frame} {meth : Method} {c : Code} {D : va_G} {ct : im_ct} {A : Nat → Prop} (X : im_X p (im_rm 3) s m args meth c D ct A RX4 cX4_workOut 7 (some .int)) (F : Nat) (aY aC : Nat → Nat) (C : Mem) (x4 : Int32) (k122 : Mem → Option (Int32 × Mem)) (hk122 : ∀ (Y : Mem), Im p l e (im_rm 3) s m args below meth c D A 7 (QI D A (fun z : Int32 × Mem => z.1) (fun z : Int32 × Mem => (cat [w_Payment ct aY z.2, w_Cloth ct aC C]))) 122 [(0, .ref (aY 0)), (1, .ref (aC 0)), (4, .int x4)] [] (cat [w_Payment ct aY Y, w_Cloth ct aC C]) (k122 Y)) : ∀ (n : Nat) (Y : Mem) (x5 : Int32), Im p l e (im_rm 3) s m args below meth c D A 7 (QI D A (fun z : Int32 × Mem => z.1) (fun z : Int32 × Mem => (cat [w_Payment ct aY z.2, w_Cloth ct aC C]))) 50 [(0, .ref (aY 0)), (1, .ref (aC 0)), (4, .int x4), (5, .int x5)] [] (cat [w_Payment ct aY Y, w_Cloth ct aC C]) (f_X4_workOut_50 F C x4 k122 n Y x5) := by
  intro n
  induction n with
  | zero => intros; exact im_none
  | succ n ih =>
    intro Y x5
    unfold f_X4_workOut_50
    refine im_iload X 3 dX4_workOut_50 rfl ?_
    refine im_if_lt (tgt := 122) X dX4_workOut_52 rfl ?_ ?_
    · refine im_lv [0, 1, 2] [(0, .ref (aY 0)), (1, .ref (aC 0)), (4, .int x4)] rfl ?_
      exact hk122 Y
    · refine im_aload_n X 0 dX4_workOut_55 rfl rfl ?_
      refine im_cget X 0 0 (v := .ref (aY 5)) fl_X4_24 rfl rfl rfl dX4_workOut_56 ?_
      refine im_iload X 3 dX4_workOut_59 rfl ?_
      refine im_ciald X 0 5 0 (f := (Y 5)) rfl rfl rfl dX4_workOut_61 ?_
      refine im_istore X [1, 2, 3, 4, 0] [(0, .ref (aY 0)), (1, .ref (aC 0)), (4, .int x4), (5, .int x5), (6, .int ((Y 5) x5.toNatClampNeg))] dX4_workOut_62 (by decide) rfl ?_
      refine i_X4_workOut_64 X F aY aC C x4 x5 _ (fun Y_116 => ?_) F Y ((Y 5) x5.toNatClampNeg)
      refine im_iinc X 3 (-1) [1, 2, 3, 0] [(0, .ref (aY 0)), (1, .ref (aC 0)), (4, .int x4), (5, .int (x5 + (-1)))] dX4_workOut_116 (by decide) rfl (by decide) rfl ?_
      refine im_goto (tgt := 50) X dX4_workOut_119 rfl ?_
      exact ih Y_116 (x5 + (-1))
noncomputable def f_X4_workOut (F : Nat) (Y : Mem) (C : Mem) (x2 : Int32) (x3 : Int32) (x4 : Int32) : Option (Int32 × Mem) :=
  (if (C 0 6) = 0 then (some ((-2), (mr Y 0 (fu (Y 0) 7 (C 0 6))))) else (f_X0_sumOf F C x2).bind (fun z19 => (if x4 ≤ z19 then (f_X4_setBounds F (mr Y 0 (fu (Y 0) 7 (C 0 6))) C x2 x3).bind (fun z32 => (f_X4_setShifts F z32 C x4).bind (fun z39 => f_X4_workOut_50 F C x4 (fun Y_122 => (f_X4_costOf F Y_122 0 x4).bind (fun z126 => (if z126 = (-2) then (some (z126, Y_122)) else (f_X4_follow F Y_122 C x4).bind (fun z142 => (some (z126, z142)))))) F z39 ((z39 0 7) - 1))) else (some ((-2), (mr Y 0 (fu (Y 0) 7 (C 0 6))))))))
set_option maxRecDepth 100000 in
set_option maxHeartbeats 4000000 in
theorem i_X4_workOut {p : Program} {l : Launch} {e : Env} {s : State} {m : MethodId} {args : Array Value} {below : List Frame} {meth : Method} {c : Code} {D : va_G} {ct : im_ct} {A : Nat → Prop} (X : im_X p (im_rm 3) s m args meth c D ct A RX4 cX4_workOut 7 (some .int)) (F : Nat) (aY aC : Nat → Nat) (Y : Mem) (C : Mem) (x2 : Int32) (x3 : Int32) (x4 : Int32) : Im p l e (im_rm 3) s m args below meth c D A 7 (QI D A (fun z : Int32 × Mem => z.1) (fun z : Int32 × Mem => (cat [w_Payment ct aY z.2, w_Cloth ct aC C]))) 0 [(0, .ref (aY 0)), (1, .ref (aC 0)), (2, .int x2), (3, .int x3), (4, .int x4)] [] (cat [w_Payment ct aY Y, w_Cloth ct aC C]) (f_X4_workOut F Y C x2 x3 x4) := by
  unfold f_X4_workOut
  refine im_aload_n X 0 dX4_workOut_0 rfl rfl ?_
  refine im_aload_n X 1 dX4_workOut_1 rfl rfl ?_
  refine im_cget X 1 0 (v := .int (C 0 6)) fl_X4_54 rfl rfl rfl dX4_workOut_2 ?_
  refine im_cput X 0 0 (wx_Payment ct aY (C 0 6) (Y 0 8) (Y 0 9) (Y 0 10) (Y 0 11) (Y 0 12) (Y 1) (Y 2) (Y 3) (Y 4) (Y 5) (Y 6) (Y 7)) [wx_Payment ct aY (C 0 6) (Y 0 8) (Y 0 9) (Y 0 10) (Y 0 11) (Y 0 12) (Y 1) (Y 2) (Y 3) (Y 4) (Y 5) (Y 6) (Y 7), w_Cloth ct aC C] fl_X4_59 rfl rfl rfl rfl (Nat.le_of_ble_eq_true rfl) rfl rfl dX4_workOut_5 ?_
  refine im_aload_n X 0 dX4_workOut_8 rfl rfl ?_
  refine im_cget X 0 0 (v := .int (C 0 6)) fl_X4_59 rfl rfl rfl dX4_workOut_9 ?_
  refine im_if_eq (tgt := 25) X dX4_workOut_12 rfl ?_ ?_
  · refine im_bipush X (-2) dX4_workOut_25 (by decide) ?_
    exact im_ireturn X ((-2), (mr Y 0 (fu (Y 0) 7 (C 0 6)))) rfl rfl dX4_workOut_27
  · refine im_iload X 4 dX4_workOut_15 rfl ?_
    refine im_aload_n X 1 dX4_workOut_17 rfl rfl ?_
    refine im_iload_n X 2 dX4_workOut_18 rfl rfl ?_
    refine im_cciV X [.int x2] [.int x4] [wx_Payment ct aY (C 0 6) (Y 0 8) (Y 0 9) (Y 0 10) (Y 0 11) (Y 0 12) (Y 1) (Y 2) (Y 3) (Y 4) (Y 5) (Y 6) (Y 7), w_Cloth ct aC C] [w_Cloth ct aC C] [1] (fun z19 => [w_Cloth ct aC C]) 1 0 0 rfl rfl rfl cl_X4_60 (c_X0_sumOf l D ct F aC C x2) rfl (by decide) (fun _ => lc rfl (rfl)) rfl ⟨by decide, by decide⟩ (Nat.le_of_ble_eq_true rfl) rfl dX4_workOut_19 (fun z19 => ?_)
    refine im_ws (cat [wx_Payment ct aY (C 0 6) (Y 0 8) (Y 0 9) (Y 0 10) (Y 0 11) (Y 0 12) (Y 1) (Y 2) (Y 3) (Y 4) (Y 5) (Y 6) (Y 7), w_Cloth ct aC C]) rfl ?_
    refine im_icmp_le (tgt := 28) X dX4_workOut_22 rfl ?_ ?_
    · refine im_aload_n X 0 dX4_workOut_28 rfl rfl ?_
      refine im_aload_n X 1 dX4_workOut_29 rfl rfl ?_
      refine im_iload_n X 2 dX4_workOut_30 rfl rfl ?_
      refine im_iload_n X 3 dX4_workOut_31 rfl rfl ?_
      refine im_ccvV X [.ref (aC 0), .int x2, .int x3] [] [wx_Payment ct aY (C 0 6) (Y 0 8) (Y 0 9) (Y 0 10) (Y 0 11) (Y 0 12) (Y 1) (Y 2) (Y 3) (Y 4) (Y 5) (Y 6) (Y 7), w_Cloth ct aC C] [w_Payment ct aY (mr Y 0 (fu (Y 0) 7 (C 0 6))), w_Cloth ct aC C] [0, 1] (fun z32 => [w_Payment ct aY z32, w_Cloth ct aC C]) 0 0 4 rfl rfl rfl cl_X4_64 (c_X4_setBounds l D ct F aY aC (mr Y 0 (fu (Y 0) 7 (C 0 6))) C x2 x3) rfl (by decide) (fun _ => lc fa_Payment (lc rfl (rfl))) rfl ⟨by decide, by decide⟩ (Nat.le_of_ble_eq_true rfl) rfl dX4_workOut_32 (fun z32 => ?_)
      refine im_ws (cat [w_Payment ct aY z32, w_Cloth ct aC C]) rfl ?_
      refine im_aload_n X 0 dX4_workOut_35 rfl rfl ?_
      refine im_aload_n X 1 dX4_workOut_36 rfl rfl ?_
      refine im_iload X 4 dX4_workOut_37 rfl ?_
      refine im_ccvV X [.ref (aC 0), .int x4] [] [w_Payment ct aY z32, w_Cloth ct aC C] [w_Payment ct aY z32, w_Cloth ct aC C] [0, 1] (fun z39 => [w_Payment ct aY z39, w_Cloth ct aC C]) 0 0 4 rfl rfl rfl cl_X4_68 (c_X4_setShifts l D ct F aY aC z32 C x4) rfl (by decide) (fun _ => lc fa_Payment (lc rfl (rfl))) rfl ⟨by decide, by decide⟩ (Nat.le_of_ble_eq_true rfl) rfl dX4_workOut_39 (fun z39 => ?_)
      refine im_ws (cat [w_Payment ct aY z39, w_Cloth ct aC C]) rfl ?_
      refine im_aload_n X 0 dX4_workOut_42 rfl rfl ?_
      refine im_cget X 0 0 (v := .int (z39 0 7)) fl_X4_59 rfl rfl rfl dX4_workOut_43 ?_
      refine im_iconst X 1 dX4_workOut_46 (by decide) ?_
      refine im_isub X dX4_workOut_47 ?_
      refine im_istore X [1, 2, 3, 4, 5, 0] [(0, .ref (aY 0)), (1, .ref (aC 0)), (2, .int x2), (3, .int x3), (4, .int x4), (5, .int ((z39 0 7) - 1))] dX4_workOut_48 (by decide) rfl ?_
      refine im_lv [0, 1, 4, 5] [(0, .ref (aY 0)), (1, .ref (aC 0)), (4, .int x4), (5, .int ((z39 0 7) - 1))] rfl ?_
      refine i_X4_workOut_50 X F aY aC C x4 _ (fun Y_122 => ?_) F z39 ((z39 0 7) - 1)
      refine im_aload_n X 0 dX4_workOut_122 rfl rfl ?_
      refine im_iconst X 0 dX4_workOut_123 (by decide) ?_
      refine im_iload X 2 dX4_workOut_124 rfl ?_
      refine im_cciV X [.int 0, .int x4] [] [w_Payment ct aY Y_122, w_Cloth ct aC C] [w_Payment ct aY Y_122] [0] (fun z126 => [w_Payment ct aY Y_122]) 0 0 4 rfl rfl rfl cl_X4_76 (c_X4_costOf l D ct F aY Y_122 0 x4) rfl (by decide) (fun _ => lc rfl (rfl)) rfl ⟨by decide, by decide⟩ (Nat.le_of_ble_eq_true rfl) rfl dX4_workOut_126 (fun z126 => ?_)
      refine im_ws (cat [w_Payment ct aY Y_122, w_Cloth ct aC C]) rfl ?_
      refine im_istore X [1, 2, 3, 0] [(0, .ref (aY 0)), (1, .ref (aC 0)), (4, .int x4), (5, .int z126)] dX4_workOut_129 (by decide) rfl ?_
      refine im_iload X 3 dX4_workOut_131 rfl ?_
      refine im_bipush X (-2) dX4_workOut_133 (by decide) ?_
      refine im_icmp_eq (tgt := 145) X dX4_workOut_135 rfl ?_ ?_
      · refine im_iload X 3 dX4_workOut_145 rfl ?_
        exact im_ireturn X (z126, Y_122) rfl rfl dX4_workOut_147
      · refine im_aload_n X 0 dX4_workOut_138 rfl rfl ?_
        refine im_aload_n X 1 dX4_workOut_139 rfl rfl ?_
        refine im_iload X 2 dX4_workOut_140 rfl ?_
        refine im_ccvV X [.ref (aC 0), .int x4] [] [w_Payment ct aY Y_122, w_Cloth ct aC C] [w_Payment ct aY Y_122, w_Cloth ct aC C] [0, 1] (fun z142 => [w_Payment ct aY z142, w_Cloth ct aC C]) 0 0 4 rfl rfl rfl cl_X4_80 (c_X4_follow l D ct F aY aC Y_122 C x4) rfl (by decide) (fun _ => lc fa_Payment (lc rfl (rfl))) rfl ⟨by decide, by decide⟩ (Nat.le_of_ble_eq_true rfl) rfl dX4_workOut_142 (fun z142 => ?_)
        refine im_ws (cat [w_Payment ct aY z142, w_Cloth ct aC C]) rfl ?_
        refine im_iload X 3 dX4_workOut_145 rfl ?_
        exact im_ireturn X (z126, z142) rfl rfl dX4_workOut_147
    · refine im_bipush X (-2) dX4_workOut_25 (by decide) ?_
      exact im_ireturn X ((-2), (mr Y 0 (fu (Y 0) 7 (C 0 6)))) rfl rfl dX4_workOut_27
theorem c_X4_workOut (l : Launch) (D : va_G) (ct : im_ct) (F : Nat) (aY aC : Nat → Nat) (Y : Mem) (C : Mem) (x2 : Int32) (x3 : Int32) (x4 : Int32) : CMi l D ct yX4_workOut cX4_workOut 7 (some .int) 3 [.ref (aY 0), .ref (aC 0), .int x2, .int x3, .int x4] (cat [w_Payment ct aY Y, w_Cloth ct aC C]) (f_X4_workOut F Y C x2 x3 x4) (fun z : Int32 × Mem => z.1) (fun z : Int32 × Mem => (cat [w_Payment ct aY z.2, w_Cloth ct aC C])) :=
  im_met (Qb := fun A => QI D A (fun z : Int32 × Mem => z.1) (fun z : Int32 × Mem => (cat [w_Payment ct aY z.2, w_Cloth ct aC C]))) (by decide +kernel) (Nat.le_of_ble_eq_true rfl) (fun p e s m args below meth c A X => i_X4_workOut X F aY aC Y C x2 x3 x4)

noncomputable def f_X4_settle_32 (F : Nat) (Y : Mem) (C : Mem) (x2 : Int32) (x3 : Int32) (x4 : Int32) : Option (Int32 × Mem) :=
  (f_X4_workOut F (mr Y 0 (fu (fu (fu (Y 0) 8 x2) 9 x3) 10 x4)) C x2 x3 x4).bind (fun z55 => (some (z55.1, (mr z55.2 0 (fu (fu (z55.2 0) 11 z55.1) 12 1)))))
set_option maxRecDepth 100000 in
set_option maxHeartbeats 4000000 in
theorem i_X4_settle_32 {p : Program} {l : Launch} {e : Env} {s : State} {m : MethodId} {args : Array Value} {below : List Frame} {meth : Method} {c : Code} {D : va_G} {ct : im_ct} {A : Nat → Prop} (X : im_X p (im_rm 4) s m args meth c D ct A RX4 cX4_settle 5 (some .int)) (F : Nat) (aY aC : Nat → Nat) (Y : Mem) (C : Mem) (x2 : Int32) (x3 : Int32) (x4 : Int32) : Im p l e (im_rm 4) s m args below meth c D A 5 (QI D A (fun z : Int32 × Mem => z.1) (fun z : Int32 × Mem => (cat [w_Payment ct aY z.2, w_Cloth ct aC C]))) 32 [(0, .ref (aY 0)), (1, .ref (aC 0)), (2, .int x2), (3, .int x3), (4, .int x4)] [] (cat [w_Payment ct aY Y, w_Cloth ct aC C]) (f_X4_settle_32 F Y C x2 x3 x4) := by
  unfold f_X4_settle_32
  refine im_aload_n X 0 dX4_settle_32 rfl rfl ?_
  refine im_iload_n X 2 dX4_settle_33 rfl rfl ?_
  refine im_cput X 0 0 (wx_Payment ct aY (Y 0 7) x2 (Y 0 9) (Y 0 10) (Y 0 11) (Y 0 12) (Y 1) (Y 2) (Y 3) (Y 4) (Y 5) (Y 6) (Y 7)) [wx_Payment ct aY (Y 0 7) x2 (Y 0 9) (Y 0 10) (Y 0 11) (Y 0 12) (Y 1) (Y 2) (Y 3) (Y 4) (Y 5) (Y 6) (Y 7), w_Cloth ct aC C] fl_X4_37 rfl rfl rfl rfl (Nat.le_of_ble_eq_true rfl) rfl rfl dX4_settle_34 ?_
  refine im_aload_n X 0 dX4_settle_37 rfl rfl ?_
  refine im_iload_n X 3 dX4_settle_38 rfl rfl ?_
  refine im_cput X 0 0 (wx_Payment ct aY (Y 0 7) x2 x3 (Y 0 10) (Y 0 11) (Y 0 12) (Y 1) (Y 2) (Y 3) (Y 4) (Y 5) (Y 6) (Y 7)) [wx_Payment ct aY (Y 0 7) x2 x3 (Y 0 10) (Y 0 11) (Y 0 12) (Y 1) (Y 2) (Y 3) (Y 4) (Y 5) (Y 6) (Y 7), w_Cloth ct aC C] fl_X4_41 rfl rfl rfl rfl (Nat.le_of_ble_eq_true rfl) rfl rfl dX4_settle_39 ?_
  refine im_aload_n X 0 dX4_settle_42 rfl rfl ?_
  refine im_iload X 4 dX4_settle_43 rfl ?_
  refine im_cput X 0 0 (wx_Payment ct aY (Y 0 7) x2 x3 x4 (Y 0 11) (Y 0 12) (Y 1) (Y 2) (Y 3) (Y 4) (Y 5) (Y 6) (Y 7)) [wx_Payment ct aY (Y 0 7) x2 x3 x4 (Y 0 11) (Y 0 12) (Y 1) (Y 2) (Y 3) (Y 4) (Y 5) (Y 6) (Y 7), w_Cloth ct aC C] fl_X4_44 rfl rfl rfl rfl (Nat.le_of_ble_eq_true rfl) rfl rfl dX4_settle_45 ?_
  refine im_aload_n X 0 dX4_settle_48 rfl rfl ?_
  refine im_aload_n X 0 dX4_settle_49 rfl rfl ?_
  refine im_aload_n X 1 dX4_settle_50 rfl rfl ?_
  refine im_iload_n X 2 dX4_settle_51 rfl rfl ?_
  refine im_iload_n X 3 dX4_settle_52 rfl rfl ?_
  refine im_iload X 4 dX4_settle_53 rfl ?_
  refine im_cciV X [.ref (aC 0), .int x2, .int x3, .int x4] [.ref (aY 0)] [wx_Payment ct aY (Y 0 7) x2 x3 x4 (Y 0 11) (Y 0 12) (Y 1) (Y 2) (Y 3) (Y 4) (Y 5) (Y 6) (Y 7), w_Cloth ct aC C] [w_Payment ct aY (mr Y 0 (fu (fu (fu (Y 0) 8 x2) 9 x3) 10 x4)), w_Cloth ct aC C] [0, 1] (fun z55 => [w_Payment ct aY z55.2, w_Cloth ct aC C]) 0 0 4 rfl rfl rfl cl_X4_47 (c_X4_workOut l D ct F aY aC (mr Y 0 (fu (fu (fu (Y 0) 8 x2) 9 x3) 10 x4)) C x2 x3 x4) rfl (by decide) (fun _ => lc fa_Payment (lc rfl (rfl))) rfl ⟨by decide, by decide⟩ (Nat.le_of_ble_eq_true rfl) rfl dX4_settle_55 (fun z55 => ?_)
  refine im_ws (cat [w_Payment ct aY z55.2, w_Cloth ct aC C]) rfl ?_
  refine im_cput X 0 0 (wx_Payment ct aY (z55.2 0 7) (z55.2 0 8) (z55.2 0 9) (z55.2 0 10) z55.1 (z55.2 0 12) (z55.2 1) (z55.2 2) (z55.2 3) (z55.2 4) (z55.2 5) (z55.2 6) (z55.2 7)) [wx_Payment ct aY (z55.2 0 7) (z55.2 0 8) (z55.2 0 9) (z55.2 0 10) z55.1 (z55.2 0 12) (z55.2 1) (z55.2 2) (z55.2 3) (z55.2 4) (z55.2 5) (z55.2 6) (z55.2 7), w_Cloth ct aC C] fl_X4_51 rfl rfl rfl rfl (Nat.le_of_ble_eq_true rfl) rfl rfl dX4_settle_58 ?_
  refine im_aload_n X 0 dX4_settle_61 rfl rfl ?_
  refine im_iconst X 1 dX4_settle_62 (by decide) ?_
  refine im_cput X 0 0 (wx_Payment ct aY (z55.2 0 7) (z55.2 0 8) (z55.2 0 9) (z55.2 0 10) z55.1 1 (z55.2 1) (z55.2 2) (z55.2 3) (z55.2 4) (z55.2 5) (z55.2 6) (z55.2 7)) [wx_Payment ct aY (z55.2 0 7) (z55.2 0 8) (z55.2 0 9) (z55.2 0 10) z55.1 1 (z55.2 1) (z55.2 2) (z55.2 3) (z55.2 4) (z55.2 5) (z55.2 6) (z55.2 7), w_Cloth ct aC C] fl_X4_33 rfl rfl rfl rfl (Nat.le_of_ble_eq_true rfl) rfl rfl dX4_settle_63 ?_
  refine im_aload_n X 0 dX4_settle_66 rfl rfl ?_
  refine im_cget X 0 0 (v := .int z55.1) fl_X4_51 rfl rfl rfl dX4_settle_67 ?_
  exact im_ireturn X (z55.1, (mr z55.2 0 (fu (fu (z55.2 0) 11 z55.1) 12 1))) rfl rfl dX4_settle_70
noncomputable def f_X4_settle (F : Nat) (Y : Mem) (C : Mem) (x2 : Int32) (x3 : Int32) (x4 : Int32) : Option (Int32 × Mem) :=
  (if (Y 0 12) = 0 then f_X4_settle_32 F Y C x2 x3 x4 else (if x2 = (Y 0 8) then (if x3 = (Y 0 9) then (if x4 = (Y 0 10) then (some ((Y 0 11), Y)) else f_X4_settle_32 F Y C x2 x3 x4) else f_X4_settle_32 F Y C x2 x3 x4) else f_X4_settle_32 F Y C x2 x3 x4))
set_option maxRecDepth 100000 in
set_option maxHeartbeats 4000000 in
theorem i_X4_settle {p : Program} {l : Launch} {e : Env} {s : State} {m : MethodId} {args : Array Value} {below : List Frame} {meth : Method} {c : Code} {D : va_G} {ct : im_ct} {A : Nat → Prop} (X : im_X p (im_rm 4) s m args meth c D ct A RX4 cX4_settle 5 (some .int)) (F : Nat) (aY aC : Nat → Nat) (Y : Mem) (C : Mem) (x2 : Int32) (x3 : Int32) (x4 : Int32) : Im p l e (im_rm 4) s m args below meth c D A 5 (QI D A (fun z : Int32 × Mem => z.1) (fun z : Int32 × Mem => (cat [w_Payment ct aY z.2, w_Cloth ct aC C]))) 0 [(0, .ref (aY 0)), (1, .ref (aC 0)), (2, .int x2), (3, .int x3), (4, .int x4)] [] (cat [w_Payment ct aY Y, w_Cloth ct aC C]) (f_X4_settle F Y C x2 x3 x4) := by
  unfold f_X4_settle
  refine im_aload_n X 0 dX4_settle_0 rfl rfl ?_
  refine im_cget X 0 0 (v := .int (Y 0 12)) fl_X4_33 rfl rfl rfl dX4_settle_1 ?_
  refine im_if_eq (tgt := 32) X dX4_settle_4 rfl ?_ ?_
  · exact i_X4_settle_32 X F aY aC Y C x2 x3 x4 
  · refine im_iload_n X 2 dX4_settle_7 rfl rfl ?_
    refine im_aload_n X 0 dX4_settle_8 rfl rfl ?_
    refine im_cget X 0 0 (v := .int (Y 0 8)) fl_X4_37 rfl rfl rfl dX4_settle_9 ?_
    refine im_icmp_ne (tgt := 32) X dX4_settle_12 rfl ?_ ?_
    · exact i_X4_settle_32 X F aY aC Y C x2 x3 x4 
    · refine im_iload_n X 3 dX4_settle_15 rfl rfl ?_
      refine im_aload_n X 0 dX4_settle_16 rfl rfl ?_
      refine im_cget X 0 0 (v := .int (Y 0 9)) fl_X4_41 rfl rfl rfl dX4_settle_17 ?_
      refine im_icmp_ne (tgt := 32) X dX4_settle_20 rfl ?_ ?_
      · exact i_X4_settle_32 X F aY aC Y C x2 x3 x4 
      · refine im_iload X 4 dX4_settle_23 rfl ?_
        refine im_aload_n X 0 dX4_settle_25 rfl rfl ?_
        refine im_cget X 0 0 (v := .int (Y 0 10)) fl_X4_44 rfl rfl rfl dX4_settle_26 ?_
        refine im_icmp_eq (tgt := 66) X dX4_settle_29 rfl ?_ ?_
        · refine im_aload_n X 0 dX4_settle_66 rfl rfl ?_
          refine im_cget X 0 0 (v := .int (Y 0 11)) fl_X4_51 rfl rfl rfl dX4_settle_67 ?_
          exact im_ireturn X ((Y 0 11), Y) rfl rfl dX4_settle_70
        · exact i_X4_settle_32 X F aY aC Y C x2 x3 x4 
theorem c_X4_settle (l : Launch) (D : va_G) (ct : im_ct) (F : Nat) (aY aC : Nat → Nat) (Y : Mem) (C : Mem) (x2 : Int32) (x3 : Int32) (x4 : Int32) : CMi l D ct yX4_settle cX4_settle 5 (some .int) 4 [.ref (aY 0), .ref (aC 0), .int x2, .int x3, .int x4] (cat [w_Payment ct aY Y, w_Cloth ct aC C]) (f_X4_settle F Y C x2 x3 x4) (fun z : Int32 × Mem => z.1) (fun z : Int32 × Mem => (cat [w_Payment ct aY z.2, w_Cloth ct aC C])) :=
  im_met (Qb := fun A => QI D A (fun z : Int32 × Mem => z.1) (fun z : Int32 × Mem => (cat [w_Payment ct aY z.2, w_Cloth ct aC C]))) (by decide +kernel) (Nat.le_of_ble_eq_true rfl) (fun p e s m args below meth c A X => i_X4_settle X F aY aC Y C x2 x3 x4)
