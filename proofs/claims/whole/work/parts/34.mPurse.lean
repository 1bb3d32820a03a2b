noncomputable def f_X5_isPlain_2 (F : Nat) (C : Mem) (x2 : Int32) (k34 : Option (Int32)) (k42 : Option (Int32)) : Nat → Int32 → Option (Int32)
  | 0, _ => none
  | n + 1, x3 =>
  (if ((C 0 6) - 1) ≤ x3 then k42 else ck ((x2 * 6) + x3) 24 (ck (x3 + 1) 6 ((if ((C 3) (((x2 * 6) + x3)).toNatClampNeg) < ((C 1) ((x3 + 1)).toNatClampNeg) then f_X5_isPlain_2 F C x2 k34 k42 n (x3 + 1) else k34))))
set_option maxRecDepth 100000 in
set_option maxHeartbeats 4000000 in
theorem i_X5_isPlain_2 {p : Program} {l : Launch} {e : Env} {s : State} {m : MethodId} {args : Array Value} {below : List Frame} {meth : Method} {c : Code} {D : va_G} {ct : im_ct} {A : Nat → Prop} (X : im_X p (im_rm 0) s m args meth c D ct A RX5 cX5_isPlain 4 (some .boolean)) (F : Nat) (aP aC : Nat → Nat) (C : Mem) (x2 : Int32) (k34 : Option (Int32)) (hk34 : Im p l e (im_rm 0) s m args below meth c D A 4 (QI D A (fun z : Int32 => z) (fun z : Int32 => (cat [w_Cloth ct aC C]))) 34 [] [] (cat [w_Cloth ct aC C]) (k34)) (k42 : Option (Int32)) (hk42 : Im p l e (im_rm 0) s m args below meth c D A 4 (QI D A (fun z : Int32 => z) (fun z : Int32 => (cat [w_Cloth ct aC C]))) 42 [] [] (cat [w_Cloth ct aC C]) (k42)) : ∀ (n : Nat) (x3 : Int32), Im p l e (im_rm 0) s m args below meth c D A 4 (QI D A (fun z : Int32 => z) (fun z : Int32 => (cat [w_Cloth ct aC C]))) 2 [(1, .ref (aC 0)), (2, .int x2), (3, .int x3)] [] (cat [w_Cloth ct aC C]) (f_X5_isPlain_2 F C x2 k34 k42 n x3) := by
  intro n
  induction n with
  | zero => intros; exact im_none
  | succ n ih =>
    intro x3
    unfold f_X5_isPlain_2
    refine im_iload_n X 2 dX5_isPlain_2 rfl rfl ?_
    refine im_aload_n X 0 dX5_isPlain_3 rfl rfl ?_
    refine im_cget X 0 0 (v := .int (C 0 6)) fl_X5_25 rfl rfl rfl dX5_isPlain_4 ?_
    refine im_iconst X 1 dX5_isPlain_7 (by decide) ?_
    refine im_isub X dX5_isPlain_8 ?_
    refine im_icmp_ge (tgt := 42) X dX5_isPlain_9 rfl ?_ ?_
    · refine im_lv [] [] rfl ?_
      exact hk42
    · refine im_aload_n X 0 dX5_isPlain_12 rfl rfl ?_
      refine im_cget X 0 0 (v := .ref (aC 3)) fl_X5_34 rfl rfl rfl dX5_isPlain_13 ?_
      refine im_iload_n X 1 dX5_isPlain_16 rfl rfl ?_
      refine im_bipush X 6 dX5_isPlain_17 (by decide) ?_
      refine im_imul X dX5_isPlain_19 ?_
      refine im_iload_n X 2 dX5_isPlain_20 rfl rfl ?_
      refine im_iadd X dX5_isPlain_21 ?_
      refine im_ciald X 0 3 0 (f := (C 3)) rfl rfl rfl dX5_isPlain_22 ?_
      refine im_aload_n X 0 dX5_isPlain_23 rfl rfl ?_
      refine im_cget X 0 0 (v := .ref (aC 1)) fl_X5_37 rfl rfl rfl dX5_isPlain_24 ?_
      refine im_iload_n X 2 dX5_isPlain_27 rfl rfl ?_
      refine im_iconst X 1 dX5_isPlain_28 (by decide) ?_
      refine im_iadd X dX5_isPlain_29 ?_
      refine im_ciald X 0 1 0 (f := (C 1)) rfl rfl rfl dX5_isPlain_30 ?_
      refine im_icmp_lt (tgt := 36) X dX5_isPlain_31 rfl ?_ ?_
      · refine im_iinc X 2 1 [1, 2, 0] [(1, .ref (aC 0)), (2, .int x2), (3, .int (x3 + 1))] dX5_isPlain_36 (by decide) rfl (by decide) rfl ?_
        refine im_goto (tgt := 2) X dX5_isPlain_39 rfl ?_
        exact ih (x3 + 1)
      · refine im_lv [] [] rfl ?_
        exact hk34
noncomputable def f_X5_isPlain (F : Nat) (C : Mem) (x2 : Int32) : Option (Int32) :=
  f_X5_isPlain_2 F C x2 ((some 0)) ((some 1)) F 0
set_option maxRecDepth 100000 in
set_option maxHeartbeats 4000000 in
theorem i_X5_isPlain {p : Program} {l : Launch} {e : Env} {s : State} {m : MethodId} {args : Array Value} {below : List Frame} {meth : Method} {c : Code} {D : va_G} {ct : im_ct} {A : Nat → Prop} (X : im_X p (im_rm 0) s m args meth c D ct A RX5 cX5_isPlain 4 (some .boolean)) (F : Nat) (aP aC : Nat → Nat) (C : Mem) (x2 : Int32) : Im p l e (im_rm 0) s m args below meth c D A 4 (QI D A (fun z : Int32 => z) (fun z : Int32 => (cat [w_Cloth ct aC C]))) 0 [(0, .ref (aP 0)), (1, .ref (aC 0)), (2, .int x2)] [] (cat [w_Cloth ct aC C]) (f_X5_isPlain F C x2) := by
  unfold f_X5_isPlain
  refine im_iconst X 0 dX5_isPlain_0 (by decide) ?_
  refine im_istore_n X [1, 2, 3, 0] [(0, .ref (aP 0)), (1, .ref (aC 0)), (2, .int x2), (3, .int 0)] dX5_isPlain_1 rfl (by decide) rfl ?_
  refine im_lv [1, 2, 3] [(1, .ref (aC 0)), (2, .int x2), (3, .int 0)] rfl ?_
  refine i_X5_isPlain_2 X F aP aC C x2 _ ?_ _ ?_ F 0
  · refine im_iconst X 0 dX5_isPlain_34 (by decide) ?_
    exact im_zreturn X 0 rfl rfl rfl dX5_isPlain_35
  · refine im_iconst X 1 dX5_isPlain_42 (by decide) ?_
    exact im_zreturn X 1 rfl rfl rfl dX5_isPlain_43
theorem c_X5_isPlain (l : Launch) (D : va_G) (ct : im_ct) (F : Nat) (aP aC : Nat → Nat) (C : Mem) (x2 : Int32) : CMi l D ct yX5_isPlain cX5_isPlain 4 (some .boolean) 0 [.ref (aP 0), .ref (aC 0), .int x2] (cat [w_Cloth ct aC C]) (f_X5_isPlain F C x2) (fun z : Int32 => z) (fun z : Int32 => (cat [w_Cloth ct aC C])) :=
  im_met (Qb := fun A => QI D A (fun z : Int32 => z) (fun z : Int32 => (cat [w_Cloth ct aC C]))) (by decide +kernel) (Nat.le_of_ble_eq_true rfl) (fun p e s m args below meth c A X => i_X5_isPlain X F aP aC C x2)

noncomputable def f_X5_splitPlain_47 (F : Nat) (P : Mem) (LP : MemL) (wP : Bool) (vP : Bool) (C : Mem) (x3 : Int32) (x4 : Int32) (x5 : Int32) (s1 : Int32) (s2 : Int32) (k13 : Mem → Int32 → Int32 → Int32 → Option (Int32 × Mem)) : Option (Int32 × Mem) :=
  ck s1 6 (ck x5 6 (ck x5 6 (ck x5 6 (k13 (mr P 1 (upd (P 1) s1.toNatClampNeg s2)) (x3 - (((upd (P 1) s1.toNatClampNeg s2) x5.toNatClampNeg) * ((C 2) x5.toNatClampNeg))) (x4 + ((upd (P 1) s1.toNatClampNeg s2) x5.toNatClampNeg)) (x5 + (-1))))))
set_option maxRecDepth 100000 in
set_option maxHeartbeats 4000000 in
theorem i_X5_splitPlain_47 {p : Program} {l : Launch} {e : Env} {s : State} {m : MethodId} {args : Array Value} {below : List Frame} {meth : Method} {c : Code} {D : va_G} {ct : im_ct} {A : Nat → Prop} (X : im_X p (im_rm 0) s m args meth c D ct A RX5 cX5_splitPlain 6 (some .int)) (F : Nat) (aP aC : Nat → Nat) (P : Mem) (LP : MemL) (wP : Bool) (vP : Bool) (C : Mem) (x3 : Int32) (x4 : Int32) (x5 : Int32) (s1 : Int32) (s2 : Int32) (k13 : Mem → Int32 → Int32 → Int32 → Option (Int32 × Mem)) (hk13 : ∀ (P : Mem) (x3 : Int32) (x4 : Int32) (x5 : Int32), Im p l e (im_rm 0) s m args below meth c D A 6 (QI D A (fun z : Int32 × Mem => z.1) (fun z : Int32 × Mem => (cat [w_Purse ct aP z.2 LP wP vP, w_Cloth ct aC C]))) 13 [(0, .ref (aP 0)), (1, .ref (aC 0)), (3, .int x3), (4, .int x4), (5, .int x5)] [] (cat [w_Purse ct aP P LP wP vP, w_Cloth ct aC C]) (k13 P x3 x4 x5)) : Im p l e (im_rm 0) s m args below meth c D A 6 (QI D A (fun z : Int32 × Mem => z.1) (fun z : Int32 × Mem => (cat [w_Purse ct aP z.2 LP wP vP, w_Cloth ct aC C]))) 47 [(0, .ref (aP 0)), (1, .ref (aC 0)), (3, .int x3), (4, .int x4), (5, .int x5)] [.int s2, .int s1, .ref (aP 1)] (cat [w_Purse ct aP P LP wP vP, w_Cloth ct aC C]) (f_X5_splitPlain_47 F P LP wP vP C x3 x4 x5 s1 s2 k13) := by
  unfold f_X5_splitPlain_47
  refine im_ciast X 0 1 0 (wx_Purse ct aP (upd (P 1) s1.toNatClampNeg s2) (P 2) (LP 3) (LP 4) wP vP) [wx_Purse ct aP (upd (P 1) s1.toNatClampNeg s2) (P 2) (LP 3) (LP 4) wP vP, w_Cloth ct aC C] (f := (P 1)) rfl rfl rfl rfl rfl dX5_splitPlain_47 ?_
  refine im_iload_n X 2 dX5_splitPlain_48 rfl rfl ?_
  refine im_aload_n X 0 dX5_splitPlain_49 rfl rfl ?_
  refine im_cget X 0 0 (v := .ref (aP 1)) fl_X5_9 rfl rfl rfl dX5_splitPlain_50 ?_
  refine im_iload X 4 dX5_splitPlain_53 rfl ?_
  refine im_ciald X 0 1 0 (f := (upd (P 1) s1.toNatClampNeg s2)) rfl rfl rfl dX5_splitPlain_55 ?_
  refine im_aload_n X 1 dX5_splitPlain_56 rfl rfl ?_
  refine im_cget X 1 0 (v := .ref (aC 2)) fl_X5_31 rfl rfl rfl dX5_splitPlain_57 ?_
  refine im_iload X 4 dX5_splitPlain_60 rfl ?_
  refine im_ciald X 1 2 0 (f := (C 2)) rfl rfl rfl dX5_splitPlain_62 ?_
  refine im_imul X dX5_splitPlain_63 ?_
  refine im_isub X dX5_splitPlain_64 ?_
  refine im_istore_n X [1, 2, 0, 3, 4] [(0, .ref (aP 0)), (1, .ref (aC 0)), (3, .int (x3 - (((upd (P 1) s1.toNatClampNeg s2) x5.toNatClampNeg) * ((C 2) x5.toNatClampNeg)))), (4, .int x4), (5, .int x5)] dX5_splitPlain_65 rfl (by decide) rfl ?_
  refine im_iload X 3 dX5_splitPlain_66 rfl ?_
  refine im_aload_n X 0 dX5_splitPlain_68 rfl rfl ?_
  refine im_cget X 0 0 (v := .ref (aP 1)) fl_X5_9 rfl rfl rfl dX5_splitPlain_69 ?_
  refine im_iload X 4 dX5_splitPlain_72 rfl ?_
  refine im_ciald X 0 1 0 (f := (upd (P 1) s1.toNatClampNeg s2)) rfl rfl rfl dX5_splitPlain_74 ?_
  refine im_iadd X dX5_splitPlain_75 ?_
  refine im_istore X [1, 2, 3, 0, 4] [(0, .ref (aP 0)), (1, .ref (aC 0)), (3, .int (x3 - (((upd (P 1) s1.toNatClampNeg s2) x5.toNatClampNeg) * ((C 2) x5.toNatClampNeg)))), (4, .int (x4 + ((upd (P 1) s1.toNatClampNeg s2) x5.toNatClampNeg))), (5, .int x5)] dX5_splitPlain_76 (by decide) rfl ?_
  refine im_iinc X 4 (-1) [1, 2, 3, 4, 0] [(0, .ref (aP 0)), (1, .ref (aC 0)), (3, .int (x3 - (((upd (P 1) s1.toNatClampNeg s2) x5.toNatClampNeg) * ((C 2) x5.toNatClampNeg)))), (4, .int (x4 + ((upd (P 1) s1.toNatClampNeg s2) x5.toNatClampNeg))), (5, .int (x5 + (-1)))] dX5_splitPlain_78 (by decide) rfl (by decide) rfl ?_
  refine im_goto (tgt := 13) X dX5_splitPlain_81 rfl ?_
  exact hk13 (mr P 1 (upd (P 1) s1.toNatClampNeg s2)) (x3 - (((upd (P 1) s1.toNatClampNeg s2) x5.toNatClampNeg) * ((C 2) x5.toNatClampNeg))) (x4 + ((upd (P 1) s1.toNatClampNeg s2) x5.toNatClampNeg)) (x5 + (-1))
noncomputable def f_X5_splitPlain_13 (F : Nat) (LP : MemL) (wP : Bool) (vP : Bool) (C : Mem) (k84 : Mem → Int32 → Option (Int32 × Mem)) : Nat → Mem → Int32 → Int32 → Int32 → Option (Int32 × Mem)
  | 0, _, _, _, _ => none
  | n + 1, P, x3, x4, x5 =>
  (if x5 < 0 then k84 P x4 else ck x5 6 ((if ((C 2) x5.toNatClampNeg) ≤ 0 then f_X5_splitPlain_47 F P LP wP vP C x3 x4 x5 x5 0 (f_X5_splitPlain_13 F LP wP vP C k84 n) else ck x5 6 (dv ((C 2) x5.toNatClampNeg) (f_X5_splitPlain_47 F P LP wP vP C x3 x4 x5 x5 (x3 / ((C 2) x5.toNatClampNeg)) (f_X5_splitPlain_13 F LP wP vP C k84 n))))))
set_option maxRecDepth 100000 in
set_option maxHeartbeats 4000000 in
theorem i_X5_splitPlain_13 {p : Program} {l : Launch} {e : Env} {s : State} {m : MethodId} {args : Array Value} {below : List Frame} {meth : Method} {c : Code} {D : va_G} {ct : im_ct} {A : Nat → Prop} (X : im_X p (im_rm 0) s m args meth c D ct A RX5 cX5_splitPlain 6 (some .int)) (F : Nat) (aP aC : Nat → Nat) (LP : MemL) (wP : Bool) (vP : Bool) (C : Mem) (k84 : Mem → Int32 → Option (Int32 × Mem)) (hk84 : ∀ (P : Mem) (x4 : Int32), Im p l e (im_rm 0) s m args below meth c D A 6 (QI D A (fun z : Int32 × Mem => z.1) (fun z : Int32 × Mem => (cat [w_Purse ct aP z.2 LP wP vP, w_Cloth ct aC C]))) 84 [(4, .int x4)] [] (cat [w_Purse ct aP P LP wP vP, w_Cloth ct aC C]) (k84 P x4)) : ∀ (n : Nat) (P : Mem) (x3 : Int32) (x4 : Int32) (x5 : Int32), Im p l e (im_rm 0) s m args below meth c D A 6 (QI D A (fun z : Int32 × Mem => z.1) (fun z : Int32 × Mem => (cat [w_Purse ct aP z.2 LP wP vP, w_Cloth ct aC C]))) 13 [(0, .ref (aP 0)), (1, .ref (aC 0)), (3, .int x3), (4, .int x4), (5, .int x5)] [] (cat [w_Purse ct aP P LP wP vP, w_Cloth ct aC C]) (f_X5_splitPlain_13 F LP wP vP C k84 n P x3 x4 x5) := by
  intro n
  induction n with
  | zero => intros; exact im_none
  | succ n ih =>
    intro P x3 x4 x5
    unfold f_X5_splitPlain_13
    refine im_iload X 4 dX5_splitPlain_13 rfl ?_
    refine im_if_lt (tgt := 84) X dX5_splitPlain_15 rfl ?_ ?_
    · refine im_lv [3] [(4, .int x4)] rfl ?_
      exact hk84 P x4
    · refine im_aload_n X 0 dX5_splitPlain_18 rfl rfl ?_
      refine im_cget X 0 0 (v := .ref (aP 1)) fl_X5_9 rfl rfl rfl dX5_splitPlain_19 ?_
      refine im_iload X 4 dX5_splitPlain_22 rfl ?_
      refine im_aload_n X 1 dX5_splitPlain_24 rfl rfl ?_
      refine im_cget X 1 0 (v := .ref (aC 2)) fl_X5_31 rfl rfl rfl dX5_splitPlain_25 ?_
      refine im_iload X 4 dX5_splitPlain_28 rfl ?_
      refine im_ciald X 1 2 0 (f := (C 2)) rfl rfl rfl dX5_splitPlain_30 ?_
      refine im_if_le (tgt := 46) X dX5_splitPlain_31 rfl ?_ ?_
      · refine im_iconst X 0 dX5_splitPlain_46 (by decide) ?_
        exact i_X5_splitPlain_47 X F aP aC P LP wP vP C x3 x4 x5 x5 0 _ ih
      · refine im_iload_n X 2 dX5_splitPlain_34 rfl rfl ?_
        refine im_aload_n X 1 dX5_splitPlain_35 rfl rfl ?_
        refine im_cget X 1 0 (v := .ref (aC 2)) fl_X5_31 rfl rfl rfl dX5_splitPlain_36 ?_
        refine im_iload X 4 dX5_splitPlain_39 rfl ?_
        refine im_ciald X 1 2 0 (f := (C 2)) rfl rfl rfl dX5_splitPlain_41 ?_
        refine im_idiv X dX5_splitPlain_42 ?_
        refine im_goto (tgt := 47) X dX5_splitPlain_43 rfl ?_
        exact i_X5_splitPlain_47 X F aP aC P LP wP vP C x3 x4 x5 x5 (x3 / ((C 2) x5.toNatClampNeg)) _ ih
noncomputable def f_X5_splitPlain (F : Nat) (P : Mem) (LP : MemL) (wP : Bool) (vP : Bool) (C : Mem) (x2 : Int32) : Option (Int32 × Mem) :=
  f_X5_splitPlain_13 F LP wP vP C (fun P_84 x4_84 => (some (x4_84, P_84))) F P x2 0 ((C 0 6) - 1)
set_option maxRecDepth 100000 in
set_option maxHeartbeats 4000000 in
theorem i_X5_splitPlain {p : Program} {l : Launch} {e : Env} {s : State} {m : MethodId} {args : Array Value} {below : List Frame} {meth : Method} {c : Code} {D : va_G} {ct : im_ct} {A : Nat → Prop} (X : im_X p (im_rm 0) s m args meth c D ct A RX5 cX5_splitPlain 6 (some .int)) (F : Nat) (aP aC : Nat → Nat) (P : Mem) (LP : MemL) (wP : Bool) (vP : Bool) (C : Mem) (x2 : Int32) : Im p l e (im_rm 0) s m args below meth c D A 6 (QI D A (fun z : Int32 × Mem => z.1) (fun z : Int32 × Mem => (cat [w_Purse ct aP z.2 LP wP vP, w_Cloth ct aC C]))) 0 [(0, .ref (aP 0)), (1, .ref (aC 0)), (2, .int x2)] [] (cat [w_Purse ct aP P LP wP vP, w_Cloth ct aC C]) (f_X5_splitPlain F P LP wP vP C x2) := by
  unfold f_X5_splitPlain
  refine im_iload_n X 2 dX5_splitPlain_0 rfl rfl ?_
  refine im_istore_n X [1, 2, 3, 0] [(0, .ref (aP 0)), (1, .ref (aC 0)), (2, .int x2), (3, .int x2)] dX5_splitPlain_1 rfl (by decide) rfl ?_
  refine im_iconst X 0 dX5_splitPlain_2 (by decide) ?_
  refine im_istore X [1, 2, 3, 4, 0] [(0, .ref (aP 0)), (1, .ref (aC 0)), (2, .int x2), (3, .int x2), (4, .int 0)] dX5_splitPlain_3 (by decide) rfl ?_
  refine im_aload_n X 1 dX5_splitPlain_5 rfl rfl ?_
  refine im_cget X 1 0 (v := .int (C 0 6)) fl_X5_25 rfl rfl rfl dX5_splitPlain_6 ?_
  refine im_iconst X 1 dX5_splitPlain_9 (by decide) ?_
  refine im_isub X dX5_splitPlain_10 ?_
  refine im_istore X [1, 2, 3, 4, 5, 0] [(0, .ref (aP 0)), (1, .ref (aC 0)), (2, .int x2), (3, .int x2), (4, .int 0), (5, .int ((C 0 6) - 1))] dX5_splitPlain_11 (by decide) rfl ?_
  refine im_lv [0, 1, 3, 4, 5] [(0, .ref (aP 0)), (1, .ref (aC 0)), (3, .int x2), (4, .int 0), (5, .int ((C 0 6) - 1))] rfl ?_
  refine i_X5_splitPlain_13 X F aP aC LP wP vP C  _ (fun P_84 x4_84 => ?_) F P x2 0 ((C 0 6) - 1)
  refine im_iload X 0 dX5_splitPlain_84 rfl ?_
  exact im_ireturn X (x4_84, P_84) rfl rfl dX5_splitPlain_86
theorem c_X5_splitPlain (l : Launch) (D : va_G) (ct : im_ct) (F : Nat) (aP aC : Nat → Nat) (P : Mem) (LP : MemL) (wP : Bool) (vP : Bool) (C : Mem) (x2 : Int32) : CMi l D ct yX5_splitPlain cX5_splitPlain 6 (some .int) 0 [.ref (aP 0), .ref (aC 0), .int x2] (cat [w_Purse ct aP P LP wP vP, w_Cloth ct aC C]) (f_X5_splitPlain F P LP wP vP C x2) (fun z : Int32 × Mem => z.1) (fun z : Int32 × Mem => (cat [w_Purse ct aP z.2 LP wP vP, w_Cloth ct aC C])) :=
  im_met (Qb := fun A => QI D A (fun z : Int32 × Mem => z.1) (fun z : Int32 × Mem => (cat [w_Purse ct aP z.2 LP wP vP, w_Cloth ct aC C]))) (by decide +kernel) (Nat.le_of_ble_eq_true rfl) (fun p e s m args below meth c A X => i_X5_splitPlain X F aP aC P LP wP vP C x2)

noncomputable def f_X5_partsFit_2 (F : Nat) (P : Mem) (LP : MemL) (wP : Bool) (vP : Bool) (C : Mem) (k21 : Option (Int32)) (k29 : Option (Int32)) : Nat → Int32 → Option (Int32)
  | 0, _ => none
  | n + 1, x2 =>
  (if (C 0 6) ≤ x2 then k29 else ck x2 6 ((if ((P 1) x2.toNatClampNeg) ≤ 99 then f_X5_partsFit_2 F P LP wP vP C k21 k29 n (x2 + 1) else k21)))
set_option maxRecDepth 100000 in
set_option maxHeartbeats 4000000 in
theorem i_X5_partsFit_2 {p : Program} {l : Launch} {e : Env} {s : State} {m : MethodId} {args : Array Value} {below : List Frame} {meth : Method} {c : Code} {D : va_G} {ct : im_ct} {A : Nat → Prop} (X : im_X p (im_rm 0) s m args meth c D ct A RX5 cX5_partsFit 3 (some .boolean)) (F : Nat) (aP aC : Nat → Nat) (P : Mem) (LP : MemL) (wP : Bool) (vP : Bool) (C : Mem) (k21 : Option (Int32)) (hk21 : Im p l e (im_rm 0) s m args below meth c D A 3 (QI D A (fun z : Int32 => z) (fun z : Int32 => (cat [w_Purse ct aP P LP wP vP, w_Cloth ct aC C]))) 21 [] [] (cat [w_Purse ct aP P LP wP vP, w_Cloth ct aC C]) (k21)) (k29 : Option (Int32)) (hk29 : Im p l e (im_rm 0) s m args below meth c D A 3 (QI D A (fun z : Int32 => z) (fun z : Int32 => (cat [w_Purse ct aP P LP wP vP, w_Cloth ct aC C]))) 29 [] [] (cat [w_Purse ct aP P LP wP vP, w_Cloth ct aC C]) (k29)) : ∀ (n : Nat) (x2 : Int32), Im p l e (im_rm 0) s m args below meth c D A 3 (QI D A (fun z : Int32 => z) (fun z : Int32 => (cat [w_Purse ct aP P LP wP vP, w_Cloth ct aC C]))) 2 [(0, .ref (aP 0)), (1, .ref (aC 0)), (2, .int x2)] [] (cat [w_Purse ct aP P LP wP vP, w_Cloth ct aC C]) (f_X5_partsFit_2 F P LP wP vP C k21 k29 n x2) := by
  intro n
  induction n with
  | zero => intros; exact im_none
  | succ n ih =>
    intro x2
    unfold f_X5_partsFit_2
    refine im_iload_n X 2 dX5_partsFit_2 rfl rfl ?_
    refine im_aload_n X 1 dX5_partsFit_3 rfl rfl ?_
    refine im_cget X 1 0 (v := .int (C 0 6)) fl_X5_25 rfl rfl rfl dX5_partsFit_4 ?_
    refine im_icmp_ge (tgt := 29) X dX5_partsFit_7 rfl ?_ ?_
    · refine im_lv [] [] rfl ?_
      exact hk29
    · refine im_aload_n X 0 dX5_partsFit_10 rfl rfl ?_
      refine im_cget X 0 0 (v := .ref (aP 1)) fl_X5_9 rfl rfl rfl dX5_partsFit_11 ?_
      refine im_iload_n X 2 dX5_partsFit_14 rfl rfl ?_
      refine im_ciald X 0 1 0 (f := (P 1)) rfl rfl rfl dX5_partsFit_15 ?_
      refine im_bipush X 99 dX5_partsFit_16 (by decide) ?_
      refine im_icmp_le (tgt := 23) X dX5_partsFit_18 rfl ?_ ?_
      · refine im_iinc X 2 1 [1, 2, 0] [(0, .ref (aP 0)), (1, .ref (aC 0)), (2, .int (x2 + 1))] dX5_partsFit_23 (by decide) rfl (by decide) rfl ?_
        refine im_goto (tgt := 2) X dX5_partsFit_26 rfl ?_
        exact ih (x2 + 1)
      · refine im_lv [] [] rfl ?_
        exact hk21
noncomputable def f_X5_partsFit (F : Nat) (P : Mem) (LP : MemL) (wP : Bool) (vP : Bool) (C : Mem) : Option (Int32) :=
  f_X5_partsFit_2 F P LP wP vP C ((some 0)) ((some 1)) F 0
set_option maxRecDepth 100000 in
set_option maxHeartbeats 4000000 in
theorem i_X5_partsFit {p : Program} {l : Launch} {e : Env} {s : State} {m : MethodId} {args : Array Value} {below : List Frame} {meth : Method} {c : Code} {D : va_G} {ct : im_ct} {A : Nat → Prop} (X : im_X p (im_rm 0) s m args meth c D ct A RX5 cX5_partsFit 3 (some .boolean)) (F : Nat) (aP aC : Nat → Nat) (P : Mem) (LP : MemL) (wP : Bool) (vP : Bool) (C : Mem) : Im p l e (im_rm 0) s m args below meth c D A 3 (QI D A (fun z : Int32 => z) (fun z : Int32 => (cat [w_Purse ct aP P LP wP vP, w_Cloth ct aC C]))) 0 [(0, .ref (aP 0)), (1, .ref (aC 0))] [] (cat [w_Purse ct aP P LP wP vP, w_Cloth ct aC C]) (f_X5_partsFit F P LP wP vP C) := by
  unfold f_X5_partsFit
  refine im_iconst X 0 dX5_partsFit_0 (by decide) ?_
  refine im_istore_n X [1, 2, 0] [(0, .ref (aP 0)), (1, .ref (aC 0)), (2, .int 0)] dX5_partsFit_1 rfl (by decide) rfl ?_
  refine i_X5_partsFit_2 X F aP aC P LP wP vP C  _ ?_ _ ?_ F 0
  · refine im_iconst X 0 dX5_partsFit_21 (by decide) ?_
    exact im_zreturn X 0 rfl rfl rfl dX5_partsFit_22
  · refine im_iconst X 1 dX5_partsFit_29 (by decide) ?_
    exact im_zreturn X 1 rfl rfl rfl dX5_partsFit_30
theorem c_X5_partsFit (l : Launch) (D : va_G) (ct : im_ct) (F : Nat) (aP aC : Nat → Nat) (P : Mem) (LP : MemL) (wP : Bool) (vP : Bool) (C : Mem) : CMi l D ct yX5_partsFit cX5_partsFit 3 (some .boolean) 0 [.ref (aP 0), .ref (aC 0)] (cat [w_Purse ct aP P LP wP vP, w_Cloth ct aC C]) (f_X5_partsFit F P LP wP vP C) (fun z : Int32 => z) (fun z : Int32 => (cat [w_Purse ct aP P LP wP vP, w_Cloth ct aC C])) :=
  im_met (Qb := fun A => QI D A (fun z : Int32 => z) (fun z : Int32 => (cat [w_Purse ct aP P LP wP vP, w_Cloth ct aC C]))) (by decide +kernel) (Nat.le_of_ble_eq_true rfl) (fun p e s m args below meth c A X => i_X5_partsFit X F aP aC P LP wP vP C)

noncomputable def f_X5_carriesOf_57 (F : Nat) (C : Mem) (x2 : Int32) (x3 : Int32) (x5 : Int32) (s0 : Int32) (k8 : Int32 → Int32 → Int32 → Option (Int32)) : Option (Int32) :=
  k8 (x3 + s0) s0 (x5 + 1)
set_option maxRecDepth 100000 in
set_option maxHeartbeats 4000000 in
theorem i_X5_carriesOf_57 {p : Program} {l : Launch} {e : Env} {s : State} {m : MethodId} {args : Array Value} {below : List Frame} {meth : Method} {c : Code} {D : va_G} {ct : im_ct} {A : Nat → Prop} (X : im_X p (im_rm 0) s m args meth c D ct A RX5 cX5_carriesOf 7 (some .int)) (F : Nat) (aP aC : Nat → Nat) (C : Mem) (x2 : Int32) (x3 : Int32) (x5 : Int32) (s0 : Int32) (k8 : Int32 → Int32 → Int32 → Option (Int32)) (hk8 : ∀ (x3 : Int32) (x4 : Int32) (x5 : Int32), Im p l e (im_rm 0) s m args below meth c D A 7 (QI D A (fun z : Int32 => z) (fun z : Int32 => (cat [w_Cloth ct aC C]))) 8 [(1, .ref (aC 0)), (2, .int x2), (3, .int x3), (4, .int x4), (5, .int x5)] [] (cat [w_Cloth ct aC C]) (k8 x3 x4 x5)) : Im p l e (im_rm 0) s m args below meth c D A 7 (QI D A (fun z : Int32 => z) (fun z : Int32 => (cat [w_Cloth ct aC C]))) 57 [(1, .ref (aC 0)), (2, .int x2), (3, .int x3), (5, .int x5)] [.int s0] (cat [w_Cloth ct aC C]) (f_X5_carriesOf_57 F C x2 x3 x5 s0 k8) := by
  unfold f_X5_carriesOf_57
  refine im_istore X [1, 2, 3, 0, 4] [(1, .ref (aC 0)), (2, .int x2), (3, .int x3), (4, .int s0), (5, .int x5)] dX5_carriesOf_57 (by decide) rfl ?_
  refine im_iload_n X 2 dX5_carriesOf_59 rfl rfl ?_
  refine im_iload X 3 dX5_carriesOf_60 rfl ?_
  refine im_iadd X dX5_carriesOf_62 ?_
  refine im_istore_n X [1, 2, 0, 3, 4] [(1, .ref (aC 0)), (2, .int x2), (3, .int (x3 + s0)), (4, .int s0), (5, .int x5)] dX5_carriesOf_63 rfl (by decide) rfl ?_
  refine im_iinc X 4 1 [1, 2, 3, 4, 0] [(1, .ref (aC 0)), (2, .int x2), (3, .int (x3 + s0)), (4, .int s0), (5, .int (x5 + 1))] dX5_carriesOf_64 (by decide) rfl (by decide) rfl ?_
  refine im_goto (tgt := 8) X dX5_carriesOf_67 rfl ?_
  exact hk8 (x3 + s0) s0 (x5 + 1)
noncomputable def f_X5_carriesOf_8 (F : Nat) (C : Mem) (x2 : Int32) (k70 : Int32 → Option (Int32)) : Nat → Int32 → Int32 → Int32 → Option (Int32)
  | 0, _, _, _ => none
  | n + 1, x3, x4, x5 =>
  (if ((C 0 6) - 1) ≤ x5 then k70 x3 else ck (x5 + 1) 6 ((if ((C 1) ((x5 + 1)).toNatClampNeg) ≤ 0 then f_X5_carriesOf_57 F C x2 x3 x5 0 (f_X5_carriesOf_8 F C x2 k70 n) else ck ((x2 * 6) + x5) 24 (dv ((C 1) ((x5 + 1)).toNatClampNeg) (f_X5_carriesOf_57 F C x2 x3 x5 ((((C 3) (((x2 * 6) + x5)).toNatClampNeg) + x4) / ((C 1) ((x5 + 1)).toNatClampNeg)) (f_X5_carriesOf_8 F C x2 k70 n))))))
set_option maxRecDepth 100000 in
set_option maxHeartbeats 4000000 in
theorem i_X5_carriesOf_8 {p : Program} {l : Launch} {e : Env} {s : State} {m : MethodId} {args : Array Value} {below : List Frame} {meth : Method} {c : Code} {D : va_G} {ct : im_ct} {A : Nat → Prop} (X : im_X p (im_rm 0) s m args meth c D ct A RX5 cX5_carriesOf 7 (some .int)) (F : Nat) (aP aC : Nat → Nat) (C : Mem) (x2 : Int32) (k70 : Int32 → Option (Int32)) (hk70 : ∀ (x3 : Int32), Im p l e (im_rm 0) s m args below meth c D A 7 (QI D A (fun z : Int32 => z) (fun z : Int32 => (cat [w_Cloth ct aC C]))) 70 [(3, .int x3)] [] (cat [w_Cloth ct aC C]) (k70 x3)) : ∀ (n : Nat) (x3 : Int32) (x4 : Int32) (x5 : Int32), Im p l e (im_rm 0) s m args below meth c D A 7 (QI D A (fun z : Int32 => z) (fun z : Int32 => (cat [w_Cloth ct aC C]))) 8 [(1, .ref (aC 0)), (2, .int x2), (3, .int x3), (4, .int x4), (5, .int x5)] [] (cat [w_Cloth ct aC C]) (f_X5_carriesOf_8 F C x2 k70 n x3 x4 x5) := by
  intro n
  induction n with
  | zero => intros; exact im_none
  | succ n ih =>
    intro x3 x4 x5
    unfold f_X5_carriesOf_8
    refine im_iload X 4 dX5_carriesOf_8 rfl ?_
    refine im_aload_n X 0 dX5_carriesOf_10 rfl rfl ?_
    refine im_cget X 0 0 (v := .int (C 0 6)) fl_X5_25 rfl rfl rfl dX5_carriesOf_11 ?_
    refine im_iconst X 1 dX5_carriesOf_14 (by decide) ?_
    refine im_isub X dX5_carriesOf_15 ?_
    refine im_icmp_ge (tgt := 70) X dX5_carriesOf_16 rfl ?_ ?_
    · refine im_lv [2] [(3, .int x3)] rfl ?_
      exact hk70 x3
    · refine im_aload_n X 0 dX5_carriesOf_19 rfl rfl ?_
      refine im_cget X 0 0 (v := .ref (aC 1)) fl_X5_37 rfl rfl rfl dX5_carriesOf_20 ?_
      refine im_iload X 4 dX5_carriesOf_23 rfl ?_
      refine im_iconst X 1 dX5_carriesOf_25 (by decide) ?_
      refine im_iadd X dX5_carriesOf_26 ?_
      refine im_ciald X 0 1 0 (f := (C 1)) rfl rfl rfl dX5_carriesOf_27 ?_
      refine im_istore X [1, 2, 3, 4, 5, 0] [(1, .ref (aC 0)), (2, .int x2), (3, .int x3), (4, .int x4), (5, .int x5), (6, .int ((C 1) ((x5 + 1)).toNatClampNeg))] dX5_carriesOf_28 (by decide) rfl ?_
      refine im_iload X 5 dX5_carriesOf_30 rfl ?_
      refine im_if_le (tgt := 56) X dX5_carriesOf_32 rfl ?_ ?_
      · refine im_iconst X 0 dX5_carriesOf_56 (by decide) ?_
        refine im_lv [0, 1, 2, 4] [(1, .ref (aC 0)), (2, .int x2), (3, .int x3), (5, .int x5)] rfl ?_
        exact i_X5_carriesOf_57 X F aP aC C x2 x3 x5 0 _ ih
      · refine im_aload_n X 0 dX5_carriesOf_35 rfl rfl ?_
        refine im_cget X 0 0 (v := .ref (aC 3)) fl_X5_34 rfl rfl rfl dX5_carriesOf_36 ?_
        refine im_iload_n X 1 dX5_carriesOf_39 rfl rfl ?_
        refine im_bipush X 6 dX5_carriesOf_40 (by decide) ?_
        refine im_imul X dX5_carriesOf_42 ?_
        refine im_iload X 4 dX5_carriesOf_43 rfl ?_
        refine im_iadd X dX5_carriesOf_45 ?_
        refine im_ciald X 0 3 0 (f := (C 3)) rfl rfl rfl dX5_carriesOf_46 ?_
        refine im_iload X 3 dX5_carriesOf_47 rfl ?_
        refine im_iadd X dX5_carriesOf_49 ?_
        refine im_iload X 5 dX5_carriesOf_50 rfl ?_
        refine im_idiv X dX5_carriesOf_52 ?_
        refine im_goto (tgt := 57) X dX5_carriesOf_53 rfl ?_
        refine im_lv [0, 1, 2, 4] [(1, .ref (aC 0)), (2, .int x2), (3, .int x3), (5, .int x5)] rfl ?_
        exact i_X5_carriesOf_57 X F aP aC C x2 x3 x5 ((((C 3) (((x2 * 6) + x5)).toNatClampNeg) + x4) / ((C 1) ((x5 + 1)).toNatClampNeg)) _ ih
noncomputable def f_X5_carriesOf (F : Nat) (C : Mem) (x2 : Int32) : Option (Int32) :=
  f_X5_carriesOf_8 F C x2 (fun x3_70 => (some x3_70)) F 0 0 0
set_option maxRecDepth 100000 in
set_option maxHeartbeats 4000000 in
theorem i_X5_carriesOf {p : Program} {l : Launch} {e : Env} {s : State} {m : MethodId} {args : Array Value} {below : List Frame} {meth : Method} {c : Code} {D : va_G} {ct : im_ct} {A : Nat → Prop} (X : im_X p (im_rm 0) s m args meth c D ct A RX5 cX5_carriesOf 7 (some .int)) (F : Nat) (aP aC : Nat → Nat) (C : Mem) (x2 : Int32) : Im p l e (im_rm 0) s m args below meth c D A 7 (QI D A (fun z : Int32 => z) (fun z : Int32 => (cat [w_Cloth ct aC C]))) 0 [(0, .ref (aP 0)), (1, .ref (aC 0)), (2, .int x2)] [] (cat [w_Cloth ct aC C]) (f_X5_carriesOf F C x2) := by
  unfold f_X5_carriesOf
  refine im_iconst X 0 dX5_carriesOf_0 (by decide) ?_
  refine im_istore_n X [1, 2, 3, 0] [(0, .ref (aP 0)), (1, .ref (aC 0)), (2, .int x2), (3, .int 0)] dX5_carriesOf_1 rfl (by decide) rfl ?_
  refine im_iconst X 0 dX5_carriesOf_2 (by decide) ?_
  refine im_istore X [1, 2, 3, 4, 0] [(0, .ref (aP 0)), (1, .ref (aC 0)), (2, .int x2), (3, .int 0), (4, .int 0)] dX5_carriesOf_3 (by decide) rfl ?_
  refine im_iconst X 0 dX5_carriesOf_5 (by decide) ?_
  refine im_istore X [1, 2, 3, 4, 5, 0] [(0, .ref (aP 0)), (1, .ref (aC 0)), (2, .int x2), (3, .int 0), (4, .int 0), (5, .int 0)] dX5_carriesOf_6 (by decide) rfl ?_
  refine im_lv [1, 2, 3, 4, 5] [(1, .ref (aC 0)), (2, .int x2), (3, .int 0), (4, .int 0), (5, .int 0)] rfl ?_
  refine i_X5_carriesOf_8 X F aP aC C x2 _ (fun x3_70 => ?_) F 0 0 0
  refine im_iload_n X 0 dX5_carriesOf_70 rfl rfl ?_
  exact im_ireturn X x3_70 rfl rfl dX5_carriesOf_71
theorem c_X5_carriesOf (l : Launch) (D : va_G) (ct : im_ct) (F : Nat) (aP aC : Nat → Nat) (C : Mem) (x2 : Int32) : CMi l D ct yX5_carriesOf cX5_carriesOf 7 (some .int) 0 [.ref (aP 0), .ref (aC 0), .int x2] (cat [w_Cloth ct aC C]) (f_X5_carriesOf F C x2) (fun z : Int32 => z) (fun z : Int32 => (cat [w_Cloth ct aC C])) :=
  im_met (Qb := fun A => QI D A (fun z : Int32 => z) (fun z : Int32 => (cat [w_Cloth ct aC C]))) (by decide +kernel) (Nat.le_of_ble_eq_true rfl) (fun p e s m args below meth c A X => i_X5_carriesOf X F aP aC C x2)

noncomputable def f_X5_movesApart_75 (F : Nat) (C : Mem) (x2 : Int32) (x3 : Int32) (x4 : Int32) (x6 : Int32) (s0 : Int32) (k9 : Int32 → Int32 → Int32 → Option (Int32)) : Option (Int32) :=
  k9 (x4 + (if 0 ≤ s0 then s0 else 0 - s0)) s0 (x6 + 1)
set_option maxRecDepth 100000 in
set_option maxHeartbeats 4000000 in
theorem i_X5_movesApart_75 {p : Program} {l : Launch} {e : Env} {s : State} {m : MethodId} {args : Array Value} {below : List Frame} {meth : Method} {c : Code} {D : va_G} {ct : im_ct} {A : Nat → Prop} (X : im_X p (im_rm 1) s m args meth c D ct A RX5 cX5_movesApart 9 (some .int)) (F : Nat) (aP aC : Nat → Nat) (C : Mem) (x2 : Int32) (x3 : Int32) (x4 : Int32) (x6 : Int32) (s0 : Int32) (k9 : Int32 → Int32 → Int32 → Option (Int32)) (hk9 : ∀ (x4 : Int32) (x5 : Int32) (x6 : Int32), Im p l e (im_rm 1) s m args below meth c D A 9 (QI D A (fun z : Int32 => z) (fun z : Int32 => (cat [w_Cloth ct aC C]))) 9 [(1, .ref (aC 0)), (2, .int x2), (3, .int x3), (4, .int x4), (5, .int x5), (6, .int x6)] [] (cat [w_Cloth ct aC C]) (k9 x4 x5 x6)) : Im p l e (im_rm 1) s m args below meth c D A 9 (QI D A (fun z : Int32 => z) (fun z : Int32 => (cat [w_Cloth ct aC C]))) 75 [(1, .ref (aC 0)), (2, .int x2), (3, .int x3), (4, .int x4), (6, .int x6)] [.int s0] (cat [w_Cloth ct aC C]) (f_X5_movesApart_75 F C x2 x3 x4 x6 s0 k9) := by
  unfold f_X5_movesApart_75
  refine im_istore X [1, 2, 3, 4, 0, 5] [(1, .ref (aC 0)), (2, .int x2), (3, .int x3), (4, .int x4), (5, .int s0), (6, .int x6)] dX5_movesApart_75 (by decide) rfl ?_
  refine im_iload X 3 dX5_movesApart_77 rfl ?_
  refine im_iload X 4 dX5_movesApart_79 rfl ?_
  refine im_mabs X mt1_X5_47 mt2_abs mt3 mt4_abs ⟨by decide, Nat.le_of_ble_eq_true rfl⟩ dX5_movesApart_81 ?_
  refine im_iadd X dX5_movesApart_84 ?_
  refine im_istore X [1, 2, 3, 0, 4, 5] [(1, .ref (aC 0)), (2, .int x2), (3, .int x3), (4, .int (x4 + (if 0 ≤ s0 then s0 else 0 - s0))), (5, .int s0), (6, .int x6)] dX5_movesApart_85 (by decide) rfl ?_
  refine im_iinc X 5 1 [1, 2, 3, 4, 5, 0] [(1, .ref (aC 0)), (2, .int x2), (3, .int x3), (4, .int (x4 + (if 0 ≤ s0 then s0 else 0 - s0))), (5, .int s0), (6, .int (x6 + 1))] dX5_movesApart_87 (by decide) rfl (by decide) rfl ?_
  refine im_goto (tgt := 9) X dX5_movesApart_90 rfl ?_
  exact hk9 (x4 + (if 0 ≤ s0 then s0 else 0 - s0)) s0 (x6 + 1)
noncomputable def f_X5_movesApart_9 (F : Nat) (C : Mem) (x2 : Int32) (x3 : Int32) (k93 : Int32 → Option (Int32)) : Nat → Int32 → Int32 → Int32 → Option (Int32)
  | 0, _, _, _ => none
  | n + 1, x4, x5, x6 =>
  (if ((C 0 6) - 1) ≤ x6 then k93 x4 else ck (x6 + 1) 6 (ck ((x2 * 6) + x6) 24 (ck ((x3 * 6) + x6) 24 ((if ((C 1) ((x6 + 1)).toNatClampNeg) ≤ 0 then f_X5_movesApart_75 F C x2 x3 x4 x6 0 (f_X5_movesApart_9 F C x2 x3 k93 n) else dv ((C 1) ((x6 + 1)).toNatClampNeg) (f_X5_movesApart_75 F C x2 x3 x4 x6 (((((C 3) (((x2 * 6) + x6)).toNatClampNeg) - ((C 3) (((x3 * 6) + x6)).toNatClampNeg)) + x5) / ((C 1) ((x6 + 1)).toNatClampNeg)) (f_X5_movesApart_9 F C x2 x3 k93 n)))))))
set_option maxRecDepth 100000 in
set_option maxHeartbeats 4000000 in
theorem i_X5_movesApart_9 {p : Program} {l : Launch} {e : Env} {s : State} {m : MethodId} {args : Array Value} {below : List Frame} {meth : Method} {c : Code} {D : va_G} {ct : im_ct} {A : Nat → Prop} (X : im_X p (im_rm 1) s m args meth c D ct A RX5 cX5_movesApart 9 (some .int)) (F : Nat) (aP aC : Nat → Nat) (C : Mem) (x2 : Int32) (x3 : Int32) (k93 : Int32 → Option (Int32)) (hk93 : ∀ (x4 : Int32), Im p l e (im_rm 1) s m args below meth c D A 9 (QI D A (fun z : Int32 => z) (fun z : Int32 => (cat [w_Cloth ct aC C]))) 93 [(4, .int x4)] [] (cat [w_Cloth ct aC C]) (k93 x4)) : ∀ (n : Nat) (x4 : Int32) (x5 : Int32) (x6 : Int32), Im p l e (im_rm 1) s m args below meth c D A 9 (QI D A (fun z : Int32 => z) (fun z : Int32 => (cat [w_Cloth ct aC C]))) 9 [(1, .ref (aC 0)), (2, .int x2), (3, .int x3), (4, .int x4), (5, .int x5), (6, .int x6)] [] (cat [w_Cloth ct aC C]) (f_X5_movesApart_9 F C x2 x3 k93 n x4 x5 x6) := by
  intro n
  induction n with
  | zero => intros; exact im_none
  | succ n ih =>
    intro x4 x5 x6
    unfold f_X5_movesApart_9
    refine im_iload X 5 dX5_movesApart_9 rfl ?_
    refine im_aload_n X 0 dX5_movesApart_11 rfl rfl ?_
    refine im_cget X 0 0 (v := .int (C 0 6)) fl_X5_25 rfl rfl rfl dX5_movesApart_12 ?_
    refine im_iconst X 1 dX5_movesApart_15 (by decide) ?_
    refine im_isub X dX5_movesApart_16 ?_
    refine im_icmp_ge (tgt := 93) X dX5_movesApart_17 rfl ?_ ?_
    · refine im_lv [3] [(4, .int x4)] rfl ?_
      exact hk93 x4
    · refine im_aload_n X 0 dX5_movesApart_20 rfl rfl ?_
      refine im_cget X 0 0 (v := .ref (aC 1)) fl_X5_37 rfl rfl rfl dX5_movesApart_21 ?_
      refine im_iload X 5 dX5_movesApart_24 rfl ?_
      refine im_iconst X 1 dX5_movesApart_26 (by decide) ?_
      refine im_iadd X dX5_movesApart_27 ?_
      refine im_ciald X 0 1 0 (f := (C 1)) rfl rfl rfl dX5_movesApart_28 ?_
      refine im_istore X [1, 2, 3, 4, 5, 6, 0] [(1, .ref (aC 0)), (2, .int x2), (3, .int x3), (4, .int x4), (5, .int x5), (6, .int x6), (7, .int ((C 1) ((x6 + 1)).toNatClampNeg))] dX5_movesApart_29 (by decide) rfl ?_
      refine im_aload_n X 0 dX5_movesApart_31 rfl rfl ?_
      refine im_cget X 0 0 (v := .ref (aC 3)) fl_X5_34 rfl rfl rfl dX5_movesApart_32 ?_
      refine im_iload_n X 1 dX5_movesApart_35 rfl rfl ?_
      refine im_bipush X 6 dX5_movesApart_36 (by decide) ?_
      refine im_imul X dX5_movesApart_38 ?_
      refine im_iload X 5 dX5_movesApart_39 rfl ?_
      refine im_iadd X dX5_movesApart_41 ?_
      refine im_ciald X 0 3 0 (f := (C 3)) rfl rfl rfl dX5_movesApart_42 ?_
      refine im_aload_n X 0 dX5_movesApart_43 rfl rfl ?_
      refine im_cget X 0 0 (v := .ref (aC 3)) fl_X5_34 rfl rfl rfl dX5_movesApart_44 ?_
      refine im_iload_n X 2 dX5_movesApart_47 rfl rfl ?_
      refine im_bipush X 6 dX5_movesApart_48 (by decide) ?_
      refine im_imul X dX5_movesApart_50 ?_
      refine im_iload X 5 dX5_movesApart_51 rfl ?_
      refine im_iadd X dX5_movesApart_53 ?_
      refine im_ciald X 0 3 0 (f := (C 3)) rfl rfl rfl dX5_movesApart_54 ?_
      refine im_isub X dX5_movesApart_55 ?_
      refine im_iload X 4 dX5_movesApart_56 rfl ?_
      refine im_iadd X dX5_movesApart_58 ?_
      refine im_istore X [1, 2, 3, 4, 5, 6, 7, 0] [(1, .ref (aC 0)), (2, .int x2), (3, .int x3), (4, .int x4), (5, .int x5), (6, .int x6), (7, .int ((C 1) ((x6 + 1)).toNatClampNeg)), (8, .int ((((C 3) (((x2 * 6) + x6)).toNatClampNeg) - ((C 3) (((x3 * 6) + x6)).toNatClampNeg)) + x5))] dX5_movesApart_59 (by decide) rfl ?_
      refine im_iload X 6 dX5_movesApart_61 rfl ?_
      refine im_if_le (tgt := 74) X dX5_movesApart_63 rfl ?_ ?_
      · refine im_iconst X 0 dX5_movesApart_74 (by decide) ?_
        refine im_lv [0, 1, 2, 3, 5] [(1, .ref (aC 0)), (2, .int x2), (3, .int x3), (4, .int x4), (6, .int x6)] rfl ?_
        exact i_X5_movesApart_75 X F aP aC C x2 x3 x4 x6 0 _ ih
      · refine im_iload X 7 dX5_movesApart_66 rfl ?_
        refine im_iload X 6 dX5_movesApart_68 rfl ?_
        refine im_idiv X dX5_movesApart_70 ?_
        refine im_goto (tgt := 75) X dX5_movesApart_71 rfl ?_
        refine im_lv [0, 1, 2, 3, 5] [(1, .ref (aC 0)), (2, .int x2), (3, .int x3), (4, .int x4), (6, .int x6)] rfl ?_
        exact i_X5_movesApart_75 X F aP aC C x2 x3 x4 x6 (((((C 3) (((x2 * 6) + x6)).toNatClampNeg) - ((C 3) (((x3 * 6) + x6)).toNatClampNeg)) + x5) / ((C 1) ((x6 + 1)).toNatClampNeg)) _ ih
noncomputable def f_X5_movesApart (F : Nat) (C : Mem) (x2 : Int32) (x3 : Int32) : Option (Int32) :=
  f_X5_movesApart_9 F C x2 x3 (fun x4_93 => (some x4_93)) F 0 0 0
set_option maxRecDepth 100000 in
set_option maxHeartbeats 4000000 in
theorem i_X5_movesApart {p : Program} {l : Launch} {e : Env} {s : State} {m : MethodId} {args : Array Value} {below : List Frame} {meth : Method} {c : Code} {D : va_G} {ct : im_ct} {A : Nat → Prop} (X : im_X p (im_rm 1) s m args meth c D ct A RX5 cX5_movesApart 9 (some .int)) (F : Nat) (aP aC : Nat → Nat) (C : Mem) (x2 : Int32) (x3 : Int32) : Im p l e (im_rm 1) s m args below meth c D A 9 (QI D A (fun z : Int32 => z) (fun z : Int32 => (cat [w_Cloth ct aC C]))) 0 [(0, .ref (aP 0)), (1, .ref (aC 0)), (2, .int x2), (3, .int x3)] [] (cat [w_Cloth ct aC C]) (f_X5_movesApart F C x2 x3) := by
  unfold f_X5_movesApart
  refine im_iconst X 0 dX5_movesApart_0 (by decide) ?_
  refine im_istore X [1, 2, 3, 4, 0] [(0, .ref (aP 0)), (1, .ref (aC 0)), (2, .int x2), (3, .int x3), (4, .int 0)] dX5_movesApart_1 (by decide) rfl ?_
  refine im_iconst X 0 dX5_movesApart_3 (by decide) ?_
  refine im_istore X [1, 2, 3, 4, 5, 0] [(0, .ref (aP 0)), (1, .ref (aC 0)), (2, .int x2), (3, .int x3), (4, .int 0), (5, .int 0)] dX5_movesApart_4 (by decide) rfl ?_
  refine im_iconst X 0 dX5_movesApart_6 (by decide) ?_
  refine im_istore X [1, 2, 3, 4, 5, 6, 0] [(0, .ref (aP 0)), (1, .ref (aC 0)), (2, .int x2), (3, .int x3), (4, .int 0), (5, .int 0), (6, .int 0)] dX5_movesApart_7 (by decide) rfl ?_
  refine im_lv [1, 2, 3, 4, 5, 6] [(1, .ref (aC 0)), (2, .int x2), (3, .int x3), (4, .int 0), (5, .int 0), (6, .int 0)] rfl ?_
  refine i_X5_movesApart_9 X F aP aC C x2 x3 _ (fun x4_93 => ?_) F 0 0 0
  refine im_iload X 0 dX5_movesApart_93 rfl ?_
  exact im_ireturn X x4_93 rfl rfl dX5_movesApart_95
theorem c_X5_movesApart (l : Launch) (D : va_G) (ct : im_ct) (F : Nat) (aP aC : Nat → Nat) (C : Mem) (x2 : Int32) (x3 : Int32) : CMi l D ct yX5_movesApart cX5_movesApart 9 (some .int) 1 [.ref (aP 0), .ref (aC 0), .int x2, .int x3] (cat [w_Cloth ct aC C]) (f_X5_movesApart F C x2 x3) (fun z : Int32 => z) (fun z : Int32 => (cat [w_Cloth ct aC C])) :=
  im_met (Qb := fun A => QI D A (fun z : Int32 => z) (fun z : Int32 => (cat [w_Cloth ct aC C]))) (by decide +kernel) (Nat.le_of_ble_eq_true rfl) (fun p e s m args below meth c A X => i_X5_movesApart X F aP aC C x2 x3)

noncomputable def f_X5_clearWays_2 (F : Nat) (k18 : MemL → Option (MemL)) : Nat → MemL → Int32 → Option (MemL)
  | 0, _, _ => none
  | n + 1, LLA, x2 =>
  (if 100 ≤ x2 then k18 LLA else ck x2 100 (f_X5_clearWays_2 F k18 n (mr LLA 0 (vp_updL (LLA 0) x2.toNatClampNeg 0)) (x2 + 1)))
set_option maxRecDepth 100000 in
set_option maxHeartbeats 4000000 in
theorem i_X5_clearWays_2 {p : Program} {l : Launch} {e : Env} {s : State} {m : MethodId} {args : Array Value} {below : List Frame} {meth : Method} {c : Code} {D : va_G} {ct : im_ct} {A : Nat → Prop} (X : im_X p (im_rm 0) s m args meth c D ct A RX5 cX5_clearWays 3 none) (F : Nat) (aP aLA : Nat → Nat) (k18 : MemL → Option (MemL)) (hk18 : ∀ (LLA : MemL), Im p l e (im_rm 0) s m args below meth c D A 3 (QV D A (fun z : MemL => (cat [w_LArr ct aLA z]))) 18 [] [] (cat [w_LArr ct aLA LLA]) (k18 LLA)) : ∀ (n : Nat) (LLA : MemL) (x2 : Int32), Im p l e (im_rm 0) s m args below meth c D A 3 (QV D A (fun z : MemL => (cat [w_LArr ct aLA z]))) 2 [(1, .ref (aLA 0)), (2, .int x2)] [] (cat [w_LArr ct aLA LLA]) (f_X5_clearWays_2 F k18 n LLA x2) := by
  intro n
  induction n with
  | zero => intros; exact im_none
  | succ n ih =>
    intro LLA x2
    unfold f_X5_clearWays_2
    refine im_iload_n X 1 dX5_clearWays_2 rfl rfl ?_
    refine im_bipush X 100 dX5_clearWays_3 (by decide) ?_
    refine im_icmp_ge (tgt := 18) X dX5_clearWays_5 rfl ?_ ?_
    · refine im_lv [] [] rfl ?_
      exact hk18 LLA
    · refine im_aload_n X 0 dX5_clearWays_8 rfl rfl ?_
      refine im_iload_n X 1 dX5_clearWays_9 rfl rfl ?_
      refine im_lconst X 0 dX5_clearWays_10 (by decide) ?_
      refine im_clast X 0 0 1 (w_LArr ct aLA (mr LLA 0 (vp_updL (LLA 0) x2.toNatClampNeg 0))) [w_LArr ct aLA (mr LLA 0 (vp_updL (LLA 0) x2.toNatClampNeg 0))] (f := (LLA 0)) rfl rfl rfl rfl rfl dX5_clearWays_11 ?_
      refine im_iinc X 1 1 [1, 0] [(1, .ref (aLA 0)), (2, .int (x2 + 1))] dX5_clearWays_12 (by decide) rfl (by decide) rfl ?_
      refine im_goto (tgt := 2) X dX5_clearWays_15 rfl ?_
      exact ih (mr LLA 0 (vp_updL (LLA 0) x2.toNatClampNeg 0)) (x2 + 1)
noncomputable def f_X5_clearWays (F : Nat) (LLA : MemL) : Option (MemL) :=
  f_X5_clearWays_2 F (fun LLA_18 => (some LLA_18)) F LLA 0
set_option maxRecDepth 100000 in
set_option maxHeartbeats 4000000 in
theorem i_X5_clearWays {p : Program} {l : Launch} {e : Env} {s : State} {m : MethodId} {args : Array Value} {below : List Frame} {meth : Method} {c : Code} {D : va_G} {ct : im_ct} {A : Nat → Prop} (X : im_X p (im_rm 0) s m args meth c D ct A RX5 cX5_clearWays 3 none) (F : Nat) (aP aLA : Nat → Nat) (LLA : MemL) : Im p l e (im_rm 0) s m args below meth c D A 3 (QV D A (fun z : MemL => (cat [w_LArr ct aLA z]))) 0 [(0, .ref (aP 0)), (1, .ref (aLA 0))] [] (cat [w_LArr ct aLA LLA]) (f_X5_clearWays F LLA) := by
  unfold f_X5_clearWays
  refine im_iconst X 0 dX5_clearWays_0 (by decide) ?_
  refine im_istore_n X [1, 2, 0] [(0, .ref (aP 0)), (1, .ref (aLA 0)), (2, .int 0)] dX5_clearWays_1 rfl (by decide) rfl ?_
  refine im_lv [1, 2] [(1, .ref (aLA 0)), (2, .int 0)] rfl ?_
  refine i_X5_clearWays_2 X F aP aLA   _ (fun LLA_18 => ?_) F LLA 0
  exact im_return X LLA_18 rfl dX5_clearWays_18
theorem c_X5_clearWays (l : Launch) (D : va_G) (ct : im_ct) (F : Nat) (aP aLA : Nat → Nat) (LLA : MemL) : CMv l D ct yX5_clearWays cX5_clearWays 3 none 0 [.ref (aP 0), .ref (aLA 0)] (cat [w_LArr ct aLA LLA]) (f_X5_clearWays F LLA) (fun z : MemL => (cat [w_LArr ct aLA z])) :=
  im_met (Qb := fun A => QV D A (fun z : MemL => (cat [w_LArr ct aLA z]))) (by decide +kernel) (Nat.le_of_ble_eq_true rfl) (fun p e s m args below meth c A X => i_X5_clearWays X F aP aLA LLA)

noncomputable def f_X5_spreadWays_22 (F : Nat) (P : Mem) (wP : Bool) (vP : Bool) (x1 : Int32) (x3 : Int32) (x4 : Int32) (x5 : Int64) (x7 : Int32) (k75 : MemL → Option (MemL)) : Nat → MemL → Int32 → Option (MemL)
  | 0, _, _ => none
  | n + 1, LP, x8 =>
  (if x7 < x8 then k75 LP else dv x3 (dv x3 ((if ((x4 / x3) - ((x1 - x8) / x3)) < 0 then f_X5_spreadWays_22 F P wP vP x1 x3 x4 x5 x7 k75 n LP (x8 + x3) else (if 100 ≤ ((x4 / x3) - ((x1 - x8) / x3)) then f_X5_spreadWays_22 F P wP vP x1 x3 x4 x5 x7 k75 n LP (x8 + x3) else (if vP = true then ck ((x4 / x3) - ((x1 - x8) / x3)) 100 (ck ((x4 / x3) - ((x1 - x8) / x3)) 100 (f_X5_spreadWays_22 F P wP vP x1 x3 x4 x5 x7 k75 n (mr LP 3 (vp_updL (LP 3) (((x4 / x3) - ((x1 - x8) / x3))).toNatClampNeg (((LP 3) (((x4 / x3) - ((x1 - x8) / x3))).toNatClampNeg) + x5))) (x8 + x3))) else ck ((x4 / x3) - ((x1 - x8) / x3)) 100 (ck ((x4 / x3) - ((x1 - x8) / x3)) 100 (f_X5_spreadWays_22 F P wP vP x1 x3 x4 x5 x7 k75 n (mr LP 4 (vp_updL (LP 4) (((x4 / x3) - ((x1 - x8) / x3))).toNatClampNeg (((LP 4) (((x4 / x3) - ((x1 - x8) / x3))).toNatClampNeg) + x5))) (x8 + x3)))))))))
set_option maxRecDepth 100000 in
set_option maxHeartbeats 4000000 in
theorem i_X5_spreadWays_22 {p : Program} {l : Launch} {e : Env} {s : State} {m : MethodId} {args : Array Value} {below : List Frame} {meth : Method} {c : Code} {D : va_G} {ct : im_ct} {A : Nat → Prop} (X : im_X p (im_rm 1) s m args meth c D ct A RX5 cX5_spreadWays 10 none) (F : Nat) (aP : Nat → Nat) (P : Mem) (wP : Bool) (vP : Bool) (x1 : Int32) (x3 : Int32) (x4 : Int32) (x5 : Int64) (x7 : Int32) (k75 : MemL → Option (MemL)) (hk75 : ∀ (LP : MemL), Im p l e (im_rm 1) s m args below meth c D A 10 (QV D A (fun z : MemL => (cat [w_Purse ct aP P z wP vP]))) 75 [] [] (cat [w_Purse ct aP P LP wP vP]) (k75 LP)) : ∀ (n : Nat) (LP : MemL) (x8 : Int32), Im p l e (im_rm 1) s m args below meth c D A 10 (QV D A (fun z : MemL => (cat [w_Purse ct aP P z wP vP]))) 22 [(0, .ref (aP 0)), (1, .int x1), (3, .int x3), (4, .int x4), (5, .long x5), (7, .int x7), (8, .int x8)] [] (cat [w_Purse ct aP P LP wP vP]) (f_X5_spreadWays_22 F P wP vP x1 x3 x4 x5 x7 k75 n LP x8) := by
  intro n
  induction n with
  | zero => intros; exact im_none
  | succ n ih =>
    intro LP x8
    unfold f_X5_spreadWays_22
    refine im_iload X 6 dX5_spreadWays_22 rfl ?_
    refine im_iload X 5 dX5_spreadWays_24 rfl ?_
    refine im_icmp_gt (tgt := 75) X dX5_spreadWays_26 rfl ?_ ?_
    · refine im_lv [] [] rfl ?_
      exact hk75 LP
    · refine im_iload X 3 dX5_spreadWays_29 rfl ?_
      refine im_iload_n X 2 dX5_spreadWays_31 rfl rfl ?_
      refine im_idiv X dX5_spreadWays_32 ?_
      refine im_iload_n X 1 dX5_spreadWays_33 rfl rfl ?_
      refine im_iload X 6 dX5_spreadWays_34 rfl ?_
      refine im_isub X dX5_spreadWays_36 ?_
      refine im_iload_n X 2 dX5_spreadWays_37 rfl rfl ?_
      refine im_idiv X dX5_spreadWays_38 ?_
      refine im_isub X dX5_spreadWays_39 ?_
      refine im_istore X [1, 2, 3, 4, 5, 6, 7, 0] [(0, .ref (aP 0)), (1, .int x1), (3, .int x3), (4, .int x4), (5, .long x5), (7, .int x7), (8, .int x8), (9, .int ((x4 / x3) - ((x1 - x8) / x3)))] dX5_spreadWays_40 (by decide) rfl ?_
      refine im_iload X 7 dX5_spreadWays_42 rfl ?_
      refine im_if_lt (tgt := 66) X dX5_spreadWays_44 rfl ?_ ?_
      · refine im_iload X 6 dX5_spreadWays_66 rfl ?_
        refine im_iload_n X 2 dX5_spreadWays_68 rfl rfl ?_
        refine im_iadd X dX5_spreadWays_69 ?_
        refine im_istore X [1, 2, 3, 4, 5, 6, 0, 7] [(0, .ref (aP 0)), (1, .int x1), (3, .int x3), (4, .int x4), (5, .long x5), (7, .int x7), (8, .int (x8 + x3)), (9, .int ((x4 / x3) - ((x1 - x8) / x3)))] dX5_spreadWays_70 (by decide) rfl ?_
        refine im_goto (tgt := 22) X dX5_spreadWays_72 rfl ?_
        refine im_lv [0, 1, 2, 3, 4, 5, 6] [(0, .ref (aP 0)), (1, .int x1), (3, .int x3), (4, .int x4), (5, .long x5), (7, .int x7), (8, .int (x8 + x3))] rfl ?_
        exact ih LP (x8 + x3)
      · refine im_iload X 7 dX5_spreadWays_47 rfl ?_
        refine im_bipush X 100 dX5_spreadWays_49 (by decide) ?_
        refine im_icmp_ge (tgt := 66) X dX5_spreadWays_51 rfl ?_ ?_
        · refine im_iload X 6 dX5_spreadWays_66 rfl ?_
          refine im_iload_n X 2 dX5_spreadWays_68 rfl rfl ?_
          refine im_iadd X dX5_spreadWays_69 ?_
          refine im_istore X [1, 2, 3, 4, 5, 6, 0, 7] [(0, .ref (aP 0)), (1, .int x1), (3, .int x3), (4, .int x4), (5, .long x5), (7, .int x7), (8, .int (x8 + x3)), (9, .int ((x4 / x3) - ((x1 - x8) / x3)))] dX5_spreadWays_70 (by decide) rfl ?_
          refine im_goto (tgt := 22) X dX5_spreadWays_72 rfl ?_
          refine im_lv [0, 1, 2, 3, 4, 5, 6] [(0, .ref (aP 0)), (1, .int x1), (3, .int x3), (4, .int x4), (5, .long x5), (7, .int x7), (8, .int (x8 + x3))] rfl ?_
          exact ih LP (x8 + x3)
        · refine im_aload_n X 0 dX5_spreadWays_54 rfl rfl ?_
          refine im_ite (fun q => ?_) (fun q => ?_)
          · subst q
            refine im_cget X 0 0 (v := .ref (aP 3)) fl_X5_22 rfl rfl rfl dX5_spreadWays_55 ?_
            refine im_iload X 7 dX5_spreadWays_58 rfl ?_
            refine im_dup2_11 X rfl rfl dX5_spreadWays_60 ?_
            refine im_clald X 0 3 1 (f := (LP 3)) rfl rfl rfl dX5_spreadWays_61 ?_
            refine im_lload X 4 dX5_spreadWays_62 rfl ?_
            refine im_ladd X dX5_spreadWays_64 ?_
            refine im_clast X 0 3 1 (wx_Purse ct aP (P 1) (P 2) (vp_updL (LP 3) (((x4 / x3) - ((x1 - x8) / x3))).toNatClampNeg (((LP 3) (((x4 / x3) - ((x1 - x8) / x3))).toNatClampNeg) + x5)) (LP 4) wP true) [wx_Purse ct aP (P 1) (P 2) (vp_updL (LP 3) (((x4 / x3) - ((x1 - x8) / x3))).toNatClampNeg (((LP 3) (((x4 / x3) - ((x1 - x8) / x3))).toNatClampNeg) + x5)) (LP 4) wP true] (f := (LP 3)) rfl rfl rfl rfl rfl dX5_spreadWays_65 ?_
            refine im_iload X 6 dX5_spreadWays_66 rfl ?_
            refine im_iload_n X 2 dX5_spreadWays_68 rfl rfl ?_
            refine im_iadd X dX5_spreadWays_69 ?_
            refine im_istore X [1, 2, 3, 4, 5, 6, 0, 7] [(0, .ref (aP 0)), (1, .int x1), (3, .int x3), (4, .int x4), (5, .long x5), (7, .int x7), (8, .int (x8 + x3)), (9, .int ((x4 / x3) - ((x1 - x8) / x3)))] dX5_spreadWays_70 (by decide) rfl ?_
            refine im_goto (tgt := 22) X dX5_spreadWays_72 rfl ?_
            refine im_lv [0, 1, 2, 3, 4, 5, 6] [(0, .ref (aP 0)), (1, .int x1), (3, .int x3), (4, .int x4), (5, .long x5), (7, .int x7), (8, .int (x8 + x3))] rfl ?_
            exact ih (mr LP 3 (vp_updL (LP 3) (((x4 / x3) - ((x1 - x8) / x3))).toNatClampNeg (((LP 3) (((x4 / x3) - ((x1 - x8) / x3))).toNatClampNeg) + x5))) (x8 + x3)
          · obtain rfl : vP = false := eq_false_of_ne_true q
            refine im_cget X 0 0 (v := .ref (aP 4)) fl_X5_22 rfl rfl rfl dX5_spreadWays_55 ?_
            refine im_iload X 7 dX5_spreadWays_58 rfl ?_
            refine im_dup2_11 X rfl rfl dX5_spreadWays_60 ?_
            refine im_clald X 0 4 1 (f := (LP 4)) rfl rfl rfl dX5_spreadWays_61 ?_
            refine im_lload X 4 dX5_spreadWays_62 rfl ?_
            refine im_ladd X dX5_spreadWays_64 ?_
            refine im_clast X 0 4 1 (wx_Purse ct aP (P 1) (P 2) (LP 3) (vp_updL (LP 4) (((x4 / x3) - ((x1 - x8) / x3))).toNatClampNeg (((LP 4) (((x4 / x3) - ((x1 - x8) / x3))).toNatClampNeg) + x5)) wP false) [wx_Purse ct aP (P 1) (P 2) (LP 3) (vp_updL (LP 4) (((x4 / x3) - ((x1 - x8) / x3))).toNatClampNeg (((LP 4) (((x4 / x3) - ((x1 - x8) / x3))).toNatClampNeg) + x5)) wP false] (f := (LP 4)) rfl rfl rfl rfl rfl dX5_spreadWays_65 ?_
            refine im_iload X 6 dX5_spreadWays_66 rfl ?_
            refine im_iload_n X 2 dX5_spreadWays_68 rfl rfl ?_
            refine im_iadd X dX5_spreadWays_69 ?_
            refine im_istore X [1, 2, 3, 4, 5, 6, 0, 7] [(0, .ref (aP 0)), (1, .int x1), (3, .int x3), (4, .int x4), (5, .long x5), (7, .int x7), (8, .int (x8 + x3)), (9, .int ((x4 / x3) - ((x1 - x8) / x3)))] dX5_spreadWays_70 (by decide) rfl ?_
            refine im_goto (tgt := 22) X dX5_spreadWays_72 rfl ?_
            refine im_lv [0, 1, 2, 3, 4, 5, 6] [(0, .ref (aP 0)), (1, .int x1), (3, .int x3), (4, .int x4), (5, .long x5), (7, .int x7), (8, .int (x8 + x3))] rfl ?_
            exact ih (mr LP 4 (vp_updL (LP 4) (((x4 / x3) - ((x1 - x8) / x3))).toNatClampNeg (((LP 4) (((x4 / x3) - ((x1 - x8) / x3))).toNatClampNeg) + x5))) (x8 + x3)
noncomputable def f_X5_spreadWays (F : Nat) (P : Mem) (LP : MemL) (wP : Bool) (vP : Bool) (x1 : Int32) (x2 : Int32) (x3 : Int32) (x4 : Int32) (x5 : Int64) : Option (MemL) :=
  (if x3 < 1 then (some LP) else (if 0 ≤ x1 then dv x3 (f_X5_spreadWays_22 F P wP vP x1 x3 x4 x5 (if x1 < x2 then x1 else x2) (fun LP_75 => (some LP_75)) F LP (x1 - x1 / x3 * x3)) else (some LP)))
set_option maxRecDepth 100000 in
set_option maxHeartbeats 4000000 in
theorem i_X5_spreadWays {p : Program} {l : Launch} {e : Env} {s : State} {m : MethodId} {args : Array Value} {below : List Frame} {meth : Method} {c : Code} {D : va_G} {ct : im_ct} {A : Nat → Prop} (X : im_X p (im_rm 1) s m args meth c D ct A RX5 cX5_spreadWays 10 none) (F : Nat) (aP : Nat → Nat) (P : Mem) (LP : MemL) (wP : Bool) (vP : Bool) (x1 : Int32) (x2 : Int32) (x3 : Int32) (x4 : Int32) (x5 : Int64) : Im p l e (im_rm 1) s m args below meth c D A 10 (QV D A (fun z : MemL => (cat [w_Purse ct aP P z wP vP]))) 0 [(0, .ref (aP 0)), (1, .int x1), (2, .int x2), (3, .int x3), (4, .int x4), (5, .long x5)] [] (cat [w_Purse ct aP P LP wP vP]) (f_X5_spreadWays F P LP wP vP x1 x2 x3 x4 x5) := by
  unfold f_X5_spreadWays
  refine im_iload_n X 3 dX5_spreadWays_0 rfl rfl ?_
  refine im_iconst X 1 dX5_spreadWays_1 (by decide) ?_
  refine im_icmp_lt (tgt := 9) X dX5_spreadWays_2 rfl ?_ ?_
  · exact im_return X LP rfl dX5_spreadWays_9
  · refine im_iload_n X 1 dX5_spreadWays_5 rfl rfl ?_
    refine im_if_ge (tgt := 10) X dX5_spreadWays_6 rfl ?_ ?_
    · refine im_iload_n X 2 dX5_spreadWays_10 rfl rfl ?_
      refine im_iload_n X 1 dX5_spreadWays_11 rfl rfl ?_
      refine im_mmin X mt1_X5_53 mt2_min mt3 mt4_min ⟨by decide, Nat.le_of_ble_eq_true rfl⟩ dX5_spreadWays_12 ?_
      refine im_istore X [1, 2, 3, 4, 5, 6, 0] [(0, .ref (aP 0)), (1, .int x1), (2, .int x2), (3, .int x3), (4, .int x4), (5, .long x5), (7, .int (if x1 < x2 then x1 else x2))] dX5_spreadWays_15 (by decide) rfl ?_
      refine im_iload_n X 1 dX5_spreadWays_17 rfl rfl ?_
      refine im_iload_n X 3 dX5_spreadWays_18 rfl rfl ?_
      refine im_irem X dX5_spreadWays_19 ?_
      refine im_istore X [1, 2, 3, 4, 5, 6, 7, 0] [(0, .ref (aP 0)), (1, .int x1), (2, .int x2), (3, .int x3), (4, .int x4), (5, .long x5), (7, .int (if x1 < x2 then x1 else x2)), (8, .int (x1 - x1 / x3 * x3))] dX5_spreadWays_20 (by decide) rfl ?_
      refine im_lv [0, 1, 3, 4, 5, 6, 7] [(0, .ref (aP 0)), (1, .int x1), (3, .int x3), (4, .int x4), (5, .long x5), (7, .int (if x1 < x2 then x1 else x2)), (8, .int (x1 - x1 / x3 * x3))] rfl ?_
      refine i_X5_spreadWays_22 X F aP P wP vP x1 x3 x4 x5 (if x1 < x2 then x1 else x2) _ (fun LP_75 => ?_) F LP (x1 - x1 / x3 * x3)
      exact im_return X LP_75 rfl dX5_spreadWays_75
    · exact im_return X LP rfl dX5_spreadWays_9
theorem c_X5_spreadWays (l : Launch) (D : va_G) (ct : im_ct) (F : Nat) (aP : Nat → Nat) (P : Mem) (LP : MemL) (wP : Bool) (vP : Bool) (x1 : Int32) (x2 : Int32) (x3 : Int32) (x4 : Int32) (x5 : Int64) : CMv l D ct yX5_spreadWays cX5_spreadWays 10 none 1 [.ref (aP 0), .int x1, .int x2, .int x3, .int x4, .long x5] (cat [w_Purse ct aP P LP wP vP]) (f_X5_spreadWays F P LP wP vP x1 x2 x3 x4 x5) (fun z : MemL => (cat [w_Purse ct aP P z wP vP])) :=
  im_met (Qb := fun A => QV D A (fun z : MemL => (cat [w_Purse ct aP P z wP vP]))) (by decide +kernel) (Nat.le_of_ble_eq_true rfl) (fun p e s m args below meth c A X => i_X5_spreadWays X F aP P LP wP vP x1 x2 x3 x4 x5)

noncomputable def f_X5_countTop_5 (F : Nat) (P : Mem) (LP : MemL) (wP : Bool) (vP : Bool) (x1 : Int32) (x2 : Int32) (k42 : Int64 → Option (Int64)) : Nat → Int64 → Int32 → Option (Int64)
  | 0, _, _ => none
  | n + 1, x3, x5 =>
  (if 100 ≤ x5 then k42 x3 else (if x1 < x5 then f_X5_countTop_5 F P LP wP vP x1 x2 k42 n x3 (x5 + 1) else (if x2 < (x1 - x5) then f_X5_countTop_5 F P LP wP vP x1 x2 k42 n x3 (x5 + 1) else (if wP = true then ck x5 100 (f_X5_countTop_5 F P LP wP vP x1 x2 k42 n (x3 + ((LP 4) x5.toNatClampNeg)) (x5 + 1)) else ck x5 100 (f_X5_countTop_5 F P LP wP vP x1 x2 k42 n (x3 + ((LP 3) x5.toNatClampNeg)) (x5 + 1))))))
set_option maxRecDepth 100000 in
set_option maxHeartbeats 4000000 in
theorem i_X5_countTop_5 {p : Program} {l : Launch} {e : Env} {s : State} {m : MethodId} {args : Array Value} {below : List Frame} {meth : Method} {c : Code} {D : va_G} {ct : im_ct} {A : Nat → Prop} (X : im_X p (im_rm 0) s m args meth c D ct A RX5 cX5_countTop 6 (some .long)) (F : Nat) (aP : Nat → Nat) (P : Mem) (LP : MemL) (wP : Bool) (vP : Bool) (x1 : Int32) (x2 : Int32) (k42 : Int64 → Option (Int64)) (hk42 : ∀ (x3 : Int64), Im p l e (im_rm 0) s m args below meth c D A 6 (QL D A (fun z : Int64 => z) (fun z : Int64 => (cat [w_Purse ct aP P LP wP vP]))) 42 [(3, .long x3)] [] (cat [w_Purse ct aP P LP wP vP]) (k42 x3)) : ∀ (n : Nat) (x3 : Int64) (x5 : Int32), Im p l e (im_rm 0) s m args below meth c D A 6 (QL D A (fun z : Int64 => z) (fun z : Int64 => (cat [w_Purse ct aP P LP wP vP]))) 5 [(0, .ref (aP 0)), (1, .int x1), (2, .int x2), (3, .long x3), (5, .int x5)] [] (cat [w_Purse ct aP P LP wP vP]) (f_X5_countTop_5 F P LP wP vP x1 x2 k42 n x3 x5) := by
  intro n
  induction n with
  | zero => intros; exact im_none
  | succ n ih =>
    intro x3 x5
    unfold f_X5_countTop_5
    refine im_iload X 4 dX5_countTop_5 rfl ?_
    refine im_bipush X 100 dX5_countTop_7 (by decide) ?_
    refine im_icmp_ge (tgt := 42) X dX5_countTop_9 rfl ?_ ?_
    · refine im_lv [3] [(3, .long x3)] rfl ?_
      exact hk42 x3
    · refine im_iload_n X 1 dX5_countTop_12 rfl rfl ?_
      refine im_iload X 4 dX5_countTop_13 rfl ?_
      refine im_icmp_lt (tgt := 36) X dX5_countTop_15 rfl ?_ ?_
      · refine im_iinc X 4 1 [1, 2, 3, 4, 0] [(0, .ref (aP 0)), (1, .int x1), (2, .int x2), (3, .long x3), (5, .int (x5 + 1))] dX5_countTop_36 (by decide) rfl (by decide) rfl ?_
        refine im_goto (tgt := 5) X dX5_countTop_39 rfl ?_
        exact ih x3 (x5 + 1)
      · refine im_iload_n X 1 dX5_countTop_18 rfl rfl ?_
        refine im_iload X 4 dX5_countTop_19 rfl ?_
        refine im_isub X dX5_countTop_21 ?_
        refine im_iload_n X 2 dX5_countTop_22 rfl rfl ?_
        refine im_icmp_gt (tgt := 36) X dX5_countTop_23 rfl ?_ ?_
        · refine im_iinc X 4 1 [1, 2, 3, 4, 0] [(0, .ref (aP 0)), (1, .int x1), (2, .int x2), (3, .long x3), (5, .int (x5 + 1))] dX5_countTop_36 (by decide) rfl (by decide) rfl ?_
          refine im_goto (tgt := 5) X dX5_countTop_39 rfl ?_
          exact ih x3 (x5 + 1)
        · refine im_lload_n X 3 dX5_countTop_26 rfl rfl ?_
          refine im_aload_n X 0 dX5_countTop_27 rfl rfl ?_
          refine im_ite (fun q => ?_) (fun q => ?_)
          · subst q
            refine im_cget X 0 0 (v := .ref (aP 4)) fl_X5_18 rfl rfl rfl dX5_countTop_28 ?_
            refine im_iload X 4 dX5_countTop_31 rfl ?_
            refine im_clald X 0 4 1 (f := (LP 4)) rfl rfl rfl dX5_countTop_33 ?_
            refine im_ladd X dX5_countTop_34 ?_
            refine im_lstore_n X [1, 2, 3, 0, 4] [(0, .ref (aP 0)), (1, .int x1), (2, .int x2), (3, .long (x3 + ((LP 4) x5.toNatClampNeg))), (5, .int x5)] dX5_countTop_35 rfl (by decide) rfl ?_
            refine im_iinc X 4 1 [1, 2, 3, 4, 0] [(0, .ref (aP 0)), (1, .int x1), (2, .int x2), (3, .long (x3 + ((LP 4) x5.toNatClampNeg))), (5, .int (x5 + 1))] dX5_countTop_36 (by decide) rfl (by decide) rfl ?_
            refine im_goto (tgt := 5) X dX5_countTop_39 rfl ?_
            exact ih (x3 + ((LP 4) x5.toNatClampNeg)) (x5 + 1)
          · obtain rfl : wP = false := eq_false_of_ne_true q
            refine im_cget X 0 0 (v := .ref (aP 3)) fl_X5_18 rfl rfl rfl dX5_countTop_28 ?_
            refine im_iload X 4 dX5_countTop_31 rfl ?_
            refine im_clald X 0 3 1 (f := (LP 3)) rfl rfl rfl dX5_countTop_33 ?_
            refine im_ladd X dX5_countTop_34 ?_
            refine im_lstore_n X [1, 2, 3, 0, 4] [(0, .ref (aP 0)), (1, .int x1), (2, .int x2), (3, .long (x3 + ((LP 3) x5.toNatClampNeg))), (5, .int x5)] dX5_countTop_35 rfl (by decide) rfl ?_
            refine im_iinc X 4 1 [1, 2, 3, 4, 0] [(0, .ref (aP 0)), (1, .int x1), (2, .int x2), (3, .long (x3 + ((LP 3) x5.toNatClampNeg))), (5, .int (x5 + 1))] dX5_countTop_36 (by decide) rfl (by decide) rfl ?_
            refine im_goto (tgt := 5) X dX5_countTop_39 rfl ?_
            exact ih (x3 + ((LP 3) x5.toNatClampNeg)) (x5 + 1)
noncomputable def f_X5_countTop (F : Nat) (P : Mem) (LP : MemL) (wP : Bool) (vP : Bool) (x1 : Int32) (x2 : Int32) : Option (Int64) :=
  f_X5_countTop_5 F P LP wP vP x1 x2 (fun x3_42 => (some x3_42)) F 0 0
set_option maxRecDepth 100000 in
set_option maxHeartbeats 4000000 in
theorem i_X5_countTop {p : Program} {l : Launch} {e : Env} {s : State} {m : MethodId} {args : Array Value} {below : List Frame} {meth : Method} {c : Code} {D : va_G} {ct : im_ct} {A : Nat → Prop} (X : im_X p (im_rm 0) s m args meth c D ct A RX5 cX5_countTop 6 (some .long)) (F : Nat) (aP : Nat → Nat) (P : Mem) (LP : MemL) (wP : Bool) (vP : Bool) (x1 : Int32) (x2 : Int32) : Im p l e (im_rm 0) s m args below meth c D A 6 (QL D A (fun z : Int64 => z) (fun z : Int64 => (cat [w_Purse ct aP P LP wP vP]))) 0 [(0, .ref (aP 0)), (1, .int x1), (2, .int x2)] [] (cat [w_Purse ct aP P LP wP vP]) (f_X5_countTop F P LP wP vP x1 x2) := by
  unfold f_X5_countTop
  refine im_lconst X 0 dX5_countTop_0 (by decide) ?_
  refine im_lstore_n X [1, 2, 3, 0] [(0, .ref (aP 0)), (1, .int x1), (2, .int x2), (3, .long 0)] dX5_countTop_1 rfl (by decide) rfl ?_
  refine im_iconst X 0 dX5_countTop_2 (by decide) ?_
  refine im_istore X [1, 2, 3, 4, 0] [(0, .ref (aP 0)), (1, .int x1), (2, .int x2), (3, .long 0), (5, .int 0)] dX5_countTop_3 (by decide) rfl ?_
  refine i_X5_countTop_5 X F aP P LP wP vP x1 x2 _ (fun x3_42 => ?_) F 0 0
  refine im_lload_n X 0 dX5_countTop_42 rfl rfl ?_
  exact im_lreturn X x3_42 rfl rfl dX5_countTop_43
theorem c_X5_countTop (l : Launch) (D : va_G) (ct : im_ct) (F : Nat) (aP : Nat → Nat) (P : Mem) (LP : MemL) (wP : Bool) (vP : Bool) (x1 : Int32) (x2 : Int32) : CMl l D ct yX5_countTop cX5_countTop 6 (some .long) 0 [.ref (aP 0), .int x1, .int x2] (cat [w_Purse ct aP P LP wP vP]) (f_X5_countTop F P LP wP vP x1 x2) (fun z : Int64 => z) (fun z : Int64 => (cat [w_Purse ct aP P LP wP vP])) :=
  im_met (Qb := fun A => QL D A (fun z : Int64 => z) (fun z : Int64 => (cat [w_Purse ct aP P LP wP vP]))) (by decide +kernel) (Nat.le_of_ble_eq_true rfl) (fun p e s m args below meth c A X => i_X5_countTop X F aP P LP wP vP x1 x2)

noncomputable def f_X5_countWays_54 (F : Nat) (P : Mem) (wP : Bool) (vP : Bool) (C : Mem) (x2 : Int32) (x4 : Int32) (x5 : Int32) (x6 : Int32) (k111 : MemL → Option (Int64 × MemL × Bool × Bool)) : Nat → MemL → Int32 → Option (Int64 × MemL × Bool × Bool)
  | 0, _, _ => none
  | n + 1, LP, x7 =>
  (if 100 ≤ x7 then k111 LP else (if wP = true then ck x7 100 ((if (lg_cmp ((LP 4) x7.toNatClampNeg) 0) = 0 then f_X5_countWays_54 F P wP vP C x2 x4 x5 x6 k111 n LP (x7 + 1) else ck ((x2 * 6) + x5) 24 (ck x7 100 ((f_X5_spreadWays F P LP true vP (x4 - x7) ((C 3) (((x2 * 6) + x5)).toNatClampNeg) x6 x4 ((LP 4) x7.toNatClampNeg)).bind (fun z102 => f_X5_countWays_54 F P wP vP C x2 x4 x5 x6 k111 n z102 (x7 + 1)))))) else ck x7 100 ((if (lg_cmp ((LP 3) x7.toNatClampNeg) 0) = 0 then f_X5_countWays_54 F P wP vP C x2 x4 x5 x6 k111 n LP (x7 + 1) else ck ((x2 * 6) + x5) 24 (ck x7 100 ((f_X5_spreadWays F P LP false vP (x4 - x7) ((C 3) (((x2 * 6) + x5)).toNatClampNeg) x6 x4 ((LP 3) x7.toNatClampNeg)).bind (fun z102 => f_X5_countWays_54 F P wP vP C x2 x4 x5 x6 k111 n z102 (x7 + 1))))))))
set_option maxRecDepth 100000 in
set_option maxHeartbeats 4000000 in
theorem i_X5_countWays_54 {p : Program} {l : Launch} {e : Env} {s : State} {m : MethodId} {args : Array Value} {below : List Frame} {meth : Method} {c : Code} {D : va_G} {ct : im_ct} {A : Nat → Prop} (X : im_X p (im_rm 2) s m args meth c D ct A RX5 cX5_countWays 8 (some .long)) (F : Nat) (aP aC : Nat → Nat) (P : Mem) (wP : Bool) (vP : Bool) (C : Mem) (x2 : Int32) (x4 : Int32) (x5 : Int32) (x6 : Int32) (k111 : MemL → Option (Int64 × MemL × Bool × Bool)) (hk111 : ∀ (LP : MemL), Im p l e (im_rm 2) s m args below meth c D A 8 (QL D A (fun z : Int64 × MemL × Bool × Bool => z.1) (fun z : Int64 × MemL × Bool × Bool => (cat [w_Purse ct aP P z.2.1 z.2.2.1 z.2.2.2, w_Cloth ct aC C]))) 111 [(0, .ref (aP 0)), (1, .ref (aC 0)), (2, .int x2), (4, .int x4), (5, .int x5), (6, .int x6)] [] (cat [w_Purse ct aP P LP wP vP, w_Cloth ct aC C]) (k111 LP)) : ∀ (n : Nat) (LP : MemL) (x7 : Int32), Im p l e (im_rm 2) s m args below meth c D A 8 (QL D A (fun z : Int64 × MemL × Bool × Bool => z.1) (fun z : Int64 × MemL × Bool × Bool => (cat [w_Purse ct aP P z.2.1 z.2.2.1 z.2.2.2, w_Cloth ct aC C]))) 54 [(0, .ref (aP 0)), (1, .ref (aC 0)), (2, .int x2), (4, .int x4), (5, .int x5), (6, .int x6), (7, .int x7)] [] (cat [w_Purse ct aP P LP wP vP, w_Cloth ct aC C]) (f_X5_countWays_54 F P wP vP C x2 x4 x5 x6 k111 n LP x7) := by
  intro n
  induction n with
  | zero => intros; exact im_none
  | succ n ih =>
    intro LP x7
    unfold f_X5_countWays_54
    refine im_iload X 6 dX5_countWays_54 rfl ?_
    refine im_bipush X 100 dX5_countWays_56 (by decide) ?_
    refine im_icmp_ge (tgt := 111) X dX5_countWays_58 rfl ?_ ?_
    · refine im_lv [0, 1, 2, 3, 4, 5] [(0, .ref (aP 0)), (1, .ref (aC 0)), (2, .int x2), (4, .int x4), (5, .int x5), (6, .int x6)] rfl ?_
      exact hk111 LP
    · refine im_aload_n X 0 dX5_countWays_61 rfl rfl ?_
      refine im_ite (fun q => ?_) (fun q => ?_)
      · subst q
        refine im_cget X 0 0 (v := .ref (aP 4)) fl_X5_18 rfl rfl rfl dX5_countWays_62 ?_
        refine im_iload X 6 dX5_countWays_65 rfl ?_
        refine im_clald X 0 4 1 (f := (LP 4)) rfl rfl rfl dX5_countWays_67 ?_
        refine im_lconst X 0 dX5_countWays_68 (by decide) ?_
        refine im_lcmp X dX5_countWays_69 ?_
        refine im_if_eq (tgt := 105) X dX5_countWays_70 rfl ?_ ?_
        · refine im_iinc X 6 1 [1, 2, 3, 4, 5, 6, 0] [(0, .ref (aP 0)), (1, .ref (aC 0)), (2, .int x2), (4, .int x4), (5, .int x5), (6, .int x6), (7, .int (x7 + 1))] dX5_countWays_105 (by decide) rfl (by decide) rfl ?_
          refine im_goto (tgt := 54) X dX5_countWays_108 rfl ?_
          exact ih LP (x7 + 1)
        · refine im_aload_n X 0 dX5_countWays_73 rfl rfl ?_
          refine im_iload X 3 dX5_countWays_74 rfl ?_
          refine im_iload X 6 dX5_countWays_76 rfl ?_
          refine im_isub X dX5_countWays_78 ?_
          refine im_aload_n X 1 dX5_countWays_79 rfl rfl ?_
          refine im_cget X 1 0 (v := .ref (aC 3)) fl_X5_34 rfl rfl rfl dX5_countWays_80 ?_
          refine im_iload_n X 2 dX5_countWays_83 rfl rfl ?_
          refine im_bipush X 6 dX5_countWays_84 (by decide) ?_
          refine im_imul X dX5_countWays_86 ?_
          refine im_iload X 4 dX5_countWays_87 rfl ?_
          refine im_iadd X dX5_countWays_89 ?_
          refine im_ciald X 1 3 0 (f := (C 3)) rfl rfl rfl dX5_countWays_90 ?_
          refine im_iload X 5 dX5_countWays_91 rfl ?_
          refine im_iload X 3 dX5_countWays_93 rfl ?_
          refine im_aload_n X 0 dX5_countWays_95 rfl rfl ?_
          refine im_cget X 0 0 (v := .ref (aP 4)) fl_X5_18 rfl rfl rfl dX5_countWays_96 ?_
          refine im_iload X 6 dX5_countWays_99 rfl ?_
          refine im_clald X 0 4 1 (f := (LP 4)) rfl rfl rfl dX5_countWays_101 ?_
          refine im_ccvV X [.int (x4 - x7), .int ((C 3) (((x2 * 6) + x5)).toNatClampNeg), .int x6, .int x4, .long ((LP 4) x7.toNatClampNeg)] [] [w_Purse ct aP P LP true vP, w_Cloth ct aC C] [w_Purse ct aP P LP true vP] [0] (fun z102 => [w_Purse ct aP P z102 true vP]) 0 0 5 rfl rfl rfl cl_X5_77 (c_X5_spreadWays l D ct F aP P LP true vP (x4 - x7) ((C 3) (((x2 * 6) + x5)).toNatClampNeg) x6 x4 ((LP 4) x7.toNatClampNeg)) rfl (by decide) (fun _ => lc fa_Purse (rfl)) rfl ⟨by decide, by decide⟩ (Nat.le_of_ble_eq_true rfl) rfl dX5_countWays_102 (fun z102 => ?_)
          refine im_ws (cat [w_Purse ct aP P z102 true vP, w_Cloth ct aC C]) rfl ?_
          refine im_iinc X 6 1 [1, 2, 3, 4, 5, 6, 0] [(0, .ref (aP 0)), (1, .ref (aC 0)), (2, .int x2), (4, .int x4), (5, .int x5), (6, .int x6), (7, .int (x7 + 1))] dX5_countWays_105 (by decide) rfl (by decide) rfl ?_
          refine im_goto (tgt := 54) X dX5_countWays_108 rfl ?_
          exact ih z102 (x7 + 1)
      · obtain rfl : wP = false := eq_false_of_ne_true q
        refine im_cget X 0 0 (v := .ref (aP 3)) fl_X5_18 rfl rfl rfl dX5_countWays_62 ?_
        refine im_iload X 6 dX5_countWays_65 rfl ?_
        refine im_clald X 0 3 1 (f := (LP 3)) rfl rfl rfl dX5_countWays_67 ?_
        refine im_lconst X 0 dX5_countWays_68 (by decide) ?_
        refine im_lcmp X dX5_countWays_69 ?_
        refine im_if_eq (tgt := 105) X dX5_countWays_70 rfl ?_ ?_
        · refine im_iinc X 6 1 [1, 2, 3, 4, 5, 6, 0] [(0, .ref (aP 0)), (1, .ref (aC 0)), (2, .int x2), (4, .int x4), (5, .int x5), (6, .int x6), (7, .int (x7 + 1))] dX5_countWays_105 (by decide) rfl (by decide) rfl ?_
          refine im_goto (tgt := 54) X dX5_countWays_108 rfl ?_
          exact ih LP (x7 + 1)
        · refine im_aload_n X 0 dX5_countWays_73 rfl rfl ?_
          refine im_iload X 3 dX5_countWays_74 rfl ?_
          refine im_iload X 6 dX5_countWays_76 rfl ?_
          refine im_isub X dX5_countWays_78 ?_
          refine im_aload_n X 1 dX5_countWays_79 rfl rfl ?_
          refine im_cget X 1 0 (v := .ref (aC 3)) fl_X5_34 rfl rfl rfl dX5_countWays_80 ?_
          refine im_iload_n X 2 dX5_countWays_83 rfl rfl ?_
          refine im_bipush X 6 dX5_countWays_84 (by decide) ?_
          refine im_imul X dX5_countWays_86 ?_
          refine im_iload X 4 dX5_countWays_87 rfl ?_
          refine im_iadd X dX5_countWays_89 ?_
          refine im_ciald X 1 3 0 (f := (C 3)) rfl rfl rfl dX5_countWays_90 ?_
          refine im_iload X 5 dX5_countWays_91 rfl ?_
          refine im_iload X 3 dX5_countWays_93 rfl ?_
          refine im_aload_n X 0 dX5_countWays_95 rfl rfl ?_
          refine im_cget X 0 0 (v := .ref (aP 3)) fl_X5_18 rfl rfl rfl dX5_countWays_96 ?_
          refine im_iload X 6 dX5_countWays_99 rfl ?_
          refine im_clald X 0 3 1 (f := (LP 3)) rfl rfl rfl dX5_countWays_101 ?_
          refine im_ccvV X [.int (x4 - x7), .int ((C 3) (((x2 * 6) + x5)).toNatClampNeg), .int x6, .int x4, .long ((LP 3) x7.toNatClampNeg)] [] [w_Purse ct aP P LP false vP, w_Cloth ct aC C] [w_Purse ct aP P LP false vP] [0] (fun z102 => [w_Purse ct aP P z102 false vP]) 0 0 5 rfl rfl rfl cl_X5_77 (c_X5_spreadWays l D ct F aP P LP false vP (x4 - x7) ((C 3) (((x2 * 6) + x5)).toNatClampNeg) x6 x4 ((LP 3) x7.toNatClampNeg)) rfl (by decide) (fun _ => lc fa_Purse (rfl)) rfl ⟨by decide, by decide⟩ (Nat.le_of_ble_eq_true rfl) rfl dX5_countWays_102 (fun z102 => ?_)
          refine im_ws (cat [w_Purse ct aP P z102 false vP, w_Cloth ct aC C]) rfl ?_
          refine im_iinc X 6 1 [1, 2, 3, 4, 5, 6, 0] [(0, .ref (aP 0)), (1, .ref (aC 0)), (2, .int x2), (4, .int x4), (5, .int x5), (6, .int x6), (7, .int (x7 + 1))] dX5_countWays_105 (by decide) rfl (by decide) rfl ?_
          refine im_goto (tgt := 54) X dX5_countWays_108 rfl ?_
          exact ih z102 (x7 + 1)
noncomputable def f_X5_countWays_21 (F : Nat) (P : Mem) (C : Mem) (x2 : Int32) (k153 : MemL → Bool → Bool → Int32 → Option (Int64 × MemL × Bool × Bool)) : Nat → MemL → Bool → Bool → Int32 → Int32 → Option (Int64 × MemL × Bool × Bool)
  | 0, _, _, _, _, _ => none
  | n + 1, LP, wP, vP, x4, x5 =>
  (if ((C 0 6) - 1) ≤ x5 then k153 LP wP vP x4 else (if vP = true then (f_X5_clearWays F (fun _ => (LP 3))).bind (fun z37 => ck (x5 + 1) 6 (f_X5_countWays_54 F P wP true C x2 x4 x5 ((C 1) ((x5 + 1)).toNatClampNeg) (fun LP_111 => (if wP = true then (if ((C 1) ((x5 + 1)).toNatClampNeg) ≤ 0 then f_X5_countWays_21 F P C x2 k153 n LP_111 false false 0 (x5 + 1) else dv ((C 1) ((x5 + 1)).toNatClampNeg) (f_X5_countWays_21 F P C x2 k153 n LP_111 false false (x4 / ((C 1) ((x5 + 1)).toNatClampNeg)) (x5 + 1))) else (if ((C 1) ((x5 + 1)).toNatClampNeg) ≤ 0 then f_X5_countWays_21 F P C x2 k153 n LP_111 false true 0 (x5 + 1) else dv ((C 1) ((x5 + 1)).toNatClampNeg) (f_X5_countWays_21 F P C x2 k153 n LP_111 false true (x4 / ((C 1) ((x5 + 1)).toNatClampNeg)) (x5 + 1))))) F (mr LP 3 (z37 0)) 0)) else (f_X5_clearWays F (fun _ => (LP 4))).bind (fun z37 => ck (x5 + 1) 6 (f_X5_countWays_54 F P wP false C x2 x4 x5 ((C 1) ((x5 + 1)).toNatClampNeg) (fun LP_111 => (if wP = true then (if ((C 1) ((x5 + 1)).toNatClampNeg) ≤ 0 then f_X5_countWays_21 F P C x2 k153 n LP_111 true false 0 (x5 + 1) else dv ((C 1) ((x5 + 1)).toNatClampNeg) (f_X5_countWays_21 F P C x2 k153 n LP_111 true false (x4 / ((C 1) ((x5 + 1)).toNatClampNeg)) (x5 + 1))) else (if ((C 1) ((x5 + 1)).toNatClampNeg) ≤ 0 then f_X5_countWays_21 F P C x2 k153 n LP_111 true true 0 (x5 + 1) else dv ((C 1) ((x5 + 1)).toNatClampNeg) (f_X5_countWays_21 F P C x2 k153 n LP_111 true true (x4 / ((C 1) ((x5 + 1)).toNatClampNeg)) (x5 + 1))))) F (mr LP 4 (z37 0)) 0))))
set_option maxRecDepth 100000 in
set_option maxHeartbeats 4000000 in
theorem i_X5_countWays_21 {p : Program} {l : Launch} {e : Env} {s : State} {m : MethodId} {args : Array Value} {below : List Frame} {meth : Method} {c : Code} {D : va_G} {ct : im_ct} {A : Nat → Prop} (X : im_X p (im_rm 2) s m args meth c D ct A RX5 cX5_countWays 8 (some .long)) (F : Nat) (aP aC : Nat → Nat) (P : Mem) (C : Mem) (x2 : Int32) (k153 : MemL → Bool → Bool → Int32 → Option (Int64 × MemL × Bool × Bool)) (hk153 : ∀ (LP : MemL) (wP : Bool) (vP : Bool) (x4 : Int32), Im p l e (im_rm 2) s m args below meth c D A 8 (QL D A (fun z : Int64 × MemL × Bool × Bool => z.1) (fun z : Int64 × MemL × Bool × Bool => (cat [w_Purse ct aP P z.2.1 z.2.2.1 z.2.2.2, w_Cloth ct aC C]))) 153 [(0, .ref (aP 0)), (1, .ref (aC 0)), (2, .int x2), (4, .int x4)] [] (cat [w_Purse ct aP P LP wP vP, w_Cloth ct aC C]) (k153 LP wP vP x4)) : ∀ (n : Nat) (LP : MemL) (wP : Bool) (vP : Bool) (x4 : Int32) (x5 : Int32), Im p l e (im_rm 2) s m args below meth c D A 8 (QL D A (fun z : Int64 × MemL × Bool × Bool => z.1) (fun z : Int64 × MemL × Bool × Bool => (cat [w_Purse ct aP P z.2.1 z.2.2.1 z.2.2.2, w_Cloth ct aC C]))) 21 [(0, .ref (aP 0)), (1, .ref (aC 0)), (2, .int x2), (4, .int x4), (5, .int x5)] [] (cat [w_Purse ct aP P LP wP vP, w_Cloth ct aC C]) (f_X5_countWays_21 F P C x2 k153 n LP wP vP x4 x5) := by
  intro n
  induction n with
  | zero => intros; exact im_none
  | succ n ih =>
    intro LP wP vP x4 x5
    unfold f_X5_countWays_21
    refine im_iload X 4 dX5_countWays_21 rfl ?_
    refine im_aload_n X 1 dX5_countWays_23 rfl rfl ?_
    refine im_cget X 1 0 (v := .int (C 0 6)) fl_X5_25 rfl rfl rfl dX5_countWays_24 ?_
    refine im_iconst X 1 dX5_countWays_27 (by decide) ?_
    refine im_isub X dX5_countWays_28 ?_
    refine im_icmp_ge (tgt := 153) X dX5_countWays_29 rfl ?_ ?_
    · refine im_lv [0, 1, 2, 3] [(0, .ref (aP 0)), (1, .ref (aC 0)), (2, .int x2), (4, .int x4)] rfl ?_
      exact hk153 LP wP vP x4
    · refine im_aload_n X 0 dX5_countWays_32 rfl rfl ?_
      refine im_aload_n X 0 dX5_countWays_33 rfl rfl ?_
      refine im_ite (fun q => ?_) (fun q => ?_)
      · subst q
        refine im_cget X 0 0 (v := .ref (aP 3)) fl_X5_22 rfl rfl rfl dX5_countWays_34 ?_
        refine im_callvV X [.ref (aP 3)] [] [3] 0 5 rfl rfl cl_X5_73 (c_X5_clearWays l D ct F aP (fun _ => aP 3) (fun _ => (LP 3))) rfl (by decide) (fun _ => rfl) rfl ⟨by decide, by decide⟩ (Nat.le_of_ble_eq_true rfl) rfl dX5_countWays_37 (fun z37 => ?_)
        refine im_ws (cat [wx_Purse ct aP (P 1) (P 2) (z37 0) (LP 4) wP true, w_Cloth ct aC C]) rfl ?_
        refine im_aload_n X 1 dX5_countWays_40 rfl rfl ?_
        refine im_cget X 1 0 (v := .ref (aC 1)) fl_X5_37 rfl rfl rfl dX5_countWays_41 ?_
        refine im_iload X 4 dX5_countWays_44 rfl ?_
        refine im_iconst X 1 dX5_countWays_46 (by decide) ?_
        refine im_iadd X dX5_countWays_47 ?_
        refine im_ciald X 1 1 0 (f := (C 1)) rfl rfl rfl dX5_countWays_48 ?_
        refine im_istore X [1, 2, 3, 4, 5, 0] [(0, .ref (aP 0)), (1, .ref (aC 0)), (2, .int x2), (4, .int x4), (5, .int x5), (6, .int ((C 1) ((x5 + 1)).toNatClampNeg))] dX5_countWays_49 (by decide) rfl ?_
        refine im_iconst X 0 dX5_countWays_51 (by decide) ?_
        refine im_istore X [1, 2, 3, 4, 5, 6, 0] [(0, .ref (aP 0)), (1, .ref (aC 0)), (2, .int x2), (4, .int x4), (5, .int x5), (6, .int ((C 1) ((x5 + 1)).toNatClampNeg)), (7, .int 0)] dX5_countWays_52 (by decide) rfl ?_
        refine i_X5_countWays_54 X F aP aC P wP true C x2 x4 x5 ((C 1) ((x5 + 1)).toNatClampNeg) _ (fun LP_111 => ?_) F (mr LP 3 (z37 0)) 0
        refine im_aload_n X 0 dX5_countWays_111 rfl rfl ?_
        refine im_ite (fun q => ?_) (fun q => ?_)
        · subst q
          refine im_cget X 0 0 (v := .ref (aP 4)) fl_X5_18 rfl rfl rfl dX5_countWays_112 ?_
          refine im_astore X [1, 2, 3, 4, 5, 6, 0] [(0, .ref (aP 0)), (1, .ref (aC 0)), (2, .int x2), (4, .int x4), (5, .int x5), (6, .int ((C 1) ((x5 + 1)).toNatClampNeg)), (7, .ref (aP 4))] dX5_countWays_115 (by decide) rfl ?_
          refine im_aload_n X 0 dX5_countWays_117 rfl rfl ?_
          refine im_aload_n X 0 dX5_countWays_118 rfl rfl ?_
          refine im_cget X 0 0 (v := .ref (aP 3)) fl_X5_22 rfl rfl rfl dX5_countWays_119 ?_
          refine im_cput X 0 0 (w_Purse ct aP P LP_111 false true) [w_Purse ct aP P LP_111 false true, w_Cloth ct aC C] fl_X5_18 rfl rfl rfl rfl (Nat.le_of_ble_eq_true rfl) rfl rfl dX5_countWays_122 ?_
          refine im_aload_n X 0 dX5_countWays_125 rfl rfl ?_
          refine im_aload X 6 dX5_countWays_126 rfl ?_
          refine im_cput X 0 0 (w_Purse ct aP P LP_111 false false) [w_Purse ct aP P LP_111 false false, w_Cloth ct aC C] fl_X5_22 rfl rfl rfl rfl (Nat.le_of_ble_eq_true rfl) rfl rfl dX5_countWays_128 ?_
          refine im_iload X 5 dX5_countWays_131 rfl ?_
          refine im_if_le (tgt := 144) X dX5_countWays_133 rfl ?_ ?_
          · refine im_iconst X 0 dX5_countWays_144 (by decide) ?_
            refine im_istore X [1, 2, 3, 0, 4, 5, 6] [(0, .ref (aP 0)), (1, .ref (aC 0)), (2, .int x2), (4, .int 0), (5, .int x5), (6, .int ((C 1) ((x5 + 1)).toNatClampNeg)), (7, .ref (aP 4))] dX5_countWays_145 (by decide) rfl ?_
            refine im_iinc X 4 1 [1, 2, 3, 4, 0, 5, 6] [(0, .ref (aP 0)), (1, .ref (aC 0)), (2, .int x2), (4, .int 0), (5, .int (x5 + 1)), (6, .int ((C 1) ((x5 + 1)).toNatClampNeg)), (7, .ref (aP 4))] dX5_countWays_147 (by decide) rfl (by decide) rfl ?_
            refine im_goto (tgt := 21) X dX5_countWays_150 rfl ?_
            refine im_lv [0, 1, 2, 3, 4] [(0, .ref (aP 0)), (1, .ref (aC 0)), (2, .int x2), (4, .int 0), (5, .int (x5 + 1))] rfl ?_
            exact ih LP_111 false false 0 (x5 + 1)
          · refine im_iload X 3 dX5_countWays_136 rfl ?_
            refine im_iload X 5 dX5_countWays_138 rfl ?_
            refine im_idiv X dX5_countWays_140 ?_
            refine im_goto (tgt := 145) X dX5_countWays_141 rfl ?_
            refine im_istore X [1, 2, 3, 0, 4, 5, 6] [(0, .ref (aP 0)), (1, .ref (aC 0)), (2, .int x2), (4, .int (x4 / ((C 1) ((x5 + 1)).toNatClampNeg))), (5, .int x5), (6, .int ((C 1) ((x5 + 1)).toNatClampNeg)), (7, .ref (aP 4))] dX5_countWays_145 (by decide) rfl ?_
            refine im_iinc X 4 1 [1, 2, 3, 4, 0, 5, 6] [(0, .ref (aP 0)), (1, .ref (aC 0)), (2, .int x2), (4, .int (x4 / ((C 1) ((x5 + 1)).toNatClampNeg))), (5, .int (x5 + 1)), (6, .int ((C 1) ((x5 + 1)).toNatClampNeg)), (7, .ref (aP 4))] dX5_countWays_147 (by decide) rfl (by decide) rfl ?_
            refine im_goto (tgt := 21) X dX5_countWays_150 rfl ?_
            refine im_lv [0, 1, 2, 3, 4] [(0, .ref (aP 0)), (1, .ref (aC 0)), (2, .int x2), (4, .int (x4 / ((C 1) ((x5 + 1)).toNatClampNeg))), (5, .int (x5 + 1))] rfl ?_
            exact ih LP_111 false false (x4 / ((C 1) ((x5 + 1)).toNatClampNeg)) (x5 + 1)
        · obtain rfl : wP = false := eq_false_of_ne_true q
          refine im_cget X 0 0 (v := .ref (aP 3)) fl_X5_18 rfl rfl rfl dX5_countWays_112 ?_
          refine im_astore X [1, 2, 3, 4, 5, 6, 0] [(0, .ref (aP 0)), (1, .ref (aC 0)), (2, .int x2), (4, .int x4), (5, .int x5), (6, .int ((C 1) ((x5 + 1)).toNatClampNeg)), (7, .ref (aP 3))] dX5_countWays_115 (by decide) rfl ?_
          refine im_aload_n X 0 dX5_countWays_117 rfl rfl ?_
          refine im_aload_n X 0 dX5_countWays_118 rfl rfl ?_
          refine im_cget X 0 0 (v := .ref (aP 3)) fl_X5_22 rfl rfl rfl dX5_countWays_119 ?_
          refine im_cput X 0 0 (w_Purse ct aP P LP_111 false true) [w_Purse ct aP P LP_111 false true, w_Cloth ct aC C] fl_X5_18 rfl rfl rfl rfl (Nat.le_of_ble_eq_true rfl) rfl rfl dX5_countWays_122 ?_
          refine im_aload_n X 0 dX5_countWays_125 rfl rfl ?_
          refine im_aload X 6 dX5_countWays_126 rfl ?_
          refine im_cput X 0 0 (w_Purse ct aP P LP_111 false true) [w_Purse ct aP P LP_111 false true, w_Cloth ct aC C] fl_X5_22 rfl rfl rfl rfl (Nat.le_of_ble_eq_true rfl) rfl rfl dX5_countWays_128 ?_
          refine im_iload X 5 dX5_countWays_131 rfl ?_
          refine im_if_le (tgt := 144) X dX5_countWays_133 rfl ?_ ?_
          · refine im_iconst X 0 dX5_countWays_144 (by decide) ?_
            refine im_istore X [1, 2, 3, 0, 4, 5, 6] [(0, .ref (aP 0)), (1, .ref (aC 0)), (2, .int x2), (4, .int 0), (5, .int x5), (6, .int ((C 1) ((x5 + 1)).toNatClampNeg)), (7, .ref (aP 3))] dX5_countWays_145 (by decide) rfl ?_
            refine im_iinc X 4 1 [1, 2, 3, 4, 0, 5, 6] [(0, .ref (aP 0)), (1, .ref (aC 0)), (2, .int x2), (4, .int 0), (5, .int (x5 + 1)), (6, .int ((C 1) ((x5 + 1)).toNatClampNeg)), (7, .ref (aP 3))] dX5_countWays_147 (by decide) rfl (by decide) rfl ?_
            refine im_goto (tgt := 21) X dX5_countWays_150 rfl ?_
            refine im_lv [0, 1, 2, 3, 4] [(0, .ref (aP 0)), (1, .ref (aC 0)), (2, .int x2), (4, .int 0), (5, .int (x5 + 1))] rfl ?_
            exact ih LP_111 false true 0 (x5 + 1)
          · refine im_iload X 3 dX5_countWays_136 rfl ?_
            refine im_iload X 5 dX5_countWays_138 rfl ?_
            refine im_idiv X dX5_countWays_140 ?_
            refine im_goto (tgt := 145) X dX5_countWays_141 rfl ?_
            refine im_istore X [1, 2, 3, 0, 4, 5, 6] [(0, .ref (aP 0)), (1, .ref (aC 0)), (2, .int x2), (4, .int (x4 / ((C 1) ((x5 + 1)).toNatClampNeg))), (5, .int x5), (6, .int ((C 1) ((x5 + 1)).toNatClampNeg)), (7, .ref (aP 3))] dX5_countWays_145 (by decide) rfl ?_
            refine im_iinc X 4 1 [1, 2, 3, 4, 0, 5, 6] [(0, .ref (aP 0)), (1, .ref (aC 0)), (2, .int x2), (4, .int (x4 / ((C 1) ((x5 + 1)).toNatClampNeg))), (5, .int (x5 + 1)), (6, .int ((C 1) ((x5 + 1)).toNatClampNeg)), (7, .ref (aP 3))] dX5_countWays_147 (by decide) rfl (by decide) rfl ?_
            refine im_goto (tgt := 21) X dX5_countWays_150 rfl ?_
            refine im_lv [0, 1, 2, 3, 4] [(0, .ref (aP 0)), (1, .ref (aC 0)), (2, .int x2), (4, .int (x4 / ((C 1) ((x5 + 1)).toNatClampNeg))), (5, .int (x5 + 1))] rfl ?_
            exact ih LP_111 false true (x4 / ((C 1) ((x5 + 1)).toNatClampNeg)) (x5 + 1)
      · obtain rfl : vP = false := eq_false_of_ne_true q
        refine im_cget X 0 0 (v := .ref (aP 4)) fl_X5_22 rfl rfl rfl dX5_countWays_34 ?_
        refine im_callvV X [.ref (aP 4)] [] [4] 0 5 rfl rfl cl_X5_73 (c_X5_clearWays l D ct F aP (fun _ => aP 4) (fun _ => (LP 4))) rfl (by decide) (fun _ => rfl) rfl ⟨by decide, by decide⟩ (Nat.le_of_ble_eq_true rfl) rfl dX5_countWays_37 (fun z37 => ?_)
        refine im_ws (cat [wx_Purse ct aP (P 1) (P 2) (LP 3) (z37 0) wP false, w_Cloth ct aC C]) rfl ?_
        refine im_aload_n X 1 dX5_countWays_40 rfl rfl ?_
        refine im_cget X 1 0 (v := .ref (aC 1)) fl_X5_37 rfl rfl rfl dX5_countWays_41 ?_
        refine im_iload X 4 dX5_countWays_44 rfl ?_
        refine im_iconst X 1 dX5_countWays_46 (by decide) ?_
        refine im_iadd X dX5_countWays_47 ?_
        refine im_ciald X 1 1 0 (f := (C 1)) rfl rfl rfl dX5_countWays_48 ?_
        refine im_istore X [1, 2, 3, 4, 5, 0] [(0, .ref (aP 0)), (1, .ref (aC 0)), (2, .int x2), (4, .int x4), (5, .int x5), (6, .int ((C 1) ((x5 + 1)).toNatClampNeg))] dX5_countWays_49 (by decide) rfl ?_
        refine im_iconst X 0 dX5_countWays_51 (by decide) ?_
        refine im_istore X [1, 2, 3, 4, 5, 6, 0] [(0, .ref (aP 0)), (1, .ref (aC 0)), (2, .int x2), (4, .int x4), (5, .int x5), (6, .int ((C 1) ((x5 + 1)).toNatClampNeg)), (7, .int 0)] dX5_countWays_52 (by decide) rfl ?_
        refine i_X5_countWays_54 X F aP aC P wP false C x2 x4 x5 ((C 1) ((x5 + 1)).toNatClampNeg) _ (fun LP_111 => ?_) F (mr LP 4 (z37 0)) 0
        refine im_aload_n X 0 dX5_countWays_111 rfl rfl ?_
        refine im_ite (fun q => ?_) (fun q => ?_)
        · subst q
          refine im_cget X 0 0 (v := .ref (aP 4)) fl_X5_18 rfl rfl rfl dX5_countWays_112 ?_
          refine im_astore X [1, 2, 3, 4, 5, 6, 0] [(0, .ref (aP 0)), (1, .ref (aC 0)), (2, .int x2), (4, .int x4), (5, .int x5), (6, .int ((C 1) ((x5 + 1)).toNatClampNeg)), (7, .ref (aP 4))] dX5_countWays_115 (by decide) rfl ?_
          refine im_aload_n X 0 dX5_countWays_117 rfl rfl ?_
          refine im_aload_n X 0 dX5_countWays_118 rfl rfl ?_
          refine im_cget X 0 0 (v := .ref (aP 4)) fl_X5_22 rfl rfl rfl dX5_countWays_119 ?_
          refine im_cput X 0 0 (w_Purse ct aP P LP_111 true false) [w_Purse ct aP P LP_111 true false, w_Cloth ct aC C] fl_X5_18 rfl rfl rfl rfl (Nat.le_of_ble_eq_true rfl) rfl rfl dX5_countWays_122 ?_
          refine im_aload_n X 0 dX5_countWays_125 rfl rfl ?_
          refine im_aload X 6 dX5_countWays_126 rfl ?_
          refine im_cput X 0 0 (w_Purse ct aP P LP_111 true false) [w_Purse ct aP P LP_111 true false, w_Cloth ct aC C] fl_X5_22 rfl rfl rfl rfl (Nat.le_of_ble_eq_true rfl) rfl rfl dX5_countWays_128 ?_
          refine im_iload X 5 dX5_countWays_131 rfl ?_
          refine im_if_le (tgt := 144) X dX5_countWays_133 rfl ?_ ?_
          · refine im_iconst X 0 dX5_countWays_144 (by decide) ?_
            refine im_istore X [1, 2, 3, 0, 4, 5, 6] [(0, .ref (aP 0)), (1, .ref (aC 0)), (2, .int x2), (4, .int 0), (5, .int x5), (6, .int ((C 1) ((x5 + 1)).toNatClampNeg)), (7, .ref (aP 4))] dX5_countWays_145 (by decide) rfl ?_
            refine im_iinc X 4 1 [1, 2, 3, 4, 0, 5, 6] [(0, .ref (aP 0)), (1, .ref (aC 0)), (2, .int x2), (4, .int 0), (5, .int (x5 + 1)), (6, .int ((C 1) ((x5 + 1)).toNatClampNeg)), (7, .ref (aP 4))] dX5_countWays_147 (by decide) rfl (by decide) rfl ?_
            refine im_goto (tgt := 21) X dX5_countWays_150 rfl ?_
            refine im_lv [0, 1, 2, 3, 4] [(0, .ref (aP 0)), (1, .ref (aC 0)), (2, .int x2), (4, .int 0), (5, .int (x5 + 1))] rfl ?_
            exact ih LP_111 true false 0 (x5 + 1)
          · refine im_iload X 3 dX5_countWays_136 rfl ?_
            refine im_iload X 5 dX5_countWays_138 rfl ?_
            refine im_idiv X dX5_countWays_140 ?_
            refine im_goto (tgt := 145) X dX5_countWays_141 rfl ?_
            refine im_istore X [1, 2, 3, 0, 4, 5, 6] [(0, .ref (aP 0)), (1, .ref (aC 0)), (2, .int x2), (4, .int (x4 / ((C 1) ((x5 + 1)).toNatClampNeg))), (5, .int x5), (6, .int ((C 1) ((x5 + 1)).toNatClampNeg)), (7, .ref (aP 4))] dX5_countWays_145 (by decide) rfl ?_
            refine im_iinc X 4 1 [1, 2, 3, 4, 0, 5, 6] [(0, .ref (aP 0)), (1, .ref (aC 0)), (2, .int x2), (4, .int (x4 / ((C 1) ((x5 + 1)).toNatClampNeg))), (5, .int (x5 + 1)), (6, .int ((C 1) ((x5 + 1)).toNatClampNeg)), (7, .ref (aP 4))] dX5_countWays_147 (by decide) rfl (by decide) rfl ?_
            refine im_goto (tgt := 21) X dX5_countWays_150 rfl ?_
            refine im_lv [0, 1, 2, 3, 4] [(0, .ref (aP 0)), (1, .ref (aC 0)), (2, .int x2), (4, .int (x4 / ((C 1) ((x5 + 1)).toNatClampNeg))), (5, .int (x5 + 1))] rfl ?_
            exact ih LP_111 true false (x4 / ((C 1) ((x5 + 1)).toNatClampNeg)) (x5 + 1)
        · obtain rfl : wP = false := eq_false_of_ne_true q
          refine im_cget X 0 0 (v := .ref (aP 3)) fl_X5_18 rfl rfl rfl dX5_countWays_112 ?_
          refine im_astore X [1, 2, 3, 4, 5, 6, 0] [(0, .ref (aP 0)), (1, .ref (aC 0)), (2, .int x2), (4, .int x4), (5, .int x5), (6, .int ((C 1) ((x5 + 1)).toNatClampNeg)), (7, .ref (aP 3))] dX5_countWays_115 (by decide) rfl ?_
          refine im_aload_n X 0 dX5_countWays_117 rfl rfl ?_
          refine im_aload_n X 0 dX5_countWays_118 rfl rfl ?_
          refine im_cget X 0 0 (v := .ref (aP 4)) fl_X5_22 rfl rfl rfl dX5_countWays_119 ?_
          refine im_cput X 0 0 (w_Purse ct aP P LP_111 true false) [w_Purse ct aP P LP_111 true false, w_Cloth ct aC C] fl_X5_18 rfl rfl rfl rfl (Nat.le_of_ble_eq_true rfl) rfl rfl dX5_countWays_122 ?_
          refine im_aload_n X 0 dX5_countWays_125 rfl rfl ?_
          refine im_aload X 6 dX5_countWays_126 rfl ?_
          refine im_cput X 0 0 (w_Purse ct aP P LP_111 true true) [w_Purse ct aP P LP_111 true true, w_Cloth ct aC C] fl_X5_22 rfl rfl rfl rfl (Nat.le_of_ble_eq_true rfl) rfl rfl dX5_countWays_128 ?_
          refine im_iload X 5 dX5_countWays_131 rfl ?_
          refine im_if_le (tgt := 144) X dX5_countWays_133 rfl ?_ ?_
          · refine im_iconst X 0 dX5_countWays_144 (by decide) ?_
            refine im_istore X [1, 2, 3, 0, 4, 5, 6] [(0, .ref (aP 0)), (1, .ref (aC 0)), (2, .int x2), (4, .int 0), (5, .int x5), (6, .int ((C 1) ((x5 + 1)).toNatClampNeg)), (7, .ref (aP 3))] dX5_countWays_145 (by decide) rfl ?_
            refine im_iinc X 4 1 [1, 2, 3, 4, 0, 5, 6] [(0, .ref (aP 0)), (1, .ref (aC 0)), (2, .int x2), (4, .int 0), (5, .int (x5 + 1)), (6, .int ((C 1) ((x5 + 1)).toNatClampNeg)), (7, .ref (aP 3))] dX5_countWays_147 (by decide) rfl (by decide) rfl ?_
            refine im_goto (tgt := 21) X dX5_countWays_150 rfl ?_
            refine im_lv [0, 1, 2, 3, 4] [(0, .ref (aP 0)), (1, .ref (aC 0)), (2, .int x2), (4, .int 0), (5, .int (x5 + 1))] rfl ?_
            exact ih LP_111 true true 0 (x5 + 1)
          · refine im_iload X 3 dX5_countWays_136 rfl ?_
            refine im_iload X 5 dX5_countWays_138 rfl ?_
            refine im_idiv X dX5_countWays_140 ?_
            refine im_goto (tgt := 145) X dX5_countWays_141 rfl ?_
            refine im_istore X [1, 2, 3, 0, 4, 5, 6] [(0, .ref (aP 0)), (1, .ref (aC 0)), (2, .int x2), (4, .int (x4 / ((C 1) ((x5 + 1)).toNatClampNeg))), (5, .int x5), (6, .int ((C 1) ((x5 + 1)).toNatClampNeg)), (7, .ref (aP 3))] dX5_countWays_145 (by decide) rfl ?_
            refine im_iinc X 4 1 [1, 2, 3, 4, 0, 5, 6] [(0, .ref (aP 0)), (1, .ref (aC 0)), (2, .int x2), (4, .int (x4 / ((C 1) ((x5 + 1)).toNatClampNeg))), (5, .int (x5 + 1)), (6, .int ((C 1) ((x5 + 1)).toNatClampNeg)), (7, .ref (aP 3))] dX5_countWays_147 (by decide) rfl (by decide) rfl ?_
            refine im_goto (tgt := 21) X dX5_countWays_150 rfl ?_
            refine im_lv [0, 1, 2, 3, 4] [(0, .ref (aP 0)), (1, .ref (aC 0)), (2, .int x2), (4, .int (x4 / ((C 1) ((x5 + 1)).toNatClampNeg))), (5, .int (x5 + 1))] rfl ?_
            exact ih LP_111 true true (x4 / ((C 1) ((x5 + 1)).toNatClampNeg)) (x5 + 1)
noncomputable def f_X5_countWays (F : Nat) (P : Mem) (LP : MemL) (wP : Bool) (vP : Bool) (C : Mem) (x2 : Int32) (x3 : Int32) : Option (Int64 × MemL × Bool × Bool) :=
  (if wP = true then (f_X5_clearWays F (fun _ => (LP 4))).bind (fun z5 => ck 0 100 (f_X5_countWays_21 F P C x2 (fun LP_153 wP_153 vP_153 x4_153 => ck ((x2 * 6) + (if 0 < ((C 0 6) - 1) then ((C 0 6) - 1) else 0)) 24 ((f_X5_countTop F P LP_153 wP_153 vP_153 x4_153 ((C 3) (((x2 * 6) + (if 0 < ((C 0 6) - 1) then ((C 0 6) - 1) else 0))).toNatClampNeg)).bind (fun z176 => (some (z176, LP_153, wP_153, vP_153))))) F (mr LP 4 (vp_updL (z5 0) (0 : Int32).toNatClampNeg 1)) true vP x3 0)) else (f_X5_clearWays F (fun _ => (LP 3))).bind (fun z5 => ck 0 100 (f_X5_countWays_21 F P C x2 (fun LP_153 wP_153 vP_153 x4_153 => ck ((x2 * 6) + (if 0 < ((C 0 6) - 1) then ((C 0 6) - 1) else 0)) 24 ((f_X5_countTop F P LP_153 wP_153 vP_153 x4_153 ((C 3) (((x2 * 6) + (if 0 < ((C 0 6) - 1) then ((C 0 6) - 1) else 0))).toNatClampNeg)).bind (fun z176 => (some (z176, LP_153, wP_153, vP_153))))) F (mr LP 3 (vp_updL (z5 0) (0 : Int32).toNatClampNeg 1)) false vP x3 0)))
set_option maxRecDepth 100000 in
set_option maxHeartbeats 4000000 in
theorem i_X5_countWays {p : Program} {l : Launch} {e : Env} {s : State} {m : MethodId} {args : Array Value} {below : List Frame} {meth : Method} {c : Code} {D : va_G} {ct : im_ct} {A : Nat → Prop} (X : im_X p (im_rm 2) s m args meth c D ct A RX5 cX5_countWays 8 (some .long)) (F : Nat) (aP aC : Nat → Nat) (P : Mem) (LP : MemL) (wP : Bool) (vP : Bool) (C : Mem) (x2 : Int32) (x3 : Int32) : Im p l e (im_rm 2) s m args below meth c D A 8 (QL D A (fun z : Int64 × MemL × Bool × Bool => z.1) (fun z : Int64 × MemL × Bool × Bool => (cat [w_Purse ct aP P z.2.1 z.2.2.1 z.2.2.2, w_Cloth ct aC C]))) 0 [(0, .ref (aP 0)), (1, .ref (aC 0)), (2, .int x2), (3, .int x3)] [] (cat [w_Purse ct aP P LP wP vP, w_Cloth ct aC C]) (f_X5_countWays F P LP wP vP C x2 x3) := by
  unfold f_X5_countWays
  refine im_aload_n X 0 dX5_countWays_0 rfl rfl ?_
  refine im_aload_n X 0 dX5_countWays_1 rfl rfl ?_
  refine im_ite (fun q => ?_) (fun q => ?_)
  · subst q
    refine im_cget X 0 0 (v := .ref (aP 4)) fl_X5_18 rfl rfl rfl dX5_countWays_2 ?_
    refine im_callvV X [.ref (aP 4)] [] [4] 0 5 rfl rfl cl_X5_73 (c_X5_clearWays l D ct F aP (fun _ => aP 4) (fun _ => (LP 4))) rfl (by decide) (fun _ => rfl) rfl ⟨by decide, by decide⟩ (Nat.le_of_ble_eq_true rfl) rfl dX5_countWays_5 (fun z5 => ?_)
    refine im_ws (cat [wx_Purse ct aP (P 1) (P 2) (LP 3) (z5 0) true vP, w_Cloth ct aC C]) rfl ?_
    refine im_aload_n X 0 dX5_countWays_8 rfl rfl ?_
    refine im_cget X 0 0 (v := .ref (aP 4)) fl_X5_18 rfl rfl rfl dX5_countWays_9 ?_
    refine im_iconst X 0 dX5_countWays_12 (by decide) ?_
    refine im_lconst X 1 dX5_countWays_13 (by decide) ?_
    refine im_clast X 0 4 1 (wx_Purse ct aP (P 1) (P 2) (LP 3) (vp_updL (z5 0) (0 : Int32).toNatClampNeg 1) true vP) [wx_Purse ct aP (P 1) (P 2) (LP 3) (vp_updL (z5 0) (0 : Int32).toNatClampNeg 1) true vP, w_Cloth ct aC C] (f := (z5 0)) rfl rfl rfl rfl rfl dX5_countWays_14 ?_
    refine im_iload_n X 3 dX5_countWays_15 rfl rfl ?_
    refine im_istore X [1, 2, 3, 4, 0] [(0, .ref (aP 0)), (1, .ref (aC 0)), (2, .int x2), (3, .int x3), (4, .int x3)] dX5_countWays_16 (by decide) rfl ?_
    refine im_iconst X 0 dX5_countWays_18 (by decide) ?_
    refine im_istore X [1, 2, 3, 4, 5, 0] [(0, .ref (aP 0)), (1, .ref (aC 0)), (2, .int x2), (3, .int x3), (4, .int x3), (5, .int 0)] dX5_countWays_19 (by decide) rfl ?_
    refine im_lv [0, 1, 2, 4, 5] [(0, .ref (aP 0)), (1, .ref (aC 0)), (2, .int x2), (4, .int x3), (5, .int 0)] rfl ?_
    refine i_X5_countWays_21 X F aP aC P C x2 _ (fun LP_153 wP_153 vP_153 x4_153 => ?_) F (mr LP 4 (vp_updL (z5 0) (0 : Int32).toNatClampNeg 1)) true vP x3 0
    refine im_aload_n X 0 dX5_countWays_153 rfl rfl ?_
    refine im_iload X 3 dX5_countWays_154 rfl ?_
    refine im_aload_n X 1 dX5_countWays_156 rfl rfl ?_
    refine im_cget X 1 0 (v := .ref (aC 3)) fl_X5_34 rfl rfl rfl dX5_countWays_157 ?_
    refine im_iload_n X 2 dX5_countWays_160 rfl rfl ?_
    refine im_bipush X 6 dX5_countWays_161 (by decide) ?_
    refine im_imul X dX5_countWays_163 ?_
    refine im_iconst X 0 dX5_countWays_164 (by decide) ?_
    refine im_aload_n X 1 dX5_countWays_165 rfl rfl ?_
    refine im_cget X 1 0 (v := .int (C 0 6)) fl_X5_25 rfl rfl rfl dX5_countWays_166 ?_
    refine im_iconst X 1 dX5_countWays_169 (by decide) ?_
    refine im_isub X dX5_countWays_170 ?_
    refine im_mmax X mt1_X5_81 mt2_max mt3 mt4_max ⟨by decide, Nat.le_of_ble_eq_true rfl⟩ dX5_countWays_171 ?_
    refine im_iadd X dX5_countWays_174 ?_
    refine im_ciald X 1 3 0 (f := (C 3)) rfl rfl rfl dX5_countWays_175 ?_
    refine im_cclV X [.int x4_153, .int ((C 3) (((x2 * 6) + (if 0 < ((C 0 6) - 1) then ((C 0 6) - 1) else 0))).toNatClampNeg)] [] [w_Purse ct aP P LP_153 wP_153 vP_153, w_Cloth ct aC C] [w_Purse ct aP P LP_153 wP_153 vP_153] [0] (fun z176 => [w_Purse ct aP P LP_153 wP_153 vP_153]) 0 0 5 rfl rfl rfl cl_X5_84 (c_X5_countTop l D ct F aP P LP_153 wP_153 vP_153 x4_153 ((C 3) (((x2 * 6) + (if 0 < ((C 0 6) - 1) then ((C 0 6) - 1) else 0))).toNatClampNeg)) rfl (by decide) (fun _ => lc rfl (rfl)) rfl ⟨by decide, by decide⟩ (Nat.le_of_ble_eq_true rfl) rfl dX5_countWays_176 (fun z176 => ?_)
    refine im_ws (cat [w_Purse ct aP P LP_153 wP_153 vP_153, w_Cloth ct aC C]) rfl ?_
    exact im_lreturn X (z176, LP_153, wP_153, vP_153) rfl rfl dX5_countWays_179
  · obtain rfl : wP = false := eq_false_of_ne_true q
    refine im_cget X 0 0 (v := .ref (aP 3)) fl_X5_18 rfl rfl rfl dX5_countWays_2 ?_
    refine im_callvV X [.ref (aP 3)] [] [3] 0 5 rfl rfl cl_X5_73 (c_X5_clearWays l D ct F aP (fun _ => aP 3) (fun _ => (LP 3))) rfl (by decide) (fun _ => rfl) rfl ⟨by decide, by decide⟩ (Nat.le_of_ble_eq_true rfl) rfl dX5_countWays_5 (fun z5 => ?_)
    refine im_ws (cat [wx_Purse ct aP (P 1) (P 2) (z5 0) (LP 4) false vP, w_Cloth ct aC C]) rfl ?_
    refine im_aload_n X 0 dX5_countWays_8 rfl rfl ?_
    refine im_cget X 0 0 (v := .ref (aP 3)) fl_X5_18 rfl rfl rfl dX5_countWays_9 ?_
    refine im_iconst X 0 dX5_countWays_12 (by decide) ?_
    refine im_lconst X 1 dX5_countWays_13 (by decide) ?_
    refine im_clast X 0 3 1 (wx_Purse ct aP (P 1) (P 2) (vp_updL (z5 0) (0 : Int32).toNatClampNeg 1) (LP 4) false vP) [wx_Purse ct aP (P 1) (P 2) (vp_updL (z5 0) (0 : Int32).toNatClampNeg 1) (LP 4) false vP, w_Cloth ct aC C] (f := (z5 0)) rfl rfl rfl rfl rfl dX5_countWays_14 ?_
    refine im_iload_n X 3 dX5_countWays_15 rfl rfl ?_
    refine im_istore X [1, 2, 3, 4, 0] [(0, .ref (aP 0)), (1, .ref (aC 0)), (2, .int x2), (3, .int x3), (4, .int x3)] dX5_countWays_16 (by decide) rfl ?_
    refine im_iconst X 0 dX5_countWays_18 (by decide) ?_
    refine im_istore X [1, 2, 3, 4, 5, 0] [(0, .ref (aP 0)), (1, .ref (aC 0)), (2, .int x2), (3, .int x3), (4, .int x3), (5, .int 0)] dX5_countWays_19 (by decide) rfl ?_
    refine im_lv [0, 1, 2, 4, 5] [(0, .ref (aP 0)), (1, .ref (aC 0)), (2, .int x2), (4, .int x3), (5, .int 0)] rfl ?_
    refine i_X5_countWays_21 X F aP aC P C x2 _ (fun LP_153 wP_153 vP_153 x4_153 => ?_) F (mr LP 3 (vp_updL (z5 0) (0 : Int32).toNatClampNeg 1)) false vP x3 0
    refine im_aload_n X 0 dX5_countWays_153 rfl rfl ?_
    refine im_iload X 3 dX5_countWays_154 rfl ?_
    refine im_aload_n X 1 dX5_countWays_156 rfl rfl ?_
    refine im_cget X 1 0 (v := .ref (aC 3)) fl_X5_34 rfl rfl rfl dX5_countWays_157 ?_
    refine im_iload_n X 2 dX5_countWays_160 rfl rfl ?_
    refine im_bipush X 6 dX5_countWays_161 (by decide) ?_
    refine im_imul X dX5_countWays_163 ?_
    refine im_iconst X 0 dX5_countWays_164 (by decide) ?_
    refine im_aload_n X 1 dX5_countWays_165 rfl rfl ?_
    refine im_cget X 1 0 (v := .int (C 0 6)) fl_X5_25 rfl rfl rfl dX5_countWays_166 ?_
    refine im_iconst X 1 dX5_countWays_169 (by decide) ?_
    refine im_isub X dX5_countWays_170 ?_
    refine im_mmax X mt1_X5_81 mt2_max mt3 mt4_max ⟨by decide, Nat.le_of_ble_eq_true rfl⟩ dX5_countWays_171 ?_
    refine im_iadd X dX5_countWays_174 ?_
    refine im_ciald X 1 3 0 (f := (C 3)) rfl rfl rfl dX5_countWays_175 ?_
    refine im_cclV X [.int x4_153, .int ((C 3) (((x2 * 6) + (if 0 < ((C 0 6) - 1) then ((C 0 6) - 1) else 0))).toNatClampNeg)] [] [w_Purse ct aP P LP_153 wP_153 vP_153, w_Cloth ct aC C] [w_Purse ct aP P LP_153 wP_153 vP_153] [0] (fun z176 => [w_Purse ct aP P LP_153 wP_153 vP_153]) 0 0 5 rfl rfl rfl cl_X5_84 (c_X5_countTop l D ct F aP P LP_153 wP_153 vP_153 x4_153 ((C 3) (((x2 * 6) + (if 0 < ((C 0 6) - 1) then ((C 0 6) - 1) else 0))).toNatClampNeg)) rfl (by decide) (fun _ => lc rfl (rfl)) rfl ⟨by decide, by decide⟩ (Nat.le_of_ble_eq_true rfl) rfl dX5_countWays_176 (fun z176 => ?_)
    refine im_ws (cat [w_Purse ct aP P LP_153 wP_153 vP_153, w_Cloth ct aC C]) rfl ?_
    exact im_lreturn X (z176, LP_153, wP_153, vP_153) rfl rfl dX5_countWays_179
theorem c_X5_countWays (l : Launch) (D : va_G) (ct : im_ct) (F : Nat) (aP aC : Nat → Nat) (P : Mem) (LP : MemL) (wP : Bool) (vP : Bool) (C : Mem) (x2 : Int32) (x3 : Int32) : CMl l D ct yX5_countWays cX5_countWays 8 (some .long) 2 [.ref (aP 0), .ref (aC 0), .int x2, .int x3] (cat [w_Purse ct aP P LP wP vP, w_Cloth ct aC C]) (f_X5_countWays F P LP wP vP C x2 x3) (fun z : Int64 × MemL × Bool × Bool => z.1) (fun z : Int64 × MemL × Bool × Bool => (cat [w_Purse ct aP P z.2.1 z.2.2.1 z.2.2.2, w_Cloth ct aC C])) :=
  im_met (Qb := fun A => QL D A (fun z : Int64 × MemL × Bool × Bool => z.1) (fun z : Int64 × MemL × Bool × Bool => (cat [w_Purse ct aP P z.2.1 z.2.2.1 z.2.2.2, w_Cloth ct aC C]))) (by decide +kernel) (Nat.le_of_ble_eq_true rfl) (fun p e s m args below meth c A X => i_X5_countWays X F aP aC P LP wP vP C x2 x3)

noncomputable def f_X5_liftRow_2 (F : Nat) (LP : MemL) (wP : Bool) (vP : Bool) (C : Mem) (x2 : Int32) (k33 : Mem → Option (Mem)) : Nat → Mem → Int32 → Option (Mem)
  | 0, _, _ => none
  | n + 1, P, x3 =>
  (if (C 0 6) ≤ x3 then k33 P else ck ((x2 * 6) + x3) 24 (ck x3 6 (f_X5_liftRow_2 F LP wP vP C x2 k33 n (mr P 2 (upd (P 2) x3.toNatClampNeg ((C 3) (((x2 * 6) + x3)).toNatClampNeg))) (x3 + 1))))
set_option maxRecDepth 100000 in
set_option maxHeartbeats 4000000 in
theorem i_X5_liftRow_2 {p : Program} {l : Launch} {e : Env} {s : State} {m : MethodId} {args : Array Value} {below : List Frame} {meth : Method} {c : Code} {D : va_G} {ct : im_ct} {A : Nat → Prop} (X : im_X p (im_rm 0) s m args meth c D ct A RX5 cX5_liftRow 4 none) (F : Nat) (aP aC : Nat → Nat) (LP : MemL) (wP : Bool) (vP : Bool) (C : Mem) (x2 : Int32) (k33 : Mem → Option (Mem)) (hk33 : ∀ (P : Mem), Im p l e (im_rm 0) s m args below meth c D A 4 (QV D A (fun z : Mem => (cat [w_Purse ct aP z LP wP vP, w_Cloth ct aC C]))) 33 [] [] (cat [w_Purse ct aP P LP wP vP, w_Cloth ct aC C]) (k33 P)) : ∀ (n : Nat) (P : Mem) (x3 : Int32), Im p l e (im_rm 0) s m args below meth c D A 4 (QV D A (fun z : Mem => (cat [w_Purse ct aP z LP wP vP, w_Cloth ct aC C]))) 2 [(0, .ref (aP 0)), (1, .ref (aC 0)), (2, .int x2), (3, .int x3)] [] (cat [w_Purse ct aP P LP wP vP, w_Cloth ct aC C]) (f_X5_liftRow_2 F LP wP vP C x2 k33 n P x3) := by
  intro n
  induction n with
  | zero => intros; exact im_none
  | succ n ih =>
    intro P x3
    unfold f_X5_liftRow_2
    refine im_iload_n X 3 dX5_liftRow_2 rfl rfl ?_
    refine im_aload_n X 1 dX5_liftRow_3 rfl rfl ?_
    refine im_cget X 1 0 (v := .int (C 0 6)) fl_X5_25 rfl rfl rfl dX5_liftRow_4 ?_
    refine im_icmp_ge (tgt := 33) X dX5_liftRow_7 rfl ?_ ?_
    · refine im_lv [] [] rfl ?_
      exact hk33 P
    · refine im_aload_n X 0 dX5_liftRow_10 rfl rfl ?_
      refine im_cget X 0 0 (v := .ref (aP 2)) fl_X5_15 rfl rfl rfl dX5_liftRow_11 ?_
      refine im_iload_n X 3 dX5_liftRow_14 rfl rfl ?_
      refine im_aload_n X 1 dX5_liftRow_15 rfl rfl ?_
      refine im_cget X 1 0 (v := .ref (aC 3)) fl_X5_34 rfl rfl rfl dX5_liftRow_16 ?_
      refine im_iload_n X 2 dX5_liftRow_19 rfl rfl ?_
      refine im_bipush X 6 dX5_liftRow_20 (by decide) ?_
      refine im_imul X dX5_liftRow_22 ?_
      refine im_iload_n X 3 dX5_liftRow_23 rfl rfl ?_
      refine im_iadd X dX5_liftRow_24 ?_
      refine im_ciald X 1 3 0 (f := (C 3)) rfl rfl rfl dX5_liftRow_25 ?_
      refine im_ciast X 0 2 0 (wx_Purse ct aP (P 1) (upd (P 2) x3.toNatClampNeg ((C 3) (((x2 * 6) + x3)).toNatClampNeg)) (LP 3) (LP 4) wP vP) [wx_Purse ct aP (P 1) (upd (P 2) x3.toNatClampNeg ((C 3) (((x2 * 6) + x3)).toNatClampNeg)) (LP 3) (LP 4) wP vP, w_Cloth ct aC C] (f := (P 2)) rfl rfl rfl rfl rfl dX5_liftRow_26 ?_
      refine im_iinc X 3 1 [1, 2, 3, 0] [(0, .ref (aP 0)), (1, .ref (aC 0)), (2, .int x2), (3, .int (x3 + 1))] dX5_liftRow_27 (by decide) rfl (by decide) rfl ?_
      refine im_goto (tgt := 2) X dX5_liftRow_30 rfl ?_
      exact ih (mr P 2 (upd (P 2) x3.toNatClampNeg ((C 3) (((x2 * 6) + x3)).toNatClampNeg))) (x3 + 1)
noncomputable def f_X5_liftRow (F : Nat) (P : Mem) (LP : MemL) (wP : Bool) (vP : Bool) (C : Mem) (x2 : Int32) : Option (Mem) :=
  f_X5_liftRow_2 F LP wP vP C x2 (fun P_33 => (some P_33)) F P 0
set_option maxRecDepth 100000 in
set_option maxHeartbeats 4000000 in
theorem i_X5_liftRow {p : Program} {l : Launch} {e : Env} {s : State} {m : MethodId} {args : Array Value} {below : List Frame} {meth : Method} {c : Code} {D : va_G} {ct : im_ct} {A : Nat → Prop} (X : im_X p (im_rm 0) s m args meth c D ct A RX5 cX5_liftRow 4 none) (F : Nat) (aP aC : Nat → Nat) (P : Mem) (LP : MemL) (wP : Bool) (vP : Bool) (C : Mem) (x2 : Int32) : Im p l e (im_rm 0) s m args below meth c D A 4 (QV D A (fun z : Mem => (cat [w_Purse ct aP z LP wP vP, w_Cloth ct aC C]))) 0 [(0, .ref (aP 0)), (1, .ref (aC 0)), (2, .int x2)] [] (cat [w_Purse ct aP P LP wP vP, w_Cloth ct aC C]) (f_X5_liftRow F P LP wP vP C x2) := by
  unfold f_X5_liftRow
  refine im_iconst X 0 dX5_liftRow_0 (by decide) ?_
  refine im_istore_n X [1, 2, 3, 0] [(0, .ref (aP 0)), (1, .ref (aC 0)), (2, .int x2), (3, .int 0)] dX5_liftRow_1 rfl (by decide) rfl ?_
  refine i_X5_liftRow_2 X F aP aC LP wP vP C x2 _ (fun P_33 => ?_) F P 0
  exact im_return X P_33 rfl dX5_liftRow_33
theorem c_X5_liftRow (l : Launch) (D : va_G) (ct : im_ct) (F : Nat) (aP aC : Nat → Nat) (P : Mem) (LP : MemL) (wP : Bool) (vP : Bool) (C : Mem) (x2 : Int32) : CMv l D ct yX5_liftRow cX5_liftRow 4 none 0 [.ref (aP 0), .ref (aC 0), .int x2] (cat [w_Purse ct aP P LP wP vP, w_Cloth ct aC C]) (f_X5_liftRow F P LP wP vP C x2) (fun z : Mem => (cat [w_Purse ct aP z LP wP vP, w_Cloth ct aC C])) :=
  im_met (Qb := fun A => QV D A (fun z : Mem => (cat [w_Purse ct aP z LP wP vP, w_Cloth ct aC C]))) (by decide +kernel) (Nat.le_of_ble_eq_true rfl) (fun p e s m args below meth c A X => i_X5_liftRow X F aP aC P LP wP vP C x2)

noncomputable def f_X5_takeFewest_38 (F : Nat) (P : Mem) (LP : MemL) (wP : Bool) (vP : Bool) (C : Mem) (x3 : Int32) (x4 : Int32) (s0 : Int32) (k10 : Mem → Int32 → Int32 → Option (Int32 × Mem)) : Option (Int32 × Mem) :=
  ck x4 6 (ck x4 6 (ck x4 6 (ck x4 6 (k10 (mr P 1 (upd (P 1) x4.toNatClampNeg (if s0 < ((P 2) x4.toNatClampNeg) then s0 else ((P 2) x4.toNatClampNeg)))) (x3 - (((upd (P 1) x4.toNatClampNeg (if s0 < ((P 2) x4.toNatClampNeg) then s0 else ((P 2) x4.toNatClampNeg))) x4.toNatClampNeg) * ((C 2) x4.toNatClampNeg))) (x4 + (-1))))))
set_option maxRecDepth 100000 in
set_option maxHeartbeats 4000000 in
theorem i_X5_takeFewest_38 {p : Program} {l : Launch} {e : Env} {s : State} {m : MethodId} {args : Array Value} {below : List Frame} {meth : Method} {c : Code} {D : va_G} {ct : im_ct} {A : Nat → Prop} (X : im_X p (im_rm 1) s m args meth c D ct A RX5 cX5_takeFewest 6 (some .boolean)) (F : Nat) (aP aC : Nat → Nat) (P : Mem) (LP : MemL) (wP : Bool) (vP : Bool) (C : Mem) (x3 : Int32) (x4 : Int32) (s0 : Int32) (k10 : Mem → Int32 → Int32 → Option (Int32 × Mem)) (hk10 : ∀ (P : Mem) (x3 : Int32) (x4 : Int32), Im p l e (im_rm 1) s m args below meth c D A 6 (QI D A (fun z : Int32 × Mem => z.1) (fun z : Int32 × Mem => (cat [w_Purse ct aP z.2 LP wP vP, w_Cloth ct aC C]))) 10 [(0, .ref (aP 0)), (1, .ref (aC 0)), (3, .int x3), (4, .int x4)] [] (cat [w_Purse ct aP P LP wP vP, w_Cloth ct aC C]) (k10 P x3 x4)) : Im p l e (im_rm 1) s m args below meth c D A 6 (QI D A (fun z : Int32 × Mem => z.1) (fun z : Int32 × Mem => (cat [w_Purse ct aP z.2 LP wP vP, w_Cloth ct aC C]))) 38 [(0, .ref (aP 0)), (1, .ref (aC 0)), (3, .int x3), (4, .int x4)] [.int s0] (cat [w_Purse ct aP P LP wP vP, w_Cloth ct aC C]) (f_X5_takeFewest_38 F P LP wP vP C x3 x4 s0 k10) := by
  unfold f_X5_takeFewest_38
  refine im_istore X [1, 2, 3, 4, 0] [(0, .ref (aP 0)), (1, .ref (aC 0)), (3, .int x3), (4, .int x4), (5, .int s0)] dX5_takeFewest_38 (by decide) rfl ?_
  refine im_aload_n X 0 dX5_takeFewest_40 rfl rfl ?_
  refine im_cget X 0 0 (v := .ref (aP 1)) fl_X5_9 rfl rfl rfl dX5_takeFewest_41 ?_
  refine im_iload X 3 dX5_takeFewest_44 rfl ?_
  refine im_aload_n X 0 dX5_takeFewest_46 rfl rfl ?_
  refine im_cget X 0 0 (v := .ref (aP 2)) fl_X5_15 rfl rfl rfl dX5_takeFewest_47 ?_
  refine im_iload X 3 dX5_takeFewest_50 rfl ?_
  refine im_ciald X 0 2 0 (f := (P 2)) rfl rfl rfl dX5_takeFewest_52 ?_
  refine im_iload X 4 dX5_takeFewest_53 rfl ?_
  refine im_mmin X mt1_X5_53 mt2_min mt3 mt4_min ⟨by decide, Nat.le_of_ble_eq_true rfl⟩ dX5_takeFewest_55 ?_
  refine im_ciast X 0 1 0 (wx_Purse ct aP (upd (P 1) x4.toNatClampNeg (if s0 < ((P 2) x4.toNatClampNeg) then s0 else ((P 2) x4.toNatClampNeg))) (P 2) (LP 3) (LP 4) wP vP) [wx_Purse ct aP (upd (P 1) x4.toNatClampNeg (if s0 < ((P 2) x4.toNatClampNeg) then s0 else ((P 2) x4.toNatClampNeg))) (P 2) (LP 3) (LP 4) wP vP, w_Cloth ct aC C] (f := (P 1)) rfl rfl rfl rfl rfl dX5_takeFewest_58 ?_
  refine im_iload_n X 2 dX5_takeFewest_59 rfl rfl ?_
  refine im_aload_n X 0 dX5_takeFewest_60 rfl rfl ?_
  refine im_cget X 0 0 (v := .ref (aP 1)) fl_X5_9 rfl rfl rfl dX5_takeFewest_61 ?_
  refine im_iload X 3 dX5_takeFewest_64 rfl ?_
  refine im_ciald X 0 1 0 (f := (upd (P 1) x4.toNatClampNeg (if s0 < ((P 2) x4.toNatClampNeg) then s0 else ((P 2) x4.toNatClampNeg)))) rfl rfl rfl dX5_takeFewest_66 ?_
  refine im_aload_n X 1 dX5_takeFewest_67 rfl rfl ?_
  refine im_cget X 1 0 (v := .ref (aC 2)) fl_X5_31 rfl rfl rfl dX5_takeFewest_68 ?_
  refine im_iload X 3 dX5_takeFewest_71 rfl ?_
  refine im_ciald X 1 2 0 (f := (C 2)) rfl rfl rfl dX5_takeFewest_73 ?_
  refine im_imul X dX5_takeFewest_74 ?_
  refine im_isub X dX5_takeFewest_75 ?_
  refine im_istore_n X [1, 2, 0, 3, 4] [(0, .ref (aP 0)), (1, .ref (aC 0)), (3, .int (x3 - (((upd (P 1) x4.toNatClampNeg (if s0 < ((P 2) x4.toNatClampNeg) then s0 else ((P 2) x4.toNatClampNeg))) x4.toNatClampNeg) * ((C 2) x4.toNatClampNeg)))), (4, .int x4), (5, .int s0)] dX5_takeFewest_76 rfl (by decide) rfl ?_
  refine im_iinc X 3 (-1) [1, 2, 3, 0, 4] [(0, .ref (aP 0)), (1, .ref (aC 0)), (3, .int (x3 - (((upd (P 1) x4.toNatClampNeg (if s0 < ((P 2) x4.toNatClampNeg) then s0 else ((P 2) x4.toNatClampNeg))) x4.toNatClampNeg) * ((C 2) x4.toNatClampNeg)))), (4, .int (x4 + (-1))), (5, .int s0)] dX5_takeFewest_77 (by decide) rfl (by decide) rfl ?_
  refine im_goto (tgt := 10) X dX5_takeFewest_80 rfl ?_
  refine im_lv [0, 1, 2, 3] [(0, .ref (aP 0)), (1, .ref (aC 0)), (3, .int (x3 - (((upd (P 1) x4.toNatClampNeg (if s0 < ((P 2) x4.toNatClampNeg) then s0 else ((P 2) x4.toNatClampNeg))) x4.toNatClampNeg) * ((C 2) x4.toNatClampNeg)))), (4, .int (x4 + (-1)))] rfl ?_
  exact hk10 (mr P 1 (upd (P 1) x4.toNatClampNeg (if s0 < ((P 2) x4.toNatClampNeg) then s0 else ((P 2) x4.toNatClampNeg)))) (x3 - (((upd (P 1) x4.toNatClampNeg (if s0 < ((P 2) x4.toNatClampNeg) then s0 else ((P 2) x4.toNatClampNeg))) x4.toNatClampNeg) * ((C 2) x4.toNatClampNeg))) (x4 + (-1))
noncomputable def f_X5_takeFewest_10 (F : Nat) (LP : MemL) (wP : Bool) (vP : Bool) (C : Mem) (k83 : Mem → Int32 → Option (Int32 × Mem)) : Nat → Mem → Int32 → Int32 → Option (Int32 × Mem)
  | 0, _, _, _ => none
  | n + 1, P, x3, x4 =>
  (if x4 < 0 then k83 P x3 else ck x4 6 ((if ((C 2) x4.toNatClampNeg) ≤ 0 then f_X5_takeFewest_38 F P LP wP vP C x3 x4 0 (f_X5_takeFewest_10 F LP wP vP C k83 n) else ck x4 6 (dv ((C 2) x4.toNatClampNeg) (f_X5_takeFewest_38 F P LP wP vP C x3 x4 (x3 / ((C 2) x4.toNatClampNeg)) (f_X5_takeFewest_10 F LP wP vP C k83 n))))))
set_option maxRecDepth 100000 in
set_option maxHeartbeats 4000000 in
theorem i_X5_takeFewest_10 {p : Program} {l : Launch} {e : Env} {s : State} {m : MethodId} {args : Array Value} {below : List Frame} {meth : Method} {c : Code} {D : va_G} {ct : im_ct} {A : Nat → Prop} (X : im_X p (im_rm 1) s m args meth c D ct A RX5 cX5_takeFewest 6 (some .boolean)) (F : Nat) (aP aC : Nat → Nat) (LP : MemL) (wP : Bool) (vP : Bool) (C : Mem) (k83 : Mem → Int32 → Option (Int32 × Mem)) (hk83 : ∀ (P : Mem) (x3 : Int32), Im p l e (im_rm 1) s m args below meth c D A 6 (QI D A (fun z : Int32 × Mem => z.1) (fun z : Int32 × Mem => (cat [w_Purse ct aP z.2 LP wP vP, w_Cloth ct aC C]))) 83 [(3, .int x3)] [] (cat [w_Purse ct aP P LP wP vP, w_Cloth ct aC C]) (k83 P x3)) : ∀ (n : Nat) (P : Mem) (x3 : Int32) (x4 : Int32), Im p l e (im_rm 1) s m args below meth c D A 6 (QI D A (fun z : Int32 × Mem => z.1) (fun z : Int32 × Mem => (cat [w_Purse ct aP z.2 LP wP vP, w_Cloth ct aC C]))) 10 [(0, .ref (aP 0)), (1, .ref (aC 0)), (3, .int x3), (4, .int x4)] [] (cat [w_Purse ct aP P LP wP vP, w_Cloth ct aC C]) (f_X5_takeFewest_10 F LP wP vP C k83 n P x3 x4) := by
  intro n
  induction n with
  | zero => intros; exact im_none
  | succ n ih =>
    intro P x3 x4
    unfold f_X5_takeFewest_10
    refine im_iload X 3 dX5_takeFewest_10 rfl ?_
    refine im_if_lt (tgt := 83) X dX5_takeFewest_12 rfl ?_ ?_
    · refine im_lv [2] [(3, .int x3)] rfl ?_
      exact hk83 P x3
    · refine im_aload_n X 1 dX5_takeFewest_15 rfl rfl ?_
      refine im_cget X 1 0 (v := .ref (aC 2)) fl_X5_31 rfl rfl rfl dX5_takeFewest_16 ?_
      refine im_iload X 3 dX5_takeFewest_19 rfl ?_
      refine im_ciald X 1 2 0 (f := (C 2)) rfl rfl rfl dX5_takeFewest_21 ?_
      refine im_if_le (tgt := 37) X dX5_takeFewest_22 rfl ?_ ?_
      · refine im_iconst X 0 dX5_takeFewest_37 (by decide) ?_
        exact i_X5_takeFewest_38 X F aP aC P LP wP vP C x3 x4 0 _ ih
      · refine im_iload_n X 2 dX5_takeFewest_25 rfl rfl ?_
        refine im_aload_n X 1 dX5_takeFewest_26 rfl rfl ?_
        refine im_cget X 1 0 (v := .ref (aC 2)) fl_X5_31 rfl rfl rfl dX5_takeFewest_27 ?_
        refine im_iload X 3 dX5_takeFewest_30 rfl ?_
        refine im_ciald X 1 2 0 (f := (C 2)) rfl rfl rfl dX5_takeFewest_32 ?_
        refine im_idiv X dX5_takeFewest_33 ?_
        refine im_goto (tgt := 38) X dX5_takeFewest_34 rfl ?_
        exact i_X5_takeFewest_38 X F aP aC P LP wP vP C x3 x4 (x3 / ((C 2) x4.toNatClampNeg)) _ ih
noncomputable def f_X5_takeFewest (F : Nat) (P : Mem) (LP : MemL) (wP : Bool) (vP : Bool) (C : Mem) (x2 : Int32) : Option (Int32 × Mem) :=
  f_X5_takeFewest_10 F LP wP vP C (fun P_83 x3_83 => (if x3_83 = 0 then (some (1, P_83)) else (some (0, P_83)))) F P x2 ((C 0 6) - 1)
set_option maxRecDepth 100000 in
set_option maxHeartbeats 4000000 in
theorem i_X5_takeFewest {p : Program} {l : Launch} {e : Env} {s : State} {m : MethodId} {args : Array Value} {below : List Frame} {meth : Method} {c : Code} {D : va_G} {ct : im_ct} {A : Nat → Prop} (X : im_X p (im_rm 1) s m args meth c D ct A RX5 cX5_takeFewest 6 (some .boolean)) (F : Nat) (aP aC : Nat → Nat) (P : Mem) (LP : MemL) (wP : Bool) (vP : Bool) (C : Mem) (x2 : Int32) : Im p l e (im_rm 1) s m args below meth c D A 6 (QI D A (fun z : Int32 × Mem => z.1) (fun z : Int32 × Mem => (cat [w_Purse ct aP z.2 LP wP vP, w_Cloth ct aC C]))) 0 [(0, .ref (aP 0)), (1, .ref (aC 0)), (2, .int x2)] [] (cat [w_Purse ct aP P LP wP vP, w_Cloth ct aC C]) (f_X5_takeFewest F P LP wP vP C x2) := by
  unfold f_X5_takeFewest
  refine im_iload_n X 2 dX5_takeFewest_0 rfl rfl ?_
  refine im_istore_n X [1, 2, 3, 0] [(0, .ref (aP 0)), (1, .ref (aC 0)), (2, .int x2), (3, .int x2)] dX5_takeFewest_1 rfl (by decide) rfl ?_
  refine im_aload_n X 1 dX5_takeFewest_2 rfl rfl ?_
  refine im_cget X 1 0 (v := .int (C 0 6)) fl_X5_25 rfl rfl rfl dX5_takeFewest_3 ?_
  refine im_iconst X 1 dX5_takeFewest_6 (by decide) ?_
  refine im_isub X dX5_takeFewest_7 ?_
  refine im_istore X [1, 2, 3, 4, 0] [(0, .ref (aP 0)), (1, .ref (aC 0)), (2, .int x2), (3, .int x2), (4, .int ((C 0 6) - 1))] dX5_takeFewest_8 (by decide) rfl ?_
  refine im_lv [0, 1, 3, 4] [(0, .ref (aP 0)), (1, .ref (aC 0)), (3, .int x2), (4, .int ((C 0 6) - 1))] rfl ?_
  refine i_X5_takeFewest_10 X F aP aC LP wP vP C  _ (fun P_83 x3_83 => ?_) F P x2 ((C 0 6) - 1)
  refine im_iload_n X 0 dX5_takeFewest_83 rfl rfl ?_
  refine im_if_ne (tgt := 91) X dX5_takeFewest_84 rfl ?_ ?_
  · refine im_iconst X 0 dX5_takeFewest_91 (by decide) ?_
    exact im_zreturn X (0, P_83) rfl rfl rfl dX5_takeFewest_92
  · refine im_iconst X 1 dX5_takeFewest_87 (by decide) ?_
    refine im_goto (tgt := 92) X dX5_takeFewest_88 rfl ?_
    exact im_zreturn X (1, P_83) rfl rfl rfl dX5_takeFewest_92
theorem c_X5_takeFewest (l : Launch) (D : va_G) (ct : im_ct) (F : Nat) (aP aC : Nat → Nat) (P : Mem) (LP : MemL) (wP : Bool) (vP : Bool) (C : Mem) (x2 : Int32) : CMi l D ct yX5_takeFewest cX5_takeFewest 6 (some .boolean) 1 [.ref (aP 0), .ref (aC 0), .int x2] (cat [w_Purse ct aP P LP wP vP, w_Cloth ct aC C]) (f_X5_takeFewest F P LP wP vP C x2) (fun z : Int32 × Mem => z.1) (fun z : Int32 × Mem => (cat [w_Purse ct aP z.2 LP wP vP, w_Cloth ct aC C])) :=
  im_met (Qb := fun A => QI D A (fun z : Int32 × Mem => z.1) (fun z : Int32 × Mem => (cat [w_Purse ct aP z.2 LP wP vP, w_Cloth ct aC C]))) (by decide +kernel) (Nat.le_of_ble_eq_true rfl) (fun p e s m args below meth c A X => i_X5_takeFewest X F aP aC P LP wP vP C x2)

noncomputable def f_X5_countParts_4 (F : Nat) (P : Mem) (LP : MemL) (wP : Bool) (vP : Bool) (C : Mem) (k27 : Int32 → Option (Int32)) : Nat → Int32 → Int32 → Option (Int32)
  | 0, _, _ => none
  | n + 1, x2, x3 =>
  (if (C 0 6) ≤ x3 then k27 x2 else ck x3 6 (f_X5_countParts_4 F P LP wP vP C k27 n (x2 + ((P 1) x3.toNatClampNeg)) (x3 + 1)))
set_option maxRecDepth 100000 in
set_option maxHeartbeats 4000000 in
theorem i_X5_countParts_4 {p : Program} {l : Launch} {e : Env} {s : State} {m : MethodId} {args : Array Value} {below : List Frame} {meth : Method} {c : Code} {D : va_G} {ct : im_ct} {A : Nat → Prop} (X : im_X p (im_rm 0) s m args meth c D ct A RX5 cX5_countParts 4 (some .int)) (F : Nat) (aP aC : Nat → Nat) (P : Mem) (LP : MemL) (wP : Bool) (vP : Bool) (C : Mem) (k27 : Int32 → Option (Int32)) (hk27 : ∀ (x2 : Int32), Im p l e (im_rm 0) s m args below meth c D A 4 (QI D A (fun z : Int32 => z) (fun z : Int32 => (cat [w_Purse ct aP P LP wP vP, w_Cloth ct aC C]))) 27 [(2, .int x2)] [] (cat [w_Purse ct aP P LP wP vP, w_Cloth ct aC C]) (k27 x2)) : ∀ (n : Nat) (x2 : Int32) (x3 : Int32), Im p l e (im_rm 0) s m args below meth c D A 4 (QI D A (fun z : Int32 => z) (fun z : Int32 => (cat [w_Purse ct aP P LP wP vP, w_Cloth ct aC C]))) 4 [(0, .ref (aP 0)), (1, .ref (aC 0)), (2, .int x2), (3, .int x3)] [] (cat [w_Purse ct aP P LP wP vP, w_Cloth ct aC C]) (f_X5_countParts_4 F P LP wP vP C k27 n x2 x3) := by
  intro n
  induction n with
  | zero => intros; exact im_none
  | succ n ih =>
    intro x2 x3
    unfold f_X5_countParts_4
    refine im_iload_n X 3 dX5_countParts_4 rfl rfl ?_
    refine im_aload_n X 1 dX5_countParts_5 rfl rfl ?_
    refine im_cget X 1 0 (v := .int (C 0 6)) fl_X5_25 rfl rfl rfl dX5_countParts_6 ?_
    refine im_icmp_ge (tgt := 27) X dX5_countParts_9 rfl ?_ ?_
    · refine im_lv [2] [(2, .int x2)] rfl ?_
      exact hk27 x2
    · refine im_iload_n X 2 dX5_countParts_12 rfl rfl ?_
      refine im_aload_n X 0 dX5_countParts_13 rfl rfl ?_
      refine im_cget X 0 0 (v := .ref (aP 1)) fl_X5_9 rfl rfl rfl dX5_countParts_14 ?_
      refine im_iload_n X 3 dX5_countParts_17 rfl rfl ?_
      refine im_ciald X 0 1 0 (f := (P 1)) rfl rfl rfl dX5_countParts_18 ?_
      refine im_iadd X dX5_countParts_19 ?_
      refine im_istore_n X [1, 2, 0, 3] [(0, .ref (aP 0)), (1, .ref (aC 0)), (2, .int (x2 + ((P 1) x3.toNatClampNeg))), (3, .int x3)] dX5_countParts_20 rfl (by decide) rfl ?_
      refine im_iinc X 3 1 [1, 2, 3, 0] [(0, .ref (aP 0)), (1, .ref (aC 0)), (2, .int (x2 + ((P 1) x3.toNatClampNeg))), (3, .int (x3 + 1))] dX5_countParts_21 (by decide) rfl (by decide) rfl ?_
      refine im_goto (tgt := 4) X dX5_countParts_24 rfl ?_
      exact ih (x2 + ((P 1) x3.toNatClampNeg)) (x3 + 1)
noncomputable def f_X5_countParts (F : Nat) (P : Mem) (LP : MemL) (wP : Bool) (vP : Bool) (C : Mem) : Option (Int32) :=
  f_X5_countParts_4 F P LP wP vP C (fun x2_27 => (some x2_27)) F 0 0
set_option maxRecDepth 100000 in
set_option maxHeartbeats 4000000 in
theorem i_X5_countParts {p : Program} {l : Launch} {e : Env} {s : State} {m : MethodId} {args : Array Value} {below : List Frame} {meth : Method} {c : Code} {D : va_G} {ct : im_ct} {A : Nat → Prop} (X : im_X p (im_rm 0) s m args meth c D ct A RX5 cX5_countParts 4 (some .int)) (F : Nat) (aP aC : Nat → Nat) (P : Mem) (LP : MemL) (wP : Bool) (vP : Bool) (C : Mem) : Im p l e (im_rm 0) s m args below meth c D A 4 (QI D A (fun z : Int32 => z) (fun z : Int32 => (cat [w_Purse ct aP P LP wP vP, w_Cloth ct aC C]))) 0 [(0, .ref (aP 0)), (1, .ref (aC 0))] [] (cat [w_Purse ct aP P LP wP vP, w_Cloth ct aC C]) (f_X5_countParts F P LP wP vP C) := by
  unfold f_X5_countParts
  refine im_iconst X 0 dX5_countParts_0 (by decide) ?_
  refine im_istore_n X [1, 2, 0] [(0, .ref (aP 0)), (1, .ref (aC 0)), (2, .int 0)] dX5_countParts_1 rfl (by decide) rfl ?_
  refine im_iconst X 0 dX5_countParts_2 (by decide) ?_
  refine im_istore_n X [1, 2, 3, 0] [(0, .ref (aP 0)), (1, .ref (aC 0)), (2, .int 0), (3, .int 0)] dX5_countParts_3 rfl (by decide) rfl ?_
  refine i_X5_countParts_4 X F aP aC P LP wP vP C  _ (fun x2_27 => ?_) F 0 0
  refine im_iload_n X 0 dX5_countParts_27 rfl rfl ?_
  exact im_ireturn X x2_27 rfl rfl dX5_countParts_28
theorem c_X5_countParts (l : Launch) (D : va_G) (ct : im_ct) (F : Nat) (aP aC : Nat → Nat) (P : Mem) (LP : MemL) (wP : Bool) (vP : Bool) (C : Mem) : CMi l D ct yX5_countParts cX5_countParts 4 (some .int) 0 [.ref (aP 0), .ref (aC 0)] (cat [w_Purse ct aP P LP wP vP, w_Cloth ct aC C]) (f_X5_countParts F P LP wP vP C) (fun z : Int32 => z) (fun z : Int32 => (cat [w_Purse ct aP P LP wP vP, w_Cloth ct aC C])) :=
  im_met (Qb := fun A => QI D A (fun z : Int32 => z) (fun z : Int32 => (cat [w_Purse ct aP P LP wP vP, w_Cloth ct aC C]))) (by decide +kernel) (Nat.le_of_ble_eq_true rfl) (fun p e s m args below meth c A X => i_X5_countParts X F aP aC P LP wP vP C)

noncomputable def f_X5_breakAll_62 (F : Nat) (P : Mem) (LP : MemL) (wP : Bool) (vP : Bool) (C : Mem) (x3 : Int32) (x4 : Int32) (k14 : Mem → Int32 → Option (Int32 × Mem)) (k72 : Mem → Option (Int32 × Mem)) : Option (Int32 × Mem) :=
  ck x4 6 ((if 0 ≤ ((P 2) x4.toNatClampNeg) then k14 P (x4 + (-1)) else k72 P))
set_option maxRecDepth 100000 in
set_option maxHeartbeats 4000000 in
theorem i_X5_breakAll_62 {p : Program} {l : Launch} {e : Env} {s : State} {m : MethodId} {args : Array Value} {below : List Frame} {meth : Method} {c : Code} {D : va_G} {ct : im_ct} {A : Nat → Prop} (X : im_X p (im_rm 1) s m args meth c D ct A RX5 cX5_breakAll 5 (some .boolean)) (F : Nat) (aP aC : Nat → Nat) (P : Mem) (LP : MemL) (wP : Bool) (vP : Bool) (C : Mem) (x3 : Int32) (x4 : Int32) (k14 : Mem → Int32 → Option (Int32 × Mem)) (hk14 : ∀ (P : Mem) (x4 : Int32), Im p l e (im_rm 1) s m args below meth c D A 5 (QI D A (fun z : Int32 × Mem => z.1) (fun z : Int32 × Mem => (cat [w_Purse ct aP z.2 LP wP vP, w_Cloth ct aC C]))) 14 [(0, .ref (aP 0)), (1, .ref (aC 0)), (3, .int x3), (4, .int x4)] [] (cat [w_Purse ct aP P LP wP vP, w_Cloth ct aC C]) (k14 P x4)) (k72 : Mem → Option (Int32 × Mem)) (hk72 : ∀ (P : Mem), Im p l e (im_rm 1) s m args below meth c D A 5 (QI D A (fun z : Int32 × Mem => z.1) (fun z : Int32 × Mem => (cat [w_Purse ct aP z.2 LP wP vP, w_Cloth ct aC C]))) 72 [] [] (cat [w_Purse ct aP P LP wP vP, w_Cloth ct aC C]) (k72 P)) : Im p l e (im_rm 1) s m args below meth c D A 5 (QI D A (fun z : Int32 × Mem => z.1) (fun z : Int32 × Mem => (cat [w_Purse ct aP z.2 LP wP vP, w_Cloth ct aC C]))) 62 [(0, .ref (aP 0)), (1, .ref (aC 0)), (3, .int x3), (4, .int x4)] [] (cat [w_Purse ct aP P LP wP vP, w_Cloth ct aC C]) (f_X5_breakAll_62 F P LP wP vP C x3 x4 k14 k72) := by
  unfold f_X5_breakAll_62
  refine im_aload_n X 0 dX5_breakAll_62 rfl rfl ?_
  refine im_cget X 0 0 (v := .ref (aP 2)) fl_X5_15 rfl rfl rfl dX5_breakAll_63 ?_
  refine im_iload X 3 dX5_breakAll_66 rfl ?_
  refine im_ciald X 0 2 0 (f := (P 2)) rfl rfl rfl dX5_breakAll_68 ?_
  refine im_if_ge (tgt := 74) X dX5_breakAll_69 rfl ?_ ?_
  · refine im_iinc X 3 (-1) [1, 2, 3, 0] [(0, .ref (aP 0)), (1, .ref (aC 0)), (3, .int x3), (4, .int (x4 + (-1)))] dX5_breakAll_74 (by decide) rfl (by decide) rfl ?_
    refine im_goto (tgt := 14) X dX5_breakAll_77 rfl ?_
    exact hk14 P (x4 + (-1))
  · refine im_lv [] [] rfl ?_
    exact hk72 P
noncomputable def f_X5_breakAll_14 (F : Nat) (LP : MemL) (wP : Bool) (vP : Bool) (C : Mem) (x3 : Int32) (k72 : Mem → Option (Int32 × Mem)) (k80 : Mem → Option (Int32 × Mem)) : Nat → Mem → Int32 → Option (Int32 × Mem)
  | 0, _, _ => none
  | n + 1, P, x4 =>
  (if x4 < 1 then k80 P else (if ((x3 >>> ((x4 - 1) &&& 31)) &&& 1) = 1 then ck x4 6 (ck x4 6 (ck (x4 - 1) 6 (ck x4 6 (ck (x4 - 1) 6 (f_X5_breakAll_62 F (mr P 2 (upd (upd (P 2) x4.toNatClampNeg (((P 2) x4.toNatClampNeg) - 1)) ((x4 - 1)).toNatClampNeg (((upd (P 2) x4.toNatClampNeg (((P 2) x4.toNatClampNeg) - 1)) ((x4 - 1)).toNatClampNeg) + ((C 1) x4.toNatClampNeg)))) LP wP vP C x3 x4 (f_X5_breakAll_14 F LP wP vP C x3 k72 k80 n) k72))))) else f_X5_breakAll_62 F P LP wP vP C x3 x4 (f_X5_breakAll_14 F LP wP vP C x3 k72 k80 n) k72))
set_option maxRecDepth 100000 in
set_option maxHeartbeats 4000000 in
theorem i_X5_breakAll_14 {p : Program} {l : Launch} {e : Env} {s : State} {m : MethodId} {args : Array Value} {below : List Frame} {meth : Method} {c : Code} {D : va_G} {ct : im_ct} {A : Nat → Prop} (X : im_X p (im_rm 1) s m args meth c D ct A RX5 cX5_breakAll 5 (some .boolean)) (F : Nat) (aP aC : Nat → Nat) (LP : MemL) (wP : Bool) (vP : Bool) (C : Mem) (x3 : Int32) (k72 : Mem → Option (Int32 × Mem)) (hk72 : ∀ (P : Mem), Im p l e (im_rm 1) s m args below meth c D A 5 (QI D A (fun z : Int32 × Mem => z.1) (fun z : Int32 × Mem => (cat [w_Purse ct aP z.2 LP wP vP, w_Cloth ct aC C]))) 72 [] [] (cat [w_Purse ct aP P LP wP vP, w_Cloth ct aC C]) (k72 P)) (k80 : Mem → Option (Int32 × Mem)) (hk80 : ∀ (P : Mem), Im p l e (im_rm 1) s m args below meth c D A 5 (QI D A (fun z : Int32 × Mem => z.1) (fun z : Int32 × Mem => (cat [w_Purse ct aP z.2 LP wP vP, w_Cloth ct aC C]))) 80 [] [] (cat [w_Purse ct aP P LP wP vP, w_Cloth ct aC C]) (k80 P)) : ∀ (n : Nat) (P : Mem) (x4 : Int32), Im p l e (im_rm 1) s m args below meth c D A 5 (QI D A (fun z : Int32 × Mem => z.1) (fun z : Int32 × Mem => (cat [w_Purse ct aP z.2 LP wP vP, w_Cloth ct aC C]))) 14 [(0, .ref (aP 0)), (1, .ref (aC 0)), (3, .int x3), (4, .int x4)] [] (cat [w_Purse ct aP P LP wP vP, w_Cloth ct aC C]) (f_X5_breakAll_14 F LP wP vP C x3 k72 k80 n P x4) := by
  intro n
  induction n with
  | zero => intros; exact im_none
  | succ n ih =>
    intro P x4
    unfold f_X5_breakAll_14
    refine im_iload X 3 dX5_breakAll_14 rfl ?_
    refine im_iconst X 1 dX5_breakAll_16 (by decide) ?_
    refine im_icmp_lt (tgt := 80) X dX5_breakAll_17 rfl ?_ ?_
    · refine im_lv [] [] rfl ?_
      exact hk80 P
    · refine im_iload_n X 2 dX5_breakAll_20 rfl rfl ?_
      refine im_iload X 3 dX5_breakAll_21 rfl ?_
      refine im_iconst X 1 dX5_breakAll_23 (by decide) ?_
      refine im_isub X dX5_breakAll_24 ?_
      refine im_ishr X dX5_breakAll_25 ?_
      refine im_iconst X 1 dX5_breakAll_26 (by decide) ?_
      refine im_iand X dX5_breakAll_27 ?_
      refine im_iconst X 1 dX5_breakAll_28 (by decide) ?_
      refine im_icmp_ne (tgt := 62) X dX5_breakAll_29 rfl ?_ ?_
      · exact i_X5_breakAll_62 X F aP aC P LP wP vP C x3 x4 _ ih _ hk72
      · refine im_aload_n X 0 dX5_breakAll_32 rfl rfl ?_
        refine im_cget X 0 0 (v := .ref (aP 2)) fl_X5_15 rfl rfl rfl dX5_breakAll_33 ?_
        refine im_iload X 3 dX5_breakAll_36 rfl ?_
        refine im_dup2_11 X rfl rfl dX5_breakAll_38 ?_
        refine im_ciald X 0 2 0 (f := (P 2)) rfl rfl rfl dX5_breakAll_39 ?_
        refine im_iconst X 1 dX5_breakAll_40 (by decide) ?_
        refine im_isub X dX5_breakAll_41 ?_
        refine im_ciast X 0 2 0 (wx_Purse ct aP (P 1) (upd (P 2) x4.toNatClampNeg (((P 2) x4.toNatClampNeg) - 1)) (LP 3) (LP 4) wP vP) [wx_Purse ct aP (P 1) (upd (P 2) x4.toNatClampNeg (((P 2) x4.toNatClampNeg) - 1)) (LP 3) (LP 4) wP vP, w_Cloth ct aC C] (f := (P 2)) rfl rfl rfl rfl rfl dX5_breakAll_42 ?_
        refine im_aload_n X 0 dX5_breakAll_43 rfl rfl ?_
        refine im_cget X 0 0 (v := .ref (aP 2)) fl_X5_15 rfl rfl rfl dX5_breakAll_44 ?_
        refine im_iload X 3 dX5_breakAll_47 rfl ?_
        refine im_iconst X 1 dX5_breakAll_49 (by decide) ?_
        refine im_isub X dX5_breakAll_50 ?_
        refine im_dup2_11 X rfl rfl dX5_breakAll_51 ?_
        refine im_ciald X 0 2 0 (f := (upd (P 2) x4.toNatClampNeg (((P 2) x4.toNatClampNeg) - 1))) rfl rfl rfl dX5_breakAll_52 ?_
        refine im_aload_n X 1 dX5_breakAll_53 rfl rfl ?_
        refine im_cget X 1 0 (v := .ref (aC 1)) fl_X5_37 rfl rfl rfl dX5_breakAll_54 ?_
        refine im_iload X 3 dX5_breakAll_57 rfl ?_
        refine im_ciald X 1 1 0 (f := (C 1)) rfl rfl rfl dX5_breakAll_59 ?_
        refine im_iadd X dX5_breakAll_60 ?_
        refine im_ciast X 0 2 0 (wx_Purse ct aP (P 1) (upd (upd (P 2) x4.toNatClampNeg (((P 2) x4.toNatClampNeg) - 1)) ((x4 - 1)).toNatClampNeg (((upd (P 2) x4.toNatClampNeg (((P 2) x4.toNatClampNeg) - 1)) ((x4 - 1)).toNatClampNeg) + ((C 1) x4.toNatClampNeg))) (LP 3) (LP 4) wP vP) [wx_Purse ct aP (P 1) (upd (upd (P 2) x4.toNatClampNeg (((P 2) x4.toNatClampNeg) - 1)) ((x4 - 1)).toNatClampNeg (((upd (P 2) x4.toNatClampNeg (((P 2) x4.toNatClampNeg) - 1)) ((x4 - 1)).toNatClampNeg) + ((C 1) x4.toNatClampNeg))) (LP 3) (LP 4) wP vP, w_Cloth ct aC C] (f := (upd (P 2) x4.toNatClampNeg (((P 2) x4.toNatClampNeg) - 1))) rfl rfl rfl rfl rfl dX5_breakAll_61 ?_
        exact i_X5_breakAll_62 X F aP aC (mr P 2 (upd (upd (P 2) x4.toNatClampNeg (((P 2) x4.toNatClampNeg) - 1)) ((x4 - 1)).toNatClampNeg (((upd (P 2) x4.toNatClampNeg (((P 2) x4.toNatClampNeg) - 1)) ((x4 - 1)).toNatClampNeg) + ((C 1) x4.toNatClampNeg)))) LP wP vP C x3 x4 _ ih _ hk72
noncomputable def f_X5_breakAll (F : Nat) (P : Mem) (LP : MemL) (wP : Bool) (vP : Bool) (C : Mem) (x2 : Int32) (x3 : Int32) : Option (Int32 × Mem) :=
  (f_X5_liftRow F P LP wP vP C x2).bind (fun z3 => f_X5_breakAll_14 F LP wP vP C x3 (fun P_72 => (some (0, P_72))) (fun P_80 => (some (1, P_80))) F z3 ((C 0 6) - 1))
set_option maxRecDepth 100000 in
set_option maxHeartbeats 4000000 in
theorem i_X5_breakAll {p : Program} {l : Launch} {e : Env} {s : State} {m : MethodId} {args : Array Value} {below : List Frame} {meth : Method} {c : Code} {D : va_G} {ct : im_ct} {A : Nat → Prop} (X : im_X p (im_rm 1) s m args meth c D ct A RX5 cX5_breakAll 5 (some .boolean)) (F : Nat) (aP aC : Nat → Nat) (P : Mem) (LP : MemL) (wP : Bool) (vP : Bool) (C : Mem) (x2 : Int32) (x3 : Int32) : Im p l e (im_rm 1) s m args below meth c D A 5 (QI D A (fun z : Int32 × Mem => z.1) (fun z : Int32 × Mem => (cat [w_Purse ct aP z.2 LP wP vP, w_Cloth ct aC C]))) 0 [(0, .ref (aP 0)), (1, .ref (aC 0)), (2, .int x2), (3, .int x3)] [] (cat [w_Purse ct aP P LP wP vP, w_Cloth ct aC C]) (f_X5_breakAll F P LP wP vP C x2 x3) := by
  unfold f_X5_breakAll
  refine im_aload_n X 0 dX5_breakAll_0 rfl rfl ?_
  refine im_aload_n X 1 dX5_breakAll_1 rfl rfl ?_
  refine im_iload_n X 2 dX5_breakAll_2 rfl rfl ?_
  refine im_ccvV X [.ref (aC 0), .int x2] [] [w_Purse ct aP P LP wP vP, w_Cloth ct aC C] [w_Purse ct aP P LP wP vP, w_Cloth ct aC C] [0, 1] (fun z3 => [w_Purse ct aP z3 LP wP vP, w_Cloth ct aC C]) 0 0 5 rfl rfl rfl cl_X5_69 (c_X5_liftRow l D ct F aP aC P LP wP vP C x2) rfl (by decide) (fun _ => lc fa_Purse (lc rfl (rfl))) rfl ⟨by decide, by decide⟩ (Nat.le_of_ble_eq_true rfl) rfl dX5_breakAll_3 (fun z3 => ?_)
  refine im_ws (cat [w_Purse ct aP z3 LP wP vP, w_Cloth ct aC C]) rfl ?_
  refine im_aload_n X 1 dX5_breakAll_6 rfl rfl ?_
  refine im_cget X 1 0 (v := .int (C 0 6)) fl_X5_25 rfl rfl rfl dX5_breakAll_7 ?_
  refine im_iconst X 1 dX5_breakAll_10 (by decide) ?_
  refine im_isub X dX5_breakAll_11 ?_
  refine im_istore X [1, 2, 3, 4, 0] [(0, .ref (aP 0)), (1, .ref (aC 0)), (2, .int x2), (3, .int x3), (4, .int ((C 0 6) - 1))] dX5_breakAll_12 (by decide) rfl ?_
  refine im_lv [0, 1, 3, 4] [(0, .ref (aP 0)), (1, .ref (aC 0)), (3, .int x3), (4, .int ((C 0 6) - 1))] rfl ?_
  refine i_X5_breakAll_14 X F aP aC LP wP vP C x3 _ (fun P_72 => ?_) _ (fun P_80 => ?_) F z3 ((C 0 6) - 1)
  · refine im_iconst X 0 dX5_breakAll_72 (by decide) ?_
    exact im_zreturn X (0, P_72) rfl rfl rfl dX5_breakAll_73
  · refine im_iconst X 1 dX5_breakAll_80 (by decide) ?_
    exact im_zreturn X (1, P_80) rfl rfl rfl dX5_breakAll_81
theorem c_X5_breakAll (l : Launch) (D : va_G) (ct : im_ct) (F : Nat) (aP aC : Nat → Nat) (P : Mem) (LP : MemL) (wP : Bool) (vP : Bool) (C : Mem) (x2 : Int32) (x3 : Int32) : CMi l D ct yX5_breakAll cX5_breakAll 5 (some .boolean) 1 [.ref (aP 0), .ref (aC 0), .int x2, .int x3] (cat [w_Purse ct aP P LP wP vP, w_Cloth ct aC C]) (f_X5_breakAll F P LP wP vP C x2 x3) (fun z : Int32 × Mem => z.1) (fun z : Int32 × Mem => (cat [w_Purse ct aP z.2 LP wP vP, w_Cloth ct aC C])) :=
  im_met (Qb := fun A => QI D A (fun z : Int32 × Mem => z.1) (fun z : Int32 × Mem => (cat [w_Purse ct aP z.2 LP wP vP, w_Cloth ct aC C]))) (by decide +kernel) (Nat.le_of_ble_eq_true rfl) (fun p e s m args below meth c A X => i_X5_breakAll X F aP aC P LP wP vP C x2 x3)

noncomputable def f_X5_fewestBreaks_56 (F : Nat) (P : Mem) (LP : MemL) (wP : Bool) (vP : Bool) (C : Mem) (x2 : Int32) (x3 : Int32) (x4 : Int32) (x5 : Int32) (x6 : Int32) (x7 : Int32) (k28 : Mem → Int32 → Int32 → Option (Int32 × Mem)) : Option (Int32 × Mem) :=
  (f_X5_breakAll F P LP wP vP C x2 x6).bind (fun z61 => (if z61.1 = 0 then k28 z61.2 x4 (x6 + 1) else (f_X5_takeFewest F z61.2 LP wP vP C x3).bind (fun z70 => (if z70.1 = 0 then k28 z70.2 x4 (x6 + 1) else k28 z70.2 x7 (x6 + 1)))))
set_option maxRecDepth 100000 in
set_option maxHeartbeats 4000000 in
theorem i_X5_fewestBreaks_56 {p : Program} {l : Launch} {e : Env} {s : State} {m : MethodId} {args : Array Value} {below : List Frame} {meth : Method} {c : Code} {D : va_G} {ct : im_ct} {A : Nat → Prop} (X : im_X p (im_rm 2) s m args meth c D ct A RX5 cX5_fewestBreaks 8 (some .int)) (F : Nat) (aP aC : Nat → Nat) (P : Mem) (LP : MemL) (wP : Bool) (vP : Bool) (C : Mem) (x2 : Int32) (x3 : Int32) (x4 : Int32) (x5 : Int32) (x6 : Int32) (x7 : Int32) (k28 : Mem → Int32 → Int32 → Option (Int32 × Mem)) (hk28 : ∀ (P : Mem) (x4 : Int32) (x6 : Int32), Im p l e (im_rm 2) s m args below meth c D A 8 (QI D A (fun z : Int32 × Mem => z.1) (fun z : Int32 × Mem => (cat [w_Purse ct aP z.2 LP wP vP, w_Cloth ct aC C]))) 28 [(0, .ref (aP 0)), (1, .ref (aC 0)), (2, .int x2), (3, .int x3), (4, .int x4), (5, .int x5), (6, .int x6)] [] (cat [w_Purse ct aP P LP wP vP, w_Cloth ct aC C]) (k28 P x4 x6)) : Im p l e (im_rm 2) s m args below meth c D A 8 (QI D A (fun z : Int32 × Mem => z.1) (fun z : Int32 × Mem => (cat [w_Purse ct aP z.2 LP wP vP, w_Cloth ct aC C]))) 56 [(0, .ref (aP 0)), (1, .ref (aC 0)), (2, .int x2), (3, .int x3), (4, .int x4), (5, .int x5), (6, .int x6), (7, .int x7)] [] (cat [w_Purse ct aP P LP wP vP, w_Cloth ct aC C]) (f_X5_fewestBreaks_56 F P LP wP vP C x2 x3 x4 x5 x6 x7 k28) := by
  unfold f_X5_fewestBreaks_56
  refine im_aload_n X 0 dX5_fewestBreaks_56 rfl rfl ?_
  refine im_aload_n X 1 dX5_fewestBreaks_57 rfl rfl ?_
  refine im_iload_n X 2 dX5_fewestBreaks_58 rfl rfl ?_
  refine im_iload X 6 dX5_fewestBreaks_59 rfl ?_
  refine im_cciV X [.ref (aC 0), .int x2, .int x6] [] [w_Purse ct aP P LP wP vP, w_Cloth ct aC C] [w_Purse ct aP P LP wP vP, w_Cloth ct aC C] [0, 1] (fun z61 => [w_Purse ct aP z61.2 LP wP vP, w_Cloth ct aC C]) 0 0 5 rfl rfl rfl cl_X5_62 (c_X5_breakAll l D ct F aP aC P LP wP vP C x2 x6) rfl (by decide) (fun _ => lc fa_Purse (lc rfl (rfl))) rfl ⟨by decide, by decide⟩ (Nat.le_of_ble_eq_true rfl) rfl dX5_fewestBreaks_61 (fun z61 => ?_)
  refine im_ws (cat [w_Purse ct aP z61.2 LP wP vP, w_Cloth ct aC C]) rfl ?_
  refine im_if_eq (tgt := 80) X dX5_fewestBreaks_64 rfl ?_ ?_
  · refine im_iinc X 6 1 [1, 2, 3, 4, 5, 6, 0, 7] [(0, .ref (aP 0)), (1, .ref (aC 0)), (2, .int x2), (3, .int x3), (4, .int x4), (5, .int x5), (6, .int (x6 + 1)), (7, .int x7)] dX5_fewestBreaks_80 (by decide) rfl (by decide) rfl ?_
    refine im_goto (tgt := 28) X dX5_fewestBreaks_83 rfl ?_
    refine im_lv [0, 1, 2, 3, 4, 5, 6] [(0, .ref (aP 0)), (1, .ref (aC 0)), (2, .int x2), (3, .int x3), (4, .int x4), (5, .int x5), (6, .int (x6 + 1))] rfl ?_
    exact hk28 z61.2 x4 (x6 + 1)
  · refine im_aload_n X 0 dX5_fewestBreaks_67 rfl rfl ?_
    refine im_aload_n X 1 dX5_fewestBreaks_68 rfl rfl ?_
    refine im_iload_n X 3 dX5_fewestBreaks_69 rfl rfl ?_
    refine im_cciV X [.ref (aC 0), .int x3] [] [w_Purse ct aP z61.2 LP wP vP, w_Cloth ct aC C] [w_Purse ct aP z61.2 LP wP vP, w_Cloth ct aC C] [0, 1] (fun z70 => [w_Purse ct aP z70.2 LP wP vP, w_Cloth ct aC C]) 0 0 5 rfl rfl rfl cl_X5_66 (c_X5_takeFewest l D ct F aP aC z61.2 LP wP vP C x3) rfl (by decide) (fun _ => lc fa_Purse (lc rfl (rfl))) rfl ⟨by decide, by decide⟩ (Nat.le_of_ble_eq_true rfl) rfl dX5_fewestBreaks_70 (fun z70 => ?_)
    refine im_ws (cat [w_Purse ct aP z70.2 LP wP vP, w_Cloth ct aC C]) rfl ?_
    refine im_if_eq (tgt := 80) X dX5_fewestBreaks_73 rfl ?_ ?_
    · refine im_iinc X 6 1 [1, 2, 3, 4, 5, 6, 0, 7] [(0, .ref (aP 0)), (1, .ref (aC 0)), (2, .int x2), (3, .int x3), (4, .int x4), (5, .int x5), (6, .int (x6 + 1)), (7, .int x7)] dX5_fewestBreaks_80 (by decide) rfl (by decide) rfl ?_
      refine im_goto (tgt := 28) X dX5_fewestBreaks_83 rfl ?_
      refine im_lv [0, 1, 2, 3, 4, 5, 6] [(0, .ref (aP 0)), (1, .ref (aC 0)), (2, .int x2), (3, .int x3), (4, .int x4), (5, .int x5), (6, .int (x6 + 1))] rfl ?_
      exact hk28 z70.2 x4 (x6 + 1)
    · refine im_iload X 7 dX5_fewestBreaks_76 rfl ?_
      refine im_istore X [1, 2, 3, 4, 0, 5, 6, 7] [(0, .ref (aP 0)), (1, .ref (aC 0)), (2, .int x2), (3, .int x3), (4, .int x7), (5, .int x5), (6, .int x6), (7, .int x7)] dX5_fewestBreaks_78 (by decide) rfl ?_
      refine im_iinc X 6 1 [1, 2, 3, 4, 5, 6, 0, 7] [(0, .ref (aP 0)), (1, .ref (aC 0)), (2, .int x2), (3, .int x3), (4, .int x7), (5, .int x5), (6, .int (x6 + 1)), (7, .int x7)] dX5_fewestBreaks_80 (by decide) rfl (by decide) rfl ?_
      refine im_goto (tgt := 28) X dX5_fewestBreaks_83 rfl ?_
      refine im_lv [0, 1, 2, 3, 4, 5, 6] [(0, .ref (aP 0)), (1, .ref (aC 0)), (2, .int x2), (3, .int x3), (4, .int x7), (5, .int x5), (6, .int (x6 + 1))] rfl ?_
      exact hk28 z70.2 x7 (x6 + 1)
noncomputable def f_X5_fewestBreaks_28 (F : Nat) (LP : MemL) (wP : Bool) (vP : Bool) (C : Mem) (x2 : Int32) (x3 : Int32) (x5 : Int32) (k86 : Mem → Int32 → Option (Int32 × Mem)) : Nat → Mem → Int32 → Int32 → Option (Int32 × Mem)
  | 0, _, _, _ => none
  | n + 1, P, x4, x6 =>
  (if x5 ≤ x6 then k86 P x4 else (f_JI_bitCount F x6).bind (fun z37 => (if x4 = (-2) then f_X5_fewestBreaks_56 F P LP wP vP C x2 x3 x4 x5 x6 z37 (f_X5_fewestBreaks_28 F LP wP vP C x2 x3 x5 k86 n) else (if x4 ≤ z37 then f_X5_fewestBreaks_28 F LP wP vP C x2 x3 x5 k86 n P x4 (x6 + 1) else f_X5_fewestBreaks_56 F P LP wP vP C x2 x3 x4 x5 x6 z37 (f_X5_fewestBreaks_28 F LP wP vP C x2 x3 x5 k86 n)))))
set_option maxRecDepth 100000 in
set_option maxHeartbeats 4000000 in
theorem i_X5_fewestBreaks_28 {p : Program} {l : Launch} {e : Env} {s : State} {m : MethodId} {args : Array Value} {below : List Frame} {meth : Method} {c : Code} {D : va_G} {ct : im_ct} {A : Nat → Prop} (X : im_X p (im_rm 2) s m args meth c D ct A RX5 cX5_fewestBreaks 8 (some .int)) (F : Nat) (aP aC : Nat → Nat) (LP : MemL) (wP : Bool) (vP : Bool) (C : Mem) (x2 : Int32) (x3 : Int32) (x5 : Int32) (k86 : Mem → Int32 → Option (Int32 × Mem)) (hk86 : ∀ (P : Mem) (x4 : Int32), Im p l e (im_rm 2) s m args below meth c D A 8 (QI D A (fun z : Int32 × Mem => z.1) (fun z : Int32 × Mem => (cat [w_Purse ct aP z.2 LP wP vP, w_Cloth ct aC C]))) 86 [(4, .int x4)] [] (cat [w_Purse ct aP P LP wP vP, w_Cloth ct aC C]) (k86 P x4)) : ∀ (n : Nat) (P : Mem) (x4 : Int32) (x6 : Int32), Im p l e (im_rm 2) s m args below meth c D A 8 (QI D A (fun z : Int32 × Mem => z.1) (fun z : Int32 × Mem => (cat [w_Purse ct aP z.2 LP wP vP, w_Cloth ct aC C]))) 28 [(0, .ref (aP 0)), (1, .ref (aC 0)), (2, .int x2), (3, .int x3), (4, .int x4), (5, .int x5), (6, .int x6)] [] (cat [w_Purse ct aP P LP wP vP, w_Cloth ct aC C]) (f_X5_fewestBreaks_28 F LP wP vP C x2 x3 x5 k86 n P x4 x6) := by
  intro n
  induction n with
  | zero => intros; exact im_none
  | succ n ih =>
    intro P x4 x6
    unfold f_X5_fewestBreaks_28
    refine im_iload X 6 dX5_fewestBreaks_28 rfl ?_
    refine im_iload X 5 dX5_fewestBreaks_30 rfl ?_
    refine im_icmp_ge (tgt := 86) X dX5_fewestBreaks_32 rfl ?_ ?_
    · refine im_lv [4] [(4, .int x4)] rfl ?_
      exact hk86 P x4
    · refine im_iload X 6 dX5_fewestBreaks_35 rfl ?_
      refine im_cciS X [.int x6] [] [w_Purse ct aP P LP wP vP, w_Cloth ct aC C] [] [] (fun z37 => []) cl_X5_57 (c_JI_bitCount l D ct F x6) rfl (by decide) (fun _ => rfl) rfl ⟨by decide, by decide⟩ (Nat.le_of_ble_eq_true rfl) rfl dX5_fewestBreaks_37 (fun z37 => ?_)
      refine im_ws (cat [w_Purse ct aP P LP wP vP, w_Cloth ct aC C]) rfl ?_
      refine im_istore X [1, 2, 3, 4, 5, 6, 7, 0] [(0, .ref (aP 0)), (1, .ref (aC 0)), (2, .int x2), (3, .int x3), (4, .int x4), (5, .int x5), (6, .int x6), (7, .int z37)] dX5_fewestBreaks_40 (by decide) rfl ?_
      refine im_iload X 4 dX5_fewestBreaks_42 rfl ?_
      refine im_bipush X (-2) dX5_fewestBreaks_44 (by decide) ?_
      refine im_icmp_eq (tgt := 56) X dX5_fewestBreaks_46 rfl ?_ ?_
      · exact i_X5_fewestBreaks_56 X F aP aC P LP wP vP C x2 x3 x4 x5 x6 z37 _ ih
      · refine im_iload X 7 dX5_fewestBreaks_49 rfl ?_
        refine im_iload X 4 dX5_fewestBreaks_51 rfl ?_
        refine im_icmp_ge (tgt := 80) X dX5_fewestBreaks_53 rfl ?_ ?_
        · refine im_iinc X 6 1 [1, 2, 3, 4, 5, 6, 0, 7] [(0, .ref (aP 0)), (1, .ref (aC 0)), (2, .int x2), (3, .int x3), (4, .int x4), (5, .int x5), (6, .int (x6 + 1)), (7, .int z37)] dX5_fewestBreaks_80 (by decide) rfl (by decide) rfl ?_
          refine im_goto (tgt := 28) X dX5_fewestBreaks_83 rfl ?_
          refine im_lv [0, 1, 2, 3, 4, 5, 6] [(0, .ref (aP 0)), (1, .ref (aC 0)), (2, .int x2), (3, .int x3), (4, .int x4), (5, .int x5), (6, .int (x6 + 1))] rfl ?_
          exact ih P x4 (x6 + 1)
        · exact i_X5_fewestBreaks_56 X F aP aC P LP wP vP C x2 x3 x4 x5 x6 z37 _ ih
noncomputable def f_X5_fewestBreaks (F : Nat) (P : Mem) (LP : MemL) (wP : Bool) (vP : Bool) (C : Mem) (x2 : Int32) (x3 : Int32) : Option (Int32 × Mem) :=
  (if (C 0 6) ≤ 0 then f_X5_fewestBreaks_28 F LP wP vP C x2 x3 0 (fun P_86 x4_86 => (some (x4_86, P_86))) F P (-2) 0 else f_X5_fewestBreaks_28 F LP wP vP C x2 x3 (1 <<< (((C 0 6) - 1) &&& 31)) (fun P_86 x4_86 => (some (x4_86, P_86))) F P (-2) 0)
set_option maxRecDepth 100000 in
set_option maxHeartbeats 4000000 in
theorem i_X5_fewestBreaks {p : Program} {l : Launch} {e : Env} {s : State} {m : MethodId} {args : Array Value} {below : List Frame} {meth : Method} {c : Code} {D : va_G} {ct : im_ct} {A : Nat → Prop} (X : im_X p (im_rm 2) s m args meth c D ct A RX5 cX5_fewestBreaks 8 (some .int)) (F : Nat) (aP aC : Nat → Nat) (P : Mem) (LP : MemL) (wP : Bool) (vP : Bool) (C : Mem) (x2 : Int32) (x3 : Int32) : Im p l e (im_rm 2) s m args below meth c D A 8 (QI D A (fun z : Int32 × Mem => z.1) (fun z : Int32 × Mem => (cat [w_Purse ct aP z.2 LP wP vP, w_Cloth ct aC C]))) 0 [(0, .ref (aP 0)), (1, .ref (aC 0)), (2, .int x2), (3, .int x3)] [] (cat [w_Purse ct aP P LP wP vP, w_Cloth ct aC C]) (f_X5_fewestBreaks F P LP wP vP C x2 x3) := by
  unfold f_X5_fewestBreaks
  refine im_bipush X (-2) dX5_fewestBreaks_0 (by decide) ?_
  refine im_istore X [1, 2, 3, 4, 0] [(0, .ref (aP 0)), (1, .ref (aC 0)), (2, .int x2), (3, .int x3), (4, .int (-2))] dX5_fewestBreaks_2 (by decide) rfl ?_
  refine im_aload_n X 1 dX5_fewestBreaks_4 rfl rfl ?_
  refine im_cget X 1 0 (v := .int (C 0 6)) fl_X5_25 rfl rfl rfl dX5_fewestBreaks_5 ?_
  refine im_if_le (tgt := 22) X dX5_fewestBreaks_8 rfl ?_ ?_
  · refine im_iconst X 0 dX5_fewestBreaks_22 (by decide) ?_
    refine im_istore X [1, 2, 3, 4, 5, 0] [(0, .ref (aP 0)), (1, .ref (aC 0)), (2, .int x2), (3, .int x3), (4, .int (-2)), (5, .int 0)] dX5_fewestBreaks_23 (by decide) rfl ?_
    refine im_iconst X 0 dX5_fewestBreaks_25 (by decide) ?_
    refine im_istore X [1, 2, 3, 4, 5, 6, 0] [(0, .ref (aP 0)), (1, .ref (aC 0)), (2, .int x2), (3, .int x3), (4, .int (-2)), (5, .int 0), (6, .int 0)] dX5_fewestBreaks_26 (by decide) rfl ?_
    refine i_X5_fewestBreaks_28 X F aP aC LP wP vP C x2 x3 0 _ (fun P_86 x4_86 => ?_) F P (-2) 0
    refine im_iload X 0 dX5_fewestBreaks_86 rfl ?_
    exact im_ireturn X (x4_86, P_86) rfl rfl dX5_fewestBreaks_88
  · refine im_iconst X 1 dX5_fewestBreaks_11 (by decide) ?_
    refine im_aload_n X 1 dX5_fewestBreaks_12 rfl rfl ?_
    refine im_cget X 1 0 (v := .int (C 0 6)) fl_X5_25 rfl rfl rfl dX5_fewestBreaks_13 ?_
    refine im_iconst X 1 dX5_fewestBreaks_16 (by decide) ?_
    refine im_isub X dX5_fewestBreaks_17 ?_
    refine im_ishl X dX5_fewestBreaks_18 ?_
    refine im_goto (tgt := 23) X dX5_fewestBreaks_19 rfl ?_
    refine im_istore X [1, 2, 3, 4, 5, 0] [(0, .ref (aP 0)), (1, .ref (aC 0)), (2, .int x2), (3, .int x3), (4, .int (-2)), (5, .int (1 <<< (((C 0 6) - 1) &&& 31)))] dX5_fewestBreaks_23 (by decide) rfl ?_
    refine im_iconst X 0 dX5_fewestBreaks_25 (by decide) ?_
    refine im_istore X [1, 2, 3, 4, 5, 6, 0] [(0, .ref (aP 0)), (1, .ref (aC 0)), (2, .int x2), (3, .int x3), (4, .int (-2)), (5, .int (1 <<< (((C 0 6) - 1) &&& 31))), (6, .int 0)] dX5_fewestBreaks_26 (by decide) rfl ?_
    refine i_X5_fewestBreaks_28 X F aP aC LP wP vP C x2 x3 (1 <<< (((C 0 6) - 1) &&& 31)) _ (fun P_86 x4_86 => ?_) F P (-2) 0
    refine im_iload X 0 dX5_fewestBreaks_86 rfl ?_
    exact im_ireturn X (x4_86, P_86) rfl rfl dX5_fewestBreaks_88
theorem c_X5_fewestBreaks (l : Launch) (D : va_G) (ct : im_ct) (F : Nat) (aP aC : Nat → Nat) (P : Mem) (LP : MemL) (wP : Bool) (vP : Bool) (C : Mem) (x2 : Int32) (x3 : Int32) : CMi l D ct yX5_fewestBreaks cX5_fewestBreaks 8 (some .int) 2 [.ref (aP 0), .ref (aC 0), .int x2, .int x3] (cat [w_Purse ct aP P LP wP vP, w_Cloth ct aC C]) (f_X5_fewestBreaks F P LP wP vP C x2 x3) (fun z : Int32 × Mem => z.1) (fun z : Int32 × Mem => (cat [w_Purse ct aP z.2 LP wP vP, w_Cloth ct aC C])) :=
  im_met (Qb := fun A => QI D A (fun z : Int32 × Mem => z.1) (fun z : Int32 × Mem => (cat [w_Purse ct aP z.2 LP wP vP, w_Cloth ct aC C]))) (by decide +kernel) (Nat.le_of_ble_eq_true rfl) (fun p e s m args below meth c A X => i_X5_fewestBreaks X F aP aC P LP wP vP C x2 x3)

noncomputable def f_X5_leastMissing_5 (F : Nat) (C : Mem) (x2 : Int32) (k56 : Int32 → Option (Int32)) : Nat → Int32 → Int32 → Option (Int32)
  | 0, _, _ => none
  | n + 1, x3, x4 =>
  (if (C 0 6) ≤ x4 then k56 x3 else ck x4 6 ((if (x3 + 1) < ((C 2) x4.toNatClampNeg) then k56 x3 else ck ((x2 * 6) + x4) 24 (ck x4 6 (f_X5_leastMissing_5 F C x2 k56 n (x3 + (((C 3) (((x2 * 6) + x4)).toNatClampNeg) * ((C 2) x4.toNatClampNeg))) (x4 + 1))))))
set_option maxRecDepth 100000 in
set_option maxHeartbeats 4000000 in
theorem i_X5_leastMissing_5 {p : Program} {l : Launch} {e : Env} {s : State} {m : MethodId} {args : Array Value} {below : List Frame} {meth : Method} {c : Code} {D : va_G} {ct : im_ct} {A : Nat → Prop} (X : im_X p (im_rm 0) s m args meth c D ct A RX5 cX5_leastMissing 5 (some .int)) (F : Nat) (aP aC : Nat → Nat) (C : Mem) (x2 : Int32) (k56 : Int32 → Option (Int32)) (hk56 : ∀ (x3 : Int32), Im p l e (im_rm 0) s m args below meth c D A 5 (QI D A (fun z : Int32 => z) (fun z : Int32 => (cat [w_Cloth ct aC C]))) 56 [(3, .int x3)] [] (cat [w_Cloth ct aC C]) (k56 x3)) : ∀ (n : Nat) (x3 : Int32) (x4 : Int32), Im p l e (im_rm 0) s m args below meth c D A 5 (QI D A (fun z : Int32 => z) (fun z : Int32 => (cat [w_Cloth ct aC C]))) 5 [(1, .ref (aC 0)), (2, .int x2), (3, .int x3), (4, .int x4)] [] (cat [w_Cloth ct aC C]) (f_X5_leastMissing_5 F C x2 k56 n x3 x4) := by
  intro n
  induction n with
  | zero => intros; exact im_none
  | succ n ih =>
    intro x3 x4
    unfold f_X5_leastMissing_5
    refine im_iload X 3 dX5_leastMissing_5 rfl ?_
    refine im_aload_n X 0 dX5_leastMissing_7 rfl rfl ?_
    refine im_cget X 0 0 (v := .int (C 0 6)) fl_X5_25 rfl rfl rfl dX5_leastMissing_8 ?_
    refine im_icmp_ge (tgt := 56) X dX5_leastMissing_11 rfl ?_ ?_
    · refine im_lv [2] [(3, .int x3)] rfl ?_
      exact hk56 x3
    · refine im_aload_n X 0 dX5_leastMissing_14 rfl rfl ?_
      refine im_cget X 0 0 (v := .ref (aC 2)) fl_X5_31 rfl rfl rfl dX5_leastMissing_15 ?_
      refine im_iload X 3 dX5_leastMissing_18 rfl ?_
      refine im_ciald X 0 2 0 (f := (C 2)) rfl rfl rfl dX5_leastMissing_20 ?_
      refine im_iload_n X 2 dX5_leastMissing_21 rfl rfl ?_
      refine im_iconst X 1 dX5_leastMissing_22 (by decide) ?_
      refine im_iadd X dX5_leastMissing_23 ?_
      refine im_icmp_gt (tgt := 56) X dX5_leastMissing_24 rfl ?_ ?_
      · refine im_lv [2] [(3, .int x3)] rfl ?_
        exact hk56 x3
      · refine im_iload_n X 2 dX5_leastMissing_27 rfl rfl ?_
        refine im_aload_n X 0 dX5_leastMissing_28 rfl rfl ?_
        refine im_cget X 0 0 (v := .ref (aC 3)) fl_X5_34 rfl rfl rfl dX5_leastMissing_29 ?_
        refine im_iload_n X 1 dX5_leastMissing_32 rfl rfl ?_
        refine im_bipush X 6 dX5_leastMissing_33 (by decide) ?_
        refine im_imul X dX5_leastMissing_35 ?_
        refine im_iload X 3 dX5_leastMissing_36 rfl ?_
        refine im_iadd X dX5_leastMissing_38 ?_
        refine im_ciald X 0 3 0 (f := (C 3)) rfl rfl rfl dX5_leastMissing_39 ?_
        refine im_aload_n X 0 dX5_leastMissing_40 rfl rfl ?_
        refine im_cget X 0 0 (v := .ref (aC 2)) fl_X5_31 rfl rfl rfl dX5_leastMissing_41 ?_
        refine im_iload X 3 dX5_leastMissing_44 rfl ?_
        refine im_ciald X 0 2 0 (f := (C 2)) rfl rfl rfl dX5_leastMissing_46 ?_
        refine im_imul X dX5_leastMissing_47 ?_
        refine im_iadd X dX5_leastMissing_48 ?_
        refine im_istore_n X [1, 2, 0, 3] [(1, .ref (aC 0)), (2, .int x2), (3, .int (x3 + (((C 3) (((x2 * 6) + x4)).toNatClampNeg) * ((C 2) x4.toNatClampNeg)))), (4, .int x4)] dX5_leastMissing_49 rfl (by decide) rfl ?_
        refine im_iinc X 3 1 [1, 2, 3, 0] [(1, .ref (aC 0)), (2, .int x2), (3, .int (x3 + (((C 3) (((x2 * 6) + x4)).toNatClampNeg) * ((C 2) x4.toNatClampNeg)))), (4, .int (x4 + 1))] dX5_leastMissing_50 (by decide) rfl (by decide) rfl ?_
        refine im_goto (tgt := 5) X dX5_leastMissing_53 rfl ?_
        exact ih (x3 + (((C 3) (((x2 * 6) + x4)).toNatClampNeg) * ((C 2) x4.toNatClampNeg))) (x4 + 1)
noncomputable def f_X5_leastMissing (F : Nat) (C : Mem) (x2 : Int32) : Option (Int32) :=
  f_X5_leastMissing_5 F C x2 (fun x3_56 => (some (x3_56 + 1))) F 0 0
set_option maxRecDepth 100000 in
set_option maxHeartbeats 4000000 in
theorem i_X5_leastMissing {p : Program} {l : Launch} {e : Env} {s : State} {m : MethodId} {args : Array Value} {below : List Frame} {meth : Method} {c : Code} {D : va_G} {ct : im_ct} {A : Nat → Prop} (X : im_X p (im_rm 0) s m args meth c D ct A RX5 cX5_leastMissing 5 (some .int)) (F : Nat) (aP aC : Nat → Nat) (C : Mem) (x2 : Int32) : Im p l e (im_rm 0) s m args below meth c D A 5 (QI D A (fun z : Int32 => z) (fun z : Int32 => (cat [w_Cloth ct aC C]))) 0 [(0, .ref (aP 0)), (1, .ref (aC 0)), (2, .int x2)] [] (cat [w_Cloth ct aC C]) (f_X5_leastMissing F C x2) := by
  unfold f_X5_leastMissing
  refine im_iconst X 0 dX5_leastMissing_0 (by decide) ?_
  refine im_istore_n X [1, 2, 3, 0] [(0, .ref (aP 0)), (1, .ref (aC 0)), (2, .int x2), (3, .int 0)] dX5_leastMissing_1 rfl (by decide) rfl ?_
  refine im_iconst X 0 dX5_leastMissing_2 (by decide) ?_
  refine im_istore X [1, 2, 3, 4, 0] [(0, .ref (aP 0)), (1, .ref (aC 0)), (2, .int x2), (3, .int 0), (4, .int 0)] dX5_leastMissing_3 (by decide) rfl ?_
  refine im_lv [1, 2, 3, 4] [(1, .ref (aC 0)), (2, .int x2), (3, .int 0), (4, .int 0)] rfl ?_
  refine i_X5_leastMissing_5 X F aP aC C x2 _ (fun x3_56 => ?_) F 0 0
  refine im_iload_n X 0 dX5_leastMissing_56 rfl rfl ?_
  refine im_iconst X 1 dX5_leastMissing_57 (by decide) ?_
  refine im_iadd X dX5_leastMissing_58 ?_
  exact im_ireturn X (x3_56 + 1) rfl rfl dX5_leastMissing_59
theorem c_X5_leastMissing (l : Launch) (D : va_G) (ct : im_ct) (F : Nat) (aP aC : Nat → Nat) (C : Mem) (x2 : Int32) : CMi l D ct yX5_leastMissing cX5_leastMissing 5 (some .int) 0 [.ref (aP 0), .ref (aC 0), .int x2] (cat [w_Cloth ct aC C]) (f_X5_leastMissing F C x2) (fun z : Int32 => z) (fun z : Int32 => (cat [w_Cloth ct aC C])) :=
  im_met (Qb := fun A => QI D A (fun z : Int32 => z) (fun z : Int32 => (cat [w_Cloth ct aC C]))) (by decide +kernel) (Nat.le_of_ble_eq_true rfl) (fun p e s m args below meth c A X => i_X5_leastMissing X F aP aC C x2)

noncomputable def f_X5_plainRows_4 (F : Nat) (P : Mem) (LP : MemL) (wP : Bool) (vP : Bool) (C : Mem) (k37 : Int32 → Option (Int32)) : Nat → Int32 → Int32 → Option (Int32)
  | 0, _, _ => none
  | n + 1, x2, x3 =>
  (if (C 0 7) ≤ x3 then k37 x2 else (f_X5_isPlain F C x3).bind (fun z16 => (if z16 = 0 then f_X5_plainRows_4 F P LP wP vP C k37 n (x2 ||| 0) (x3 + 1) else f_X5_plainRows_4 F P LP wP vP C k37 n (x2 ||| (1 <<< (x3 &&& 31))) (x3 + 1))))
set_option maxRecDepth 100000 in
set_option maxHeartbeats 4000000 in
theorem i_X5_plainRows_4 {p : Program} {l : Launch} {e : Env} {s : State} {m : MethodId} {args : Array Value} {below : List Frame} {meth : Method} {c : Code} {D : va_G} {ct : im_ct} {A : Nat → Prop} (X : im_X p (im_rm 1) s m args meth c D ct A RX5 cX5_plainRows 4 (some .int)) (F : Nat) (aP aC : Nat → Nat) (P : Mem) (LP : MemL) (wP : Bool) (vP : Bool) (C : Mem) (k37 : Int32 → Option (Int32)) (hk37 : ∀ (x2 : Int32), Im p l e (im_rm 1) s m args below meth c D A 4 (QI D A (fun z : Int32 => z) (fun z : Int32 => (cat [w_Purse ct aP P LP wP vP, w_Cloth ct aC C]))) 37 [(2, .int x2)] [] (cat [w_Purse ct aP P LP wP vP, w_Cloth ct aC C]) (k37 x2)) : ∀ (n : Nat) (x2 : Int32) (x3 : Int32), Im p l e (im_rm 1) s m args below meth c D A 4 (QI D A (fun z : Int32 => z) (fun z : Int32 => (cat [w_Purse ct aP P LP wP vP, w_Cloth ct aC C]))) 4 [(0, .ref (aP 0)), (1, .ref (aC 0)), (2, .int x2), (3, .int x3)] [] (cat [w_Purse ct aP P LP wP vP, w_Cloth ct aC C]) (f_X5_plainRows_4 F P LP wP vP C k37 n x2 x3) := by
  intro n
  induction n with
  | zero => intros; exact im_none
  | succ n ih =>
    intro x2 x3
    unfold f_X5_plainRows_4
    refine im_iload_n X 3 dX5_plainRows_4 rfl rfl ?_
    refine im_aload_n X 1 dX5_plainRows_5 rfl rfl ?_
    refine im_cget X 1 0 (v := .int (C 0 7)) fl_X5_40 rfl rfl rfl dX5_plainRows_6 ?_
    refine im_icmp_ge (tgt := 37) X dX5_plainRows_9 rfl ?_ ?_
    · refine im_lv [2] [(2, .int x2)] rfl ?_
      exact hk37 x2
    · refine im_iload_n X 2 dX5_plainRows_12 rfl rfl ?_
      refine im_aload_n X 0 dX5_plainRows_13 rfl rfl ?_
      refine im_aload_n X 1 dX5_plainRows_14 rfl rfl ?_
      refine im_iload_n X 3 dX5_plainRows_15 rfl rfl ?_
      refine im_cciV X [.ref (aC 0), .int x3] [.int x2] [w_Purse ct aP P LP wP vP, w_Cloth ct aC C] [w_Cloth ct aC C] [1] (fun z16 => [w_Cloth ct aC C]) 0 0 5 rfl rfl rfl cl_X5_43 (c_X5_isPlain l D ct F aP aC C x3) rfl (by decide) (fun _ => lc rfl (rfl)) rfl ⟨by decide, by decide⟩ (Nat.le_of_ble_eq_true rfl) rfl dX5_plainRows_16 (fun z16 => ?_)
      refine im_ws (cat [w_Purse ct aP P LP wP vP, w_Cloth ct aC C]) rfl ?_
      refine im_if_eq (tgt := 28) X dX5_plainRows_19 rfl ?_ ?_
      · refine im_iconst X 0 dX5_plainRows_28 (by decide) ?_
        refine im_ior X dX5_plainRows_29 ?_
        refine im_istore_n X [1, 2, 0, 3] [(0, .ref (aP 0)), (1, .ref (aC 0)), (2, .int (x2 ||| 0)), (3, .int x3)] dX5_plainRows_30 rfl (by decide) rfl ?_
        refine im_iinc X 3 1 [1, 2, 3, 0] [(0, .ref (aP 0)), (1, .ref (aC 0)), (2, .int (x2 ||| 0)), (3, .int (x3 + 1))] dX5_plainRows_31 (by decide) rfl (by decide) rfl ?_
        refine im_goto (tgt := 4) X dX5_plainRows_34 rfl ?_
        exact ih (x2 ||| 0) (x3 + 1)
      · refine im_iconst X 1 dX5_plainRows_22 (by decide) ?_
        refine im_iload_n X 3 dX5_plainRows_23 rfl rfl ?_
        refine im_ishl X dX5_plainRows_24 ?_
        refine im_goto (tgt := 29) X dX5_plainRows_25 rfl ?_
        refine im_ior X dX5_plainRows_29 ?_
        refine im_istore_n X [1, 2, 0, 3] [(0, .ref (aP 0)), (1, .ref (aC 0)), (2, .int (x2 ||| (1 <<< (x3 &&& 31)))), (3, .int x3)] dX5_plainRows_30 rfl (by decide) rfl ?_
        refine im_iinc X 3 1 [1, 2, 3, 0] [(0, .ref (aP 0)), (1, .ref (aC 0)), (2, .int (x2 ||| (1 <<< (x3 &&& 31)))), (3, .int (x3 + 1))] dX5_plainRows_31 (by decide) rfl (by decide) rfl ?_
        refine im_goto (tgt := 4) X dX5_plainRows_34 rfl ?_
        exact ih (x2 ||| (1 <<< (x3 &&& 31))) (x3 + 1)
noncomputable def f_X5_plainRows (F : Nat) (P : Mem) (LP : MemL) (wP : Bool) (vP : Bool) (C : Mem) : Option (Int32) :=
  f_X5_plainRows_4 F P LP wP vP C (fun x2_37 => (some x2_37)) F 0 0
set_option maxRecDepth 100000 in
set_option maxHeartbeats 4000000 in
theorem i_X5_plainRows {p : Program} {l : Launch} {e : Env} {s : State} {m : MethodId} {args : Array Value} {below : List Frame} {meth : Method} {c : Code} {D : va_G} {ct : im_ct} {A : Nat → Prop} (X : im_X p (im_rm 1) s m args meth c D ct A RX5 cX5_plainRows 4 (some .int)) (F : Nat) (aP aC : Nat → Nat) (P : Mem) (LP : MemL) (wP : Bool) (vP : Bool) (C : Mem) : Im p l e (im_rm 1) s m args below meth c D A 4 (QI D A (fun z : Int32 => z) (fun z : Int32 => (cat [w_Purse ct aP P LP wP vP, w_Cloth ct aC C]))) 0 [(0, .ref (aP 0)), (1, .ref (aC 0))] [] (cat [w_Purse ct aP P LP wP vP, w_Cloth ct aC C]) (f_X5_plainRows F P LP wP vP C) := by
  unfold f_X5_plainRows
  refine im_iconst X 0 dX5_plainRows_0 (by decide) ?_
  refine im_istore_n X [1, 2, 0] [(0, .ref (aP 0)), (1, .ref (aC 0)), (2, .int 0)] dX5_plainRows_1 rfl (by decide) rfl ?_
  refine im_iconst X 0 dX5_plainRows_2 (by decide) ?_
  refine im_istore_n X [1, 2, 3, 0] [(0, .ref (aP 0)), (1, .ref (aC 0)), (2, .int 0), (3, .int 0)] dX5_plainRows_3 rfl (by decide) rfl ?_
  refine i_X5_plainRows_4 X F aP aC P LP wP vP C  _ (fun x2_37 => ?_) F 0 0
  refine im_iload_n X 0 dX5_plainRows_37 rfl rfl ?_
  exact im_ireturn X x2_37 rfl rfl dX5_plainRows_38
theorem c_X5_plainRows (l : Launch) (D : va_G) (ct : im_ct) (F : Nat) (aP aC : Nat → Nat) (P : Mem) (LP : MemL) (wP : Bool) (vP : Bool) (C : Mem) : CMi l D ct yX5_plainRows cX5_plainRows 4 (some .int) 1 [.ref (aP 0), .ref (aC 0)] (cat [w_Purse ct aP P LP wP vP, w_Cloth ct aC C]) (f_X5_plainRows F P LP wP vP C) (fun z : Int32 => z) (fun z : Int32 => (cat [w_Purse ct aP P LP wP vP, w_Cloth ct aC C])) :=
  im_met (Qb := fun A => QI D A (fun z : Int32 => z) (fun z : Int32 => (cat [w_Purse ct aP P LP wP vP, w_Cloth ct aC C]))) (by decide +kernel) (Nat.le_of_ble_eq_true rfl) (fun p e s m args below meth c A X => i_X5_plainRows X F aP aC P LP wP vP C)
