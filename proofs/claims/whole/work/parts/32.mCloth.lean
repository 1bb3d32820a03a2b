noncomputable def f_X0_makeAnew (F : Nat) (C : Mem) : Option (Mem) :=
  cp 0 0 24 24 24 ((some (mr (mr C 4 (va_cpy (C 3) (C 4) (0 : Int32).toNatClampNeg (0 : Int32).toNatClampNeg (24 : Int32).toNatClampNeg)) 0 (fu (fu (C 0) 8 0) 9 0))))
set_option maxRecDepth 100000 in
set_option maxHeartbeats 4000000 in
theorem i_X0_makeAnew {p : Program} {l : Launch} {e : Env} {s : State} {m : MethodId} {args : Array Value} {below : List Frame} {meth : Method} {c : Code} {D : va_G} {ct : im_ct} {A : Nat → Prop} (X : im_X p (im_rm 1) s m args meth c D ct A RX0 cX0_makeAnew 1 none) (F : Nat) (aC : Nat → Nat) (C : Mem) : Im p l e (im_rm 1) s m args below meth c D A 1 (QV D A (fun z : Mem => (cat [w_Cloth ct aC z]))) 0 [(0, .ref (aC 0))] [] (cat [w_Cloth ct aC C]) (f_X0_makeAnew F C) := by
  unfold f_X0_makeAnew
  refine im_aload_n X 0 dX0_makeAnew_0 rfl rfl ?_
  refine im_cget X 0 0 (v := .ref (aC 3)) fl_X0_18 rfl rfl rfl dX0_makeAnew_1 ?_
  refine im_iconst X 0 dX0_makeAnew_4 (by decide) ?_
  refine im_aload_n X 0 dX0_makeAnew_5 rfl rfl ?_
  refine im_cget X 0 0 (v := .ref (aC 4)) fl_X0_21 rfl rfl rfl dX0_makeAnew_6 ?_
  refine im_iconst X 0 dX0_makeAnew_9 (by decide) ?_
  refine im_bipush X 24 dX0_makeAnew_10 (by decide) ?_
  refine im_ccopyi X 0 3 0 4 0 (wx_Cloth ct aC (C 0 6) (C 0 7) (C 0 8) (C 0 9) (C 1) (C 2) (C 3) (va_cpy (C 3) (C 4) (0 : Int32).toNatClampNeg (0 : Int32).toNatClampNeg (24 : Int32).toNatClampNeg) (C 5) (C 6)) [wx_Cloth ct aC (C 0 6) (C 0 7) (C 0 8) (C 0 9) (C 1) (C 2) (C 3) (va_cpy (C 3) (C 4) (0 : Int32).toNatClampNeg (0 : Int32).toNatClampNeg (24 : Int32).toNatClampNeg) (C 5) (C 6)] (f := (C 3)) (g := (C 4)) ac1_X0_30 ac2 ac3 ac4 rfl rfl rfl rfl rfl ⟨by decide, by decide⟩ rfl rfl dX0_makeAnew_12 ?_
  refine im_aload_n X 0 dX0_makeAnew_15 rfl rfl ?_
  refine im_iconst X 0 dX0_makeAnew_16 (by decide) ?_
  refine im_cput X 0 0 (wx_Cloth ct aC (C 0 6) (C 0 7) 0 (C 0 9) (C 1) (C 2) (C 3) (va_cpy (C 3) (C 4) (0 : Int32).toNatClampNeg (0 : Int32).toNatClampNeg (24 : Int32).toNatClampNeg) (C 5) (C 6)) [wx_Cloth ct aC (C 0 6) (C 0 7) 0 (C 0 9) (C 1) (C 2) (C 3) (va_cpy (C 3) (C 4) (0 : Int32).toNatClampNeg (0 : Int32).toNatClampNeg (24 : Int32).toNatClampNeg) (C 5) (C 6)] fl_X0_36 rfl rfl rfl rfl (Nat.le_of_ble_eq_true rfl) rfl rfl dX0_makeAnew_17 ?_
  refine im_aload_n X 0 dX0_makeAnew_20 rfl rfl ?_
  refine im_iconst X 0 dX0_makeAnew_21 (by decide) ?_
  refine im_cput X 0 0 (wx_Cloth ct aC (C 0 6) (C 0 7) 0 0 (C 1) (C 2) (C 3) (va_cpy (C 3) (C 4) (0 : Int32).toNatClampNeg (0 : Int32).toNatClampNeg (24 : Int32).toNatClampNeg) (C 5) (C 6)) [wx_Cloth ct aC (C 0 6) (C 0 7) 0 0 (C 1) (C 2) (C 3) (va_cpy (C 3) (C 4) (0 : Int32).toNatClampNeg (0 : Int32).toNatClampNeg (24 : Int32).toNatClampNeg) (C 5) (C 6)] fl_X0_40 rfl rfl rfl rfl (Nat.le_of_ble_eq_true rfl) rfl rfl dX0_makeAnew_22 ?_
  exact im_return X (mr (mr C 4 (va_cpy (C 3) (C 4) (0 : Int32).toNatClampNeg (0 : Int32).toNatClampNeg (24 : Int32).toNatClampNeg)) 0 (fu (fu (C 0) 8 0) 9 0)) rfl dX0_makeAnew_25
theorem c_X0_makeAnew (l : Launch) (D : va_G) (ct : im_ct) (F : Nat) (aC : Nat → Nat) (C : Mem) : CMv l D ct yX0_makeAnew cX0_makeAnew 1 none 1 [.ref (aC 0)] (cat [w_Cloth ct aC C]) (f_X0_makeAnew F C) (fun z : Mem => (cat [w_Cloth ct aC z])) :=
  im_met (Qb := fun A => QV D A (fun z : Mem => (cat [w_Cloth ct aC z]))) (by decide +kernel) (Nat.le_of_ble_eq_true rfl) (fun p e s m args below meth c A X => i_X0_makeAnew X F aC C)

noncomputable def f_X0_emptyAll_12 (F : Nat) (k31 : Mem → Option (Mem)) : Nat → Mem → Int32 → Option (Mem)
  | 0, _, _ => none
  | n + 1, C, x1 =>
  (if 24 ≤ x1 then k31 C else ck x1 24 (f_X0_emptyAll_12 F k31 n (mr C 3 (upd (C 3) x1.toNatClampNeg 0)) (x1 + 1)))
set_option maxRecDepth 100000 in
set_option maxHeartbeats 4000000 in
theorem i_X0_emptyAll_12 {p : Program} {l : Launch} {e : Env} {s : State} {m : MethodId} {args : Array Value} {below : List Frame} {meth : Method} {c : Code} {D : va_G} {ct : im_ct} {A : Nat → Prop} (X : im_X p (im_rm 2) s m args meth c D ct A RX0 cX0_emptyAll 2 none) (F : Nat) (aC : Nat → Nat) (k31 : Mem → Option (Mem)) (hk31 : ∀ (C : Mem), Im p l e (im_rm 2) s m args below meth c D A 2 (QV D A (fun z : Mem => (cat [w_Cloth ct aC z]))) 31 [(0, .ref (aC 0))] [] (cat [w_Cloth ct aC C]) (k31 C)) : ∀ (n : Nat) (C : Mem) (x1 : Int32), Im p l e (im_rm 2) s m args below meth c D A 2 (QV D A (fun z : Mem => (cat [w_Cloth ct aC z]))) 12 [(0, .ref (aC 0)), (1, .int x1)] [] (cat [w_Cloth ct aC C]) (f_X0_emptyAll_12 F k31 n C x1) := by
  intro n
  induction n with
  | zero => intros; exact im_none
  | succ n ih =>
    intro C x1
    unfold f_X0_emptyAll_12
    refine im_iload_n X 1 dX0_emptyAll_12 rfl rfl ?_
    refine im_bipush X 24 dX0_emptyAll_13 (by decide) ?_
    refine im_icmp_ge (tgt := 31) X dX0_emptyAll_15 rfl ?_ ?_
    · refine im_lv [0] [(0, .ref (aC 0))] rfl ?_
      exact hk31 C
    · refine im_aload_n X 0 dX0_emptyAll_18 rfl rfl ?_
      refine im_cget X 0 0 (v := .ref (aC 3)) fl_X0_18 rfl rfl rfl dX0_emptyAll_19 ?_
      refine im_iload_n X 1 dX0_emptyAll_22 rfl rfl ?_
      refine im_iconst X 0 dX0_emptyAll_23 (by decide) ?_
      refine im_ciast X 0 3 0 (wx_Cloth ct aC (C 0 6) (C 0 7) (C 0 8) (C 0 9) (C 1) (C 2) (upd (C 3) x1.toNatClampNeg 0) (C 4) (C 5) (C 6)) [wx_Cloth ct aC (C 0 6) (C 0 7) (C 0 8) (C 0 9) (C 1) (C 2) (upd (C 3) x1.toNatClampNeg 0) (C 4) (C 5) (C 6)] (f := (C 3)) rfl rfl rfl rfl rfl dX0_emptyAll_24 ?_
      refine im_iinc X 1 1 [1, 0] [(0, .ref (aC 0)), (1, .int (x1 + 1))] dX0_emptyAll_25 (by decide) rfl (by decide) rfl ?_
      refine im_goto (tgt := 12) X dX0_emptyAll_28 rfl ?_
      exact ih (mr C 3 (upd (C 3) x1.toNatClampNeg 0)) (x1 + 1)
noncomputable def f_X0_emptyAll (F : Nat) (C : Mem) : Option (Mem) :=
  f_X0_emptyAll_12 F (fun C_31 => (f_X0_makeAnew F C_31).bind (fun z32 => (some z32))) F (mr C 0 (fu (fu (C 0) 6 0) 7 0)) 0
set_option maxRecDepth 100000 in
set_option maxHeartbeats 4000000 in
theorem i_X0_emptyAll {p : Program} {l : Launch} {e : Env} {s : State} {m : MethodId} {args : Array Value} {below : List Frame} {meth : Method} {c : Code} {D : va_G} {ct : im_ct} {A : Nat → Prop} (X : im_X p (im_rm 2) s m args meth c D ct A RX0 cX0_emptyAll 2 none) (F : Nat) (aC : Nat → Nat) (C : Mem) : Im p l e (im_rm 2) s m args below meth c D A 2 (QV D A (fun z : Mem => (cat [w_Cloth ct aC z]))) 0 [(0, .ref (aC 0))] [] (cat [w_Cloth ct aC C]) (f_X0_emptyAll F C) := by
  unfold f_X0_emptyAll
  refine im_aload_n X 0 dX0_emptyAll_0 rfl rfl ?_
  refine im_iconst X 0 dX0_emptyAll_1 (by decide) ?_
  refine im_cput X 0 0 (wx_Cloth ct aC 0 (C 0 7) (C 0 8) (C 0 9) (C 1) (C 2) (C 3) (C 4) (C 5) (C 6)) [wx_Cloth ct aC 0 (C 0 7) (C 0 8) (C 0 9) (C 1) (C 2) (C 3) (C 4) (C 5) (C 6)] fl_X0_43 rfl rfl rfl rfl (Nat.le_of_ble_eq_true rfl) rfl rfl dX0_emptyAll_2 ?_
  refine im_aload_n X 0 dX0_emptyAll_5 rfl rfl ?_
  refine im_iconst X 0 dX0_emptyAll_6 (by decide) ?_
  refine im_cput X 0 0 (wx_Cloth ct aC 0 0 (C 0 8) (C 0 9) (C 1) (C 2) (C 3) (C 4) (C 5) (C 6)) [wx_Cloth ct aC 0 0 (C 0 8) (C 0 9) (C 1) (C 2) (C 3) (C 4) (C 5) (C 6)] fl_X0_46 rfl rfl rfl rfl (Nat.le_of_ble_eq_true rfl) rfl rfl dX0_emptyAll_7 ?_
  refine im_iconst X 0 dX0_emptyAll_10 (by decide) ?_
  refine im_istore_n X [1, 0] [(0, .ref (aC 0)), (1, .int 0)] dX0_emptyAll_11 rfl (by decide) rfl ?_
  refine i_X0_emptyAll_12 X F aC   _ (fun C_31 => ?_) F (mr C 0 (fu (fu (C 0) 6 0) 7 0)) 0
  refine im_aload_n X 0 dX0_emptyAll_31 rfl rfl ?_
  refine im_ccvV X [] [] [w_Cloth ct aC C_31] [w_Cloth ct aC C_31] [0] (fun z32 => [w_Cloth ct aC z32]) 0 0 0 rfl rfl rfl cl_X0_49 (c_X0_makeAnew l D ct F aC C_31) rfl (by decide) (fun _ => lc fa_Cloth (rfl)) rfl ⟨by decide, by decide⟩ (Nat.le_of_ble_eq_true rfl) rfl dX0_emptyAll_32 (fun z32 => ?_)
  refine im_ws (cat [w_Cloth ct aC z32]) rfl ?_
  exact im_return X z32 rfl dX0_emptyAll_35
theorem c_X0_emptyAll (l : Launch) (D : va_G) (ct : im_ct) (F : Nat) (aC : Nat → Nat) (C : Mem) : CMv l D ct yX0_emptyAll cX0_emptyAll 2 none 2 [.ref (aC 0)] (cat [w_Cloth ct aC C]) (f_X0_emptyAll F C) (fun z : Mem => (cat [w_Cloth ct aC z])) :=
  im_met (Qb := fun A => QV D A (fun z : Mem => (cat [w_Cloth ct aC z]))) (by decide +kernel) (Nat.le_of_ble_eq_true rfl) (fun p e s m args below meth c A X => i_X0_emptyAll X F aC C)

noncomputable def f_X0_mayAddRow (F : Nat) (C : Mem) : Option (Int32) :=
  (if (C 0 6) ≤ 0 then (some 0) else (if 4 ≤ (C 0 7) then (some 0) else (some 1)))
set_option maxRecDepth 100000 in
set_option maxHeartbeats 4000000 in
theorem i_X0_mayAddRow {p : Program} {l : Launch} {e : Env} {s : State} {m : MethodId} {args : Array Value} {below : List Frame} {meth : Method} {c : Code} {D : va_G} {ct : im_ct} {A : Nat → Prop} (X : im_X p (im_rm 0) s m args meth c D ct A RX0 cX0_mayAddRow 1 (some .boolean)) (F : Nat) (aC : Nat → Nat) (C : Mem) : Im p l e (im_rm 0) s m args below meth c D A 1 (QI D A (fun z : Int32 => z) (fun z : Int32 => (cat [w_Cloth ct aC C]))) 0 [(0, .ref (aC 0))] [] (cat [w_Cloth ct aC C]) (f_X0_mayAddRow F C) := by
  unfold f_X0_mayAddRow
  refine im_aload_n X 0 dX0_mayAddRow_0 rfl rfl ?_
  refine im_cget X 0 0 (v := .int (C 0 6)) fl_X0_43 rfl rfl rfl dX0_mayAddRow_1 ?_
  refine im_if_le (tgt := 19) X dX0_mayAddRow_4 rfl ?_ ?_
  · refine im_iconst X 0 dX0_mayAddRow_19 (by decide) ?_
    exact im_zreturn X 0 rfl rfl rfl dX0_mayAddRow_20
  · refine im_aload_n X 0 dX0_mayAddRow_7 rfl rfl ?_
    refine im_cget X 0 0 (v := .int (C 0 7)) fl_X0_46 rfl rfl rfl dX0_mayAddRow_8 ?_
    refine im_iconst X 4 dX0_mayAddRow_11 (by decide) ?_
    refine im_icmp_ge (tgt := 19) X dX0_mayAddRow_12 rfl ?_ ?_
    · refine im_iconst X 0 dX0_mayAddRow_19 (by decide) ?_
      exact im_zreturn X 0 rfl rfl rfl dX0_mayAddRow_20
    · refine im_iconst X 1 dX0_mayAddRow_15 (by decide) ?_
      refine im_goto (tgt := 20) X dX0_mayAddRow_16 rfl ?_
      exact im_zreturn X 1 rfl rfl rfl dX0_mayAddRow_20
theorem c_X0_mayAddRow (l : Launch) (D : va_G) (ct : im_ct) (F : Nat) (aC : Nat → Nat) (C : Mem) : CMi l D ct yX0_mayAddRow cX0_mayAddRow 1 (some .boolean) 0 [.ref (aC 0)] (cat [w_Cloth ct aC C]) (f_X0_mayAddRow F C) (fun z : Int32 => z) (fun z : Int32 => (cat [w_Cloth ct aC C])) :=
  im_met (Qb := fun A => QI D A (fun z : Int32 => z) (fun z : Int32 => (cat [w_Cloth ct aC C]))) (by decide +kernel) (Nat.le_of_ble_eq_true rfl) (fun p e s m args below meth c A X => i_X0_mayAddRow X F aC C)

noncomputable def f_X0_hasCell (F : Nat) (C : Mem) (x1 : Int32) (x2 : Int32) : Option (Int32) :=
  (if x1 < 0 then (some 0) else (if (C 0 7) ≤ x1 then (some 0) else (if x2 < 0 then (some 0) else (if (C 0 6) ≤ x2 then (some 0) else (some 1)))))
set_option maxRecDepth 100000 in
set_option maxHeartbeats 4000000 in
theorem i_X0_hasCell {p : Program} {l : Launch} {e : Env} {s : State} {m : MethodId} {args : Array Value} {below : List Frame} {meth : Method} {c : Code} {D : va_G} {ct : im_ct} {A : Nat → Prop} (X : im_X p (im_rm 0) s m args meth c D ct A RX0 cX0_hasCell 3 (some .boolean)) (F : Nat) (aC : Nat → Nat) (C : Mem) (x1 : Int32) (x2 : Int32) : Im p l e (im_rm 0) s m args below meth c D A 3 (QI D A (fun z : Int32 => z) (fun z : Int32 => (cat [w_Cloth ct aC C]))) 0 [(0, .ref (aC 0)), (1, .int x1), (2, .int x2)] [] (cat [w_Cloth ct aC C]) (f_X0_hasCell F C x1 x2) := by
  unfold f_X0_hasCell
  refine im_iload_n X 1 dX0_hasCell_0 rfl rfl ?_
  refine im_if_lt (tgt := 28) X dX0_hasCell_1 rfl ?_ ?_
  · refine im_iconst X 0 dX0_hasCell_28 (by decide) ?_
    exact im_zreturn X 0 rfl rfl rfl dX0_hasCell_29
  · refine im_iload_n X 1 dX0_hasCell_4 rfl rfl ?_
    refine im_aload_n X 0 dX0_hasCell_5 rfl rfl ?_
    refine im_cget X 0 0 (v := .int (C 0 7)) fl_X0_46 rfl rfl rfl dX0_hasCell_6 ?_
    refine im_icmp_ge (tgt := 28) X dX0_hasCell_9 rfl ?_ ?_
    · refine im_iconst X 0 dX0_hasCell_28 (by decide) ?_
      exact im_zreturn X 0 rfl rfl rfl dX0_hasCell_29
    · refine im_iload_n X 2 dX0_hasCell_12 rfl rfl ?_
      refine im_if_lt (tgt := 28) X dX0_hasCell_13 rfl ?_ ?_
      · refine im_iconst X 0 dX0_hasCell_28 (by decide) ?_
        exact im_zreturn X 0 rfl rfl rfl dX0_hasCell_29
      · refine im_iload_n X 2 dX0_hasCell_16 rfl rfl ?_
        refine im_aload_n X 0 dX0_hasCell_17 rfl rfl ?_
        refine im_cget X 0 0 (v := .int (C 0 6)) fl_X0_43 rfl rfl rfl dX0_hasCell_18 ?_
        refine im_icmp_ge (tgt := 28) X dX0_hasCell_21 rfl ?_ ?_
        · refine im_iconst X 0 dX0_hasCell_28 (by decide) ?_
          exact im_zreturn X 0 rfl rfl rfl dX0_hasCell_29
        · refine im_iconst X 1 dX0_hasCell_24 (by decide) ?_
          refine im_goto (tgt := 29) X dX0_hasCell_25 rfl ?_
          exact im_zreturn X 1 rfl rfl rfl dX0_hasCell_29
theorem c_X0_hasCell (l : Launch) (D : va_G) (ct : im_ct) (F : Nat) (aC : Nat → Nat) (C : Mem) (x1 : Int32) (x2 : Int32) : CMi l D ct yX0_hasCell cX0_hasCell 3 (some .boolean) 0 [.ref (aC 0), .int x1, .int x2] (cat [w_Cloth ct aC C]) (f_X0_hasCell F C x1 x2) (fun z : Int32 => z) (fun z : Int32 => (cat [w_Cloth ct aC C])) :=
  im_met (Qb := fun A => QI D A (fun z : Int32 => z) (fun z : Int32 => (cat [w_Cloth ct aC C]))) (by decide +kernel) (Nat.le_of_ble_eq_true rfl) (fun p e s m args below meth c A X => i_X0_hasCell X F aC C x1 x2)

noncomputable def f_X0_hasRow (F : Nat) (C : Mem) (x1 : Int32) : Option (Int32) :=
  (if x1 < 0 then (some 0) else (if (C 0 7) ≤ x1 then (some 0) else (some 1)))
set_option maxRecDepth 100000 in
set_option maxHeartbeats 4000000 in
theorem i_X0_hasRow {p : Program} {l : Launch} {e : Env} {s : State} {m : MethodId} {args : Array Value} {below : List Frame} {meth : Method} {c : Code} {D : va_G} {ct : im_ct} {A : Nat → Prop} (X : im_X p (im_rm 0) s m args meth c D ct A RX0 cX0_hasRow 2 (some .boolean)) (F : Nat) (aC : Nat → Nat) (C : Mem) (x1 : Int32) : Im p l e (im_rm 0) s m args below meth c D A 2 (QI D A (fun z : Int32 => z) (fun z : Int32 => (cat [w_Cloth ct aC C]))) 0 [(0, .ref (aC 0)), (1, .int x1)] [] (cat [w_Cloth ct aC C]) (f_X0_hasRow F C x1) := by
  unfold f_X0_hasRow
  refine im_iload_n X 1 dX0_hasRow_0 rfl rfl ?_
  refine im_if_lt (tgt := 16) X dX0_hasRow_1 rfl ?_ ?_
  · refine im_iconst X 0 dX0_hasRow_16 (by decide) ?_
    exact im_zreturn X 0 rfl rfl rfl dX0_hasRow_17
  · refine im_iload_n X 1 dX0_hasRow_4 rfl rfl ?_
    refine im_aload_n X 0 dX0_hasRow_5 rfl rfl ?_
    refine im_cget X 0 0 (v := .int (C 0 7)) fl_X0_46 rfl rfl rfl dX0_hasRow_6 ?_
    refine im_icmp_ge (tgt := 16) X dX0_hasRow_9 rfl ?_ ?_
    · refine im_iconst X 0 dX0_hasRow_16 (by decide) ?_
      exact im_zreturn X 0 rfl rfl rfl dX0_hasRow_17
    · refine im_iconst X 1 dX0_hasRow_12 (by decide) ?_
      refine im_goto (tgt := 17) X dX0_hasRow_13 rfl ?_
      exact im_zreturn X 1 rfl rfl rfl dX0_hasRow_17
theorem c_X0_hasRow (l : Launch) (D : va_G) (ct : im_ct) (F : Nat) (aC : Nat → Nat) (C : Mem) (x1 : Int32) : CMi l D ct yX0_hasRow cX0_hasRow 2 (some .boolean) 0 [.ref (aC 0), .int x1] (cat [w_Cloth ct aC C]) (f_X0_hasRow F C x1) (fun z : Int32 => z) (fun z : Int32 => (cat [w_Cloth ct aC C])) :=
  im_met (Qb := fun A => QI D A (fun z : Int32 => z) (fun z : Int32 => (cat [w_Cloth ct aC C]))) (by decide +kernel) (Nat.le_of_ble_eq_true rfl) (fun p e s m args below meth c A X => i_X0_hasRow X F aC C x1)

noncomputable def f_X0_isAmount (F : Nat) (x1 : Int32) : Option (Int32) :=
  (if x1 < 1 then (some 0) else (if 99 < x1 then (some 0) else (some 1)))
set_option maxRecDepth 100000 in
set_option maxHeartbeats 4000000 in
theorem i_X0_isAmount {p : Program} {l : Launch} {e : Env} {s : State} {m : MethodId} {args : Array Value} {below : List Frame} {meth : Method} {c : Code} {D : va_G} {ct : im_ct} {A : Nat → Prop} (X : im_X p (im_rm 0) s m args meth c D ct A RX0 cX0_isAmount 2 (some .boolean)) (F : Nat) (aC : Nat → Nat) (x1 : Int32) : Im p l e (im_rm 0) s m args below meth c D A 2 (QI D A (fun z : Int32 => z) (fun z : Int32 => (cat []))) 0 [(0, .ref (aC 0)), (1, .int x1)] [] (cat []) (f_X0_isAmount F x1) := by
  unfold f_X0_isAmount
  refine im_iload_n X 1 dX0_isAmount_0 rfl rfl ?_
  refine im_iconst X 1 dX0_isAmount_1 (by decide) ?_
  refine im_icmp_lt (tgt := 15) X dX0_isAmount_2 rfl ?_ ?_
  · refine im_iconst X 0 dX0_isAmount_15 (by decide) ?_
    exact im_zreturn X 0 rfl rfl rfl dX0_isAmount_16
  · refine im_iload_n X 1 dX0_isAmount_5 rfl rfl ?_
    refine im_bipush X 99 dX0_isAmount_6 (by decide) ?_
    refine im_icmp_gt (tgt := 15) X dX0_isAmount_8 rfl ?_ ?_
    · refine im_iconst X 0 dX0_isAmount_15 (by decide) ?_
      exact im_zreturn X 0 rfl rfl rfl dX0_isAmount_16
    · refine im_iconst X 1 dX0_isAmount_11 (by decide) ?_
      refine im_goto (tgt := 16) X dX0_isAmount_12 rfl ?_
      exact im_zreturn X 1 rfl rfl rfl dX0_isAmount_16
theorem c_X0_isAmount (l : Launch) (D : va_G) (ct : im_ct) (F : Nat) (aC : Nat → Nat) (x1 : Int32) : CMi l D ct yX0_isAmount cX0_isAmount 2 (some .boolean) 0 [.ref (aC 0), .int x1] (cat []) (f_X0_isAmount F x1) (fun z : Int32 => z) (fun z : Int32 => (cat [])) :=
  im_met (Qb := fun A => QI D A (fun z : Int32 => z) (fun z : Int32 => (cat []))) (by decide +kernel) (Nat.le_of_ble_eq_true rfl) (fun p e s m args below meth c A X => i_X0_isAmount X F aC x1)

noncomputable def f_X0_hasColumn (F : Nat) (C : Mem) (x1 : Int32) : Option (Int32) :=
  (if x1 < 0 then (some 0) else (if (C 0 6) ≤ x1 then (some 0) else (some 1)))
set_option maxRecDepth 100000 in
set_option maxHeartbeats 4000000 in
theorem i_X0_hasColumn {p : Program} {l : Launch} {e : Env} {s : State} {m : MethodId} {args : Array Value} {below : List Frame} {meth : Method} {c : Code} {D : va_G} {ct : im_ct} {A : Nat → Prop} (X : im_X p (im_rm 0) s m args meth c D ct A RX0 cX0_hasColumn 2 (some .boolean)) (F : Nat) (aC : Nat → Nat) (C : Mem) (x1 : Int32) : Im p l e (im_rm 0) s m args below meth c D A 2 (QI D A (fun z : Int32 => z) (fun z : Int32 => (cat [w_Cloth ct aC C]))) 0 [(0, .ref (aC 0)), (1, .int x1)] [] (cat [w_Cloth ct aC C]) (f_X0_hasColumn F C x1) := by
  unfold f_X0_hasColumn
  refine im_iload_n X 1 dX0_hasColumn_0 rfl rfl ?_
  refine im_if_lt (tgt := 16) X dX0_hasColumn_1 rfl ?_ ?_
  · refine im_iconst X 0 dX0_hasColumn_16 (by decide) ?_
    exact im_zreturn X 0 rfl rfl rfl dX0_hasColumn_17
  · refine im_iload_n X 1 dX0_hasColumn_4 rfl rfl ?_
    refine im_aload_n X 0 dX0_hasColumn_5 rfl rfl ?_
    refine im_cget X 0 0 (v := .int (C 0 6)) fl_X0_43 rfl rfl rfl dX0_hasColumn_6 ?_
    refine im_icmp_ge (tgt := 16) X dX0_hasColumn_9 rfl ?_ ?_
    · refine im_iconst X 0 dX0_hasColumn_16 (by decide) ?_
      exact im_zreturn X 0 rfl rfl rfl dX0_hasColumn_17
    · refine im_iconst X 1 dX0_hasColumn_12 (by decide) ?_
      refine im_goto (tgt := 17) X dX0_hasColumn_13 rfl ?_
      exact im_zreturn X 1 rfl rfl rfl dX0_hasColumn_17
theorem c_X0_hasColumn (l : Launch) (D : va_G) (ct : im_ct) (F : Nat) (aC : Nat → Nat) (C : Mem) (x1 : Int32) : CMi l D ct yX0_hasColumn cX0_hasColumn 2 (some .boolean) 0 [.ref (aC 0), .int x1] (cat [w_Cloth ct aC C]) (f_X0_hasColumn F C x1) (fun z : Int32 => z) (fun z : Int32 => (cat [w_Cloth ct aC C])) :=
  im_met (Qb := fun A => QI D A (fun z : Int32 => z) (fun z : Int32 => (cat [w_Cloth ct aC C]))) (by decide +kernel) (Nat.le_of_ble_eq_true rfl) (fun p e s m args below meth c A X => i_X0_hasColumn X F aC C x1)

noncomputable def f_X0_describe (F : Nat) (C : Mem) (E : Mem) (x2 : Int32) (x3 : Int32) (x4 : Int32) (x5 : Int32) (x6 : Int32) : Option (Int32 × Mem) :=
  (f_X0_hasCell F C x3 x5).bind (fun z4 => (if z4 = 0 then (some (0, E)) else (if x2 = 0 then (f_X1_tell F E ((x3 * 6) + x5) x6 ((x3 * 6) + x5) 0).bind (fun z64 => (f_X0_isAmount F x6).bind (fun z70 => (cb z70 (some (z70, z64))))) else if x2 = 1 then (f_X1_tell F E ((x3 * 6) + x5) (-x6) ((x3 * 6) + x5) 0).bind (fun z83 => (f_X0_isAmount F x6).bind (fun z89 => (cb z89 (some (z89, z83))))) else if x2 = 2 then (f_X0_hasColumn F C (x5 + 1)).bind (fun z98 => (if z98 = 0 then (some (0, E)) else ck (x5 + 1) 6 ((f_X1_tell F E ((x3 * 6) + x5) (-((C 1) ((x5 + 1)).toNatClampNeg)) (((x3 * 6) + x5) + 1) 1).bind (fun z124 => (some (1, z124)))))) else if x2 = 3 then (if 1 ≤ x5 then ck x5 6 ((f_X1_tell F E ((x3 * 6) + x5) (-1) (((x3 * 6) + x5) - 1) ((C 1) x5.toNatClampNeg)).bind (fun z152 => (some (1, z152)))) else (some (0, E))) else if x2 = 4 then (f_X0_hasRow F C x4).bind (fun z160 => (if z160 = 0 then (some (0, E)) else (if x4 = x3 then (some (0, E)) else (f_X1_tell F E ((x3 * 6) + x5) (-x6) ((x4 * 6) + x5) x6).bind (fun z190 => (f_X0_isAmount F x6).bind (fun z196 => (cb z196 (some (z196, z190)))))))) else (some (0, E)))))
set_option maxRecDepth 100000 in
set_option maxHeartbeats 4000000 in
theorem i_X0_describe {p : Program} {l : Launch} {e : Env} {s : State} {m : MethodId} {args : Array Value} {below : List Frame} {meth : Method} {c : Code} {D : va_G} {ct : im_ct} {A : Nat → Prop} (X : im_X p (im_rm 1) s m args meth c D ct A RX0 cX0_describe 8 (some .boolean)) (F : Nat) (aC aE : Nat → Nat) (C : Mem) (E : Mem) (x2 : Int32) (x3 : Int32) (x4 : Int32) (x5 : Int32) (x6 : Int32) : Im p l e (im_rm 1) s m args below meth c D A 8 (QI D A (fun z : Int32 × Mem => z.1) (fun z : Int32 × Mem => (cat [w_Cloth ct aC C, w_Effect ct aE z.2]))) 0 [(0, .ref (aC 0)), (1, .ref (aE 0)), (2, .int x2), (3, .int x3), (4, .int x4), (5, .int x5), (6, .int x6)] [] (cat [w_Cloth ct aC C, w_Effect ct aE E]) (f_X0_describe F C E x2 x3 x4 x5 x6) := by
  unfold f_X0_describe
  refine im_aload_n X 0 dX0_describe_0 rfl rfl ?_
  refine im_iload_n X 3 dX0_describe_1 rfl rfl ?_
  refine im_iload X 5 dX0_describe_2 rfl ?_
  refine im_cciV X [.int x3, .int x5] [] [w_Cloth ct aC C, w_Effect ct aE E] [w_Cloth ct aC C] [0] (fun z4 => [w_Cloth ct aC C]) 0 0 0 rfl rfl rfl cl_X0_63 (c_X0_hasCell l D ct F aC C x3 x5) rfl (by decide) (fun _ => lc rfl (rfl)) rfl ⟨by decide, by decide⟩ (Nat.le_of_ble_eq_true rfl) rfl dX0_describe_4 (fun z4 => ?_)
  refine im_ws (cat [w_Cloth ct aC C, w_Effect ct aE E]) rfl ?_
  refine im_if_ne (tgt := 12) X dX0_describe_7 rfl ?_ ?_
  · refine im_iload_n X 3 dX0_describe_12 rfl rfl ?_
    refine im_bipush X 6 dX0_describe_13 (by decide) ?_
    refine im_imul X dX0_describe_15 ?_
    refine im_iload X 5 dX0_describe_16 rfl ?_
    refine im_iadd X dX0_describe_18 ?_
    refine im_istore X [1, 2, 3, 4, 5, 6, 7, 0] [(0, .ref (aC 0)), (1, .ref (aE 0)), (2, .int x2), (3, .int x3), (4, .int x4), (5, .int x5), (6, .int x6), (7, .int ((x3 * 6) + x5))] dX0_describe_19 (by decide) rfl ?_
    refine im_iload_n X 2 dX0_describe_21 rfl rfl ?_
    refine im_ite (fun q0 => ?_) (fun q0 => ?_)
    · refine im_tabIn (tgt := 56) X dX0_describe_22 (by rw [q0]; decide) (by rw [q0]; decide) (by rw [q0]; rfl) rfl ?_
      refine im_aload_n X 1 dX0_describe_56 rfl rfl ?_
      refine im_iload X 7 dX0_describe_57 rfl ?_
      refine im_iload X 6 dX0_describe_59 rfl ?_
      refine im_iload X 7 dX0_describe_61 rfl ?_
      refine im_iconst X 0 dX0_describe_63 (by decide) ?_
      refine im_ccvV X [.int ((x3 * 6) + x5), .int x6, .int ((x3 * 6) + x5), .int 0] [] [w_Cloth ct aC C, w_Effect ct aE E] [w_Effect ct aE E] [1] (fun z64 => [w_Effect ct aE z64]) 1 0 1 rfl rfl rfl cl_X0_67 (c_X1_tell l D ct F aE E ((x3 * 6) + x5) x6 ((x3 * 6) + x5) 0) rfl (by decide) (fun _ => lc fa_Effect (rfl)) rfl ⟨by decide, by decide⟩ (Nat.le_of_ble_eq_true rfl) rfl dX0_describe_64 (fun z64 => ?_)
      refine im_ws (cat [w_Cloth ct aC C, w_Effect ct aE z64]) rfl ?_
      refine im_aload_n X 0 dX0_describe_67 rfl rfl ?_
      refine im_iload X 6 dX0_describe_68 rfl ?_
      refine im_cciV X [.int x6] [] [w_Cloth ct aC C, w_Effect ct aE z64] [] [] (fun z70 => []) 0 0 0 rfl rfl rfl cl_X0_73 (c_X0_isAmount l D ct F aC x6) rfl (by decide) (fun _ => rfl) rfl ⟨by decide, by decide⟩ (Nat.le_of_ble_eq_true rfl) rfl dX0_describe_70 (fun z70 => ?_)
      refine im_ws (cat [w_Cloth ct aC C, w_Effect ct aE z64]) rfl ?_
      exact im_zreturnc X (z70, z64) rfl rfl dX0_describe_73
    · refine im_ite (fun q1 => ?_) (fun q1 => ?_)
      · refine im_tabIn (tgt := 74) X dX0_describe_22 (by rw [q1]; decide) (by rw [q1]; decide) (by rw [q1]; rfl) rfl ?_
        refine im_aload_n X 1 dX0_describe_74 rfl rfl ?_
        refine im_iload X 7 dX0_describe_75 rfl ?_
        refine im_iload X 6 dX0_describe_77 rfl ?_
        refine im_ineg X dX0_describe_79 ?_
        refine im_iload X 7 dX0_describe_80 rfl ?_
        refine im_iconst X 0 dX0_describe_82 (by decide) ?_
        refine im_ccvV X [.int ((x3 * 6) + x5), .int (-x6), .int ((x3 * 6) + x5), .int 0] [] [w_Cloth ct aC C, w_Effect ct aE E] [w_Effect ct aE E] [1] (fun z83 => [w_Effect ct aE z83]) 1 0 1 rfl rfl rfl cl_X0_67 (c_X1_tell l D ct F aE E ((x3 * 6) + x5) (-x6) ((x3 * 6) + x5) 0) rfl (by decide) (fun _ => lc fa_Effect (rfl)) rfl ⟨by decide, by decide⟩ (Nat.le_of_ble_eq_true rfl) rfl dX0_describe_83 (fun z83 => ?_)
        refine im_ws (cat [w_Cloth ct aC C, w_Effect ct aE z83]) rfl ?_
        refine im_aload_n X 0 dX0_describe_86 rfl rfl ?_
        refine im_iload X 6 dX0_describe_87 rfl ?_
        refine im_cciV X [.int x6] [] [w_Cloth ct aC C, w_Effect ct aE z83] [] [] (fun z89 => []) 0 0 0 rfl rfl rfl cl_X0_73 (c_X0_isAmount l D ct F aC x6) rfl (by decide) (fun _ => rfl) rfl ⟨by decide, by decide⟩ (Nat.le_of_ble_eq_true rfl) rfl dX0_describe_89 (fun z89 => ?_)
        refine im_ws (cat [w_Cloth ct aC C, w_Effect ct aE z83]) rfl ?_
        exact im_zreturnc X (z89, z83) rfl rfl dX0_describe_92
      · refine im_ite (fun q2 => ?_) (fun q2 => ?_)
        · refine im_tabIn (tgt := 93) X dX0_describe_22 (by rw [q2]; decide) (by rw [q2]; decide) (by rw [q2]; rfl) rfl ?_
          refine im_aload_n X 0 dX0_describe_93 rfl rfl ?_
          refine im_iload X 5 dX0_describe_94 rfl ?_
          refine im_iconst X 1 dX0_describe_96 (by decide) ?_
          refine im_iadd X dX0_describe_97 ?_
          refine im_cciV X [.int (x5 + 1)] [] [w_Cloth ct aC C, w_Effect ct aE E] [w_Cloth ct aC C] [0] (fun z98 => [w_Cloth ct aC C]) 0 0 0 rfl rfl rfl cl_X0_77 (c_X0_hasColumn l D ct F aC C (x5 + 1)) rfl (by decide) (fun _ => lc rfl (rfl)) rfl ⟨by decide, by decide⟩ (Nat.le_of_ble_eq_true rfl) rfl dX0_describe_98 (fun z98 => ?_)
          refine im_ws (cat [w_Cloth ct aC C, w_Effect ct aE E]) rfl ?_
          refine im_if_ne (tgt := 106) X dX0_describe_101 rfl ?_ ?_
          · refine im_aload_n X 1 dX0_describe_106 rfl rfl ?_
            refine im_iload X 7 dX0_describe_107 rfl ?_
            refine im_aload_n X 0 dX0_describe_109 rfl rfl ?_
            refine im_cget X 0 0 (v := .ref (aC 1)) fl_X0_9 rfl rfl rfl dX0_describe_110 ?_
            refine im_iload X 5 dX0_describe_113 rfl ?_
            refine im_iconst X 1 dX0_describe_115 (by decide) ?_
            refine im_iadd X dX0_describe_116 ?_
            refine im_ciald X 0 1 0 (f := (C 1)) rfl rfl rfl dX0_describe_117 ?_
            refine im_ineg X dX0_describe_118 ?_
            refine im_iload X 7 dX0_describe_119 rfl ?_
            refine im_iconst X 1 dX0_describe_121 (by decide) ?_
            refine im_iadd X dX0_describe_122 ?_
            refine im_iconst X 1 dX0_describe_123 (by decide) ?_
            refine im_ccvV X [.int ((x3 * 6) + x5), .int (-((C 1) ((x5 + 1)).toNatClampNeg)), .int (((x3 * 6) + x5) + 1), .int 1] [] [w_Cloth ct aC C, w_Effect ct aE E] [w_Effect ct aE E] [1] (fun z124 => [w_Effect ct aE z124]) 1 0 1 rfl rfl rfl cl_X0_67 (c_X1_tell l D ct F aE E ((x3 * 6) + x5) (-((C 1) ((x5 + 1)).toNatClampNeg)) (((x3 * 6) + x5) + 1) 1) rfl (by decide) (fun _ => lc fa_Effect (rfl)) rfl ⟨by decide, by decide⟩ (Nat.le_of_ble_eq_true rfl) rfl dX0_describe_124 (fun z124 => ?_)
            refine im_ws (cat [w_Cloth ct aC C, w_Effect ct aE z124]) rfl ?_
            refine im_iconst X 1 dX0_describe_127 (by decide) ?_
            exact im_zreturn X (1, z124) rfl rfl rfl dX0_describe_128
          · refine im_iconst X 0 dX0_describe_104 (by decide) ?_
            exact im_zreturn X (0, E) rfl rfl rfl dX0_describe_105
        · refine im_ite (fun q3 => ?_) (fun q3 => ?_)
          · refine im_tabIn (tgt := 129) X dX0_describe_22 (by rw [q3]; decide) (by rw [q3]; decide) (by rw [q3]; rfl) rfl ?_
            refine im_iload X 5 dX0_describe_129 rfl ?_
            refine im_iconst X 1 dX0_describe_131 (by decide) ?_
            refine im_icmp_ge (tgt := 137) X dX0_describe_132 rfl ?_ ?_
            · refine im_aload_n X 1 dX0_describe_137 rfl rfl ?_
              refine im_iload X 7 dX0_describe_138 rfl ?_
              refine im_iconst X (-1) dX0_describe_140 (by decide) ?_
              refine im_iload X 7 dX0_describe_141 rfl ?_
              refine im_iconst X 1 dX0_describe_143 (by decide) ?_
              refine im_isub X dX0_describe_144 ?_
              refine im_aload_n X 0 dX0_describe_145 rfl rfl ?_
              refine im_cget X 0 0 (v := .ref (aC 1)) fl_X0_9 rfl rfl rfl dX0_describe_146 ?_
              refine im_iload X 5 dX0_describe_149 rfl ?_
              refine im_ciald X 0 1 0 (f := (C 1)) rfl rfl rfl dX0_describe_151 ?_
              refine im_ccvV X [.int ((x3 * 6) + x5), .int (-1), .int (((x3 * 6) + x5) - 1), .int ((C 1) x5.toNatClampNeg)] [] [w_Cloth ct aC C, w_Effect ct aE E] [w_Effect ct aE E] [1] (fun z152 => [w_Effect ct aE z152]) 1 0 1 rfl rfl rfl cl_X0_67 (c_X1_tell l D ct F aE E ((x3 * 6) + x5) (-1) (((x3 * 6) + x5) - 1) ((C 1) x5.toNatClampNeg)) rfl (by decide) (fun _ => lc fa_Effect (rfl)) rfl ⟨by decide, by decide⟩ (Nat.le_of_ble_eq_true rfl) rfl dX0_describe_152 (fun z152 => ?_)
              refine im_ws (cat [w_Cloth ct aC C, w_Effect ct aE z152]) rfl ?_
              refine im_iconst X 1 dX0_describe_155 (by decide) ?_
              exact im_zreturn X (1, z152) rfl rfl rfl dX0_describe_156
            · refine im_iconst X 0 dX0_describe_135 (by decide) ?_
              exact im_zreturn X (0, E) rfl rfl rfl dX0_describe_136
          · refine im_ite (fun q4 => ?_) (fun q4 => ?_)
            · refine im_tabIn (tgt := 157) X dX0_describe_22 (by rw [q4]; decide) (by rw [q4]; decide) (by rw [q4]; rfl) rfl ?_
              refine im_aload_n X 0 dX0_describe_157 rfl rfl ?_
              refine im_iload X 4 dX0_describe_158 rfl ?_
              refine im_cciV X [.int x4] [] [w_Cloth ct aC C, w_Effect ct aE E] [w_Cloth ct aC C] [0] (fun z160 => [w_Cloth ct aC C]) 0 0 0 rfl rfl rfl cl_X0_80 (c_X0_hasRow l D ct F aC C x4) rfl (by decide) (fun _ => lc rfl (rfl)) rfl ⟨by decide, by decide⟩ (Nat.le_of_ble_eq_true rfl) rfl dX0_describe_160 (fun z160 => ?_)
              refine im_ws (cat [w_Cloth ct aC C, w_Effect ct aE E]) rfl ?_
              refine im_if_eq (tgt := 172) X dX0_describe_163 rfl ?_ ?_
              · refine im_iconst X 0 dX0_describe_172 (by decide) ?_
                exact im_zreturn X (0, E) rfl rfl rfl dX0_describe_173
              · refine im_iload X 4 dX0_describe_166 rfl ?_
                refine im_iload_n X 3 dX0_describe_168 rfl rfl ?_
                refine im_icmp_ne (tgt := 174) X dX0_describe_169 rfl ?_ ?_
                · refine im_aload_n X 1 dX0_describe_174 rfl rfl ?_
                  refine im_iload X 7 dX0_describe_175 rfl ?_
                  refine im_iload X 6 dX0_describe_177 rfl ?_
                  refine im_ineg X dX0_describe_179 ?_
                  refine im_iload X 4 dX0_describe_180 rfl ?_
                  refine im_bipush X 6 dX0_describe_182 (by decide) ?_
                  refine im_imul X dX0_describe_184 ?_
                  refine im_iload X 5 dX0_describe_185 rfl ?_
                  refine im_iadd X dX0_describe_187 ?_
                  refine im_iload X 6 dX0_describe_188 rfl ?_
                  refine im_ccvV X [.int ((x3 * 6) + x5), .int (-x6), .int ((x4 * 6) + x5), .int x6] [] [w_Cloth ct aC C, w_Effect ct aE E] [w_Effect ct aE E] [1] (fun z190 => [w_Effect ct aE z190]) 1 0 1 rfl rfl rfl cl_X0_67 (c_X1_tell l D ct F aE E ((x3 * 6) + x5) (-x6) ((x4 * 6) + x5) x6) rfl (by decide) (fun _ => lc fa_Effect (rfl)) rfl ⟨by decide, by decide⟩ (Nat.le_of_ble_eq_true rfl) rfl dX0_describe_190 (fun z190 => ?_)
                  refine im_ws (cat [w_Cloth ct aC C, w_Effect ct aE z190]) rfl ?_
                  refine im_aload_n X 0 dX0_describe_193 rfl rfl ?_
                  refine im_iload X 6 dX0_describe_194 rfl ?_
                  refine im_cciV X [.int x6] [] [w_Cloth ct aC C, w_Effect ct aE z190] [] [] (fun z196 => []) 0 0 0 rfl rfl rfl cl_X0_73 (c_X0_isAmount l D ct F aC x6) rfl (by decide) (fun _ => rfl) rfl ⟨by decide, by decide⟩ (Nat.le_of_ble_eq_true rfl) rfl dX0_describe_196 (fun z196 => ?_)
                  refine im_ws (cat [w_Cloth ct aC C, w_Effect ct aE z190]) rfl ?_
                  exact im_zreturnc X (z196, z190) rfl rfl dX0_describe_199
                · refine im_iconst X 0 dX0_describe_172 (by decide) ?_
                  exact im_zreturn X (0, E) rfl rfl rfl dX0_describe_173
            · refine im_tabOut (tgt := 200) X dX0_describe_22 (by have h0 := i32_ne q0 (by decide : (0 : Int32).toInt = 0); have h1 := i32_ne q1 (by decide : (1 : Int32).toInt = 1); have h2 := i32_ne q2 (by decide : (2 : Int32).toInt = 2); have h3 := i32_ne q3 (by decide : (3 : Int32).toInt = 3); have h4 := i32_ne q4 (by decide : (4 : Int32).toInt = 4); omega) rfl ?_
              refine im_iconst X 0 dX0_describe_200 (by decide) ?_
              exact im_zreturn X (0, E) rfl rfl rfl dX0_describe_201
  · refine im_iconst X 0 dX0_describe_10 (by decide) ?_
    exact im_zreturn X (0, E) rfl rfl rfl dX0_describe_11
theorem c_X0_describe (l : Launch) (D : va_G) (ct : im_ct) (F : Nat) (aC aE : Nat → Nat) (C : Mem) (E : Mem) (x2 : Int32) (x3 : Int32) (x4 : Int32) (x5 : Int32) (x6 : Int32) : CMi l D ct yX0_describe cX0_describe 8 (some .boolean) 1 [.ref (aC 0), .ref (aE 0), .int x2, .int x3, .int x4, .int x5, .int x6] (cat [w_Cloth ct aC C, w_Effect ct aE E]) (f_X0_describe F C E x2 x3 x4 x5 x6) (fun z : Int32 × Mem => z.1) (fun z : Int32 × Mem => (cat [w_Cloth ct aC C, w_Effect ct aE z.2])) :=
  im_met (Qb := fun A => QI D A (fun z : Int32 × Mem => z.1) (fun z : Int32 × Mem => (cat [w_Cloth ct aC C, w_Effect ct aE z.2]))) (by decide +kernel) (Nat.le_of_ble_eq_true rfl) (fun p e s m args below meth c A X => i_X0_describe X F aC aE C E x2 x3 x4 x5 x6)

noncomputable def f_X0_staysInBounds (F : Nat) (C : Mem) (E : Mem) : Option (Int32) :=
  ck (E 0 0) 24 (ck (E 0 2) 24 ((if (((C 3) ((E 0 0)).toNatClampNeg) + (E 0 1)) < 0 then (some 0) else (if 99 < (((C 3) ((E 0 0)).toNatClampNeg) + (E 0 1)) then (some 0) else (if (((C 3) ((E 0 2)).toNatClampNeg) + (E 0 3)) < 0 then (some 0) else (if 99 < (((C 3) ((E 0 2)).toNatClampNeg) + (E 0 3)) then (some 0) else (some 1)))))))
set_option maxRecDepth 100000 in
set_option maxHeartbeats 4000000 in
theorem i_X0_staysInBounds {p : Program} {l : Launch} {e : Env} {s : State} {m : MethodId} {args : Array Value} {below : List Frame} {meth : Method} {c : Code} {D : va_G} {ct : im_ct} {A : Nat → Prop} (X : im_X p (im_rm 0) s m args meth c D ct A RX0 cX0_staysInBounds 4 (some .boolean)) (F : Nat) (aC aE : Nat → Nat) (C : Mem) (E : Mem) : Im p l e (im_rm 0) s m args below meth c D A 4 (QI D A (fun z : Int32 => z) (fun z : Int32 => (cat [w_Cloth ct aC C, w_Effect ct aE E]))) 0 [(0, .ref (aC 0)), (1, .ref (aE 0))] [] (cat [w_Cloth ct aC C, w_Effect ct aE E]) (f_X0_staysInBounds F C E) := by
  unfold f_X0_staysInBounds
  refine im_aload_n X 0 dX0_staysInBounds_0 rfl rfl ?_
  refine im_cget X 0 0 (v := .ref (aC 3)) fl_X0_18 rfl rfl rfl dX0_staysInBounds_1 ?_
  refine im_aload_n X 1 dX0_staysInBounds_4 rfl rfl ?_
  refine im_cget X 1 0 (v := .int (E 0 0)) fl_X0_91 rfl rfl rfl dX0_staysInBounds_5 ?_
  refine im_ciald X 0 3 0 (f := (C 3)) rfl rfl rfl dX0_staysInBounds_8 ?_
  refine im_aload_n X 1 dX0_staysInBounds_9 rfl rfl ?_
  refine im_cget X 1 0 (v := .int (E 0 1)) fl_X0_93 rfl rfl rfl dX0_staysInBounds_10 ?_
  refine im_iadd X dX0_staysInBounds_13 ?_
  refine im_istore_n X [1, 2, 0] [(0, .ref (aC 0)), (1, .ref (aE 0)), (2, .int (((C 3) ((E 0 0)).toNatClampNeg) + (E 0 1)))] dX0_staysInBounds_14 rfl (by decide) rfl ?_
  refine im_aload_n X 0 dX0_staysInBounds_15 rfl rfl ?_
  refine im_cget X 0 0 (v := .ref (aC 3)) fl_X0_18 rfl rfl rfl dX0_staysInBounds_16 ?_
  refine im_aload_n X 1 dX0_staysInBounds_19 rfl rfl ?_
  refine im_cget X 1 0 (v := .int (E 0 2)) fl_X0_96 rfl rfl rfl dX0_staysInBounds_20 ?_
  refine im_ciald X 0 3 0 (f := (C 3)) rfl rfl rfl dX0_staysInBounds_23 ?_
  refine im_aload_n X 1 dX0_staysInBounds_24 rfl rfl ?_
  refine im_cget X 1 0 (v := .int (E 0 3)) fl_X0_99 rfl rfl rfl dX0_staysInBounds_25 ?_
  refine im_iadd X dX0_staysInBounds_28 ?_
  refine im_istore_n X [1, 2, 3, 0] [(0, .ref (aC 0)), (1, .ref (aE 0)), (2, .int (((C 3) ((E 0 0)).toNatClampNeg) + (E 0 1))), (3, .int (((C 3) ((E 0 2)).toNatClampNeg) + (E 0 3)))] dX0_staysInBounds_29 rfl (by decide) rfl ?_
  refine im_iload_n X 2 dX0_staysInBounds_30 rfl rfl ?_
  refine im_if_lt (tgt := 54) X dX0_staysInBounds_31 rfl ?_ ?_
  · refine im_iconst X 0 dX0_staysInBounds_54 (by decide) ?_
    exact im_zreturn X 0 rfl rfl rfl dX0_staysInBounds_55
  · refine im_iload_n X 2 dX0_staysInBounds_34 rfl rfl ?_
    refine im_bipush X 99 dX0_staysInBounds_35 (by decide) ?_
    refine im_icmp_gt (tgt := 54) X dX0_staysInBounds_37 rfl ?_ ?_
    · refine im_iconst X 0 dX0_staysInBounds_54 (by decide) ?_
      exact im_zreturn X 0 rfl rfl rfl dX0_staysInBounds_55
    · refine im_iload_n X 3 dX0_staysInBounds_40 rfl rfl ?_
      refine im_if_lt (tgt := 54) X dX0_staysInBounds_41 rfl ?_ ?_
      · refine im_iconst X 0 dX0_staysInBounds_54 (by decide) ?_
        exact im_zreturn X 0 rfl rfl rfl dX0_staysInBounds_55
      · refine im_iload_n X 3 dX0_staysInBounds_44 rfl rfl ?_
        refine im_bipush X 99 dX0_staysInBounds_45 (by decide) ?_
        refine im_icmp_gt (tgt := 54) X dX0_staysInBounds_47 rfl ?_ ?_
        · refine im_iconst X 0 dX0_staysInBounds_54 (by decide) ?_
          exact im_zreturn X 0 rfl rfl rfl dX0_staysInBounds_55
        · refine im_iconst X 1 dX0_staysInBounds_50 (by decide) ?_
          refine im_goto (tgt := 55) X dX0_staysInBounds_51 rfl ?_
          exact im_zreturn X 1 rfl rfl rfl dX0_staysInBounds_55
theorem c_X0_staysInBounds (l : Launch) (D : va_G) (ct : im_ct) (F : Nat) (aC aE : Nat → Nat) (C : Mem) (E : Mem) : CMi l D ct yX0_staysInBounds cX0_staysInBounds 4 (some .boolean) 0 [.ref (aC 0), .ref (aE 0)] (cat [w_Cloth ct aC C, w_Effect ct aE E]) (f_X0_staysInBounds F C E) (fun z : Int32 => z) (fun z : Int32 => (cat [w_Cloth ct aC C, w_Effect ct aE E])) :=
  im_met (Qb := fun A => QI D A (fun z : Int32 => z) (fun z : Int32 => (cat [w_Cloth ct aC C, w_Effect ct aE E]))) (by decide +kernel) (Nat.le_of_ble_eq_true rfl) (fun p e s m args below meth c A X => i_X0_staysInBounds X F aC aE C E)

noncomputable def f_X0_canMake (F : Nat) (C : Mem) (E : Mem) (x2 : Int32) (x3 : Int32) (x4 : Int32) (x5 : Int32) (x6 : Int32) : Option (Int32 × Mem) :=
  (f_X0_describe F C E x2 x3 x4 x5 x6).bind (fun z10 => (if z10.1 = 0 then (some (0, z10.2)) else (f_X0_staysInBounds F C z10.2).bind (fun z18 => (if z18 = 0 then (some (0, z10.2)) else (some (1, z10.2))))))
set_option maxRecDepth 100000 in
set_option maxHeartbeats 4000000 in
theorem i_X0_canMake {p : Program} {l : Launch} {e : Env} {s : State} {m : MethodId} {args : Array Value} {below : List Frame} {meth : Method} {c : Code} {D : va_G} {ct : im_ct} {A : Nat → Prop} (X : im_X p (im_rm 2) s m args meth c D ct A RX0 cX0_canMake 7 (some .boolean)) (F : Nat) (aC aE : Nat → Nat) (C : Mem) (E : Mem) (x2 : Int32) (x3 : Int32) (x4 : Int32) (x5 : Int32) (x6 : Int32) : Im p l e (im_rm 2) s m args below meth c D A 7 (QI D A (fun z : Int32 × Mem => z.1) (fun z : Int32 × Mem => (cat [w_Cloth ct aC C, w_Effect ct aE z.2]))) 0 [(0, .ref (aC 0)), (1, .ref (aE 0)), (2, .int x2), (3, .int x3), (4, .int x4), (5, .int x5), (6, .int x6)] [] (cat [w_Cloth ct aC C, w_Effect ct aE E]) (f_X0_canMake F C E x2 x3 x4 x5 x6) := by
  unfold f_X0_canMake
  refine im_aload_n X 0 dX0_canMake_0 rfl rfl ?_
  refine im_aload_n X 1 dX0_canMake_1 rfl rfl ?_
  refine im_iload_n X 2 dX0_canMake_2 rfl rfl ?_
  refine im_iload_n X 3 dX0_canMake_3 rfl rfl ?_
  refine im_iload X 4 dX0_canMake_4 rfl ?_
  refine im_iload X 5 dX0_canMake_6 rfl ?_
  refine im_iload X 6 dX0_canMake_8 rfl ?_
  refine im_cciV X [.ref (aE 0), .int x2, .int x3, .int x4, .int x5, .int x6] [] [w_Cloth ct aC C, w_Effect ct aE E] [w_Cloth ct aC C, w_Effect ct aE E] [0, 1] (fun z10 => [w_Cloth ct aC C, w_Effect ct aE z10.2]) 0 0 0 rfl rfl rfl cl_X0_83 (c_X0_describe l D ct F aC aE C E x2 x3 x4 x5 x6) rfl (by decide) (fun _ => lc rfl (lc fa_Effect (rfl))) rfl ⟨by decide, by decide⟩ (Nat.le_of_ble_eq_true rfl) rfl dX0_canMake_10 (fun z10 => ?_)
  refine im_ws (cat [w_Cloth ct aC C, w_Effect ct aE z10.2]) rfl ?_
  refine im_if_eq (tgt := 28) X dX0_canMake_13 rfl ?_ ?_
  · refine im_iconst X 0 dX0_canMake_28 (by decide) ?_
    exact im_zreturn X (0, z10.2) rfl rfl rfl dX0_canMake_29
  · refine im_aload_n X 0 dX0_canMake_16 rfl rfl ?_
    refine im_aload_n X 1 dX0_canMake_17 rfl rfl ?_
    refine im_cciV X [.ref (aE 0)] [] [w_Cloth ct aC C, w_Effect ct aE z10.2] [w_Cloth ct aC C, w_Effect ct aE z10.2] [0, 1] (fun z18 => [w_Cloth ct aC C, w_Effect ct aE z10.2]) 0 0 0 rfl rfl rfl cl_X0_87 (c_X0_staysInBounds l D ct F aC aE C z10.2) rfl (by decide) (fun _ => lc rfl (lc rfl (rfl))) rfl ⟨by decide, by decide⟩ (Nat.le_of_ble_eq_true rfl) rfl dX0_canMake_18 (fun z18 => ?_)
    refine im_ws (cat [w_Cloth ct aC C, w_Effect ct aE z10.2]) rfl ?_
    refine im_if_eq (tgt := 28) X dX0_canMake_21 rfl ?_ ?_
    · refine im_iconst X 0 dX0_canMake_28 (by decide) ?_
      exact im_zreturn X (0, z10.2) rfl rfl rfl dX0_canMake_29
    · refine im_iconst X 1 dX0_canMake_24 (by decide) ?_
      refine im_goto (tgt := 29) X dX0_canMake_25 rfl ?_
      exact im_zreturn X (1, z10.2) rfl rfl rfl dX0_canMake_29
theorem c_X0_canMake (l : Launch) (D : va_G) (ct : im_ct) (F : Nat) (aC aE : Nat → Nat) (C : Mem) (E : Mem) (x2 : Int32) (x3 : Int32) (x4 : Int32) (x5 : Int32) (x6 : Int32) : CMi l D ct yX0_canMake cX0_canMake 7 (some .boolean) 2 [.ref (aC 0), .ref (aE 0), .int x2, .int x3, .int x4, .int x5, .int x6] (cat [w_Cloth ct aC C, w_Effect ct aE E]) (f_X0_canMake F C E x2 x3 x4 x5 x6) (fun z : Int32 × Mem => z.1) (fun z : Int32 × Mem => (cat [w_Cloth ct aC C, w_Effect ct aE z.2])) :=
  im_met (Qb := fun A => QI D A (fun z : Int32 × Mem => z.1) (fun z : Int32 × Mem => (cat [w_Cloth ct aC C, w_Effect ct aE z.2]))) (by decide +kernel) (Nat.le_of_ble_eq_true rfl) (fun p e s m args below meth c A X => i_X0_canMake X F aC aE C E x2 x3 x4 x5 x6)

noncomputable def f_X0_apply (F : Nat) (C : Mem) (E : Mem) : Option (Mem) :=
  ck (E 0 0) 24 (ck (E 0 0) 24 (ck (E 0 2) 24 (ck (E 0 2) 24 ((some (mr C 3 (upd (upd (C 3) ((E 0 0)).toNatClampNeg (((C 3) ((E 0 0)).toNatClampNeg) + (E 0 1))) ((E 0 2)).toNatClampNeg (((upd (C 3) ((E 0 0)).toNatClampNeg (((C 3) ((E 0 0)).toNatClampNeg) + (E 0 1))) ((E 0 2)).toNatClampNeg) + (E 0 3)))))))))
set_option maxRecDepth 100000 in
set_option maxHeartbeats 4000000 in
theorem i_X0_apply {p : Program} {l : Launch} {e : Env} {s : State} {m : MethodId} {args : Array Value} {below : List Frame} {meth : Method} {c : Code} {D : va_G} {ct : im_ct} {A : Nat → Prop} (X : im_X p (im_rm 0) s m args meth c D ct A RX0 cX0_apply 2 none) (F : Nat) (aC aE : Nat → Nat) (C : Mem) (E : Mem) : Im p l e (im_rm 0) s m args below meth c D A 2 (QV D A (fun z : Mem => (cat [w_Cloth ct aC z, w_Effect ct aE E]))) 0 [(0, .ref (aC 0)), (1, .ref (aE 0))] [] (cat [w_Cloth ct aC C, w_Effect ct aE E]) (f_X0_apply F C E) := by
  unfold f_X0_apply
  refine im_aload_n X 0 dX0_apply_0 rfl rfl ?_
  refine im_cget X 0 0 (v := .ref (aC 3)) fl_X0_18 rfl rfl rfl dX0_apply_1 ?_
  refine im_aload_n X 1 dX0_apply_4 rfl rfl ?_
  refine im_cget X 1 0 (v := .int (E 0 0)) fl_X0_91 rfl rfl rfl dX0_apply_5 ?_
  refine im_dup2_11 X rfl rfl dX0_apply_8 ?_
  refine im_ciald X 0 3 0 (f := (C 3)) rfl rfl rfl dX0_apply_9 ?_
  refine im_aload_n X 1 dX0_apply_10 rfl rfl ?_
  refine im_cget X 1 0 (v := .int (E 0 1)) fl_X0_93 rfl rfl rfl dX0_apply_11 ?_
  refine im_iadd X dX0_apply_14 ?_
  refine im_ciast X 0 3 0 (wx_Cloth ct aC (C 0 6) (C 0 7) (C 0 8) (C 0 9) (C 1) (C 2) (upd (C 3) ((E 0 0)).toNatClampNeg (((C 3) ((E 0 0)).toNatClampNeg) + (E 0 1))) (C 4) (C 5) (C 6)) [wx_Cloth ct aC (C 0 6) (C 0 7) (C 0 8) (C 0 9) (C 1) (C 2) (upd (C 3) ((E 0 0)).toNatClampNeg (((C 3) ((E 0 0)).toNatClampNeg) + (E 0 1))) (C 4) (C 5) (C 6), w_Effect ct aE E] (f := (C 3)) rfl rfl rfl rfl rfl dX0_apply_15 ?_
  refine im_aload_n X 0 dX0_apply_16 rfl rfl ?_
  refine im_cget X 0 0 (v := .ref (aC 3)) fl_X0_18 rfl rfl rfl dX0_apply_17 ?_
  refine im_aload_n X 1 dX0_apply_20 rfl rfl ?_
  refine im_cget X 1 0 (v := .int (E 0 2)) fl_X0_96 rfl rfl rfl dX0_apply_21 ?_
  refine im_dup2_11 X rfl rfl dX0_apply_24 ?_
  refine im_ciald X 0 3 0 (f := (upd (C 3) ((E 0 0)).toNatClampNeg (((C 3) ((E 0 0)).toNatClampNeg) + (E 0 1)))) rfl rfl rfl dX0_apply_25 ?_
  refine im_aload_n X 1 dX0_apply_26 rfl rfl ?_
  refine im_cget X 1 0 (v := .int (E 0 3)) fl_X0_99 rfl rfl rfl dX0_apply_27 ?_
  refine im_iadd X dX0_apply_30 ?_
  refine im_ciast X 0 3 0 (wx_Cloth ct aC (C 0 6) (C 0 7) (C 0 8) (C 0 9) (C 1) (C 2) (upd (upd (C 3) ((E 0 0)).toNatClampNeg (((C 3) ((E 0 0)).toNatClampNeg) + (E 0 1))) ((E 0 2)).toNatClampNeg (((upd (C 3) ((E 0 0)).toNatClampNeg (((C 3) ((E 0 0)).toNatClampNeg) + (E 0 1))) ((E 0 2)).toNatClampNeg) + (E 0 3))) (C 4) (C 5) (C 6)) [wx_Cloth ct aC (C 0 6) (C 0 7) (C 0 8) (C 0 9) (C 1) (C 2) (upd (upd (C 3) ((E 0 0)).toNatClampNeg (((C 3) ((E 0 0)).toNatClampNeg) + (E 0 1))) ((E 0 2)).toNatClampNeg (((upd (C 3) ((E 0 0)).toNatClampNeg (((C 3) ((E 0 0)).toNatClampNeg) + (E 0 1))) ((E 0 2)).toNatClampNeg) + (E 0 3))) (C 4) (C 5) (C 6), w_Effect ct aE E] (f := (upd (C 3) ((E 0 0)).toNatClampNeg (((C 3) ((E 0 0)).toNatClampNeg) + (E 0 1)))) rfl rfl rfl rfl rfl dX0_apply_31 ?_
  exact im_return X (mr C 3 (upd (upd (C 3) ((E 0 0)).toNatClampNeg (((C 3) ((E 0 0)).toNatClampNeg) + (E 0 1))) ((E 0 2)).toNatClampNeg (((upd (C 3) ((E 0 0)).toNatClampNeg (((C 3) ((E 0 0)).toNatClampNeg) + (E 0 1))) ((E 0 2)).toNatClampNeg) + (E 0 3)))) rfl dX0_apply_32
theorem c_X0_apply (l : Launch) (D : va_G) (ct : im_ct) (F : Nat) (aC aE : Nat → Nat) (C : Mem) (E : Mem) : CMv l D ct yX0_apply cX0_apply 2 none 0 [.ref (aC 0), .ref (aE 0)] (cat [w_Cloth ct aC C, w_Effect ct aE E]) (f_X0_apply F C E) (fun z : Mem => (cat [w_Cloth ct aC z, w_Effect ct aE E])) :=
  im_met (Qb := fun A => QV D A (fun z : Mem => (cat [w_Cloth ct aC z, w_Effect ct aE E]))) (by decide +kernel) (Nat.le_of_ble_eq_true rfl) (fun p e s m args below meth c A X => i_X0_apply X F aC aE C E)

noncomputable def f_X0_writeMove_71 (F : Nat) (C : Mem) (x1 : Int32) (x3 : Int32) (x6 : Int32) (s1 : Int32) (s2 : Int32) : Option (Mem) :=
  ck s1 120 ((if x1 = 4 then ck (x6 + 4) 120 ((some (mr (mr C 5 (upd (upd (C 5) s1.toNatClampNeg s2) ((x6 + 4)).toNatClampNeg x3)) 0 (fu (C 0) 8 ((C 0 8) + 1))))) else ck (x6 + 4) 120 ((some (mr (mr C 5 (upd (upd (C 5) s1.toNatClampNeg s2) ((x6 + 4)).toNatClampNeg 0)) 0 (fu (C 0) 8 ((C 0 8) + 1)))))))
set_option maxRecDepth 100000 in
set_option maxHeartbeats 4000000 in
theorem i_X0_writeMove_71 {p : Program} {l : Launch} {e : Env} {s : State} {m : MethodId} {args : Array Value} {below : List Frame} {meth : Method} {c : Code} {D : va_G} {ct : im_ct} {A : Nat → Prop} (X : im_X p (im_rm 0) s m args meth c D ct A RX0 cX0_writeMove 7 none) (F : Nat) (aC : Nat → Nat) (C : Mem) (x1 : Int32) (x3 : Int32) (x6 : Int32) (s1 : Int32) (s2 : Int32) : Im p l e (im_rm 0) s m args below meth c D A 7 (QV D A (fun z : Mem => (cat [w_Cloth ct aC z]))) 71 [(0, .ref (aC 0)), (1, .int x1), (3, .int x3), (6, .int x6)] [.int s2, .int s1, .ref (aC 5)] (cat [w_Cloth ct aC C]) (f_X0_writeMove_71 F C x1 x3 x6 s1 s2) := by
  unfold f_X0_writeMove_71
  refine im_ciast X 0 5 0 (wx_Cloth ct aC (C 0 6) (C 0 7) (C 0 8) (C 0 9) (C 1) (C 2) (C 3) (C 4) (upd (C 5) s1.toNatClampNeg s2) (C 6)) [wx_Cloth ct aC (C 0 6) (C 0 7) (C 0 8) (C 0 9) (C 1) (C 2) (C 3) (C 4) (upd (C 5) s1.toNatClampNeg s2) (C 6)] (f := (C 5)) rfl rfl rfl rfl rfl dX0_writeMove_71 ?_
  refine im_aload_n X 0 dX0_writeMove_72 rfl rfl ?_
  refine im_cget X 0 0 (v := .ref (aC 5)) fl_X0_24 rfl rfl rfl dX0_writeMove_73 ?_
  refine im_iload X 3 dX0_writeMove_76 rfl ?_
  refine im_iconst X 4 dX0_writeMove_78 (by decide) ?_
  refine im_iadd X dX0_writeMove_79 ?_
  refine im_iload_n X 1 dX0_writeMove_80 rfl rfl ?_
  refine im_iconst X 4 dX0_writeMove_81 (by decide) ?_
  refine im_icmp_ne (tgt := 89) X dX0_writeMove_82 rfl ?_ ?_
  · refine im_iconst X 0 dX0_writeMove_89 (by decide) ?_
    refine im_ciast X 0 5 0 (wx_Cloth ct aC (C 0 6) (C 0 7) (C 0 8) (C 0 9) (C 1) (C 2) (C 3) (C 4) (upd (upd (C 5) s1.toNatClampNeg s2) ((x6 + 4)).toNatClampNeg 0) (C 6)) [wx_Cloth ct aC (C 0 6) (C 0 7) (C 0 8) (C 0 9) (C 1) (C 2) (C 3) (C 4) (upd (upd (C 5) s1.toNatClampNeg s2) ((x6 + 4)).toNatClampNeg 0) (C 6)] (f := (upd (C 5) s1.toNatClampNeg s2)) rfl rfl rfl rfl rfl dX0_writeMove_90 ?_
    refine im_aload_n X 0 dX0_writeMove_91 rfl rfl ?_
    refine im_dup X rfl dX0_writeMove_92 ?_
    refine im_cget X 0 0 (v := .int (C 0 8)) fl_X0_36 rfl rfl rfl dX0_writeMove_93 ?_
    refine im_iconst X 1 dX0_writeMove_96 (by decide) ?_
    refine im_iadd X dX0_writeMove_97 ?_
    refine im_cput X 0 0 (wx_Cloth ct aC (C 0 6) (C 0 7) ((C 0 8) + 1) (C 0 9) (C 1) (C 2) (C 3) (C 4) (upd (upd (C 5) s1.toNatClampNeg s2) ((x6 + 4)).toNatClampNeg 0) (C 6)) [wx_Cloth ct aC (C 0 6) (C 0 7) ((C 0 8) + 1) (C 0 9) (C 1) (C 2) (C 3) (C 4) (upd (upd (C 5) s1.toNatClampNeg s2) ((x6 + 4)).toNatClampNeg 0) (C 6)] fl_X0_36 rfl rfl rfl rfl (Nat.le_of_ble_eq_true rfl) rfl rfl dX0_writeMove_98 ?_
    exact im_return X (mr (mr C 5 (upd (upd (C 5) s1.toNatClampNeg s2) ((x6 + 4)).toNatClampNeg 0)) 0 (fu (C 0) 8 ((C 0 8) + 1))) rfl dX0_writeMove_101
  · refine im_iload_n X 2 dX0_writeMove_85 rfl rfl ?_
    refine im_goto (tgt := 90) X dX0_writeMove_86 rfl ?_
    refine im_ciast X 0 5 0 (wx_Cloth ct aC (C 0 6) (C 0 7) (C 0 8) (C 0 9) (C 1) (C 2) (C 3) (C 4) (upd (upd (C 5) s1.toNatClampNeg s2) ((x6 + 4)).toNatClampNeg x3) (C 6)) [wx_Cloth ct aC (C 0 6) (C 0 7) (C 0 8) (C 0 9) (C 1) (C 2) (C 3) (C 4) (upd (upd (C 5) s1.toNatClampNeg s2) ((x6 + 4)).toNatClampNeg x3) (C 6)] (f := (upd (C 5) s1.toNatClampNeg s2)) rfl rfl rfl rfl rfl dX0_writeMove_90 ?_
    refine im_aload_n X 0 dX0_writeMove_91 rfl rfl ?_
    refine im_dup X rfl dX0_writeMove_92 ?_
    refine im_cget X 0 0 (v := .int (C 0 8)) fl_X0_36 rfl rfl rfl dX0_writeMove_93 ?_
    refine im_iconst X 1 dX0_writeMove_96 (by decide) ?_
    refine im_iadd X dX0_writeMove_97 ?_
    refine im_cput X 0 0 (wx_Cloth ct aC (C 0 6) (C 0 7) ((C 0 8) + 1) (C 0 9) (C 1) (C 2) (C 3) (C 4) (upd (upd (C 5) s1.toNatClampNeg s2) ((x6 + 4)).toNatClampNeg x3) (C 6)) [wx_Cloth ct aC (C 0 6) (C 0 7) ((C 0 8) + 1) (C 0 9) (C 1) (C 2) (C 3) (C 4) (upd (upd (C 5) s1.toNatClampNeg s2) ((x6 + 4)).toNatClampNeg x3) (C 6)] fl_X0_36 rfl rfl rfl rfl (Nat.le_of_ble_eq_true rfl) rfl rfl dX0_writeMove_98 ?_
    exact im_return X (mr (mr C 5 (upd (upd (C 5) s1.toNatClampNeg s2) ((x6 + 4)).toNatClampNeg x3)) 0 (fu (C 0) 8 ((C 0 8) + 1))) rfl dX0_writeMove_101
noncomputable def f_X0_writeMove (F : Nat) (C : Mem) (x1 : Int32) (x2 : Int32) (x3 : Int32) (x4 : Int32) (x5 : Int32) : Option (Mem) :=
  (if (C 0 8) < 24 then ck ((C 0 8) * 5) 120 (ck (((C 0 8) * 5) + 1) 120 (ck (((C 0 8) * 5) + 2) 120 ((if x1 = 2 then f_X0_writeMove_71 F (mr C 5 (upd (upd (upd (C 5) (((C 0 8) * 5)).toNatClampNeg x1) ((((C 0 8) * 5) + 1)).toNatClampNeg x2) ((((C 0 8) * 5) + 2)).toNatClampNeg x4)) x1 x3 ((C 0 8) * 5) (((C 0 8) * 5) + 3) 0 else (if x1 = 3 then f_X0_writeMove_71 F (mr C 5 (upd (upd (upd (C 5) (((C 0 8) * 5)).toNatClampNeg x1) ((((C 0 8) * 5) + 1)).toNatClampNeg x2) ((((C 0 8) * 5) + 2)).toNatClampNeg x4)) x1 x3 ((C 0 8) * 5) (((C 0 8) * 5) + 3) 0 else f_X0_writeMove_71 F (mr C 5 (upd (upd (upd (C 5) (((C 0 8) * 5)).toNatClampNeg x1) ((((C 0 8) * 5) + 1)).toNatClampNeg x2) ((((C 0 8) * 5) + 2)).toNatClampNeg x4)) x1 x3 ((C 0 8) * 5) (((C 0 8) * 5) + 3) x5))))) else (some C))
set_option maxRecDepth 100000 in
set_option maxHeartbeats 4000000 in
theorem i_X0_writeMove {p : Program} {l : Launch} {e : Env} {s : State} {m : MethodId} {args : Array Value} {below : List Frame} {meth : Method} {c : Code} {D : va_G} {ct : im_ct} {A : Nat → Prop} (X : im_X p (im_rm 0) s m args meth c D ct A RX0 cX0_writeMove 7 none) (F : Nat) (aC : Nat → Nat) (C : Mem) (x1 : Int32) (x2 : Int32) (x3 : Int32) (x4 : Int32) (x5 : Int32) : Im p l e (im_rm 0) s m args below meth c D A 7 (QV D A (fun z : Mem => (cat [w_Cloth ct aC z]))) 0 [(0, .ref (aC 0)), (1, .int x1), (2, .int x2), (3, .int x3), (4, .int x4), (5, .int x5)] [] (cat [w_Cloth ct aC C]) (f_X0_writeMove F C x1 x2 x3 x4 x5) := by
  unfold f_X0_writeMove
  refine im_aload_n X 0 dX0_writeMove_0 rfl rfl ?_
  refine im_cget X 0 0 (v := .int (C 0 8)) fl_X0_36 rfl rfl rfl dX0_writeMove_1 ?_
  refine im_bipush X 24 dX0_writeMove_4 (by decide) ?_
  refine im_icmp_lt (tgt := 10) X dX0_writeMove_6 rfl ?_ ?_
  · refine im_aload_n X 0 dX0_writeMove_10 rfl rfl ?_
    refine im_cget X 0 0 (v := .int (C 0 8)) fl_X0_36 rfl rfl rfl dX0_writeMove_11 ?_
    refine im_iconst X 5 dX0_writeMove_14 (by decide) ?_
    refine im_imul X dX0_writeMove_15 ?_
    refine im_istore X [1, 2, 3, 4, 5, 6, 0] [(0, .ref (aC 0)), (1, .int x1), (2, .int x2), (3, .int x3), (4, .int x4), (5, .int x5), (6, .int ((C 0 8) * 5))] dX0_writeMove_16 (by decide) rfl ?_
    refine im_aload_n X 0 dX0_writeMove_18 rfl rfl ?_
    refine im_cget X 0 0 (v := .ref (aC 5)) fl_X0_24 rfl rfl rfl dX0_writeMove_19 ?_
    refine im_iload X 6 dX0_writeMove_22 rfl ?_
    refine im_iload_n X 1 dX0_writeMove_24 rfl rfl ?_
    refine im_ciast X 0 5 0 (wx_Cloth ct aC (C 0 6) (C 0 7) (C 0 8) (C 0 9) (C 1) (C 2) (C 3) (C 4) (upd (C 5) (((C 0 8) * 5)).toNatClampNeg x1) (C 6)) [wx_Cloth ct aC (C 0 6) (C 0 7) (C 0 8) (C 0 9) (C 1) (C 2) (C 3) (C 4) (upd (C 5) (((C 0 8) * 5)).toNatClampNeg x1) (C 6)] (f := (C 5)) rfl rfl rfl rfl rfl dX0_writeMove_25 ?_
    refine im_aload_n X 0 dX0_writeMove_26 rfl rfl ?_
    refine im_cget X 0 0 (v := .ref (aC 5)) fl_X0_24 rfl rfl rfl dX0_writeMove_27 ?_
    refine im_iload X 6 dX0_writeMove_30 rfl ?_
    refine im_iconst X 1 dX0_writeMove_32 (by decide) ?_
    refine im_iadd X dX0_writeMove_33 ?_
    refine im_iload_n X 2 dX0_writeMove_34 rfl rfl ?_
    refine im_ciast X 0 5 0 (wx_Cloth ct aC (C 0 6) (C 0 7) (C 0 8) (C 0 9) (C 1) (C 2) (C 3) (C 4) (upd (upd (C 5) (((C 0 8) * 5)).toNatClampNeg x1) ((((C 0 8) * 5) + 1)).toNatClampNeg x2) (C 6)) [wx_Cloth ct aC (C 0 6) (C 0 7) (C 0 8) (C 0 9) (C 1) (C 2) (C 3) (C 4) (upd (upd (C 5) (((C 0 8) * 5)).toNatClampNeg x1) ((((C 0 8) * 5) + 1)).toNatClampNeg x2) (C 6)] (f := (upd (C 5) (((C 0 8) * 5)).toNatClampNeg x1)) rfl rfl rfl rfl rfl dX0_writeMove_35 ?_
    refine im_aload_n X 0 dX0_writeMove_36 rfl rfl ?_
    refine im_cget X 0 0 (v := .ref (aC 5)) fl_X0_24 rfl rfl rfl dX0_writeMove_37 ?_
    refine im_iload X 6 dX0_writeMove_40 rfl ?_
    refine im_iconst X 2 dX0_writeMove_42 (by decide) ?_
    refine im_iadd X dX0_writeMove_43 ?_
    refine im_iload X 4 dX0_writeMove_44 rfl ?_
    refine im_ciast X 0 5 0 (wx_Cloth ct aC (C 0 6) (C 0 7) (C 0 8) (C 0 9) (C 1) (C 2) (C 3) (C 4) (upd (upd (upd (C 5) (((C 0 8) * 5)).toNatClampNeg x1) ((((C 0 8) * 5) + 1)).toNatClampNeg x2) ((((C 0 8) * 5) + 2)).toNatClampNeg x4) (C 6)) [wx_Cloth ct aC (C 0 6) (C 0 7) (C 0 8) (C 0 9) (C 1) (C 2) (C 3) (C 4) (upd (upd (upd (C 5) (((C 0 8) * 5)).toNatClampNeg x1) ((((C 0 8) * 5) + 1)).toNatClampNeg x2) ((((C 0 8) * 5) + 2)).toNatClampNeg x4) (C 6)] (f := (upd (upd (C 5) (((C 0 8) * 5)).toNatClampNeg x1) ((((C 0 8) * 5) + 1)).toNatClampNeg x2)) rfl rfl rfl rfl rfl dX0_writeMove_46 ?_
    refine im_aload_n X 0 dX0_writeMove_47 rfl rfl ?_
    refine im_cget X 0 0 (v := .ref (aC 5)) fl_X0_24 rfl rfl rfl dX0_writeMove_48 ?_
    refine im_iload X 6 dX0_writeMove_51 rfl ?_
    refine im_iconst X 3 dX0_writeMove_53 (by decide) ?_
    refine im_iadd X dX0_writeMove_54 ?_
    refine im_iload_n X 1 dX0_writeMove_55 rfl rfl ?_
    refine im_iconst X 2 dX0_writeMove_56 (by decide) ?_
    refine im_icmp_eq (tgt := 65) X dX0_writeMove_57 rfl ?_ ?_
    · refine im_iconst X 0 dX0_writeMove_65 (by decide) ?_
      refine im_goto (tgt := 71) X dX0_writeMove_66 rfl ?_
      refine im_lv [0, 1, 3, 6] [(0, .ref (aC 0)), (1, .int x1), (3, .int x3), (6, .int ((C 0 8) * 5))] rfl ?_
      exact i_X0_writeMove_71 X F aC (mr C 5 (upd (upd (upd (C 5) (((C 0 8) * 5)).toNatClampNeg x1) ((((C 0 8) * 5) + 1)).toNatClampNeg x2) ((((C 0 8) * 5) + 2)).toNatClampNeg x4)) x1 x3 ((C 0 8) * 5) (((C 0 8) * 5) + 3) 0 
    · refine im_iload_n X 1 dX0_writeMove_60 rfl rfl ?_
      refine im_iconst X 3 dX0_writeMove_61 (by decide) ?_
      refine im_icmp_ne (tgt := 69) X dX0_writeMove_62 rfl ?_ ?_
      · refine im_iload X 5 dX0_writeMove_69 rfl ?_
        refine im_lv [0, 1, 3, 6] [(0, .ref (aC 0)), (1, .int x1), (3, .int x3), (6, .int ((C 0 8) * 5))] rfl ?_
        exact i_X0_writeMove_71 X F aC (mr C 5 (upd (upd (upd (C 5) (((C 0 8) * 5)).toNatClampNeg x1) ((((C 0 8) * 5) + 1)).toNatClampNeg x2) ((((C 0 8) * 5) + 2)).toNatClampNeg x4)) x1 x3 ((C 0 8) * 5) (((C 0 8) * 5) + 3) x5 
      · refine im_iconst X 0 dX0_writeMove_65 (by decide) ?_
        refine im_goto (tgt := 71) X dX0_writeMove_66 rfl ?_
        refine im_lv [0, 1, 3, 6] [(0, .ref (aC 0)), (1, .int x1), (3, .int x3), (6, .int ((C 0 8) * 5))] rfl ?_
        exact i_X0_writeMove_71 X F aC (mr C 5 (upd (upd (upd (C 5) (((C 0 8) * 5)).toNatClampNeg x1) ((((C 0 8) * 5) + 1)).toNatClampNeg x2) ((((C 0 8) * 5) + 2)).toNatClampNeg x4)) x1 x3 ((C 0 8) * 5) (((C 0 8) * 5) + 3) 0 
  · exact im_return X C rfl dX0_writeMove_9
theorem c_X0_writeMove (l : Launch) (D : va_G) (ct : im_ct) (F : Nat) (aC : Nat → Nat) (C : Mem) (x1 : Int32) (x2 : Int32) (x3 : Int32) (x4 : Int32) (x5 : Int32) : CMv l D ct yX0_writeMove cX0_writeMove 7 none 0 [.ref (aC 0), .int x1, .int x2, .int x3, .int x4, .int x5] (cat [w_Cloth ct aC C]) (f_X0_writeMove F C x1 x2 x3 x4 x5) (fun z : Mem => (cat [w_Cloth ct aC z])) :=
  im_met (Qb := fun A => QV D A (fun z : Mem => (cat [w_Cloth ct aC z]))) (by decide +kernel) (Nat.le_of_ble_eq_true rfl) (fun p e s m args below meth c A X => i_X0_writeMove X F aC C x1 x2 x3 x4 x5)

noncomputable def f_X0_addSight (F : Nat) (C : Mem) (x1 : Int32) (x2 : Int32) (x3 : Int32) (x4 : Int32) : Option (Mem) :=
  (if (C 0 9) < 12 then ck ((C 0 9) * 4) 48 (ck (((C 0 9) * 4) + 1) 48 (ck (((C 0 9) * 4) + 2) 48 (ck (((C 0 9) * 4) + 3) 48 ((some (mr (mr C 6 (upd (upd (upd (upd (C 6) (((C 0 9) * 4)).toNatClampNeg x1) ((((C 0 9) * 4) + 1)).toNatClampNeg x2) ((((C 0 9) * 4) + 2)).toNatClampNeg x3) ((((C 0 9) * 4) + 3)).toNatClampNeg x4)) 0 (fu (C 0) 9 ((C 0 9) + 1)))))))) else (some C))
set_option maxRecDepth 100000 in
set_option maxHeartbeats 4000000 in
theorem i_X0_addSight {p : Program} {l : Launch} {e : Env} {s : State} {m : MethodId} {args : Array Value} {below : List Frame} {meth : Method} {c : Code} {D : va_G} {ct : im_ct} {A : Nat → Prop} (X : im_X p (im_rm 0) s m args meth c D ct A RX0 cX0_addSight 6 none) (F : Nat) (aC : Nat → Nat) (C : Mem) (x1 : Int32) (x2 : Int32) (x3 : Int32) (x4 : Int32) : Im p l e (im_rm 0) s m args below meth c D A 6 (QV D A (fun z : Mem => (cat [w_Cloth ct aC z]))) 0 [(0, .ref (aC 0)), (1, .int x1), (2, .int x2), (3, .int x3), (4, .int x4)] [] (cat [w_Cloth ct aC C]) (f_X0_addSight F C x1 x2 x3 x4) := by
  unfold f_X0_addSight
  refine im_aload_n X 0 dX0_addSight_0 rfl rfl ?_
  refine im_cget X 0 0 (v := .int (C 0 9)) fl_X0_40 rfl rfl rfl dX0_addSight_1 ?_
  refine im_bipush X 12 dX0_addSight_4 (by decide) ?_
  refine im_icmp_lt (tgt := 10) X dX0_addSight_6 rfl ?_ ?_
  · refine im_aload_n X 0 dX0_addSight_10 rfl rfl ?_
    refine im_cget X 0 0 (v := .int (C 0 9)) fl_X0_40 rfl rfl rfl dX0_addSight_11 ?_
    refine im_iconst X 4 dX0_addSight_14 (by decide) ?_
    refine im_imul X dX0_addSight_15 ?_
    refine im_istore X [1, 2, 3, 4, 5, 0] [(0, .ref (aC 0)), (1, .int x1), (2, .int x2), (3, .int x3), (4, .int x4), (5, .int ((C 0 9) * 4))] dX0_addSight_16 (by decide) rfl ?_
    refine im_aload_n X 0 dX0_addSight_18 rfl rfl ?_
    refine im_cget X 0 0 (v := .ref (aC 6)) fl_X0_27 rfl rfl rfl dX0_addSight_19 ?_
    refine im_iload X 5 dX0_addSight_22 rfl ?_
    refine im_iload_n X 1 dX0_addSight_24 rfl rfl ?_
    refine im_ciast X 0 6 0 (wx_Cloth ct aC (C 0 6) (C 0 7) (C 0 8) (C 0 9) (C 1) (C 2) (C 3) (C 4) (C 5) (upd (C 6) (((C 0 9) * 4)).toNatClampNeg x1)) [wx_Cloth ct aC (C 0 6) (C 0 7) (C 0 8) (C 0 9) (C 1) (C 2) (C 3) (C 4) (C 5) (upd (C 6) (((C 0 9) * 4)).toNatClampNeg x1)] (f := (C 6)) rfl rfl rfl rfl rfl dX0_addSight_25 ?_
    refine im_aload_n X 0 dX0_addSight_26 rfl rfl ?_
    refine im_cget X 0 0 (v := .ref (aC 6)) fl_X0_27 rfl rfl rfl dX0_addSight_27 ?_
    refine im_iload X 5 dX0_addSight_30 rfl ?_
    refine im_iconst X 1 dX0_addSight_32 (by decide) ?_
    refine im_iadd X dX0_addSight_33 ?_
    refine im_iload_n X 2 dX0_addSight_34 rfl rfl ?_
    refine im_ciast X 0 6 0 (wx_Cloth ct aC (C 0 6) (C 0 7) (C 0 8) (C 0 9) (C 1) (C 2) (C 3) (C 4) (C 5) (upd (upd (C 6) (((C 0 9) * 4)).toNatClampNeg x1) ((((C 0 9) * 4) + 1)).toNatClampNeg x2)) [wx_Cloth ct aC (C 0 6) (C 0 7) (C 0 8) (C 0 9) (C 1) (C 2) (C 3) (C 4) (C 5) (upd (upd (C 6) (((C 0 9) * 4)).toNatClampNeg x1) ((((C 0 9) * 4) + 1)).toNatClampNeg x2)] (f := (upd (C 6) (((C 0 9) * 4)).toNatClampNeg x1)) rfl rfl rfl rfl rfl dX0_addSight_35 ?_
    refine im_aload_n X 0 dX0_addSight_36 rfl rfl ?_
    refine im_cget X 0 0 (v := .ref (aC 6)) fl_X0_27 rfl rfl rfl dX0_addSight_37 ?_
    refine im_iload X 5 dX0_addSight_40 rfl ?_
    refine im_iconst X 2 dX0_addSight_42 (by decide) ?_
    refine im_iadd X dX0_addSight_43 ?_
    refine im_iload_n X 3 dX0_addSight_44 rfl rfl ?_
    refine im_ciast X 0 6 0 (wx_Cloth ct aC (C 0 6) (C 0 7) (C 0 8) (C 0 9) (C 1) (C 2) (C 3) (C 4) (C 5) (upd (upd (upd (C 6) (((C 0 9) * 4)).toNatClampNeg x1) ((((C 0 9) * 4) + 1)).toNatClampNeg x2) ((((C 0 9) * 4) + 2)).toNatClampNeg x3)) [wx_Cloth ct aC (C 0 6) (C 0 7) (C 0 8) (C 0 9) (C 1) (C 2) (C 3) (C 4) (C 5) (upd (upd (upd (C 6) (((C 0 9) * 4)).toNatClampNeg x1) ((((C 0 9) * 4) + 1)).toNatClampNeg x2) ((((C 0 9) * 4) + 2)).toNatClampNeg x3)] (f := (upd (upd (C 6) (((C 0 9) * 4)).toNatClampNeg x1) ((((C 0 9) * 4) + 1)).toNatClampNeg x2)) rfl rfl rfl rfl rfl dX0_addSight_45 ?_
    refine im_aload_n X 0 dX0_addSight_46 rfl rfl ?_
    refine im_cget X 0 0 (v := .ref (aC 6)) fl_X0_27 rfl rfl rfl dX0_addSight_47 ?_
    refine im_iload X 5 dX0_addSight_50 rfl ?_
    refine im_iconst X 3 dX0_addSight_52 (by decide) ?_
    refine im_iadd X dX0_addSight_53 ?_
    refine im_iload X 4 dX0_addSight_54 rfl ?_
    refine im_ciast X 0 6 0 (wx_Cloth ct aC (C 0 6) (C 0 7) (C 0 8) (C 0 9) (C 1) (C 2) (C 3) (C 4) (C 5) (upd (upd (upd (upd (C 6) (((C 0 9) * 4)).toNatClampNeg x1) ((((C 0 9) * 4) + 1)).toNatClampNeg x2) ((((C 0 9) * 4) + 2)).toNatClampNeg x3) ((((C 0 9) * 4) + 3)).toNatClampNeg x4)) [wx_Cloth ct aC (C 0 6) (C 0 7) (C 0 8) (C 0 9) (C 1) (C 2) (C 3) (C 4) (C 5) (upd (upd (upd (upd (C 6) (((C 0 9) * 4)).toNatClampNeg x1) ((((C 0 9) * 4) + 1)).toNatClampNeg x2) ((((C 0 9) * 4) + 2)).toNatClampNeg x3) ((((C 0 9) * 4) + 3)).toNatClampNeg x4)] (f := (upd (upd (upd (C 6) (((C 0 9) * 4)).toNatClampNeg x1) ((((C 0 9) * 4) + 1)).toNatClampNeg x2) ((((C 0 9) * 4) + 2)).toNatClampNeg x3)) rfl rfl rfl rfl rfl dX0_addSight_56 ?_
    refine im_aload_n X 0 dX0_addSight_57 rfl rfl ?_
    refine im_dup X rfl dX0_addSight_58 ?_
    refine im_cget X 0 0 (v := .int (C 0 9)) fl_X0_40 rfl rfl rfl dX0_addSight_59 ?_
    refine im_iconst X 1 dX0_addSight_62 (by decide) ?_
    refine im_iadd X dX0_addSight_63 ?_
    refine im_cput X 0 0 (wx_Cloth ct aC (C 0 6) (C 0 7) (C 0 8) ((C 0 9) + 1) (C 1) (C 2) (C 3) (C 4) (C 5) (upd (upd (upd (upd (C 6) (((C 0 9) * 4)).toNatClampNeg x1) ((((C 0 9) * 4) + 1)).toNatClampNeg x2) ((((C 0 9) * 4) + 2)).toNatClampNeg x3) ((((C 0 9) * 4) + 3)).toNatClampNeg x4)) [wx_Cloth ct aC (C 0 6) (C 0 7) (C 0 8) ((C 0 9) + 1) (C 1) (C 2) (C 3) (C 4) (C 5) (upd (upd (upd (upd (C 6) (((C 0 9) * 4)).toNatClampNeg x1) ((((C 0 9) * 4) + 1)).toNatClampNeg x2) ((((C 0 9) * 4) + 2)).toNatClampNeg x3) ((((C 0 9) * 4) + 3)).toNatClampNeg x4)] fl_X0_40 rfl rfl rfl rfl (Nat.le_of_ble_eq_true rfl) rfl rfl dX0_addSight_64 ?_
    exact im_return X (mr (mr C 6 (upd (upd (upd (upd (C 6) (((C 0 9) * 4)).toNatClampNeg x1) ((((C 0 9) * 4) + 1)).toNatClampNeg x2) ((((C 0 9) * 4) + 2)).toNatClampNeg x3) ((((C 0 9) * 4) + 3)).toNatClampNeg x4)) 0 (fu (C 0) 9 ((C 0 9) + 1))) rfl dX0_addSight_67
  · exact im_return X C rfl dX0_addSight_9
theorem c_X0_addSight (l : Launch) (D : va_G) (ct : im_ct) (F : Nat) (aC : Nat → Nat) (C : Mem) (x1 : Int32) (x2 : Int32) (x3 : Int32) (x4 : Int32) : CMv l D ct yX0_addSight cX0_addSight 6 none 0 [.ref (aC 0), .int x1, .int x2, .int x3, .int x4] (cat [w_Cloth ct aC C]) (f_X0_addSight F C x1 x2 x3 x4) (fun z : Mem => (cat [w_Cloth ct aC z])) :=
  im_met (Qb := fun A => QV D A (fun z : Mem => (cat [w_Cloth ct aC z]))) (by decide +kernel) (Nat.le_of_ble_eq_true rfl) (fun p e s m args below meth c A X => i_X0_addSight X F aC C x1 x2 x3 x4)

noncomputable def f_X0_addColumn (F : Nat) (C : Mem) (x1 : Int32) : Option (Mem) :=
  ck (C 0 6) 6 ((if (C 0 6) = 0 then ck (C 0 6) 6 ((some (mr (mr (mr C 1 (upd (C 1) ((C 0 6)).toNatClampNeg x1)) 2 (upd (C 2) ((C 0 6)).toNatClampNeg 1)) 0 (fu (C 0) 6 ((C 0 6) + 1))))) else ck ((C 0 6) - 1) 6 (ck (C 0 6) 6 ((some (mr (mr (mr C 1 (upd (C 1) ((C 0 6)).toNatClampNeg x1)) 2 (upd (C 2) ((C 0 6)).toNatClampNeg (x1 * ((C 2) (((C 0 6) - 1)).toNatClampNeg)))) 0 (fu (C 0) 6 ((C 0 6) + 1))))))))
set_option maxRecDepth 100000 in
set_option maxHeartbeats 4000000 in
theorem i_X0_addColumn {p : Program} {l : Launch} {e : Env} {s : State} {m : MethodId} {args : Array Value} {below : List Frame} {meth : Method} {c : Code} {D : va_G} {ct : im_ct} {A : Nat → Prop} (X : im_X p (im_rm 0) s m args meth c D ct A RX0 cX0_addColumn 2 none) (F : Nat) (aC : Nat → Nat) (C : Mem) (x1 : Int32) : Im p l e (im_rm 0) s m args below meth c D A 2 (QV D A (fun z : Mem => (cat [w_Cloth ct aC z]))) 0 [(0, .ref (aC 0)), (1, .int x1)] [] (cat [w_Cloth ct aC C]) (f_X0_addColumn F C x1) := by
  unfold f_X0_addColumn
  refine im_aload_n X 0 dX0_addColumn_0 rfl rfl ?_
  refine im_cget X 0 0 (v := .ref (aC 1)) fl_X0_9 rfl rfl rfl dX0_addColumn_1 ?_
  refine im_aload_n X 0 dX0_addColumn_4 rfl rfl ?_
  refine im_cget X 0 0 (v := .int (C 0 6)) fl_X0_43 rfl rfl rfl dX0_addColumn_5 ?_
  refine im_iload_n X 1 dX0_addColumn_8 rfl rfl ?_
  refine im_ciast X 0 1 0 (wx_Cloth ct aC (C 0 6) (C 0 7) (C 0 8) (C 0 9) (upd (C 1) ((C 0 6)).toNatClampNeg x1) (C 2) (C 3) (C 4) (C 5) (C 6)) [wx_Cloth ct aC (C 0 6) (C 0 7) (C 0 8) (C 0 9) (upd (C 1) ((C 0 6)).toNatClampNeg x1) (C 2) (C 3) (C 4) (C 5) (C 6)] (f := (C 1)) rfl rfl rfl rfl rfl dX0_addColumn_9 ?_
  refine im_aload_n X 0 dX0_addColumn_10 rfl rfl ?_
  refine im_cget X 0 0 (v := .ref (aC 2)) fl_X0_15 rfl rfl rfl dX0_addColumn_11 ?_
  refine im_aload_n X 0 dX0_addColumn_14 rfl rfl ?_
  refine im_cget X 0 0 (v := .int (C 0 6)) fl_X0_43 rfl rfl rfl dX0_addColumn_15 ?_
  refine im_aload_n X 0 dX0_addColumn_18 rfl rfl ?_
  refine im_cget X 0 0 (v := .int (C 0 6)) fl_X0_43 rfl rfl rfl dX0_addColumn_19 ?_
  refine im_if_ne (tgt := 29) X dX0_addColumn_22 rfl ?_ ?_
  · refine im_iload_n X 1 dX0_addColumn_29 rfl rfl ?_
    refine im_aload_n X 0 dX0_addColumn_30 rfl rfl ?_
    refine im_cget X 0 0 (v := .ref (aC 2)) fl_X0_15 rfl rfl rfl dX0_addColumn_31 ?_
    refine im_aload_n X 0 dX0_addColumn_34 rfl rfl ?_
    refine im_cget X 0 0 (v := .int (C 0 6)) fl_X0_43 rfl rfl rfl dX0_addColumn_35 ?_
    refine im_iconst X 1 dX0_addColumn_38 (by decide) ?_
    refine im_isub X dX0_addColumn_39 ?_
    refine im_ciald X 0 2 0 (f := (C 2)) rfl rfl rfl dX0_addColumn_40 ?_
    refine im_imul X dX0_addColumn_41 ?_
    refine im_ciast X 0 2 0 (wx_Cloth ct aC (C 0 6) (C 0 7) (C 0 8) (C 0 9) (upd (C 1) ((C 0 6)).toNatClampNeg x1) (upd (C 2) ((C 0 6)).toNatClampNeg (x1 * ((C 2) (((C 0 6) - 1)).toNatClampNeg))) (C 3) (C 4) (C 5) (C 6)) [wx_Cloth ct aC (C 0 6) (C 0 7) (C 0 8) (C 0 9) (upd (C 1) ((C 0 6)).toNatClampNeg x1) (upd (C 2) ((C 0 6)).toNatClampNeg (x1 * ((C 2) (((C 0 6) - 1)).toNatClampNeg))) (C 3) (C 4) (C 5) (C 6)] (f := (C 2)) rfl rfl rfl rfl rfl dX0_addColumn_42 ?_
    refine im_aload_n X 0 dX0_addColumn_43 rfl rfl ?_
    refine im_dup X rfl dX0_addColumn_44 ?_
    refine im_cget X 0 0 (v := .int (C 0 6)) fl_X0_43 rfl rfl rfl dX0_addColumn_45 ?_
    refine im_iconst X 1 dX0_addColumn_48 (by decide) ?_
    refine im_iadd X dX0_addColumn_49 ?_
    refine im_cput X 0 0 (wx_Cloth ct aC ((C 0 6) + 1) (C 0 7) (C 0 8) (C 0 9) (upd (C 1) ((C 0 6)).toNatClampNeg x1) (upd (C 2) ((C 0 6)).toNatClampNeg (x1 * ((C 2) (((C 0 6) - 1)).toNatClampNeg))) (C 3) (C 4) (C 5) (C 6)) [wx_Cloth ct aC ((C 0 6) + 1) (C 0 7) (C 0 8) (C 0 9) (upd (C 1) ((C 0 6)).toNatClampNeg x1) (upd (C 2) ((C 0 6)).toNatClampNeg (x1 * ((C 2) (((C 0 6) - 1)).toNatClampNeg))) (C 3) (C 4) (C 5) (C 6)] fl_X0_43 rfl rfl rfl rfl (Nat.le_of_ble_eq_true rfl) rfl rfl dX0_addColumn_50 ?_
    exact im_return X (mr (mr (mr C 1 (upd (C 1) ((C 0 6)).toNatClampNeg x1)) 2 (upd (C 2) ((C 0 6)).toNatClampNeg (x1 * ((C 2) (((C 0 6) - 1)).toNatClampNeg)))) 0 (fu (C 0) 6 ((C 0 6) + 1))) rfl dX0_addColumn_53
  · refine im_iconst X 1 dX0_addColumn_25 (by decide) ?_
    refine im_goto (tgt := 42) X dX0_addColumn_26 rfl ?_
    refine im_ciast X 0 2 0 (wx_Cloth ct aC (C 0 6) (C 0 7) (C 0 8) (C 0 9) (upd (C 1) ((C 0 6)).toNatClampNeg x1) (upd (C 2) ((C 0 6)).toNatClampNeg 1) (C 3) (C 4) (C 5) (C 6)) [wx_Cloth ct aC (C 0 6) (C 0 7) (C 0 8) (C 0 9) (upd (C 1) ((C 0 6)).toNatClampNeg x1) (upd (C 2) ((C 0 6)).toNatClampNeg 1) (C 3) (C 4) (C 5) (C 6)] (f := (C 2)) rfl rfl rfl rfl rfl dX0_addColumn_42 ?_
    refine im_aload_n X 0 dX0_addColumn_43 rfl rfl ?_
    refine im_dup X rfl dX0_addColumn_44 ?_
    refine im_cget X 0 0 (v := .int (C 0 6)) fl_X0_43 rfl rfl rfl dX0_addColumn_45 ?_
    refine im_iconst X 1 dX0_addColumn_48 (by decide) ?_
    refine im_iadd X dX0_addColumn_49 ?_
    refine im_cput X 0 0 (wx_Cloth ct aC ((C 0 6) + 1) (C 0 7) (C 0 8) (C 0 9) (upd (C 1) ((C 0 6)).toNatClampNeg x1) (upd (C 2) ((C 0 6)).toNatClampNeg 1) (C 3) (C 4) (C 5) (C 6)) [wx_Cloth ct aC ((C 0 6) + 1) (C 0 7) (C 0 8) (C 0 9) (upd (C 1) ((C 0 6)).toNatClampNeg x1) (upd (C 2) ((C 0 6)).toNatClampNeg 1) (C 3) (C 4) (C 5) (C 6)] fl_X0_43 rfl rfl rfl rfl (Nat.le_of_ble_eq_true rfl) rfl rfl dX0_addColumn_50 ?_
    exact im_return X (mr (mr (mr C 1 (upd (C 1) ((C 0 6)).toNatClampNeg x1)) 2 (upd (C 2) ((C 0 6)).toNatClampNeg 1)) 0 (fu (C 0) 6 ((C 0 6) + 1))) rfl dX0_addColumn_53
theorem c_X0_addColumn (l : Launch) (D : va_G) (ct : im_ct) (F : Nat) (aC : Nat → Nat) (C : Mem) (x1 : Int32) : CMv l D ct yX0_addColumn cX0_addColumn 2 none 0 [.ref (aC 0), .int x1] (cat [w_Cloth ct aC C]) (f_X0_addColumn F C x1) (fun z : Mem => (cat [w_Cloth ct aC z])) :=
  im_met (Qb := fun A => QV D A (fun z : Mem => (cat [w_Cloth ct aC z]))) (by decide +kernel) (Nat.le_of_ble_eq_true rfl) (fun p e s m args below meth c A X => i_X0_addColumn X F aC C x1)

noncomputable def f_X0_copyFrom (F : Nat) (C : Mem) (C2 : Mem) : Option (Mem) :=
  cp 0 0 6 6 6 (cp 0 0 6 6 6 (cp 0 0 24 24 24 (cp 0 0 24 24 24 (cp 0 0 ((C2 0 8) * 5) 120 120 (cp 0 0 ((C2 0 9) * 4) 48 48 ((some (mr (mr (mr (mr (mr (mr (mr C 1 (va_cpy (C2 1) (C 1) (0 : Int32).toNatClampNeg (0 : Int32).toNatClampNeg (6 : Int32).toNatClampNeg)) 2 (va_cpy (C2 2) (C 2) (0 : Int32).toNatClampNeg (0 : Int32).toNatClampNeg (6 : Int32).toNatClampNeg)) 3 (va_cpy (C2 3) (C 3) (0 : Int32).toNatClampNeg (0 : Int32).toNatClampNeg (24 : Int32).toNatClampNeg)) 4 (va_cpy (C2 4) (C 4) (0 : Int32).toNatClampNeg (0 : Int32).toNatClampNeg (24 : Int32).toNatClampNeg)) 5 (va_cpy (C2 5) (C 5) (0 : Int32).toNatClampNeg (0 : Int32).toNatClampNeg (((C2 0 8) * 5)).toNatClampNeg)) 6 (va_cpy (C2 6) (C 6) (0 : Int32).toNatClampNeg (0 : Int32).toNatClampNeg (((C2 0 9) * 4)).toNatClampNeg)) 0 (fu (fu (fu (fu (C 0) 6 (C2 0 6)) 7 (C2 0 7)) 8 (C2 0 8)) 9 (C2 0 9))))))))))
set_option maxRecDepth 100000 in
set_option maxHeartbeats 4000000 in
theorem i_X0_copyFrom {p : Program} {l : Launch} {e : Env} {s : State} {m : MethodId} {args : Array Value} {below : List Frame} {meth : Method} {c : Code} {D : va_G} {ct : im_ct} {A : Nat → Prop} (X : im_X p (im_rm 1) s m args meth c D ct A RX0 cX0_copyFrom 2 none) (F : Nat) (aC aC2 : Nat → Nat) (C : Mem) (C2 : Mem) : Im p l e (im_rm 1) s m args below meth c D A 2 (QV D A (fun z : Mem => (cat [w_Cloth ct aC z, w_Cloth ct aC2 C2]))) 0 [(0, .ref (aC 0)), (1, .ref (aC2 0))] [] (cat [w_Cloth ct aC C, w_Cloth ct aC2 C2]) (f_X0_copyFrom F C C2) := by
  unfold f_X0_copyFrom
  refine im_aload_n X 1 dX0_copyFrom_0 rfl rfl ?_
  refine im_cget X 1 0 (v := .ref (aC2 1)) fl_X0_9 rfl rfl rfl dX0_copyFrom_1 ?_
  refine im_iconst X 0 dX0_copyFrom_4 (by decide) ?_
  refine im_aload_n X 0 dX0_copyFrom_5 rfl rfl ?_
  refine im_cget X 0 0 (v := .ref (aC 1)) fl_X0_9 rfl rfl rfl dX0_copyFrom_6 ?_
  refine im_iconst X 0 dX0_copyFrom_9 (by decide) ?_
  refine im_bipush X 6 dX0_copyFrom_10 (by decide) ?_
  refine im_ccopyi X 1 1 0 1 0 (wx_Cloth ct aC (C 0 6) (C 0 7) (C 0 8) (C 0 9) (va_cpy (C2 1) (C 1) (0 : Int32).toNatClampNeg (0 : Int32).toNatClampNeg (6 : Int32).toNatClampNeg) (C 2) (C 3) (C 4) (C 5) (C 6)) [wx_Cloth ct aC (C 0 6) (C 0 7) (C 0 8) (C 0 9) (va_cpy (C2 1) (C 1) (0 : Int32).toNatClampNeg (0 : Int32).toNatClampNeg (6 : Int32).toNatClampNeg) (C 2) (C 3) (C 4) (C 5) (C 6), w_Cloth ct aC2 C2] (f := (C2 1)) (g := (C 1)) ac1_X0_30 ac2 ac3 ac4 rfl rfl rfl rfl rfl ⟨by decide, by decide⟩ rfl rfl dX0_copyFrom_12 ?_
  refine im_aload_n X 1 dX0_copyFrom_15 rfl rfl ?_
  refine im_cget X 1 0 (v := .ref (aC2 2)) fl_X0_15 rfl rfl rfl dX0_copyFrom_16 ?_
  refine im_iconst X 0 dX0_copyFrom_19 (by decide) ?_
  refine im_aload_n X 0 dX0_copyFrom_20 rfl rfl ?_
  refine im_cget X 0 0 (v := .ref (aC 2)) fl_X0_15 rfl rfl rfl dX0_copyFrom_21 ?_
  refine im_iconst X 0 dX0_copyFrom_24 (by decide) ?_
  refine im_bipush X 6 dX0_copyFrom_25 (by decide) ?_
  refine im_ccopyi X 1 2 0 2 0 (wx_Cloth ct aC (C 0 6) (C 0 7) (C 0 8) (C 0 9) (va_cpy (C2 1) (C 1) (0 : Int32).toNatClampNeg (0 : Int32).toNatClampNeg (6 : Int32).toNatClampNeg) (va_cpy (C2 2) (C 2) (0 : Int32).toNatClampNeg (0 : Int32).toNatClampNeg (6 : Int32).toNatClampNeg) (C 3) (C 4) (C 5) (C 6)) [wx_Cloth ct aC (C 0 6) (C 0 7) (C 0 8) (C 0 9) (va_cpy (C2 1) (C 1) (0 : Int32).toNatClampNeg (0 : Int32).toNatClampNeg (6 : Int32).toNatClampNeg) (va_cpy (C2 2) (C 2) (0 : Int32).toNatClampNeg (0 : Int32).toNatClampNeg (6 : Int32).toNatClampNeg) (C 3) (C 4) (C 5) (C 6), w_Cloth ct aC2 C2] (f := (C2 2)) (g := (C 2)) ac1_X0_30 ac2 ac3 ac4 rfl rfl rfl rfl rfl ⟨by decide, by decide⟩ rfl rfl dX0_copyFrom_27 ?_
  refine im_aload_n X 1 dX0_copyFrom_30 rfl rfl ?_
  refine im_cget X 1 0 (v := .ref (aC2 3)) fl_X0_18 rfl rfl rfl dX0_copyFrom_31 ?_
  refine im_iconst X 0 dX0_copyFrom_34 (by decide) ?_
  refine im_aload_n X 0 dX0_copyFrom_35 rfl rfl ?_
  refine im_cget X 0 0 (v := .ref (aC 3)) fl_X0_18 rfl rfl rfl dX0_copyFrom_36 ?_
  refine im_iconst X 0 dX0_copyFrom_39 (by decide) ?_
  refine im_bipush X 24 dX0_copyFrom_40 (by decide) ?_
  refine im_ccopyi X 1 3 0 3 0 (wx_Cloth ct aC (C 0 6) (C 0 7) (C 0 8) (C 0 9) (va_cpy (C2 1) (C 1) (0 : Int32).toNatClampNeg (0 : Int32).toNatClampNeg (6 : Int32).toNatClampNeg) (va_cpy (C2 2) (C 2) (0 : Int32).toNatClampNeg (0 : Int32).toNatClampNeg (6 : Int32).toNatClampNeg) (va_cpy (C2 3) (C 3) (0 : Int32).toNatClampNeg (0 : Int32).toNatClampNeg (24 : Int32).toNatClampNeg) (C 4) (C 5) (C 6)) [wx_Cloth ct aC (C 0 6) (C 0 7) (C 0 8) (C 0 9) (va_cpy (C2 1) (C 1) (0 : Int32).toNatClampNeg (0 : Int32).toNatClampNeg (6 : Int32).toNatClampNeg) (va_cpy (C2 2) (C 2) (0 : Int32).toNatClampNeg (0 : Int32).toNatClampNeg (6 : Int32).toNatClampNeg) (va_cpy (C2 3) (C 3) (0 : Int32).toNatClampNeg (0 : Int32).toNatClampNeg (24 : Int32).toNatClampNeg) (C 4) (C 5) (C 6), w_Cloth ct aC2 C2] (f := (C2 3)) (g := (C 3)) ac1_X0_30 ac2 ac3 ac4 rfl rfl rfl rfl rfl ⟨by decide, by decide⟩ rfl rfl dX0_copyFrom_42 ?_
  refine im_aload_n X 1 dX0_copyFrom_45 rfl rfl ?_
  refine im_cget X 1 0 (v := .ref (aC2 4)) fl_X0_21 rfl rfl rfl dX0_copyFrom_46 ?_
  refine im_iconst X 0 dX0_copyFrom_49 (by decide) ?_
  refine im_aload_n X 0 dX0_copyFrom_50 rfl rfl ?_
  refine im_cget X 0 0 (v := .ref (aC 4)) fl_X0_21 rfl rfl rfl dX0_copyFrom_51 ?_
  refine im_iconst X 0 dX0_copyFrom_54 (by decide) ?_
  refine im_bipush X 24 dX0_copyFrom_55 (by decide) ?_
  refine im_ccopyi X 1 4 0 4 0 (wx_Cloth ct aC (C 0 6) (C 0 7) (C 0 8) (C 0 9) (va_cpy (C2 1) (C 1) (0 : Int32).toNatClampNeg (0 : Int32).toNatClampNeg (6 : Int32).toNatClampNeg) (va_cpy (C2 2) (C 2) (0 : Int32).toNatClampNeg (0 : Int32).toNatClampNeg (6 : Int32).toNatClampNeg) (va_cpy (C2 3) (C 3) (0 : Int32).toNatClampNeg (0 : Int32).toNatClampNeg (24 : Int32).toNatClampNeg) (va_cpy (C2 4) (C 4) (0 : Int32).toNatClampNeg (0 : Int32).toNatClampNeg (24 : Int32).toNatClampNeg) (C 5) (C 6)) [wx_Cloth ct aC (C 0 6) (C 0 7) (C 0 8) (C 0 9) (va_cpy (C2 1) (C 1) (0 : Int32).toNatClampNeg (0 : Int32).toNatClampNeg (6 : Int32).toNatClampNeg) (va_cpy (C2 2) (C 2) (0 : Int32).toNatClampNeg (0 : Int32).toNatClampNeg (6 : Int32).toNatClampNeg) (va_cpy (C2 3) (C 3) (0 : Int32).toNatClampNeg (0 : Int32).toNatClampNeg (24 : Int32).toNatClampNeg) (va_cpy (C2 4) (C 4) (0 : Int32).toNatClampNeg (0 : Int32).toNatClampNeg (24 : Int32).toNatClampNeg) (C 5) (C 6), w_Cloth ct aC2 C2] (f := (C2 4)) (g := (C 4)) ac1_X0_30 ac2 ac3 ac4 rfl rfl rfl rfl rfl ⟨by decide, by decide⟩ rfl rfl dX0_copyFrom_57 ?_
  refine im_aload_n X 1 dX0_copyFrom_60 rfl rfl ?_
  refine im_cget X 1 0 (v := .ref (aC2 5)) fl_X0_24 rfl rfl rfl dX0_copyFrom_61 ?_
  refine im_iconst X 0 dX0_copyFrom_64 (by decide) ?_
  refine im_aload_n X 0 dX0_copyFrom_65 rfl rfl ?_
  refine im_cget X 0 0 (v := .ref (aC 5)) fl_X0_24 rfl rfl rfl dX0_copyFrom_66 ?_
  refine im_iconst X 0 dX0_copyFrom_69 (by decide) ?_
  refine im_aload_n X 1 dX0_copyFrom_70 rfl rfl ?_
  refine im_cget X 1 0 (v := .int (C2 0 8)) fl_X0_36 rfl rfl rfl dX0_copyFrom_71 ?_
  refine im_iconst X 5 dX0_copyFrom_74 (by decide) ?_
  refine im_imul X dX0_copyFrom_75 ?_
  refine im_ccopyi X 1 5 0 5 0 (wx_Cloth ct aC (C 0 6) (C 0 7) (C 0 8) (C 0 9) (va_cpy (C2 1) (C 1) (0 : Int32).toNatClampNeg (0 : Int32).toNatClampNeg (6 : Int32).toNatClampNeg) (va_cpy (C2 2) (C 2) (0 : Int32).toNatClampNeg (0 : Int32).toNatClampNeg (6 : Int32).toNatClampNeg) (va_cpy (C2 3) (C 3) (0 : Int32).toNatClampNeg (0 : Int32).toNatClampNeg (24 : Int32).toNatClampNeg) (va_cpy (C2 4) (C 4) (0 : Int32).toNatClampNeg (0 : Int32).toNatClampNeg (24 : Int32).toNatClampNeg) (va_cpy (C2 5) (C 5) (0 : Int32).toNatClampNeg (0 : Int32).toNatClampNeg (((C2 0 8) * 5)).toNatClampNeg) (C 6)) [wx_Cloth ct aC (C 0 6) (C 0 7) (C 0 8) (C 0 9) (va_cpy (C2 1) (C 1) (0 : Int32).toNatClampNeg (0 : Int32).toNatClampNeg (6 : Int32).toNatClampNeg) (va_cpy (C2 2) (C 2) (0 : Int32).toNatClampNeg (0 : Int32).toNatClampNeg (6 : Int32).toNatClampNeg) (va_cpy (C2 3) (C 3) (0 : Int32).toNatClampNeg (0 : Int32).toNatClampNeg (24 : Int32).toNatClampNeg) (va_cpy (C2 4) (C 4) (0 : Int32).toNatClampNeg (0 : Int32).toNatClampNeg (24 : Int32).toNatClampNeg) (va_cpy (C2 5) (C 5) (0 : Int32).toNatClampNeg (0 : Int32).toNatClampNeg (((C2 0 8) * 5)).toNatClampNeg) (C 6), w_Cloth ct aC2 C2] (f := (C2 5)) (g := (C 5)) ac1_X0_30 ac2 ac3 ac4 rfl rfl rfl rfl rfl ⟨by decide, by decide⟩ rfl rfl dX0_copyFrom_76 ?_
  refine im_aload_n X 1 dX0_copyFrom_79 rfl rfl ?_
  refine im_cget X 1 0 (v := .ref (aC2 6)) fl_X0_27 rfl rfl rfl dX0_copyFrom_80 ?_
  refine im_iconst X 0 dX0_copyFrom_83 (by decide) ?_
  refine im_aload_n X 0 dX0_copyFrom_84 rfl rfl ?_
  refine im_cget X 0 0 (v := .ref (aC 6)) fl_X0_27 rfl rfl rfl dX0_copyFrom_85 ?_
  refine im_iconst X 0 dX0_copyFrom_88 (by decide) ?_
  refine im_aload_n X 1 dX0_copyFrom_89 rfl rfl ?_
  refine im_cget X 1 0 (v := .int (C2 0 9)) fl_X0_40 rfl rfl rfl dX0_copyFrom_90 ?_
  refine im_iconst X 4 dX0_copyFrom_93 (by decide) ?_
  refine im_imul X dX0_copyFrom_94 ?_
  refine im_ccopyi X 1 6 0 6 0 (wx_Cloth ct aC (C 0 6) (C 0 7) (C 0 8) (C 0 9) (va_cpy (C2 1) (C 1) (0 : Int32).toNatClampNeg (0 : Int32).toNatClampNeg (6 : Int32).toNatClampNeg) (va_cpy (C2 2) (C 2) (0 : Int32).toNatClampNeg (0 : Int32).toNatClampNeg (6 : Int32).toNatClampNeg) (va_cpy (C2 3) (C 3) (0 : Int32).toNatClampNeg (0 : Int32).toNatClampNeg (24 : Int32).toNatClampNeg) (va_cpy (C2 4) (C 4) (0 : Int32).toNatClampNeg (0 : Int32).toNatClampNeg (24 : Int32).toNatClampNeg) (va_cpy (C2 5) (C 5) (0 : Int32).toNatClampNeg (0 : Int32).toNatClampNeg (((C2 0 8) * 5)).toNatClampNeg) (va_cpy (C2 6) (C 6) (0 : Int32).toNatClampNeg (0 : Int32).toNatClampNeg (((C2 0 9) * 4)).toNatClampNeg)) [wx_Cloth ct aC (C 0 6) (C 0 7) (C 0 8) (C 0 9) (va_cpy (C2 1) (C 1) (0 : Int32).toNatClampNeg (0 : Int32).toNatClampNeg (6 : Int32).toNatClampNeg) (va_cpy (C2 2) (C 2) (0 : Int32).toNatClampNeg (0 : Int32).toNatClampNeg (6 : Int32).toNatClampNeg) (va_cpy (C2 3) (C 3) (0 : Int32).toNatClampNeg (0 : Int32).toNatClampNeg (24 : Int32).toNatClampNeg) (va_cpy (C2 4) (C 4) (0 : Int32).toNatClampNeg (0 : Int32).toNatClampNeg (24 : Int32).toNatClampNeg) (va_cpy (C2 5) (C 5) (0 : Int32).toNatClampNeg (0 : Int32).toNatClampNeg (((C2 0 8) * 5)).toNatClampNeg) (va_cpy (C2 6) (C 6) (0 : Int32).toNatClampNeg (0 : Int32).toNatClampNeg (((C2 0 9) * 4)).toNatClampNeg), w_Cloth ct aC2 C2] (f := (C2 6)) (g := (C 6)) ac1_X0_30 ac2 ac3 ac4 rfl rfl rfl rfl rfl ⟨by decide, by decide⟩ rfl rfl dX0_copyFrom_95 ?_
  refine im_aload_n X 0 dX0_copyFrom_98 rfl rfl ?_
  refine im_aload_n X 1 dX0_copyFrom_99 rfl rfl ?_
  refine im_cget X 1 0 (v := .int (C2 0 6)) fl_X0_43 rfl rfl rfl dX0_copyFrom_100 ?_
  refine im_cput X 0 0 (wx_Cloth ct aC (C2 0 6) (C 0 7) (C 0 8) (C 0 9) (va_cpy (C2 1) (C 1) (0 : Int32).toNatClampNeg (0 : Int32).toNatClampNeg (6 : Int32).toNatClampNeg) (va_cpy (C2 2) (C 2) (0 : Int32).toNatClampNeg (0 : Int32).toNatClampNeg (6 : Int32).toNatClampNeg) (va_cpy (C2 3) (C 3) (0 : Int32).toNatClampNeg (0 : Int32).toNatClampNeg (24 : Int32).toNatClampNeg) (va_cpy (C2 4) (C 4) (0 : Int32).toNatClampNeg (0 : Int32).toNatClampNeg (24 : Int32).toNatClampNeg) (va_cpy (C2 5) (C 5) (0 : Int32).toNatClampNeg (0 : Int32).toNatClampNeg (((C2 0 8) * 5)).toNatClampNeg) (va_cpy (C2 6) (C 6) (0 : Int32).toNatClampNeg (0 : Int32).toNatClampNeg (((C2 0 9) * 4)).toNatClampNeg)) [wx_Cloth ct aC (C2 0 6) (C 0 7) (C 0 8) (C 0 9) (va_cpy (C2 1) (C 1) (0 : Int32).toNatClampNeg (0 : Int32).toNatClampNeg (6 : Int32).toNatClampNeg) (va_cpy (C2 2) (C 2) (0 : Int32).toNatClampNeg (0 : Int32).toNatClampNeg (6 : Int32).toNatClampNeg) (va_cpy (C2 3) (C 3) (0 : Int32).toNatClampNeg (0 : Int32).toNatClampNeg (24 : Int32).toNatClampNeg) (va_cpy (C2 4) (C 4) (0 : Int32).toNatClampNeg (0 : Int32).toNatClampNeg (24 : Int32).toNatClampNeg) (va_cpy (C2 5) (C 5) (0 : Int32).toNatClampNeg (0 : Int32).toNatClampNeg (((C2 0 8) * 5)).toNatClampNeg) (va_cpy (C2 6) (C 6) (0 : Int32).toNatClampNeg (0 : Int32).toNatClampNeg (((C2 0 9) * 4)).toNatClampNeg), w_Cloth ct aC2 C2] fl_X0_43 rfl rfl rfl rfl (Nat.le_of_ble_eq_true rfl) rfl rfl dX0_copyFrom_103 ?_
  refine im_aload_n X 0 dX0_copyFrom_106 rfl rfl ?_
  refine im_aload_n X 1 dX0_copyFrom_107 rfl rfl ?_
  refine im_cget X 1 0 (v := .int (C2 0 7)) fl_X0_46 rfl rfl rfl dX0_copyFrom_108 ?_
  refine im_cput X 0 0 (wx_Cloth ct aC (C2 0 6) (C2 0 7) (C 0 8) (C 0 9) (va_cpy (C2 1) (C 1) (0 : Int32).toNatClampNeg (0 : Int32).toNatClampNeg (6 : Int32).toNatClampNeg) (va_cpy (C2 2) (C 2) (0 : Int32).toNatClampNeg (0 : Int32).toNatClampNeg (6 : Int32).toNatClampNeg) (va_cpy (C2 3) (C 3) (0 : Int32).toNatClampNeg (0 : Int32).toNatClampNeg (24 : Int32).toNatClampNeg) (va_cpy (C2 4) (C 4) (0 : Int32).toNatClampNeg (0 : Int32).toNatClampNeg (24 : Int32).toNatClampNeg) (va_cpy (C2 5) (C 5) (0 : Int32).toNatClampNeg (0 : Int32).toNatClampNeg (((C2 0 8) * 5)).toNatClampNeg) (va_cpy (C2 6) (C 6) (0 : Int32).toNatClampNeg (0 : Int32).toNatClampNeg (((C2 0 9) * 4)).toNatClampNeg)) [wx_Cloth ct aC (C2 0 6) (C2 0 7) (C 0 8) (C 0 9) (va_cpy (C2 1) (C 1) (0 : Int32).toNatClampNeg (0 : Int32).toNatClampNeg (6 : Int32).toNatClampNeg) (va_cpy (C2 2) (C 2) (0 : Int32).toNatClampNeg (0 : Int32).toNatClampNeg (6 : Int32).toNatClampNeg) (va_cpy (C2 3) (C 3) (0 : Int32).toNatClampNeg (0 : Int32).toNatClampNeg (24 : Int32).toNatClampNeg) (va_cpy (C2 4) (C 4) (0 : Int32).toNatClampNeg (0 : Int32).toNatClampNeg (24 : Int32).toNatClampNeg) (va_cpy (C2 5) (C 5) (0 : Int32).toNatClampNeg (0 : Int32).toNatClampNeg (((C2 0 8) * 5)).toNatClampNeg) (va_cpy (C2 6) (C 6) (0 : Int32).toNatClampNeg (0 : Int32).toNatClampNeg (((C2 0 9) * 4)).toNatClampNeg), w_Cloth ct aC2 C2] fl_X0_46 rfl rfl rfl rfl (Nat.le_of_ble_eq_true rfl) rfl rfl dX0_copyFrom_111 ?_
  refine im_aload_n X 0 dX0_copyFrom_114 rfl rfl ?_
  refine im_aload_n X 1 dX0_copyFrom_115 rfl rfl ?_
  refine im_cget X 1 0 (v := .int (C2 0 8)) fl_X0_36 rfl rfl rfl dX0_copyFrom_116 ?_
  refine im_cput X 0 0 (wx_Cloth ct aC (C2 0 6) (C2 0 7) (C2 0 8) (C 0 9) (va_cpy (C2 1) (C 1) (0 : Int32).toNatClampNeg (0 : Int32).toNatClampNeg (6 : Int32).toNatClampNeg) (va_cpy (C2 2) (C 2) (0 : Int32).toNatClampNeg (0 : Int32).toNatClampNeg (6 : Int32).toNatClampNeg) (va_cpy (C2 3) (C 3) (0 : Int32).toNatClampNeg (0 : Int32).toNatClampNeg (24 : Int32).toNatClampNeg) (va_cpy (C2 4) (C 4) (0 : Int32).toNatClampNeg (0 : Int32).toNatClampNeg (24 : Int32).toNatClampNeg) (va_cpy (C2 5) (C 5) (0 : Int32).toNatClampNeg (0 : Int32).toNatClampNeg (((C2 0 8) * 5)).toNatClampNeg) (va_cpy (C2 6) (C 6) (0 : Int32).toNatClampNeg (0 : Int32).toNatClampNeg (((C2 0 9) * 4)).toNatClampNeg)) [wx_Cloth ct aC (C2 0 6) (C2 0 7) (C2 0 8) (C 0 9) (va_cpy (C2 1) (C 1) (0 : Int32).toNatClampNeg (0 : Int32).toNatClampNeg (6 : Int32).toNatClampNeg) (va_cpy (C2 2) (C 2) (0 : Int32).toNatClampNeg (0 : Int32).toNatClampNeg (6 : Int32).toNatClampNeg) (va_cpy (C2 3) (C 3) (0 : Int32).toNatClampNeg (0 : Int32).toNatClampNeg (24 : Int32).toNatClampNeg) (va_cpy (C2 4) (C 4) (0 : Int32).toNatClampNeg (0 : Int32).toNatClampNeg (24 : Int32).toNatClampNeg) (va_cpy (C2 5) (C 5) (0 : Int32).toNatClampNeg (0 : Int32).toNatClampNeg (((C2 0 8) * 5)).toNatClampNeg) (va_cpy (C2 6) (C 6) (0 : Int32).toNatClampNeg (0 : Int32).toNatClampNeg (((C2 0 9) * 4)).toNatClampNeg), w_Cloth ct aC2 C2] fl_X0_36 rfl rfl rfl rfl (Nat.le_of_ble_eq_true rfl) rfl rfl dX0_copyFrom_119 ?_
  refine im_aload_n X 0 dX0_copyFrom_122 rfl rfl ?_
  refine im_aload_n X 1 dX0_copyFrom_123 rfl rfl ?_
  refine im_cget X 1 0 (v := .int (C2 0 9)) fl_X0_40 rfl rfl rfl dX0_copyFrom_124 ?_
  refine im_cput X 0 0 (wx_Cloth ct aC (C2 0 6) (C2 0 7) (C2 0 8) (C2 0 9) (va_cpy (C2 1) (C 1) (0 : Int32).toNatClampNeg (0 : Int32).toNatClampNeg (6 : Int32).toNatClampNeg) (va_cpy (C2 2) (C 2) (0 : Int32).toNatClampNeg (0 : Int32).toNatClampNeg (6 : Int32).toNatClampNeg) (va_cpy (C2 3) (C 3) (0 : Int32).toNatClampNeg (0 : Int32).toNatClampNeg (24 : Int32).toNatClampNeg) (va_cpy (C2 4) (C 4) (0 : Int32).toNatClampNeg (0 : Int32).toNatClampNeg (24 : Int32).toNatClampNeg) (va_cpy (C2 5) (C 5) (0 : Int32).toNatClampNeg (0 : Int32).toNatClampNeg (((C2 0 8) * 5)).toNatClampNeg) (va_cpy (C2 6) (C 6) (0 : Int32).toNatClampNeg (0 : Int32).toNatClampNeg (((C2 0 9) * 4)).toNatClampNeg)) [wx_Cloth ct aC (C2 0 6) (C2 0 7) (C2 0 8) (C2 0 9) (va_cpy (C2 1) (C 1) (0 : Int32).toNatClampNeg (0 : Int32).toNatClampNeg (6 : Int32).toNatClampNeg) (va_cpy (C2 2) (C 2) (0 : Int32).toNatClampNeg (0 : Int32).toNatClampNeg (6 : Int32).toNatClampNeg) (va_cpy (C2 3) (C 3) (0 : Int32).toNatClampNeg (0 : Int32).toNatClampNeg (24 : Int32).toNatClampNeg) (va_cpy (C2 4) (C 4) (0 : Int32).toNatClampNeg (0 : Int32).toNatClampNeg (24 : Int32).toNatClampNeg) (va_cpy (C2 5) (C 5) (0 : Int32).toNatClampNeg (0 : Int32).toNatClampNeg (((C2 0 8) * 5)).toNatClampNeg) (va_cpy (C2 6) (C 6) (0 : Int32).toNatClampNeg (0 : Int32).toNatClampNeg (((C2 0 9) * 4)).toNatClampNeg), w_Cloth ct aC2 C2] fl_X0_40 rfl rfl rfl rfl (Nat.le_of_ble_eq_true rfl) rfl rfl dX0_copyFrom_127 ?_
  exact im_return X (mr (mr (mr (mr (mr (mr (mr C 1 (va_cpy (C2 1) (C 1) (0 : Int32).toNatClampNeg (0 : Int32).toNatClampNeg (6 : Int32).toNatClampNeg)) 2 (va_cpy (C2 2) (C 2) (0 : Int32).toNatClampNeg (0 : Int32).toNatClampNeg (6 : Int32).toNatClampNeg)) 3 (va_cpy (C2 3) (C 3) (0 : Int32).toNatClampNeg (0 : Int32).toNatClampNeg (24 : Int32).toNatClampNeg)) 4 (va_cpy (C2 4) (C 4) (0 : Int32).toNatClampNeg (0 : Int32).toNatClampNeg (24 : Int32).toNatClampNeg)) 5 (va_cpy (C2 5) (C 5) (0 : Int32).toNatClampNeg (0 : Int32).toNatClampNeg (((C2 0 8) * 5)).toNatClampNeg)) 6 (va_cpy (C2 6) (C 6) (0 : Int32).toNatClampNeg (0 : Int32).toNatClampNeg (((C2 0 9) * 4)).toNatClampNeg)) 0 (fu (fu (fu (fu (C 0) 6 (C2 0 6)) 7 (C2 0 7)) 8 (C2 0 8)) 9 (C2 0 9))) rfl dX0_copyFrom_130
theorem c_X0_copyFrom (l : Launch) (D : va_G) (ct : im_ct) (F : Nat) (aC aC2 : Nat → Nat) (C : Mem) (C2 : Mem) : CMv l D ct yX0_copyFrom cX0_copyFrom 2 none 1 [.ref (aC 0), .ref (aC2 0)] (cat [w_Cloth ct aC C, w_Cloth ct aC2 C2]) (f_X0_copyFrom F C C2) (fun z : Mem => (cat [w_Cloth ct aC z, w_Cloth ct aC2 C2])) :=
  im_met (Qb := fun A => QV D A (fun z : Mem => (cat [w_Cloth ct aC z, w_Cloth ct aC2 C2]))) (by decide +kernel) (Nat.le_of_ble_eq_true rfl) (fun p e s m args below meth c A X => i_X0_copyFrom X F aC aC2 C C2)

noncomputable def f_X0_mayAddColumn (F : Nat) (C : Mem) (x1 : Int32) : Option (Int32) :=
  (if (C 0 6) < 6 then (if (C 0 6) = 0 then (if x1 = 1 then (some 1) else (some 0)) else (if x1 < 2 then (some 0) else (if 20 < x1 then (some 0) else (some 1)))) else (some 0))
set_option maxRecDepth 100000 in
set_option maxHeartbeats 4000000 in
theorem i_X0_mayAddColumn {p : Program} {l : Launch} {e : Env} {s : State} {m : MethodId} {args : Array Value} {below : List Frame} {meth : Method} {c : Code} {D : va_G} {ct : im_ct} {A : Nat → Prop} (X : im_X p (im_rm 0) s m args meth c D ct A RX0 cX0_mayAddColumn 2 (some .boolean)) (F : Nat) (aC : Nat → Nat) (C : Mem) (x1 : Int32) : Im p l e (im_rm 0) s m args below meth c D A 2 (QI D A (fun z : Int32 => z) (fun z : Int32 => (cat [w_Cloth ct aC C]))) 0 [(0, .ref (aC 0)), (1, .int x1)] [] (cat [w_Cloth ct aC C]) (f_X0_mayAddColumn F C x1) := by
  unfold f_X0_mayAddColumn
  refine im_aload_n X 0 dX0_mayAddColumn_0 rfl rfl ?_
  refine im_cget X 0 0 (v := .int (C 0 6)) fl_X0_43 rfl rfl rfl dX0_mayAddColumn_1 ?_
  refine im_bipush X 6 dX0_mayAddColumn_4 (by decide) ?_
  refine im_icmp_lt (tgt := 11) X dX0_mayAddColumn_6 rfl ?_ ?_
  · refine im_aload_n X 0 dX0_mayAddColumn_11 rfl rfl ?_
    refine im_cget X 0 0 (v := .int (C 0 6)) fl_X0_43 rfl rfl rfl dX0_mayAddColumn_12 ?_
    refine im_if_ne (tgt := 31) X dX0_mayAddColumn_15 rfl ?_ ?_
    · refine im_iload_n X 1 dX0_mayAddColumn_31 rfl rfl ?_
      refine im_iconst X 2 dX0_mayAddColumn_32 (by decide) ?_
      refine im_icmp_lt (tgt := 46) X dX0_mayAddColumn_33 rfl ?_ ?_
      · refine im_iconst X 0 dX0_mayAddColumn_46 (by decide) ?_
        exact im_zreturn X 0 rfl rfl rfl dX0_mayAddColumn_47
      · refine im_iload_n X 1 dX0_mayAddColumn_36 rfl rfl ?_
        refine im_bipush X 20 dX0_mayAddColumn_37 (by decide) ?_
        refine im_icmp_gt (tgt := 46) X dX0_mayAddColumn_39 rfl ?_ ?_
        · refine im_iconst X 0 dX0_mayAddColumn_46 (by decide) ?_
          exact im_zreturn X 0 rfl rfl rfl dX0_mayAddColumn_47
        · refine im_iconst X 1 dX0_mayAddColumn_42 (by decide) ?_
          refine im_goto (tgt := 47) X dX0_mayAddColumn_43 rfl ?_
          exact im_zreturn X 1 rfl rfl rfl dX0_mayAddColumn_47
    · refine im_iload_n X 1 dX0_mayAddColumn_18 rfl rfl ?_
      refine im_iconst X 1 dX0_mayAddColumn_19 (by decide) ?_
      refine im_icmp_ne (tgt := 27) X dX0_mayAddColumn_20 rfl ?_ ?_
      · refine im_iconst X 0 dX0_mayAddColumn_27 (by decide) ?_
        refine im_goto (tgt := 47) X dX0_mayAddColumn_28 rfl ?_
        exact im_zreturn X 0 rfl rfl rfl dX0_mayAddColumn_47
      · refine im_iconst X 1 dX0_mayAddColumn_23 (by decide) ?_
        refine im_goto (tgt := 47) X dX0_mayAddColumn_24 rfl ?_
        exact im_zreturn X 1 rfl rfl rfl dX0_mayAddColumn_47
  · refine im_iconst X 0 dX0_mayAddColumn_9 (by decide) ?_
    exact im_zreturn X 0 rfl rfl rfl dX0_mayAddColumn_10
theorem c_X0_mayAddColumn (l : Launch) (D : va_G) (ct : im_ct) (F : Nat) (aC : Nat → Nat) (C : Mem) (x1 : Int32) : CMi l D ct yX0_mayAddColumn cX0_mayAddColumn 2 (some .boolean) 0 [.ref (aC 0), .int x1] (cat [w_Cloth ct aC C]) (f_X0_mayAddColumn F C x1) (fun z : Int32 => z) (fun z : Int32 => (cat [w_Cloth ct aC C])) :=
  im_met (Qb := fun A => QI D A (fun z : Int32 => z) (fun z : Int32 => (cat [w_Cloth ct aC C]))) (by decide +kernel) (Nat.le_of_ble_eq_true rfl) (fun p e s m args below meth c A X => i_X0_mayAddColumn X F aC C x1)

noncomputable def f_X0_sumOf_4 (F : Nat) (C : Mem) (x1 : Int32) (k39 : Int32 → Option (Int32)) : Nat → Int32 → Int32 → Option (Int32)
  | 0, _, _ => none
  | n + 1, x2, x3 =>
  (if (C 0 6) ≤ x3 then k39 x2 else ck ((x1 * 6) + x3) 24 (ck x3 6 (f_X0_sumOf_4 F C x1 k39 n (x2 + (((C 3) (((x1 * 6) + x3)).toNatClampNeg) * ((C 2) x3.toNatClampNeg))) (x3 + 1))))
set_option maxRecDepth 100000 in
set_option maxHeartbeats 4000000 in
theorem i_X0_sumOf_4 {p : Program} {l : Launch} {e : Env} {s : State} {m : MethodId} {args : Array Value} {below : List Frame} {meth : Method} {c : Code} {D : va_G} {ct : im_ct} {A : Nat → Prop} (X : im_X p (im_rm 0) s m args meth c D ct A RX0 cX0_sumOf 4 (some .int)) (F : Nat) (aC : Nat → Nat) (C : Mem) (x1 : Int32) (k39 : Int32 → Option (Int32)) (hk39 : ∀ (x2 : Int32), Im p l e (im_rm 0) s m args below meth c D A 4 (QI D A (fun z : Int32 => z) (fun z : Int32 => (cat [w_Cloth ct aC C]))) 39 [(2, .int x2)] [] (cat [w_Cloth ct aC C]) (k39 x2)) : ∀ (n : Nat) (x2 : Int32) (x3 : Int32), Im p l e (im_rm 0) s m args below meth c D A 4 (QI D A (fun z : Int32 => z) (fun z : Int32 => (cat [w_Cloth ct aC C]))) 4 [(0, .ref (aC 0)), (1, .int x1), (2, .int x2), (3, .int x3)] [] (cat [w_Cloth ct aC C]) (f_X0_sumOf_4 F C x1 k39 n x2 x3) := by
  intro n
  induction n with
  | zero => intros; exact im_none
  | succ n ih =>
    intro x2 x3
    unfold f_X0_sumOf_4
    refine im_iload_n X 3 dX0_sumOf_4 rfl rfl ?_
    refine im_aload_n X 0 dX0_sumOf_5 rfl rfl ?_
    refine im_cget X 0 0 (v := .int (C 0 6)) fl_X0_43 rfl rfl rfl dX0_sumOf_6 ?_
    refine im_icmp_ge (tgt := 39) X dX0_sumOf_9 rfl ?_ ?_
    · refine im_lv [2] [(2, .int x2)] rfl ?_
      exact hk39 x2
    · refine im_iload_n X 2 dX0_sumOf_12 rfl rfl ?_
      refine im_aload_n X 0 dX0_sumOf_13 rfl rfl ?_
      refine im_cget X 0 0 (v := .ref (aC 3)) fl_X0_18 rfl rfl rfl dX0_sumOf_14 ?_
      refine im_iload_n X 1 dX0_sumOf_17 rfl rfl ?_
      refine im_bipush X 6 dX0_sumOf_18 (by decide) ?_
      refine im_imul X dX0_sumOf_20 ?_
      refine im_iload_n X 3 dX0_sumOf_21 rfl rfl ?_
      refine im_iadd X dX0_sumOf_22 ?_
      refine im_ciald X 0 3 0 (f := (C 3)) rfl rfl rfl dX0_sumOf_23 ?_
      refine im_aload_n X 0 dX0_sumOf_24 rfl rfl ?_
      refine im_cget X 0 0 (v := .ref (aC 2)) fl_X0_15 rfl rfl rfl dX0_sumOf_25 ?_
      refine im_iload_n X 3 dX0_sumOf_28 rfl rfl ?_
      refine im_ciald X 0 2 0 (f := (C 2)) rfl rfl rfl dX0_sumOf_29 ?_
      refine im_imul X dX0_sumOf_30 ?_
      refine im_iadd X dX0_sumOf_31 ?_
      refine im_istore_n X [1, 2, 0, 3] [(0, .ref (aC 0)), (1, .int x1), (2, .int (x2 + (((C 3) (((x1 * 6) + x3)).toNatClampNeg) * ((C 2) x3.toNatClampNeg)))), (3, .int x3)] dX0_sumOf_32 rfl (by decide) rfl ?_
      refine im_iinc X 3 1 [1, 2, 3, 0] [(0, .ref (aC 0)), (1, .int x1), (2, .int (x2 + (((C 3) (((x1 * 6) + x3)).toNatClampNeg) * ((C 2) x3.toNatClampNeg)))), (3, .int (x3 + 1))] dX0_sumOf_33 (by decide) rfl (by decide) rfl ?_
      refine im_goto (tgt := 4) X dX0_sumOf_36 rfl ?_
      exact ih (x2 + (((C 3) (((x1 * 6) + x3)).toNatClampNeg) * ((C 2) x3.toNatClampNeg))) (x3 + 1)
noncomputable def f_X0_sumOf (F : Nat) (C : Mem) (x1 : Int32) : Option (Int32) :=
  f_X0_sumOf_4 F C x1 (fun x2_39 => (some x2_39)) F 0 0
set_option maxRecDepth 100000 in
set_option maxHeartbeats 4000000 in
theorem i_X0_sumOf {p : Program} {l : Launch} {e : Env} {s : State} {m : MethodId} {args : Array Value} {below : List Frame} {meth : Method} {c : Code} {D : va_G} {ct : im_ct} {A : Nat → Prop} (X : im_X p (im_rm 0) s m args meth c D ct A RX0 cX0_sumOf 4 (some .int)) (F : Nat) (aC : Nat → Nat) (C : Mem) (x1 : Int32) : Im p l e (im_rm 0) s m args below meth c D A 4 (QI D A (fun z : Int32 => z) (fun z : Int32 => (cat [w_Cloth ct aC C]))) 0 [(0, .ref (aC 0)), (1, .int x1)] [] (cat [w_Cloth ct aC C]) (f_X0_sumOf F C x1) := by
  unfold f_X0_sumOf
  refine im_iconst X 0 dX0_sumOf_0 (by decide) ?_
  refine im_istore_n X [1, 2, 0] [(0, .ref (aC 0)), (1, .int x1), (2, .int 0)] dX0_sumOf_1 rfl (by decide) rfl ?_
  refine im_iconst X 0 dX0_sumOf_2 (by decide) ?_
  refine im_istore_n X [1, 2, 3, 0] [(0, .ref (aC 0)), (1, .int x1), (2, .int 0), (3, .int 0)] dX0_sumOf_3 rfl (by decide) rfl ?_
  refine i_X0_sumOf_4 X F aC C x1 _ (fun x2_39 => ?_) F 0 0
  refine im_iload_n X 0 dX0_sumOf_39 rfl rfl ?_
  exact im_ireturn X x2_39 rfl rfl dX0_sumOf_40
theorem c_X0_sumOf (l : Launch) (D : va_G) (ct : im_ct) (F : Nat) (aC : Nat → Nat) (C : Mem) (x1 : Int32) : CMi l D ct yX0_sumOf cX0_sumOf 4 (some .int) 0 [.ref (aC 0), .int x1] (cat [w_Cloth ct aC C]) (f_X0_sumOf F C x1) (fun z : Int32 => z) (fun z : Int32 => (cat [w_Cloth ct aC C])) :=
  im_met (Qb := fun A => QI D A (fun z : Int32 => z) (fun z : Int32 => (cat [w_Cloth ct aC C]))) (by decide +kernel) (Nat.le_of_ble_eq_true rfl) (fun p e s m args below meth c A X => i_X0_sumOf X F aC C x1)

noncomputable def f_X0_emptyRow_2 (F : Nat) (x1 : Int32) (k26 : Mem → Option (Mem)) : Nat → Mem → Int32 → Option (Mem)
  | 0, _, _ => none
  | n + 1, C, x2 =>
  (if 6 ≤ x2 then k26 C else ck ((x1 * 6) + x2) 24 (f_X0_emptyRow_2 F x1 k26 n (mr C 3 (upd (C 3) (((x1 * 6) + x2)).toNatClampNeg 0)) (x2 + 1)))
set_option maxRecDepth 100000 in
set_option maxHeartbeats 4000000 in
theorem i_X0_emptyRow_2 {p : Program} {l : Launch} {e : Env} {s : State} {m : MethodId} {args : Array Value} {below : List Frame} {meth : Method} {c : Code} {D : va_G} {ct : im_ct} {A : Nat → Prop} (X : im_X p (im_rm 0) s m args meth c D ct A RX0 cX0_emptyRow 3 none) (F : Nat) (aC : Nat → Nat) (x1 : Int32) (k26 : Mem → Option (Mem)) (hk26 : ∀ (C : Mem), Im p l e (im_rm 0) s m args below meth c D A 3 (QV D A (fun z : Mem => (cat [w_Cloth ct aC z]))) 26 [] [] (cat [w_Cloth ct aC C]) (k26 C)) : ∀ (n : Nat) (C : Mem) (x2 : Int32), Im p l e (im_rm 0) s m args below meth c D A 3 (QV D A (fun z : Mem => (cat [w_Cloth ct aC z]))) 2 [(0, .ref (aC 0)), (1, .int x1), (2, .int x2)] [] (cat [w_Cloth ct aC C]) (f_X0_emptyRow_2 F x1 k26 n C x2) := by
  intro n
  induction n with
  | zero => intros; exact im_none
  | succ n ih =>
    intro C x2
    unfold f_X0_emptyRow_2
    refine im_iload_n X 2 dX0_emptyRow_2 rfl rfl ?_
    refine im_bipush X 6 dX0_emptyRow_3 (by decide) ?_
    refine im_icmp_ge (tgt := 26) X dX0_emptyRow_5 rfl ?_ ?_
    · refine im_lv [] [] rfl ?_
      exact hk26 C
    · refine im_aload_n X 0 dX0_emptyRow_8 rfl rfl ?_
      refine im_cget X 0 0 (v := .ref (aC 3)) fl_X0_18 rfl rfl rfl dX0_emptyRow_9 ?_
      refine im_iload_n X 1 dX0_emptyRow_12 rfl rfl ?_
      refine im_bipush X 6 dX0_emptyRow_13 (by decide) ?_
      refine im_imul X dX0_emptyRow_15 ?_
      refine im_iload_n X 2 dX0_emptyRow_16 rfl rfl ?_
      refine im_iadd X dX0_emptyRow_17 ?_
      refine im_iconst X 0 dX0_emptyRow_18 (by decide) ?_
      refine im_ciast X 0 3 0 (wx_Cloth ct aC (C 0 6) (C 0 7) (C 0 8) (C 0 9) (C 1) (C 2) (upd (C 3) (((x1 * 6) + x2)).toNatClampNeg 0) (C 4) (C 5) (C 6)) [wx_Cloth ct aC (C 0 6) (C 0 7) (C 0 8) (C 0 9) (C 1) (C 2) (upd (C 3) (((x1 * 6) + x2)).toNatClampNeg 0) (C 4) (C 5) (C 6)] (f := (C 3)) rfl rfl rfl rfl rfl dX0_emptyRow_19 ?_
      refine im_iinc X 2 1 [1, 2, 0] [(0, .ref (aC 0)), (1, .int x1), (2, .int (x2 + 1))] dX0_emptyRow_20 (by decide) rfl (by decide) rfl ?_
      refine im_goto (tgt := 2) X dX0_emptyRow_23 rfl ?_
      exact ih (mr C 3 (upd (C 3) (((x1 * 6) + x2)).toNatClampNeg 0)) (x2 + 1)
noncomputable def f_X0_emptyRow (F : Nat) (C : Mem) (x1 : Int32) : Option (Mem) :=
  f_X0_emptyRow_2 F x1 (fun C_26 => (some C_26)) F C 0
set_option maxRecDepth 100000 in
set_option maxHeartbeats 4000000 in
theorem i_X0_emptyRow {p : Program} {l : Launch} {e : Env} {s : State} {m : MethodId} {args : Array Value} {below : List Frame} {meth : Method} {c : Code} {D : va_G} {ct : im_ct} {A : Nat → Prop} (X : im_X p (im_rm 0) s m args meth c D ct A RX0 cX0_emptyRow 3 none) (F : Nat) (aC : Nat → Nat) (C : Mem) (x1 : Int32) : Im p l e (im_rm 0) s m args below meth c D A 3 (QV D A (fun z : Mem => (cat [w_Cloth ct aC z]))) 0 [(0, .ref (aC 0)), (1, .int x1)] [] (cat [w_Cloth ct aC C]) (f_X0_emptyRow F C x1) := by
  unfold f_X0_emptyRow
  refine im_iconst X 0 dX0_emptyRow_0 (by decide) ?_
  refine im_istore_n X [1, 2, 0] [(0, .ref (aC 0)), (1, .int x1), (2, .int 0)] dX0_emptyRow_1 rfl (by decide) rfl ?_
  refine i_X0_emptyRow_2 X F aC  x1 _ (fun C_26 => ?_) F C 0
  exact im_return X C_26 rfl dX0_emptyRow_26
theorem c_X0_emptyRow (l : Launch) (D : va_G) (ct : im_ct) (F : Nat) (aC : Nat → Nat) (C : Mem) (x1 : Int32) : CMv l D ct yX0_emptyRow cX0_emptyRow 3 none 0 [.ref (aC 0), .int x1] (cat [w_Cloth ct aC C]) (f_X0_emptyRow F C x1) (fun z : Mem => (cat [w_Cloth ct aC z])) :=
  im_met (Qb := fun A => QV D A (fun z : Mem => (cat [w_Cloth ct aC z]))) (by decide +kernel) (Nat.le_of_ble_eq_true rfl) (fun p e s m args below meth c A X => i_X0_emptyRow X F aC C x1)

noncomputable def f_X0_removeRow_2 (F : Nat) (k41 : Mem → Option (Mem)) : Nat → Mem → Int32 → Option (Mem)
  | 0, _, _ => none
  | n + 1, C, x2 =>
  (if ((C 0 7) - 1) ≤ x2 then k41 C else cp ((x2 + 1) * 6) (x2 * 6) 6 24 24 (f_X0_removeRow_2 F k41 n (mr C 3 (va_cpy (C 3) (C 3) (((x2 + 1) * 6)).toNatClampNeg ((x2 * 6)).toNatClampNeg (6 : Int32).toNatClampNeg)) (x2 + 1)))
set_option maxRecDepth 100000 in
set_option maxHeartbeats 4000000 in
theorem i_X0_removeRow_2 {p : Program} {l : Launch} {e : Env} {s : State} {m : MethodId} {args : Array Value} {below : List Frame} {meth : Method} {c : Code} {D : va_G} {ct : im_ct} {A : Nat → Prop} (X : im_X p (im_rm 1) s m args meth c D ct A RX0 cX0_removeRow 3 none) (F : Nat) (aC : Nat → Nat) (k41 : Mem → Option (Mem)) (hk41 : ∀ (C : Mem), Im p l e (im_rm 1) s m args below meth c D A 3 (QV D A (fun z : Mem => (cat [w_Cloth ct aC z]))) 41 [(0, .ref (aC 0))] [] (cat [w_Cloth ct aC C]) (k41 C)) : ∀ (n : Nat) (C : Mem) (x2 : Int32), Im p l e (im_rm 1) s m args below meth c D A 3 (QV D A (fun z : Mem => (cat [w_Cloth ct aC z]))) 2 [(0, .ref (aC 0)), (2, .int x2)] [] (cat [w_Cloth ct aC C]) (f_X0_removeRow_2 F k41 n C x2) := by
  intro n
  induction n with
  | zero => intros; exact im_none
  | succ n ih =>
    intro C x2
    unfold f_X0_removeRow_2
    refine im_iload_n X 1 dX0_removeRow_2 rfl rfl ?_
    refine im_aload_n X 0 dX0_removeRow_3 rfl rfl ?_
    refine im_cget X 0 0 (v := .int (C 0 7)) fl_X0_46 rfl rfl rfl dX0_removeRow_4 ?_
    refine im_iconst X 1 dX0_removeRow_7 (by decide) ?_
    refine im_isub X dX0_removeRow_8 ?_
    refine im_icmp_ge (tgt := 41) X dX0_removeRow_9 rfl ?_ ?_
    · refine im_lv [0] [(0, .ref (aC 0))] rfl ?_
      exact hk41 C
    · refine im_aload_n X 0 dX0_removeRow_12 rfl rfl ?_
      refine im_cget X 0 0 (v := .ref (aC 3)) fl_X0_18 rfl rfl rfl dX0_removeRow_13 ?_
      refine im_iload_n X 1 dX0_removeRow_16 rfl rfl ?_
      refine im_iconst X 1 dX0_removeRow_17 (by decide) ?_
      refine im_iadd X dX0_removeRow_18 ?_
      refine im_bipush X 6 dX0_removeRow_19 (by decide) ?_
      refine im_imul X dX0_removeRow_21 ?_
      refine im_aload_n X 0 dX0_removeRow_22 rfl rfl ?_
      refine im_cget X 0 0 (v := .ref (aC 3)) fl_X0_18 rfl rfl rfl dX0_removeRow_23 ?_
      refine im_iload_n X 1 dX0_removeRow_26 rfl rfl ?_
      refine im_bipush X 6 dX0_removeRow_27 (by decide) ?_
      refine im_imul X dX0_removeRow_29 ?_
      refine im_bipush X 6 dX0_removeRow_30 (by decide) ?_
      refine im_ccopyi X 0 3 0 3 0 (wx_Cloth ct aC (C 0 6) (C 0 7) (C 0 8) (C 0 9) (C 1) (C 2) (va_cpy (C 3) (C 3) (((x2 + 1) * 6)).toNatClampNeg ((x2 * 6)).toNatClampNeg (6 : Int32).toNatClampNeg) (C 4) (C 5) (C 6)) [wx_Cloth ct aC (C 0 6) (C 0 7) (C 0 8) (C 0 9) (C 1) (C 2) (va_cpy (C 3) (C 3) (((x2 + 1) * 6)).toNatClampNeg ((x2 * 6)).toNatClampNeg (6 : Int32).toNatClampNeg) (C 4) (C 5) (C 6)] (f := (C 3)) (g := (C 3)) ac1_X0_30 ac2 ac3 ac4 rfl rfl rfl rfl rfl ⟨by decide, by decide⟩ rfl rfl dX0_removeRow_32 ?_
      refine im_iinc X 1 1 [1, 0] [(0, .ref (aC 0)), (2, .int (x2 + 1))] dX0_removeRow_35 (by decide) rfl (by decide) rfl ?_
      refine im_goto (tgt := 2) X dX0_removeRow_38 rfl ?_
      exact ih (mr C 3 (va_cpy (C 3) (C 3) (((x2 + 1) * 6)).toNatClampNeg ((x2 * 6)).toNatClampNeg (6 : Int32).toNatClampNeg)) (x2 + 1)
noncomputable def f_X0_removeRow (F : Nat) (C : Mem) (x1 : Int32) : Option (Mem) :=
  f_X0_removeRow_2 F (fun C_41 => (f_X0_emptyRow F C_41 ((C_41 0 7) - 1)).bind (fun z48 => (some (mr z48 0 (fu (z48 0) 7 ((z48 0 7) - 1)))))) F C x1
set_option maxRecDepth 100000 in
set_option maxHeartbeats 4000000 in
theorem i_X0_removeRow {p : Program} {l : Launch} {e : Env} {s : State} {m : MethodId} {args : Array Value} {below : List Frame} {meth : Method} {c : Code} {D : va_G} {ct : im_ct} {A : Nat → Prop} (X : im_X p (im_rm 1) s m args meth c D ct A RX0 cX0_removeRow 3 none) (F : Nat) (aC : Nat → Nat) (C : Mem) (x1 : Int32) : Im p l e (im_rm 1) s m args below meth c D A 3 (QV D A (fun z : Mem => (cat [w_Cloth ct aC z]))) 0 [(0, .ref (aC 0)), (1, .int x1)] [] (cat [w_Cloth ct aC C]) (f_X0_removeRow F C x1) := by
  unfold f_X0_removeRow
  refine im_iload_n X 1 dX0_removeRow_0 rfl rfl ?_
  refine im_istore_n X [1, 2, 0] [(0, .ref (aC 0)), (1, .int x1), (2, .int x1)] dX0_removeRow_1 rfl (by decide) rfl ?_
  refine im_lv [0, 2] [(0, .ref (aC 0)), (2, .int x1)] rfl ?_
  refine i_X0_removeRow_2 X F aC   _ (fun C_41 => ?_) F C x1
  refine im_aload_n X 0 dX0_removeRow_41 rfl rfl ?_
  refine im_aload_n X 0 dX0_removeRow_42 rfl rfl ?_
  refine im_cget X 0 0 (v := .int (C_41 0 7)) fl_X0_46 rfl rfl rfl dX0_removeRow_43 ?_
  refine im_iconst X 1 dX0_removeRow_46 (by decide) ?_
  refine im_isub X dX0_removeRow_47 ?_
  refine im_ccvV X [.int ((C_41 0 7) - 1)] [] [w_Cloth ct aC C_41] [w_Cloth ct aC C_41] [0] (fun z48 => [w_Cloth ct aC z48]) 0 0 0 rfl rfl rfl cl_X0_52 (c_X0_emptyRow l D ct F aC C_41 ((C_41 0 7) - 1)) rfl (by decide) (fun _ => lc fa_Cloth (rfl)) rfl ⟨by decide, by decide⟩ (Nat.le_of_ble_eq_true rfl) rfl dX0_removeRow_48 (fun z48 => ?_)
  refine im_ws (cat [w_Cloth ct aC z48]) rfl ?_
  refine im_aload_n X 0 dX0_removeRow_51 rfl rfl ?_
  refine im_dup X rfl dX0_removeRow_52 ?_
  refine im_cget X 0 0 (v := .int (z48 0 7)) fl_X0_46 rfl rfl rfl dX0_removeRow_53 ?_
  refine im_iconst X 1 dX0_removeRow_56 (by decide) ?_
  refine im_isub X dX0_removeRow_57 ?_
  refine im_cput X 0 0 (wx_Cloth ct aC (z48 0 6) ((z48 0 7) - 1) (z48 0 8) (z48 0 9) (z48 1) (z48 2) (z48 3) (z48 4) (z48 5) (z48 6)) [wx_Cloth ct aC (z48 0 6) ((z48 0 7) - 1) (z48 0 8) (z48 0 9) (z48 1) (z48 2) (z48 3) (z48 4) (z48 5) (z48 6)] fl_X0_46 rfl rfl rfl rfl (Nat.le_of_ble_eq_true rfl) rfl rfl dX0_removeRow_58 ?_
  exact im_return X (mr z48 0 (fu (z48 0) 7 ((z48 0 7) - 1))) rfl dX0_removeRow_61
theorem c_X0_removeRow (l : Launch) (D : va_G) (ct : im_ct) (F : Nat) (aC : Nat → Nat) (C : Mem) (x1 : Int32) : CMv l D ct yX0_removeRow cX0_removeRow 3 none 1 [.ref (aC 0), .int x1] (cat [w_Cloth ct aC C]) (f_X0_removeRow F C x1) (fun z : Mem => (cat [w_Cloth ct aC z])) :=
  im_met (Qb := fun A => QV D A (fun z : Mem => (cat [w_Cloth ct aC z]))) (by decide +kernel) (Nat.le_of_ble_eq_true rfl) (fun p e s m args below meth c A X => i_X0_removeRow X F aC C x1)

noncomputable def f_X0_cellAt (F : Nat) (C : Mem) (x1 : Int32) (x2 : Int32) : Option (Int32) :=
  ck ((x1 * 6) + x2) 24 ((some ((C 3) (((x1 * 6) + x2)).toNatClampNeg)))
set_option maxRecDepth 100000 in
set_option maxHeartbeats 4000000 in
theorem i_X0_cellAt {p : Program} {l : Launch} {e : Env} {s : State} {m : MethodId} {args : Array Value} {below : List Frame} {meth : Method} {c : Code} {D : va_G} {ct : im_ct} {A : Nat → Prop} (X : im_X p (im_rm 0) s m args meth c D ct A RX0 cX0_cellAt 3 (some .int)) (F : Nat) (aC : Nat → Nat) (C : Mem) (x1 : Int32) (x2 : Int32) : Im p l e (im_rm 0) s m args below meth c D A 3 (QI D A (fun z : Int32 => z) (fun z : Int32 => (cat [w_Cloth ct aC C]))) 0 [(0, .ref (aC 0)), (1, .int x1), (2, .int x2)] [] (cat [w_Cloth ct aC C]) (f_X0_cellAt F C x1 x2) := by
  unfold f_X0_cellAt
  refine im_aload_n X 0 dX0_cellAt_0 rfl rfl ?_
  refine im_cget X 0 0 (v := .ref (aC 3)) fl_X0_18 rfl rfl rfl dX0_cellAt_1 ?_
  refine im_iload_n X 1 dX0_cellAt_4 rfl rfl ?_
  refine im_bipush X 6 dX0_cellAt_5 (by decide) ?_
  refine im_imul X dX0_cellAt_7 ?_
  refine im_iload_n X 2 dX0_cellAt_8 rfl rfl ?_
  refine im_iadd X dX0_cellAt_9 ?_
  refine im_ciald X 0 3 0 (f := (C 3)) rfl rfl rfl dX0_cellAt_10 ?_
  exact im_ireturn X ((C 3) (((x1 * 6) + x2)).toNatClampNeg) rfl rfl dX0_cellAt_11
theorem c_X0_cellAt (l : Launch) (D : va_G) (ct : im_ct) (F : Nat) (aC : Nat → Nat) (C : Mem) (x1 : Int32) (x2 : Int32) : CMi l D ct yX0_cellAt cX0_cellAt 3 (some .int) 0 [.ref (aC 0), .int x1, .int x2] (cat [w_Cloth ct aC C]) (f_X0_cellAt F C x1 x2) (fun z : Int32 => z) (fun z : Int32 => (cat [w_Cloth ct aC C])) :=
  im_met (Qb := fun A => QI D A (fun z : Int32 => z) (fun z : Int32 => (cat [w_Cloth ct aC C]))) (by decide +kernel) (Nat.le_of_ble_eq_true rfl) (fun p e s m args below meth c A X => i_X0_cellAt X F aC C x1 x2)

noncomputable def f_X0_describeLogged (F : Nat) (C : Mem) (E : Mem) (x2 : Int32) : Option (Int32 × Mem) :=
  ck (x2 * 5) 120 (ck ((x2 * 5) + 1) 120 (ck ((x2 * 5) + 4) 120 (ck ((x2 * 5) + 2) 120 (ck ((x2 * 5) + 3) 120 ((f_X0_describe F C E ((C 5) ((x2 * 5)).toNatClampNeg) ((C 5) (((x2 * 5) + 1)).toNatClampNeg) ((C 5) (((x2 * 5) + 4)).toNatClampNeg) ((C 5) (((x2 * 5) + 2)).toNatClampNeg) ((C 5) (((x2 * 5) + 3)).toNatClampNeg)).bind (fun z44 => (cb z44.1 (some (z44.1, z44.2)))))))))
set_option maxRecDepth 100000 in
set_option maxHeartbeats 4000000 in
theorem i_X0_describeLogged {p : Program} {l : Launch} {e : Env} {s : State} {m : MethodId} {args : Array Value} {below : List Frame} {meth : Method} {c : Code} {D : va_G} {ct : im_ct} {A : Nat → Prop} (X : im_X p (im_rm 2) s m args meth c D ct A RX0 cX0_describeLogged 4 (some .boolean)) (F : Nat) (aC aE : Nat → Nat) (C : Mem) (E : Mem) (x2 : Int32) : Im p l e (im_rm 2) s m args below meth c D A 4 (QI D A (fun z : Int32 × Mem => z.1) (fun z : Int32 × Mem => (cat [w_Cloth ct aC C, w_Effect ct aE z.2]))) 0 [(0, .ref (aC 0)), (1, .ref (aE 0)), (2, .int x2)] [] (cat [w_Cloth ct aC C, w_Effect ct aE E]) (f_X0_describeLogged F C E x2) := by
  unfold f_X0_describeLogged
  refine im_iload_n X 2 dX0_describeLogged_0 rfl rfl ?_
  refine im_iconst X 5 dX0_describeLogged_1 (by decide) ?_
  refine im_imul X dX0_describeLogged_2 ?_
  refine im_istore_n X [1, 2, 3, 0] [(0, .ref (aC 0)), (1, .ref (aE 0)), (2, .int x2), (3, .int (x2 * 5))] dX0_describeLogged_3 rfl (by decide) rfl ?_
  refine im_aload_n X 0 dX0_describeLogged_4 rfl rfl ?_
  refine im_aload_n X 1 dX0_describeLogged_5 rfl rfl ?_
  refine im_aload_n X 0 dX0_describeLogged_6 rfl rfl ?_
  refine im_cget X 0 0 (v := .ref (aC 5)) fl_X0_24 rfl rfl rfl dX0_describeLogged_7 ?_
  refine im_iload_n X 3 dX0_describeLogged_10 rfl rfl ?_
  refine im_ciald X 0 5 0 (f := (C 5)) rfl rfl rfl dX0_describeLogged_11 ?_
  refine im_aload_n X 0 dX0_describeLogged_12 rfl rfl ?_
  refine im_cget X 0 0 (v := .ref (aC 5)) fl_X0_24 rfl rfl rfl dX0_describeLogged_13 ?_
  refine im_iload_n X 3 dX0_describeLogged_16 rfl rfl ?_
  refine im_iconst X 1 dX0_describeLogged_17 (by decide) ?_
  refine im_iadd X dX0_describeLogged_18 ?_
  refine im_ciald X 0 5 0 (f := (C 5)) rfl rfl rfl dX0_describeLogged_19 ?_
  refine im_aload_n X 0 dX0_describeLogged_20 rfl rfl ?_
  refine im_cget X 0 0 (v := .ref (aC 5)) fl_X0_24 rfl rfl rfl dX0_describeLogged_21 ?_
  refine im_iload_n X 3 dX0_describeLogged_24 rfl rfl ?_
  refine im_iconst X 4 dX0_describeLogged_25 (by decide) ?_
  refine im_iadd X dX0_describeLogged_26 ?_
  refine im_ciald X 0 5 0 (f := (C 5)) rfl rfl rfl dX0_describeLogged_27 ?_
  refine im_aload_n X 0 dX0_describeLogged_28 rfl rfl ?_
  refine im_cget X 0 0 (v := .ref (aC 5)) fl_X0_24 rfl rfl rfl dX0_describeLogged_29 ?_
  refine im_iload_n X 3 dX0_describeLogged_32 rfl rfl ?_
  refine im_iconst X 2 dX0_describeLogged_33 (by decide) ?_
  refine im_iadd X dX0_describeLogged_34 ?_
  refine im_ciald X 0 5 0 (f := (C 5)) rfl rfl rfl dX0_describeLogged_35 ?_
  refine im_aload_n X 0 dX0_describeLogged_36 rfl rfl ?_
  refine im_cget X 0 0 (v := .ref (aC 5)) fl_X0_24 rfl rfl rfl dX0_describeLogged_37 ?_
  refine im_iload_n X 3 dX0_describeLogged_40 rfl rfl ?_
  refine im_iconst X 3 dX0_describeLogged_41 (by decide) ?_
  refine im_iadd X dX0_describeLogged_42 ?_
  refine im_ciald X 0 5 0 (f := (C 5)) rfl rfl rfl dX0_describeLogged_43 ?_
  refine im_cciV X [.ref (aE 0), .int ((C 5) ((x2 * 5)).toNatClampNeg), .int ((C 5) (((x2 * 5) + 1)).toNatClampNeg), .int ((C 5) (((x2 * 5) + 4)).toNatClampNeg), .int ((C 5) (((x2 * 5) + 2)).toNatClampNeg), .int ((C 5) (((x2 * 5) + 3)).toNatClampNeg)] [] [w_Cloth ct aC C, w_Effect ct aE E] [w_Cloth ct aC C, w_Effect ct aE E] [0, 1] (fun z44 => [w_Cloth ct aC C, w_Effect ct aE z44.2]) 0 0 0 rfl rfl rfl cl_X0_83 (c_X0_describe l D ct F aC aE C E ((C 5) ((x2 * 5)).toNatClampNeg) ((C 5) (((x2 * 5) + 1)).toNatClampNeg) ((C 5) (((x2 * 5) + 4)).toNatClampNeg) ((C 5) (((x2 * 5) + 2)).toNatClampNeg) ((C 5) (((x2 * 5) + 3)).toNatClampNeg)) rfl (by decide) (fun _ => lc rfl (lc fa_Effect (rfl))) rfl ⟨by decide, by decide⟩ (Nat.le_of_ble_eq_true rfl) rfl dX0_describeLogged_44 (fun z44 => ?_)
  refine im_ws (cat [w_Cloth ct aC C, w_Effect ct aE z44.2]) rfl ?_
  exact im_zreturnc X (z44.1, z44.2) rfl rfl dX0_describeLogged_47
theorem c_X0_describeLogged (l : Launch) (D : va_G) (ct : im_ct) (F : Nat) (aC aE : Nat → Nat) (C : Mem) (E : Mem) (x2 : Int32) : CMi l D ct yX0_describeLogged cX0_describeLogged 4 (some .boolean) 2 [.ref (aC 0), .ref (aE 0), .int x2] (cat [w_Cloth ct aC C, w_Effect ct aE E]) (f_X0_describeLogged F C E x2) (fun z : Int32 × Mem => z.1) (fun z : Int32 × Mem => (cat [w_Cloth ct aC C, w_Effect ct aE z.2])) :=
  im_met (Qb := fun A => QI D A (fun z : Int32 × Mem => z.1) (fun z : Int32 × Mem => (cat [w_Cloth ct aC C, w_Effect ct aE z.2]))) (by decide +kernel) (Nat.le_of_ble_eq_true rfl) (fun p e s m args below meth c A X => i_X0_describeLogged X F aC aE C E x2)

noncomputable def f_X0_dropSight (F : Nat) (C : Mem) (x1 : Int32) : Option (Mem) :=
  cp ((x1 + 1) * 4) (x1 * 4) ((((C 0 9) - 1) - x1) * 4) 48 48 ((some (mr (mr C 6 (va_cpy (C 6) (C 6) (((x1 + 1) * 4)).toNatClampNeg ((x1 * 4)).toNatClampNeg (((((C 0 9) - 1) - x1) * 4)).toNatClampNeg)) 0 (fu (C 0) 9 ((C 0 9) - 1)))))
set_option maxRecDepth 100000 in
set_option maxHeartbeats 4000000 in
theorem i_X0_dropSight {p : Program} {l : Launch} {e : Env} {s : State} {m : MethodId} {args : Array Value} {below : List Frame} {meth : Method} {c : Code} {D : va_G} {ct : im_ct} {A : Nat → Prop} (X : im_X p (im_rm 1) s m args meth c D ct A RX0 cX0_dropSight 3 none) (F : Nat) (aC : Nat → Nat) (C : Mem) (x1 : Int32) : Im p l e (im_rm 1) s m args below meth c D A 3 (QV D A (fun z : Mem => (cat [w_Cloth ct aC z]))) 0 [(0, .ref (aC 0)), (1, .int x1)] [] (cat [w_Cloth ct aC C]) (f_X0_dropSight F C x1) := by
  unfold f_X0_dropSight
  refine im_aload_n X 0 dX0_dropSight_0 rfl rfl ?_
  refine im_cget X 0 0 (v := .int (C 0 9)) fl_X0_40 rfl rfl rfl dX0_dropSight_1 ?_
  refine im_iconst X 1 dX0_dropSight_4 (by decide) ?_
  refine im_isub X dX0_dropSight_5 ?_
  refine im_iload_n X 1 dX0_dropSight_6 rfl rfl ?_
  refine im_isub X dX0_dropSight_7 ?_
  refine im_iconst X 4 dX0_dropSight_8 (by decide) ?_
  refine im_imul X dX0_dropSight_9 ?_
  refine im_istore_n X [1, 2, 0] [(0, .ref (aC 0)), (1, .int x1), (2, .int ((((C 0 9) - 1) - x1) * 4))] dX0_dropSight_10 rfl (by decide) rfl ?_
  refine im_aload_n X 0 dX0_dropSight_11 rfl rfl ?_
  refine im_cget X 0 0 (v := .ref (aC 6)) fl_X0_27 rfl rfl rfl dX0_dropSight_12 ?_
  refine im_iload_n X 1 dX0_dropSight_15 rfl rfl ?_
  refine im_iconst X 1 dX0_dropSight_16 (by decide) ?_
  refine im_iadd X dX0_dropSight_17 ?_
  refine im_iconst X 4 dX0_dropSight_18 (by decide) ?_
  refine im_imul X dX0_dropSight_19 ?_
  refine im_aload_n X 0 dX0_dropSight_20 rfl rfl ?_
  refine im_cget X 0 0 (v := .ref (aC 6)) fl_X0_27 rfl rfl rfl dX0_dropSight_21 ?_
  refine im_iload_n X 1 dX0_dropSight_24 rfl rfl ?_
  refine im_iconst X 4 dX0_dropSight_25 (by decide) ?_
  refine im_imul X dX0_dropSight_26 ?_
  refine im_iload_n X 2 dX0_dropSight_27 rfl rfl ?_
  refine im_ccopyi X 0 6 0 6 0 (wx_Cloth ct aC (C 0 6) (C 0 7) (C 0 8) (C 0 9) (C 1) (C 2) (C 3) (C 4) (C 5) (va_cpy (C 6) (C 6) (((x1 + 1) * 4)).toNatClampNeg ((x1 * 4)).toNatClampNeg (((((C 0 9) - 1) - x1) * 4)).toNatClampNeg)) [wx_Cloth ct aC (C 0 6) (C 0 7) (C 0 8) (C 0 9) (C 1) (C 2) (C 3) (C 4) (C 5) (va_cpy (C 6) (C 6) (((x1 + 1) * 4)).toNatClampNeg ((x1 * 4)).toNatClampNeg (((((C 0 9) - 1) - x1) * 4)).toNatClampNeg)] (f := (C 6)) (g := (C 6)) ac1_X0_30 ac2 ac3 ac4 rfl rfl rfl rfl rfl ⟨by decide, by decide⟩ rfl rfl dX0_dropSight_28 ?_
  refine im_aload_n X 0 dX0_dropSight_31 rfl rfl ?_
  refine im_dup X rfl dX0_dropSight_32 ?_
  refine im_cget X 0 0 (v := .int (C 0 9)) fl_X0_40 rfl rfl rfl dX0_dropSight_33 ?_
  refine im_iconst X 1 dX0_dropSight_36 (by decide) ?_
  refine im_isub X dX0_dropSight_37 ?_
  refine im_cput X 0 0 (wx_Cloth ct aC (C 0 6) (C 0 7) (C 0 8) ((C 0 9) - 1) (C 1) (C 2) (C 3) (C 4) (C 5) (va_cpy (C 6) (C 6) (((x1 + 1) * 4)).toNatClampNeg ((x1 * 4)).toNatClampNeg (((((C 0 9) - 1) - x1) * 4)).toNatClampNeg)) [wx_Cloth ct aC (C 0 6) (C 0 7) (C 0 8) ((C 0 9) - 1) (C 1) (C 2) (C 3) (C 4) (C 5) (va_cpy (C 6) (C 6) (((x1 + 1) * 4)).toNatClampNeg ((x1 * 4)).toNatClampNeg (((((C 0 9) - 1) - x1) * 4)).toNatClampNeg)] fl_X0_40 rfl rfl rfl rfl (Nat.le_of_ble_eq_true rfl) rfl rfl dX0_dropSight_38 ?_
  exact im_return X (mr (mr C 6 (va_cpy (C 6) (C 6) (((x1 + 1) * 4)).toNatClampNeg ((x1 * 4)).toNatClampNeg (((((C 0 9) - 1) - x1) * 4)).toNatClampNeg)) 0 (fu (C 0) 9 ((C 0 9) - 1))) rfl dX0_dropSight_41
theorem c_X0_dropSight (l : Launch) (D : va_G) (ct : im_ct) (F : Nat) (aC : Nat → Nat) (C : Mem) (x1 : Int32) : CMv l D ct yX0_dropSight cX0_dropSight 3 none 1 [.ref (aC 0), .int x1] (cat [w_Cloth ct aC C]) (f_X0_dropSight F C x1) (fun z : Mem => (cat [w_Cloth ct aC z])) :=
  im_met (Qb := fun A => QV D A (fun z : Mem => (cat [w_Cloth ct aC z]))) (by decide +kernel) (Nat.le_of_ble_eq_true rfl) (fun p e s m args below meth c A X => i_X0_dropSight X F aC C x1)

noncomputable def f_X0_dropSightsBehind_7 (F : Nat) (x1 : Int32) (k34 : Mem → Option (Mem)) : Nat → Mem → Int32 → Option (Mem)
  | 0, _, _ => none
  | n + 1, C, x2 =>
  (if x2 < 0 then k34 C else ck (x2 * 4) 48 ((if ((C 6) ((x2 * 4)).toNatClampNeg) ≤ x1 then f_X0_dropSightsBehind_7 F x1 k34 n C (x2 + (-1)) else (f_X0_dropSight F C x2).bind (fun z25 => f_X0_dropSightsBehind_7 F x1 k34 n z25 (x2 + (-1))))))
set_option maxRecDepth 100000 in
set_option maxHeartbeats 4000000 in
theorem i_X0_dropSightsBehind_7 {p : Program} {l : Launch} {e : Env} {s : State} {m : MethodId} {args : Array Value} {below : List Frame} {meth : Method} {c : Code} {D : va_G} {ct : im_ct} {A : Nat → Prop} (X : im_X p (im_rm 2) s m args meth c D ct A RX0 cX0_dropSightsBehind 3 none) (F : Nat) (aC : Nat → Nat) (x1 : Int32) (k34 : Mem → Option (Mem)) (hk34 : ∀ (C : Mem), Im p l e (im_rm 2) s m args below meth c D A 3 (QV D A (fun z : Mem => (cat [w_Cloth ct aC z]))) 34 [] [] (cat [w_Cloth ct aC C]) (k34 C)) : ∀ (n : Nat) (C : Mem) (x2 : Int32), Im p l e (im_rm 2) s m args below meth c D A 3 (QV D A (fun z : Mem => (cat [w_Cloth ct aC z]))) 7 [(0, .ref (aC 0)), (1, .int x1), (2, .int x2)] [] (cat [w_Cloth ct aC C]) (f_X0_dropSightsBehind_7 F x1 k34 n C x2) := by
  intro n
  induction n with
  | zero => intros; exact im_none
  | succ n ih =>
    intro C x2
    unfold f_X0_dropSightsBehind_7
    refine im_iload_n X 2 dX0_dropSightsBehind_7 rfl rfl ?_
    refine im_if_lt (tgt := 34) X dX0_dropSightsBehind_8 rfl ?_ ?_
    · refine im_lv [] [] rfl ?_
      exact hk34 C
    · refine im_aload_n X 0 dX0_dropSightsBehind_11 rfl rfl ?_
      refine im_cget X 0 0 (v := .ref (aC 6)) fl_X0_27 rfl rfl rfl dX0_dropSightsBehind_12 ?_
      refine im_iload_n X 2 dX0_dropSightsBehind_15 rfl rfl ?_
      refine im_iconst X 4 dX0_dropSightsBehind_16 (by decide) ?_
      refine im_imul X dX0_dropSightsBehind_17 ?_
      refine im_ciald X 0 6 0 (f := (C 6)) rfl rfl rfl dX0_dropSightsBehind_18 ?_
      refine im_iload_n X 1 dX0_dropSightsBehind_19 rfl rfl ?_
      refine im_icmp_le (tgt := 28) X dX0_dropSightsBehind_20 rfl ?_ ?_
      · refine im_iinc X 2 (-1) [1, 2, 0] [(0, .ref (aC 0)), (1, .int x1), (2, .int (x2 + (-1)))] dX0_dropSightsBehind_28 (by decide) rfl (by decide) rfl ?_
        refine im_goto (tgt := 7) X dX0_dropSightsBehind_31 rfl ?_
        exact ih C (x2 + (-1))
      · refine im_aload_n X 0 dX0_dropSightsBehind_23 rfl rfl ?_
        refine im_iload_n X 2 dX0_dropSightsBehind_24 rfl rfl ?_
        refine im_ccvV X [.int x2] [] [w_Cloth ct aC C] [w_Cloth ct aC C] [0] (fun z25 => [w_Cloth ct aC z25]) 0 0 0 rfl rfl rfl cl_X0_102 (c_X0_dropSight l D ct F aC C x2) rfl (by decide) (fun _ => lc fa_Cloth (rfl)) rfl ⟨by decide, by decide⟩ (Nat.le_of_ble_eq_true rfl) rfl dX0_dropSightsBehind_25 (fun z25 => ?_)
        refine im_ws (cat [w_Cloth ct aC z25]) rfl ?_
        refine im_iinc X 2 (-1) [1, 2, 0] [(0, .ref (aC 0)), (1, .int x1), (2, .int (x2 + (-1)))] dX0_dropSightsBehind_28 (by decide) rfl (by decide) rfl ?_
        refine im_goto (tgt := 7) X dX0_dropSightsBehind_31 rfl ?_
        exact ih z25 (x2 + (-1))
noncomputable def f_X0_dropSightsBehind (F : Nat) (C : Mem) (x1 : Int32) : Option (Mem) :=
  f_X0_dropSightsBehind_7 F x1 (fun C_34 => (some C_34)) F C ((C 0 9) - 1)
set_option maxRecDepth 100000 in
set_option maxHeartbeats 4000000 in
theorem i_X0_dropSightsBehind {p : Program} {l : Launch} {e : Env} {s : State} {m : MethodId} {args : Array Value} {below : List Frame} {meth : Method} {c : Code} {D : va_G} {ct : im_ct} {A : Nat → Prop} (X : im_X p (im_rm 2) s m args meth c D ct A RX0 cX0_dropSightsBehind 3 none) (F : Nat) (aC : Nat → Nat) (C : Mem) (x1 : Int32) : Im p l e (im_rm 2) s m args below meth c D A 3 (QV D A (fun z : Mem => (cat [w_Cloth ct aC z]))) 0 [(0, .ref (aC 0)), (1, .int x1)] [] (cat [w_Cloth ct aC C]) (f_X0_dropSightsBehind F C x1) := by
  unfold f_X0_dropSightsBehind
  refine im_aload_n X 0 dX0_dropSightsBehind_0 rfl rfl ?_
  refine im_cget X 0 0 (v := .int (C 0 9)) fl_X0_40 rfl rfl rfl dX0_dropSightsBehind_1 ?_
  refine im_iconst X 1 dX0_dropSightsBehind_4 (by decide) ?_
  refine im_isub X dX0_dropSightsBehind_5 ?_
  refine im_istore_n X [1, 2, 0] [(0, .ref (aC 0)), (1, .int x1), (2, .int ((C 0 9) - 1))] dX0_dropSightsBehind_6 rfl (by decide) rfl ?_
  refine i_X0_dropSightsBehind_7 X F aC  x1 _ (fun C_34 => ?_) F C ((C 0 9) - 1)
  exact im_return X C_34 rfl dX0_dropSightsBehind_34
theorem c_X0_dropSightsBehind (l : Launch) (D : va_G) (ct : im_ct) (F : Nat) (aC : Nat → Nat) (C : Mem) (x1 : Int32) : CMv l D ct yX0_dropSightsBehind cX0_dropSightsBehind 3 none 2 [.ref (aC 0), .int x1] (cat [w_Cloth ct aC C]) (f_X0_dropSightsBehind F C x1) (fun z : Mem => (cat [w_Cloth ct aC z])) :=
  im_met (Qb := fun A => QV D A (fun z : Mem => (cat [w_Cloth ct aC z]))) (by decide +kernel) (Nat.le_of_ble_eq_true rfl) (fun p e s m args below meth c A X => i_X0_dropSightsBehind X F aC C x1)

noncomputable def f_X0_countersOf_4 (F : Nat) (C : Mem) (x1 : Int32) (k32 : Int32 → Option (Int32)) : Nat → Int32 → Int32 → Option (Int32)
  | 0, _, _ => none
  | n + 1, x2, x3 =>
  (if (C 0 6) ≤ x3 then k32 x2 else ck ((x1 * 6) + x3) 24 (f_X0_countersOf_4 F C x1 k32 n (x2 + ((C 3) (((x1 * 6) + x3)).toNatClampNeg)) (x3 + 1)))
set_option maxRecDepth 100000 in
set_option maxHeartbeats 4000000 in
theorem i_X0_countersOf_4 {p : Program} {l : Launch} {e : Env} {s : State} {m : MethodId} {args : Array Value} {below : List Frame} {meth : Method} {c : Code} {D : va_G} {ct : im_ct} {A : Nat → Prop} (X : im_X p (im_rm 0) s m args meth c D ct A RX0 cX0_countersOf 4 (some .int)) (F : Nat) (aC : Nat → Nat) (C : Mem) (x1 : Int32) (k32 : Int32 → Option (Int32)) (hk32 : ∀ (x2 : Int32), Im p l e (im_rm 0) s m args below meth c D A 4 (QI D A (fun z : Int32 => z) (fun z : Int32 => (cat [w_Cloth ct aC C]))) 32 [(2, .int x2)] [] (cat [w_Cloth ct aC C]) (k32 x2)) : ∀ (n : Nat) (x2 : Int32) (x3 : Int32), Im p l e (im_rm 0) s m args below meth c D A 4 (QI D A (fun z : Int32 => z) (fun z : Int32 => (cat [w_Cloth ct aC C]))) 4 [(0, .ref (aC 0)), (1, .int x1), (2, .int x2), (3, .int x3)] [] (cat [w_Cloth ct aC C]) (f_X0_countersOf_4 F C x1 k32 n x2 x3) := by
  intro n
  induction n with
  | zero => intros; exact im_none
  | succ n ih =>
    intro x2 x3
    unfold f_X0_countersOf_4
    refine im_iload_n X 3 dX0_countersOf_4 rfl rfl ?_
    refine im_aload_n X 0 dX0_countersOf_5 rfl rfl ?_
    refine im_cget X 0 0 (v := .int (C 0 6)) fl_X0_43 rfl rfl rfl dX0_countersOf_6 ?_
    refine im_icmp_ge (tgt := 32) X dX0_countersOf_9 rfl ?_ ?_
    · refine im_lv [2] [(2, .int x2)] rfl ?_
      exact hk32 x2
    · refine im_iload_n X 2 dX0_countersOf_12 rfl rfl ?_
      refine im_aload_n X 0 dX0_countersOf_13 rfl rfl ?_
      refine im_cget X 0 0 (v := .ref (aC 3)) fl_X0_18 rfl rfl rfl dX0_countersOf_14 ?_
      refine im_iload_n X 1 dX0_countersOf_17 rfl rfl ?_
      refine im_bipush X 6 dX0_countersOf_18 (by decide) ?_
      refine im_imul X dX0_countersOf_20 ?_
      refine im_iload_n X 3 dX0_countersOf_21 rfl rfl ?_
      refine im_iadd X dX0_countersOf_22 ?_
      refine im_ciald X 0 3 0 (f := (C 3)) rfl rfl rfl dX0_countersOf_23 ?_
      refine im_iadd X dX0_countersOf_24 ?_
      refine im_istore_n X [1, 2, 0, 3] [(0, .ref (aC 0)), (1, .int x1), (2, .int (x2 + ((C 3) (((x1 * 6) + x3)).toNatClampNeg))), (3, .int x3)] dX0_countersOf_25 rfl (by decide) rfl ?_
      refine im_iinc X 3 1 [1, 2, 3, 0] [(0, .ref (aC 0)), (1, .int x1), (2, .int (x2 + ((C 3) (((x1 * 6) + x3)).toNatClampNeg))), (3, .int (x3 + 1))] dX0_countersOf_26 (by decide) rfl (by decide) rfl ?_
      refine im_goto (tgt := 4) X dX0_countersOf_29 rfl ?_
      exact ih (x2 + ((C 3) (((x1 * 6) + x3)).toNatClampNeg)) (x3 + 1)
noncomputable def f_X0_countersOf (F : Nat) (C : Mem) (x1 : Int32) : Option (Int32) :=
  f_X0_countersOf_4 F C x1 (fun x2_32 => (some x2_32)) F 0 0
set_option maxRecDepth 100000 in
set_option maxHeartbeats 4000000 in
theorem i_X0_countersOf {p : Program} {l : Launch} {e : Env} {s : State} {m : MethodId} {args : Array Value} {below : List Frame} {meth : Method} {c : Code} {D : va_G} {ct : im_ct} {A : Nat → Prop} (X : im_X p (im_rm 0) s m args meth c D ct A RX0 cX0_countersOf 4 (some .int)) (F : Nat) (aC : Nat → Nat) (C : Mem) (x1 : Int32) : Im p l e (im_rm 0) s m args below meth c D A 4 (QI D A (fun z : Int32 => z) (fun z : Int32 => (cat [w_Cloth ct aC C]))) 0 [(0, .ref (aC 0)), (1, .int x1)] [] (cat [w_Cloth ct aC C]) (f_X0_countersOf F C x1) := by
  unfold f_X0_countersOf
  refine im_iconst X 0 dX0_countersOf_0 (by decide) ?_
  refine im_istore_n X [1, 2, 0] [(0, .ref (aC 0)), (1, .int x1), (2, .int 0)] dX0_countersOf_1 rfl (by decide) rfl ?_
  refine im_iconst X 0 dX0_countersOf_2 (by decide) ?_
  refine im_istore_n X [1, 2, 3, 0] [(0, .ref (aC 0)), (1, .int x1), (2, .int 0), (3, .int 0)] dX0_countersOf_3 rfl (by decide) rfl ?_
  refine i_X0_countersOf_4 X F aC C x1 _ (fun x2_32 => ?_) F 0 0
  refine im_iload_n X 0 dX0_countersOf_32 rfl rfl ?_
  exact im_ireturn X x2_32 rfl rfl dX0_countersOf_33
theorem c_X0_countersOf (l : Launch) (D : va_G) (ct : im_ct) (F : Nat) (aC : Nat → Nat) (C : Mem) (x1 : Int32) : CMi l D ct yX0_countersOf cX0_countersOf 4 (some .int) 0 [.ref (aC 0), .int x1] (cat [w_Cloth ct aC C]) (f_X0_countersOf F C x1) (fun z : Int32 => z) (fun z : Int32 => (cat [w_Cloth ct aC C])) :=
  im_met (Qb := fun A => QI D A (fun z : Int32 => z) (fun z : Int32 => (cat [w_Cloth ct aC C]))) (by decide +kernel) (Nat.le_of_ble_eq_true rfl) (fun p e s m args below meth c A X => i_X0_countersOf X F aC C x1)

noncomputable def f_X0_joinFits_2 (F : Nat) (C : Mem) (x1 : Int32) (x2 : Int32) (k38 : Option (Int32)) (k46 : Option (Int32)) : Nat → Int32 → Option (Int32)
  | 0, _ => none
  | n + 1, x3 =>
  (if (C 0 6) ≤ x3 then k46 else ck ((x1 * 6) + x3) 24 (ck ((x2 * 6) + x3) 24 ((if (((C 3) (((x1 * 6) + x3)).toNatClampNeg) + ((C 3) (((x2 * 6) + x3)).toNatClampNeg)) ≤ 99 then f_X0_joinFits_2 F C x1 x2 k38 k46 n (x3 + 1) else k38))))
set_option maxRecDepth 100000 in
set_option maxHeartbeats 4000000 in
theorem i_X0_joinFits_2 {p : Program} {l : Launch} {e : Env} {s : State} {m : MethodId} {args : Array Value} {below : List Frame} {meth : Method} {c : Code} {D : va_G} {ct : im_ct} {A : Nat → Prop} (X : im_X p (im_rm 0) s m args meth c D ct A RX0 cX0_joinFits 4 (some .boolean)) (F : Nat) (aC : Nat → Nat) (C : Mem) (x1 : Int32) (x2 : Int32) (k38 : Option (Int32)) (hk38 : Im p l e (im_rm 0) s m args below meth c D A 4 (QI D A (fun z : Int32 => z) (fun z : Int32 => (cat [w_Cloth ct aC C]))) 38 [] [] (cat [w_Cloth ct aC C]) (k38)) (k46 : Option (Int32)) (hk46 : Im p l e (im_rm 0) s m args below meth c D A 4 (QI D A (fun z : Int32 => z) (fun z : Int32 => (cat [w_Cloth ct aC C]))) 46 [] [] (cat [w_Cloth ct aC C]) (k46)) : ∀ (n : Nat) (x3 : Int32), Im p l e (im_rm 0) s m args below meth c D A 4 (QI D A (fun z : Int32 => z) (fun z : Int32 => (cat [w_Cloth ct aC C]))) 2 [(0, .ref (aC 0)), (1, .int x1), (2, .int x2), (3, .int x3)] [] (cat [w_Cloth ct aC C]) (f_X0_joinFits_2 F C x1 x2 k38 k46 n x3) := by
  intro n
  induction n with
  | zero => intros; exact im_none
  | succ n ih =>
    intro x3
    unfold f_X0_joinFits_2
    refine im_iload_n X 3 dX0_joinFits_2 rfl rfl ?_
    refine im_aload_n X 0 dX0_joinFits_3 rfl rfl ?_
    refine im_cget X 0 0 (v := .int (C 0 6)) fl_X0_43 rfl rfl rfl dX0_joinFits_4 ?_
    refine im_icmp_ge (tgt := 46) X dX0_joinFits_7 rfl ?_ ?_
    · refine im_lv [] [] rfl ?_
      exact hk46
    · refine im_aload_n X 0 dX0_joinFits_10 rfl rfl ?_
      refine im_cget X 0 0 (v := .ref (aC 3)) fl_X0_18 rfl rfl rfl dX0_joinFits_11 ?_
      refine im_iload_n X 1 dX0_joinFits_14 rfl rfl ?_
      refine im_bipush X 6 dX0_joinFits_15 (by decide) ?_
      refine im_imul X dX0_joinFits_17 ?_
      refine im_iload_n X 3 dX0_joinFits_18 rfl rfl ?_
      refine im_iadd X dX0_joinFits_19 ?_
      refine im_ciald X 0 3 0 (f := (C 3)) rfl rfl rfl dX0_joinFits_20 ?_
      refine im_aload_n X 0 dX0_joinFits_21 rfl rfl ?_
      refine im_cget X 0 0 (v := .ref (aC 3)) fl_X0_18 rfl rfl rfl dX0_joinFits_22 ?_
      refine im_iload_n X 2 dX0_joinFits_25 rfl rfl ?_
      refine im_bipush X 6 dX0_joinFits_26 (by decide) ?_
      refine im_imul X dX0_joinFits_28 ?_
      refine im_iload_n X 3 dX0_joinFits_29 rfl rfl ?_
      refine im_iadd X dX0_joinFits_30 ?_
      refine im_ciald X 0 3 0 (f := (C 3)) rfl rfl rfl dX0_joinFits_31 ?_
      refine im_iadd X dX0_joinFits_32 ?_
      refine im_bipush X 99 dX0_joinFits_33 (by decide) ?_
      refine im_icmp_le (tgt := 40) X dX0_joinFits_35 rfl ?_ ?_
      · refine im_iinc X 3 1 [1, 2, 3, 0] [(0, .ref (aC 0)), (1, .int x1), (2, .int x2), (3, .int (x3 + 1))] dX0_joinFits_40 (by decide) rfl (by decide) rfl ?_
        refine im_goto (tgt := 2) X dX0_joinFits_43 rfl ?_
        exact ih (x3 + 1)
      · refine im_lv [] [] rfl ?_
        exact hk38
noncomputable def f_X0_joinFits (F : Nat) (C : Mem) (x1 : Int32) (x2 : Int32) : Option (Int32) :=
  f_X0_joinFits_2 F C x1 x2 ((some 0)) ((some 1)) F 0
set_option maxRecDepth 100000 in
set_option maxHeartbeats 4000000 in
theorem i_X0_joinFits {p : Program} {l : Launch} {e : Env} {s : State} {m : MethodId} {args : Array Value} {below : List Frame} {meth : Method} {c : Code} {D : va_G} {ct : im_ct} {A : Nat → Prop} (X : im_X p (im_rm 0) s m args meth c D ct A RX0 cX0_joinFits 4 (some .boolean)) (F : Nat) (aC : Nat → Nat) (C : Mem) (x1 : Int32) (x2 : Int32) : Im p l e (im_rm 0) s m args below meth c D A 4 (QI D A (fun z : Int32 => z) (fun z : Int32 => (cat [w_Cloth ct aC C]))) 0 [(0, .ref (aC 0)), (1, .int x1), (2, .int x2)] [] (cat [w_Cloth ct aC C]) (f_X0_joinFits F C x1 x2) := by
  unfold f_X0_joinFits
  refine im_iconst X 0 dX0_joinFits_0 (by decide) ?_
  refine im_istore_n X [1, 2, 3, 0] [(0, .ref (aC 0)), (1, .int x1), (2, .int x2), (3, .int 0)] dX0_joinFits_1 rfl (by decide) rfl ?_
  refine i_X0_joinFits_2 X F aC C x1 x2 _ ?_ _ ?_ F 0
  · refine im_iconst X 0 dX0_joinFits_38 (by decide) ?_
    exact im_zreturn X 0 rfl rfl rfl dX0_joinFits_39
  · refine im_iconst X 1 dX0_joinFits_46 (by decide) ?_
    exact im_zreturn X 1 rfl rfl rfl dX0_joinFits_47
theorem c_X0_joinFits (l : Launch) (D : va_G) (ct : im_ct) (F : Nat) (aC : Nat → Nat) (C : Mem) (x1 : Int32) (x2 : Int32) : CMi l D ct yX0_joinFits cX0_joinFits 4 (some .boolean) 0 [.ref (aC 0), .int x1, .int x2] (cat [w_Cloth ct aC C]) (f_X0_joinFits F C x1 x2) (fun z : Int32 => z) (fun z : Int32 => (cat [w_Cloth ct aC C])) :=
  im_met (Qb := fun A => QI D A (fun z : Int32 => z) (fun z : Int32 => (cat [w_Cloth ct aC C]))) (by decide +kernel) (Nat.le_of_ble_eq_true rfl) (fun p e s m args below meth c A X => i_X0_joinFits X F aC C x1 x2)

noncomputable def f_X0_sumOfAll_4 (F : Nat) (C : Mem) (k26 : Int32 → Option (Int32)) : Nat → Int32 → Int32 → Option (Int32)
  | 0, _, _ => none
  | n + 1, x1, x2 =>
  (if (C 0 7) ≤ x2 then k26 x1 else (f_X0_sumOf F C x2).bind (fun z15 => f_X0_sumOfAll_4 F C k26 n (x1 + z15) (x2 + 1)))
set_option maxRecDepth 100000 in
set_option maxHeartbeats 4000000 in
theorem i_X0_sumOfAll_4 {p : Program} {l : Launch} {e : Env} {s : State} {m : MethodId} {args : Array Value} {below : List Frame} {meth : Method} {c : Code} {D : va_G} {ct : im_ct} {A : Nat → Prop} (X : im_X p (im_rm 1) s m args meth c D ct A RX0 cX0_sumOfAll 3 (some .int)) (F : Nat) (aC : Nat → Nat) (C : Mem) (k26 : Int32 → Option (Int32)) (hk26 : ∀ (x1 : Int32), Im p l e (im_rm 1) s m args below meth c D A 3 (QI D A (fun z : Int32 => z) (fun z : Int32 => (cat [w_Cloth ct aC C]))) 26 [(1, .int x1)] [] (cat [w_Cloth ct aC C]) (k26 x1)) : ∀ (n : Nat) (x1 : Int32) (x2 : Int32), Im p l e (im_rm 1) s m args below meth c D A 3 (QI D A (fun z : Int32 => z) (fun z : Int32 => (cat [w_Cloth ct aC C]))) 4 [(0, .ref (aC 0)), (1, .int x1), (2, .int x2)] [] (cat [w_Cloth ct aC C]) (f_X0_sumOfAll_4 F C k26 n x1 x2) := by
  intro n
  induction n with
  | zero => intros; exact im_none
  | succ n ih =>
    intro x1 x2
    unfold f_X0_sumOfAll_4
    refine im_iload_n X 2 dX0_sumOfAll_4 rfl rfl ?_
    refine im_aload_n X 0 dX0_sumOfAll_5 rfl rfl ?_
    refine im_cget X 0 0 (v := .int (C 0 7)) fl_X0_46 rfl rfl rfl dX0_sumOfAll_6 ?_
    refine im_icmp_ge (tgt := 26) X dX0_sumOfAll_9 rfl ?_ ?_
    · refine im_lv [1] [(1, .int x1)] rfl ?_
      exact hk26 x1
    · refine im_iload_n X 1 dX0_sumOfAll_12 rfl rfl ?_
      refine im_aload_n X 0 dX0_sumOfAll_13 rfl rfl ?_
      refine im_iload_n X 2 dX0_sumOfAll_14 rfl rfl ?_
      refine im_cciV X [.int x2] [.int x1] [w_Cloth ct aC C] [w_Cloth ct aC C] [0] (fun z15 => [w_Cloth ct aC C]) 0 0 0 rfl rfl rfl cl_X0_56 (c_X0_sumOf l D ct F aC C x2) rfl (by decide) (fun _ => lc rfl (rfl)) rfl ⟨by decide, by decide⟩ (Nat.le_of_ble_eq_true rfl) rfl dX0_sumOfAll_15 (fun z15 => ?_)
      refine im_ws (cat [w_Cloth ct aC C]) rfl ?_
      refine im_iadd X dX0_sumOfAll_18 ?_
      refine im_istore_n X [1, 0, 2] [(0, .ref (aC 0)), (1, .int (x1 + z15)), (2, .int x2)] dX0_sumOfAll_19 rfl (by decide) rfl ?_
      refine im_iinc X 2 1 [1, 2, 0] [(0, .ref (aC 0)), (1, .int (x1 + z15)), (2, .int (x2 + 1))] dX0_sumOfAll_20 (by decide) rfl (by decide) rfl ?_
      refine im_goto (tgt := 4) X dX0_sumOfAll_23 rfl ?_
      exact ih (x1 + z15) (x2 + 1)
noncomputable def f_X0_sumOfAll (F : Nat) (C : Mem) : Option (Int32) :=
  f_X0_sumOfAll_4 F C (fun x1_26 => (some x1_26)) F 0 0
set_option maxRecDepth 100000 in
set_option maxHeartbeats 4000000 in
theorem i_X0_sumOfAll {p : Program} {l : Launch} {e : Env} {s : State} {m : MethodId} {args : Array Value} {below : List Frame} {meth : Method} {c : Code} {D : va_G} {ct : im_ct} {A : Nat → Prop} (X : im_X p (im_rm 1) s m args meth c D ct A RX0 cX0_sumOfAll 3 (some .int)) (F : Nat) (aC : Nat → Nat) (C : Mem) : Im p l e (im_rm 1) s m args below meth c D A 3 (QI D A (fun z : Int32 => z) (fun z : Int32 => (cat [w_Cloth ct aC C]))) 0 [(0, .ref (aC 0))] [] (cat [w_Cloth ct aC C]) (f_X0_sumOfAll F C) := by
  unfold f_X0_sumOfAll
  refine im_iconst X 0 dX0_sumOfAll_0 (by decide) ?_
  refine im_istore_n X [1, 0] [(0, .ref (aC 0)), (1, .int 0)] dX0_sumOfAll_1 rfl (by decide) rfl ?_
  refine im_iconst X 0 dX0_sumOfAll_2 (by decide) ?_
  refine im_istore_n X [1, 2, 0] [(0, .ref (aC 0)), (1, .int 0), (2, .int 0)] dX0_sumOfAll_3 rfl (by decide) rfl ?_
  refine i_X0_sumOfAll_4 X F aC C  _ (fun x1_26 => ?_) F 0 0
  refine im_iload_n X 0 dX0_sumOfAll_26 rfl rfl ?_
  exact im_ireturn X x1_26 rfl rfl dX0_sumOfAll_27
theorem c_X0_sumOfAll (l : Launch) (D : va_G) (ct : im_ct) (F : Nat) (aC : Nat → Nat) (C : Mem) : CMi l D ct yX0_sumOfAll cX0_sumOfAll 3 (some .int) 1 [.ref (aC 0)] (cat [w_Cloth ct aC C]) (f_X0_sumOfAll F C) (fun z : Int32 => z) (fun z : Int32 => (cat [w_Cloth ct aC C])) :=
  im_met (Qb := fun A => QI D A (fun z : Int32 => z) (fun z : Int32 => (cat [w_Cloth ct aC C]))) (by decide +kernel) (Nat.le_of_ble_eq_true rfl) (fun p e s m args below meth c A X => i_X0_sumOfAll X F aC C)

noncomputable def f_X0_countersOfAll_4 (F : Nat) (C : Mem) (k26 : Int32 → Option (Int32)) : Nat → Int32 → Int32 → Option (Int32)
  | 0, _, _ => none
  | n + 1, x1, x2 =>
  (if (C 0 7) ≤ x2 then k26 x1 else (f_X0_countersOf F C x2).bind (fun z15 => f_X0_countersOfAll_4 F C k26 n (x1 + z15) (x2 + 1)))
set_option maxRecDepth 100000 in
set_option maxHeartbeats 4000000 in
theorem i_X0_countersOfAll_4 {p : Program} {l : Launch} {e : Env} {s : State} {m : MethodId} {args : Array Value} {below : List Frame} {meth : Method} {c : Code} {D : va_G} {ct : im_ct} {A : Nat → Prop} (X : im_X p (im_rm 1) s m args meth c D ct A RX0 cX0_countersOfAll 3 (some .int)) (F : Nat) (aC : Nat → Nat) (C : Mem) (k26 : Int32 → Option (Int32)) (hk26 : ∀ (x1 : Int32), Im p l e (im_rm 1) s m args below meth c D A 3 (QI D A (fun z : Int32 => z) (fun z : Int32 => (cat [w_Cloth ct aC C]))) 26 [(1, .int x1)] [] (cat [w_Cloth ct aC C]) (k26 x1)) : ∀ (n : Nat) (x1 : Int32) (x2 : Int32), Im p l e (im_rm 1) s m args below meth c D A 3 (QI D A (fun z : Int32 => z) (fun z : Int32 => (cat [w_Cloth ct aC C]))) 4 [(0, .ref (aC 0)), (1, .int x1), (2, .int x2)] [] (cat [w_Cloth ct aC C]) (f_X0_countersOfAll_4 F C k26 n x1 x2) := by
  intro n
  induction n with
  | zero => intros; exact im_none
  | succ n ih =>
    intro x1 x2
    unfold f_X0_countersOfAll_4
    refine im_iload_n X 2 dX0_countersOfAll_4 rfl rfl ?_
    refine im_aload_n X 0 dX0_countersOfAll_5 rfl rfl ?_
    refine im_cget X 0 0 (v := .int (C 0 7)) fl_X0_46 rfl rfl rfl dX0_countersOfAll_6 ?_
    refine im_icmp_ge (tgt := 26) X dX0_countersOfAll_9 rfl ?_ ?_
    · refine im_lv [1] [(1, .int x1)] rfl ?_
      exact hk26 x1
    · refine im_iload_n X 1 dX0_countersOfAll_12 rfl rfl ?_
      refine im_aload_n X 0 dX0_countersOfAll_13 rfl rfl ?_
      refine im_iload_n X 2 dX0_countersOfAll_14 rfl rfl ?_
      refine im_cciV X [.int x2] [.int x1] [w_Cloth ct aC C] [w_Cloth ct aC C] [0] (fun z15 => [w_Cloth ct aC C]) 0 0 0 rfl rfl rfl cl_X0_60 (c_X0_countersOf l D ct F aC C x2) rfl (by decide) (fun _ => lc rfl (rfl)) rfl ⟨by decide, by decide⟩ (Nat.le_of_ble_eq_true rfl) rfl dX0_countersOfAll_15 (fun z15 => ?_)
      refine im_ws (cat [w_Cloth ct aC C]) rfl ?_
      refine im_iadd X dX0_countersOfAll_18 ?_
      refine im_istore_n X [1, 0, 2] [(0, .ref (aC 0)), (1, .int (x1 + z15)), (2, .int x2)] dX0_countersOfAll_19 rfl (by decide) rfl ?_
      refine im_iinc X 2 1 [1, 2, 0] [(0, .ref (aC 0)), (1, .int (x1 + z15)), (2, .int (x2 + 1))] dX0_countersOfAll_20 (by decide) rfl (by decide) rfl ?_
      refine im_goto (tgt := 4) X dX0_countersOfAll_23 rfl ?_
      exact ih (x1 + z15) (x2 + 1)
noncomputable def f_X0_countersOfAll (F : Nat) (C : Mem) : Option (Int32) :=
  f_X0_countersOfAll_4 F C (fun x1_26 => (some x1_26)) F 0 0
set_option maxRecDepth 100000 in
set_option maxHeartbeats 4000000 in
theorem i_X0_countersOfAll {p : Program} {l : Launch} {e : Env} {s : State} {m : MethodId} {args : Array Value} {below : List Frame} {meth : Method} {c : Code} {D : va_G} {ct : im_ct} {A : Nat → Prop} (X : im_X p (im_rm 1) s m args meth c D ct A RX0 cX0_countersOfAll 3 (some .int)) (F : Nat) (aC : Nat → Nat) (C : Mem) : Im p l e (im_rm 1) s m args below meth c D A 3 (QI D A (fun z : Int32 => z) (fun z : Int32 => (cat [w_Cloth ct aC C]))) 0 [(0, .ref (aC 0))] [] (cat [w_Cloth ct aC C]) (f_X0_countersOfAll F C) := by
  unfold f_X0_countersOfAll
  refine im_iconst X 0 dX0_countersOfAll_0 (by decide) ?_
  refine im_istore_n X [1, 0] [(0, .ref (aC 0)), (1, .int 0)] dX0_countersOfAll_1 rfl (by decide) rfl ?_
  refine im_iconst X 0 dX0_countersOfAll_2 (by decide) ?_
  refine im_istore_n X [1, 2, 0] [(0, .ref (aC 0)), (1, .int 0), (2, .int 0)] dX0_countersOfAll_3 rfl (by decide) rfl ?_
  refine i_X0_countersOfAll_4 X F aC C  _ (fun x1_26 => ?_) F 0 0
  refine im_iload_n X 0 dX0_countersOfAll_26 rfl rfl ?_
  exact im_ireturn X x1_26 rfl rfl dX0_countersOfAll_27
theorem c_X0_countersOfAll (l : Launch) (D : va_G) (ct : im_ct) (F : Nat) (aC : Nat → Nat) (C : Mem) : CMi l D ct yX0_countersOfAll cX0_countersOfAll 3 (some .int) 1 [.ref (aC 0)] (cat [w_Cloth ct aC C]) (f_X0_countersOfAll F C) (fun z : Int32 => z) (fun z : Int32 => (cat [w_Cloth ct aC C])) :=
  im_met (Qb := fun A => QI D A (fun z : Int32 => z) (fun z : Int32 => (cat [w_Cloth ct aC C]))) (by decide +kernel) (Nat.le_of_ble_eq_true rfl) (fun p e s m args below meth c A X => i_X0_countersOfAll X F aC C)

noncomputable def f_X0_countersIn_4 (F : Nat) (C : Mem) (x1 : Int32) (k32 : Int32 → Option (Int32)) : Nat → Int32 → Int32 → Option (Int32)
  | 0, _, _ => none
  | n + 1, x2, x3 =>
  (if (C 0 7) ≤ x3 then k32 x2 else ck ((x3 * 6) + x1) 24 (f_X0_countersIn_4 F C x1 k32 n (x2 + ((C 3) (((x3 * 6) + x1)).toNatClampNeg)) (x3 + 1)))
set_option maxRecDepth 100000 in
set_option maxHeartbeats 4000000 in
theorem i_X0_countersIn_4 {p : Program} {l : Launch} {e : Env} {s : State} {m : MethodId} {args : Array Value} {below : List Frame} {meth : Method} {c : Code} {D : va_G} {ct : im_ct} {A : Nat → Prop} (X : im_X p (im_rm 0) s m args meth c D ct A RX0 cX0_countersIn 4 (some .int)) (F : Nat) (aC : Nat → Nat) (C : Mem) (x1 : Int32) (k32 : Int32 → Option (Int32)) (hk32 : ∀ (x2 : Int32), Im p l e (im_rm 0) s m args below meth c D A 4 (QI D A (fun z : Int32 => z) (fun z : Int32 => (cat [w_Cloth ct aC C]))) 32 [(2, .int x2)] [] (cat [w_Cloth ct aC C]) (k32 x2)) : ∀ (n : Nat) (x2 : Int32) (x3 : Int32), Im p l e (im_rm 0) s m args below meth c D A 4 (QI D A (fun z : Int32 => z) (fun z : Int32 => (cat [w_Cloth ct aC C]))) 4 [(0, .ref (aC 0)), (1, .int x1), (2, .int x2), (3, .int x3)] [] (cat [w_Cloth ct aC C]) (f_X0_countersIn_4 F C x1 k32 n x2 x3) := by
  intro n
  induction n with
  | zero => intros; exact im_none
  | succ n ih =>
    intro x2 x3
    unfold f_X0_countersIn_4
    refine im_iload_n X 3 dX0_countersIn_4 rfl rfl ?_
    refine im_aload_n X 0 dX0_countersIn_5 rfl rfl ?_
    refine im_cget X 0 0 (v := .int (C 0 7)) fl_X0_46 rfl rfl rfl dX0_countersIn_6 ?_
    refine im_icmp_ge (tgt := 32) X dX0_countersIn_9 rfl ?_ ?_
    · refine im_lv [2] [(2, .int x2)] rfl ?_
      exact hk32 x2
    · refine im_iload_n X 2 dX0_countersIn_12 rfl rfl ?_
      refine im_aload_n X 0 dX0_countersIn_13 rfl rfl ?_
      refine im_cget X 0 0 (v := .ref (aC 3)) fl_X0_18 rfl rfl rfl dX0_countersIn_14 ?_
      refine im_iload_n X 3 dX0_countersIn_17 rfl rfl ?_
      refine im_bipush X 6 dX0_countersIn_18 (by decide) ?_
      refine im_imul X dX0_countersIn_20 ?_
      refine im_iload_n X 1 dX0_countersIn_21 rfl rfl ?_
      refine im_iadd X dX0_countersIn_22 ?_
      refine im_ciald X 0 3 0 (f := (C 3)) rfl rfl rfl dX0_countersIn_23 ?_
      refine im_iadd X dX0_countersIn_24 ?_
      refine im_istore_n X [1, 2, 0, 3] [(0, .ref (aC 0)), (1, .int x1), (2, .int (x2 + ((C 3) (((x3 * 6) + x1)).toNatClampNeg))), (3, .int x3)] dX0_countersIn_25 rfl (by decide) rfl ?_
      refine im_iinc X 3 1 [1, 2, 3, 0] [(0, .ref (aC 0)), (1, .int x1), (2, .int (x2 + ((C 3) (((x3 * 6) + x1)).toNatClampNeg))), (3, .int (x3 + 1))] dX0_countersIn_26 (by decide) rfl (by decide) rfl ?_
      refine im_goto (tgt := 4) X dX0_countersIn_29 rfl ?_
      exact ih (x2 + ((C 3) (((x3 * 6) + x1)).toNatClampNeg)) (x3 + 1)
noncomputable def f_X0_countersIn (F : Nat) (C : Mem) (x1 : Int32) : Option (Int32) :=
  f_X0_countersIn_4 F C x1 (fun x2_32 => (some x2_32)) F 0 0
set_option maxRecDepth 100000 in
set_option maxHeartbeats 4000000 in
theorem i_X0_countersIn {p : Program} {l : Launch} {e : Env} {s : State} {m : MethodId} {args : Array Value} {below : List Frame} {meth : Method} {c : Code} {D : va_G} {ct : im_ct} {A : Nat → Prop} (X : im_X p (im_rm 0) s m args meth c D ct A RX0 cX0_countersIn 4 (some .int)) (F : Nat) (aC : Nat → Nat) (C : Mem) (x1 : Int32) : Im p l e (im_rm 0) s m args below meth c D A 4 (QI D A (fun z : Int32 => z) (fun z : Int32 => (cat [w_Cloth ct aC C]))) 0 [(0, .ref (aC 0)), (1, .int x1)] [] (cat [w_Cloth ct aC C]) (f_X0_countersIn F C x1) := by
  unfold f_X0_countersIn
  refine im_iconst X 0 dX0_countersIn_0 (by decide) ?_
  refine im_istore_n X [1, 2, 0] [(0, .ref (aC 0)), (1, .int x1), (2, .int 0)] dX0_countersIn_1 rfl (by decide) rfl ?_
  refine im_iconst X 0 dX0_countersIn_2 (by decide) ?_
  refine im_istore_n X [1, 2, 3, 0] [(0, .ref (aC 0)), (1, .int x1), (2, .int 0), (3, .int 0)] dX0_countersIn_3 rfl (by decide) rfl ?_
  refine i_X0_countersIn_4 X F aC C x1 _ (fun x2_32 => ?_) F 0 0
  refine im_iload_n X 0 dX0_countersIn_32 rfl rfl ?_
  exact im_ireturn X x2_32 rfl rfl dX0_countersIn_33
theorem c_X0_countersIn (l : Launch) (D : va_G) (ct : im_ct) (F : Nat) (aC : Nat → Nat) (C : Mem) (x1 : Int32) : CMi l D ct yX0_countersIn cX0_countersIn 4 (some .int) 0 [.ref (aC 0), .int x1] (cat [w_Cloth ct aC C]) (f_X0_countersIn F C x1) (fun z : Int32 => z) (fun z : Int32 => (cat [w_Cloth ct aC C])) :=
  im_met (Qb := fun A => QI D A (fun z : Int32 => z) (fun z : Int32 => (cat [w_Cloth ct aC C]))) (by decide +kernel) (Nat.le_of_ble_eq_true rfl) (fun p e s m args below meth c A X => i_X0_countersIn X F aC C x1)

noncomputable def f_X0_richestRow_6 (F : Nat) (C : Mem) (k38 : Int32 → Option (Int32)) : Nat → Int32 → Int32 → Int32 → Option (Int32)
  | 0, _, _, _ => none
  | n + 1, x1, x2, x3 =>
  (if (C 0 7) ≤ x3 then k38 x1 else (f_X0_sumOf F C x3).bind (fun z16 => (if z16 ≤ x2 then f_X0_richestRow_6 F C k38 n x1 x2 (x3 + 1) else f_X0_richestRow_6 F C k38 n x3 z16 (x3 + 1))))
set_option maxRecDepth 100000 in
set_option maxHeartbeats 4000000 in
theorem i_X0_richestRow_6 {p : Program} {l : Launch} {e : Env} {s : State} {m : MethodId} {args : Array Value} {below : List Frame} {meth : Method} {c : Code} {D : va_G} {ct : im_ct} {A : Nat → Prop} (X : im_X p (im_rm 1) s m args meth c D ct A RX0 cX0_richestRow 5 (some .int)) (F : Nat) (aC : Nat → Nat) (C : Mem) (k38 : Int32 → Option (Int32)) (hk38 : ∀ (x1 : Int32), Im p l e (im_rm 1) s m args below meth c D A 5 (QI D A (fun z : Int32 => z) (fun z : Int32 => (cat [w_Cloth ct aC C]))) 38 [(1, .int x1)] [] (cat [w_Cloth ct aC C]) (k38 x1)) : ∀ (n : Nat) (x1 : Int32) (x2 : Int32) (x3 : Int32), Im p l e (im_rm 1) s m args below meth c D A 5 (QI D A (fun z : Int32 => z) (fun z : Int32 => (cat [w_Cloth ct aC C]))) 6 [(0, .ref (aC 0)), (1, .int x1), (2, .int x2), (3, .int x3)] [] (cat [w_Cloth ct aC C]) (f_X0_richestRow_6 F C k38 n x1 x2 x3) := by
  intro n
  induction n with
  | zero => intros; exact im_none
  | succ n ih =>
    intro x1 x2 x3
    unfold f_X0_richestRow_6
    refine im_iload_n X 3 dX0_richestRow_6 rfl rfl ?_
    refine im_aload_n X 0 dX0_richestRow_7 rfl rfl ?_
    refine im_cget X 0 0 (v := .int (C 0 7)) fl_X0_46 rfl rfl rfl dX0_richestRow_8 ?_
    refine im_icmp_ge (tgt := 38) X dX0_richestRow_11 rfl ?_ ?_
    · refine im_lv [1] [(1, .int x1)] rfl ?_
      exact hk38 x1
    · refine im_aload_n X 0 dX0_richestRow_14 rfl rfl ?_
      refine im_iload_n X 3 dX0_richestRow_15 rfl rfl ?_
      refine im_cciV X [.int x3] [] [w_Cloth ct aC C] [w_Cloth ct aC C] [0] (fun z16 => [w_Cloth ct aC C]) 0 0 0 rfl rfl rfl cl_X0_56 (c_X0_sumOf l D ct F aC C x3) rfl (by decide) (fun _ => lc rfl (rfl)) rfl ⟨by decide, by decide⟩ (Nat.le_of_ble_eq_true rfl) rfl dX0_richestRow_16 (fun z16 => ?_)
      refine im_ws (cat [w_Cloth ct aC C]) rfl ?_
      refine im_istore X [1, 2, 3, 4, 0] [(0, .ref (aC 0)), (1, .int x1), (2, .int x2), (3, .int x3), (4, .int z16)] dX0_richestRow_19 (by decide) rfl ?_
      refine im_iload X 4 dX0_richestRow_21 rfl ?_
      refine im_iload_n X 2 dX0_richestRow_23 rfl rfl ?_
      refine im_icmp_le (tgt := 32) X dX0_richestRow_24 rfl ?_ ?_
      · refine im_iinc X 3 1 [1, 2, 3, 0, 4] [(0, .ref (aC 0)), (1, .int x1), (2, .int x2), (3, .int (x3 + 1)), (4, .int z16)] dX0_richestRow_32 (by decide) rfl (by decide) rfl ?_
        refine im_goto (tgt := 6) X dX0_richestRow_35 rfl ?_
        refine im_lv [0, 1, 2, 3] [(0, .ref (aC 0)), (1, .int x1), (2, .int x2), (3, .int (x3 + 1))] rfl ?_
        exact ih x1 x2 (x3 + 1)
      · refine im_iload X 4 dX0_richestRow_27 rfl ?_
        refine im_istore_n X [1, 2, 0, 3, 4] [(0, .ref (aC 0)), (1, .int x1), (2, .int z16), (3, .int x3), (4, .int z16)] dX0_richestRow_29 rfl (by decide) rfl ?_
        refine im_iload_n X 3 dX0_richestRow_30 rfl rfl ?_
        refine im_istore_n X [1, 0, 2, 3, 4] [(0, .ref (aC 0)), (1, .int x3), (2, .int z16), (3, .int x3), (4, .int z16)] dX0_richestRow_31 rfl (by decide) rfl ?_
        refine im_iinc X 3 1 [1, 2, 3, 0, 4] [(0, .ref (aC 0)), (1, .int x3), (2, .int z16), (3, .int (x3 + 1)), (4, .int z16)] dX0_richestRow_32 (by decide) rfl (by decide) rfl ?_
        refine im_goto (tgt := 6) X dX0_richestRow_35 rfl ?_
        refine im_lv [0, 1, 2, 3] [(0, .ref (aC 0)), (1, .int x3), (2, .int z16), (3, .int (x3 + 1))] rfl ?_
        exact ih x3 z16 (x3 + 1)
noncomputable def f_X0_richestRow (F : Nat) (C : Mem) : Option (Int32) :=
  f_X0_richestRow_6 F C (fun x1_38 => (some x1_38)) F (-1) (-1) 0
set_option maxRecDepth 100000 in
set_option maxHeartbeats 4000000 in
theorem i_X0_richestRow {p : Program} {l : Launch} {e : Env} {s : State} {m : MethodId} {args : Array Value} {below : List Frame} {meth : Method} {c : Code} {D : va_G} {ct : im_ct} {A : Nat → Prop} (X : im_X p (im_rm 1) s m args meth c D ct A RX0 cX0_richestRow 5 (some .int)) (F : Nat) (aC : Nat → Nat) (C : Mem) : Im p l e (im_rm 1) s m args below meth c D A 5 (QI D A (fun z : Int32 => z) (fun z : Int32 => (cat [w_Cloth ct aC C]))) 0 [(0, .ref (aC 0))] [] (cat [w_Cloth ct aC C]) (f_X0_richestRow F C) := by
  unfold f_X0_richestRow
  refine im_iconst X (-1) dX0_richestRow_0 (by decide) ?_
  refine im_istore_n X [1, 0] [(0, .ref (aC 0)), (1, .int (-1))] dX0_richestRow_1 rfl (by decide) rfl ?_
  refine im_iconst X (-1) dX0_richestRow_2 (by decide) ?_
  refine im_istore_n X [1, 2, 0] [(0, .ref (aC 0)), (1, .int (-1)), (2, .int (-1))] dX0_richestRow_3 rfl (by decide) rfl ?_
  refine im_iconst X 0 dX0_richestRow_4 (by decide) ?_
  refine im_istore_n X [1, 2, 3, 0] [(0, .ref (aC 0)), (1, .int (-1)), (2, .int (-1)), (3, .int 0)] dX0_richestRow_5 rfl (by decide) rfl ?_
  refine i_X0_richestRow_6 X F aC C  _ (fun x1_38 => ?_) F (-1) (-1) 0
  refine im_iload_n X 0 dX0_richestRow_38 rfl rfl ?_
  exact im_ireturn X x1_38 rfl rfl dX0_richestRow_39
theorem c_X0_richestRow (l : Launch) (D : va_G) (ct : im_ct) (F : Nat) (aC : Nat → Nat) (C : Mem) : CMi l D ct yX0_richestRow cX0_richestRow 5 (some .int) 1 [.ref (aC 0)] (cat [w_Cloth ct aC C]) (f_X0_richestRow F C) (fun z : Int32 => z) (fun z : Int32 => (cat [w_Cloth ct aC C])) :=
  im_met (Qb := fun A => QI D A (fun z : Int32 => z) (fun z : Int32 => (cat [w_Cloth ct aC C]))) (by decide +kernel) (Nat.le_of_ble_eq_true rfl) (fun p e s m args below meth c A X => i_X0_richestRow X F aC C)
