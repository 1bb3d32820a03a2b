noncomputable def f_X10_moves (F : Nat) (M : Mem) (LM : MemL) (x1 : Int32) (x2 : Int32) (x3 : Int32) (x4 : Int32) (x5 : Int32) : Option (Int32 × Mem) :=
  ck 56 226 ((if ((M 1) (56 : Int32).toNatClampNeg) = 24 then (some ((-1), M)) else (f_X10_canMove F M LM x1 x2 x3 x4 x5).bind (fun z20 => (if z20.1 = 0 then (some ((-1), z20.2)) else (f_X10_keeps F z20.2 LM).bind (fun z29 => (f_X10_goes F z29 LM 1).bind (fun z34 => (f_X10_takesNow F z34 LM).bind (fun z38 => ck 56 226 (ck (57 + (5 * ((z38 1) (56 : Int32).toNatClampNeg))) 226 (ck ((57 + (5 * ((z38 1) (56 : Int32).toNatClampNeg))) + 1) 226 (ck ((57 + (5 * ((z38 1) (56 : Int32).toNatClampNeg))) + 2) 226 (ck ((57 + (5 * ((z38 1) (56 : Int32).toNatClampNeg))) + 3) 226 (ck ((57 + (5 * ((z38 1) (56 : Int32).toNatClampNeg))) + 4) 226 (ck 56 226 (ck 56 226 ((if x1 = 4 then (f_X10_now F (mr z38 1 (upd (upd (upd (upd (upd (upd (z38 1) ((57 + (5 * ((z38 1) (56 : Int32).toNatClampNeg)))).toNatClampNeg x1) (((57 + (5 * ((z38 1) (56 : Int32).toNatClampNeg))) + 1)).toNatClampNeg x2) (((57 + (5 * ((z38 1) (56 : Int32).toNatClampNeg))) + 2)).toNatClampNeg x3) (((57 + (5 * ((z38 1) (56 : Int32).toNatClampNeg))) + 3)).toNatClampNeg x4) (((57 + (5 * ((z38 1) (56 : Int32).toNatClampNeg))) + 4)).toNatClampNeg x5) (56 : Int32).toNatClampNeg (((upd (upd (upd (upd (upd (z38 1) ((57 + (5 * ((z38 1) (56 : Int32).toNatClampNeg)))).toNatClampNeg x1) (((57 + (5 * ((z38 1) (56 : Int32).toNatClampNeg))) + 1)).toNatClampNeg x2) (((57 + (5 * ((z38 1) (56 : Int32).toNatClampNeg))) + 2)).toNatClampNeg x3) (((57 + (5 * ((z38 1) (56 : Int32).toNatClampNeg))) + 3)).toNatClampNeg x4) (((57 + (5 * ((z38 1) (56 : Int32).toNatClampNeg))) + 4)).toNatClampNeg x5) (56 : Int32).toNatClampNeg) + 1))) LM x5 x3).bind (fun z125 => (some (z125, (mr z38 1 (upd (upd (upd (upd (upd (upd (z38 1) ((57 + (5 * ((z38 1) (56 : Int32).toNatClampNeg)))).toNatClampNeg x1) (((57 + (5 * ((z38 1) (56 : Int32).toNatClampNeg))) + 1)).toNatClampNeg x2) (((57 + (5 * ((z38 1) (56 : Int32).toNatClampNeg))) + 2)).toNatClampNeg x3) (((57 + (5 * ((z38 1) (56 : Int32).toNatClampNeg))) + 3)).toNatClampNeg x4) (((57 + (5 * ((z38 1) (56 : Int32).toNatClampNeg))) + 4)).toNatClampNeg x5) (56 : Int32).toNatClampNeg (((upd (upd (upd (upd (upd (z38 1) ((57 + (5 * ((z38 1) (56 : Int32).toNatClampNeg)))).toNatClampNeg x1) (((57 + (5 * ((z38 1) (56 : Int32).toNatClampNeg))) + 1)).toNatClampNeg x2) (((57 + (5 * ((z38 1) (56 : Int32).toNatClampNeg))) + 2)).toNatClampNeg x3) (((57 + (5 * ((z38 1) (56 : Int32).toNatClampNeg))) + 3)).toNatClampNeg x4) (((57 + (5 * ((z38 1) (56 : Int32).toNatClampNeg))) + 4)).toNatClampNeg x5) (56 : Int32).toNatClampNeg) + 1)))))) else (f_X10_now F (mr z38 1 (upd (upd (upd (upd (upd (upd (z38 1) ((57 + (5 * ((z38 1) (56 : Int32).toNatClampNeg)))).toNatClampNeg x1) (((57 + (5 * ((z38 1) (56 : Int32).toNatClampNeg))) + 1)).toNatClampNeg x2) (((57 + (5 * ((z38 1) (56 : Int32).toNatClampNeg))) + 2)).toNatClampNeg x3) (((57 + (5 * ((z38 1) (56 : Int32).toNatClampNeg))) + 3)).toNatClampNeg x4) (((57 + (5 * ((z38 1) (56 : Int32).toNatClampNeg))) + 4)).toNatClampNeg x5) (56 : Int32).toNatClampNeg (((upd (upd (upd (upd (upd (z38 1) ((57 + (5 * ((z38 1) (56 : Int32).toNatClampNeg)))).toNatClampNeg x1) (((57 + (5 * ((z38 1) (56 : Int32).toNatClampNeg))) + 1)).toNatClampNeg x2) (((57 + (5 * ((z38 1) (56 : Int32).toNatClampNeg))) + 2)).toNatClampNeg x3) (((57 + (5 * ((z38 1) (56 : Int32).toNatClampNeg))) + 3)).toNatClampNeg x4) (((57 + (5 * ((z38 1) (56 : Int32).toNatClampNeg))) + 4)).toNatClampNeg x5) (56 : Int32).toNatClampNeg) + 1))) LM x2 x3).bind (fun z134 => (some (z134, (mr z38 1 (upd (upd (upd (upd (upd (upd (z38 1) ((57 + (5 * ((z38 1) (56 : Int32).toNatClampNeg)))).toNatClampNeg x1) (((57 + (5 * ((z38 1) (56 : Int32).toNatClampNeg))) + 1)).toNatClampNeg x2) (((57 + (5 * ((z38 1) (56 : Int32).toNatClampNeg))) + 2)).toNatClampNeg x3) (((57 + (5 * ((z38 1) (56 : Int32).toNatClampNeg))) + 3)).toNatClampNeg x4) (((57 + (5 * ((z38 1) (56 : Int32).toNatClampNeg))) + 4)).toNatClampNeg x5) (56 : Int32).toNatClampNeg (((upd (upd (upd (upd (upd (z38 1) ((57 + (5 * ((z38 1) (56 : Int32).toNatClampNeg)))).toNatClampNeg x1) (((57 + (5 * ((z38 1) (56 : Int32).toNatClampNeg))) + 1)).toNatClampNeg x2) (((57 + (5 * ((z38 1) (56 : Int32).toNatClampNeg))) + 2)).toNatClampNeg x3) (((57 + (5 * ((z38 1) (56 : Int32).toNatClampNeg))) + 3)).toNatClampNeg x4) (((57 + (5 * ((z38 1) (56 : Int32).toNatClampNeg))) + 4)).toNatClampNeg x5) (56 : Int32).toNatClampNeg) + 1))))))))))))))))))))))
set_option maxRecDepth 100000 in
set_option maxHeartbeats 4000000 in
theorem i_X10_moves {p : Program} {l : Launch} {e : Env} {s : State} {m : MethodId} {args : Array Value} {below : List Frame} {meth : Method} {c : Code} {D : va_G} {ct : im_ct} {A : Nat → Prop} (X : im_X p (im_rm 5) s m args meth c D ct A RX10 cX10_moves 7 (some .int)) (F : Nat) (aM : Nat → Nat) (M : Mem) (LM : MemL) (x1 : Int32) (x2 : Int32) (x3 : Int32) (x4 : Int32) (x5 : Int32) : Im p l e (im_rm 5) s m args below meth c D A 7 (QI D A (fun z : Int32 × Mem => z.1) (fun z : Int32 × Mem => (cat [w_Model ct aM z.2 LM]))) 0 [(0, .ref (aM 0)), (1, .int x1), (2, .int x2), (3, .int x3), (4, .int x4), (5, .int x5)] [] (cat [w_Model ct aM M LM]) (f_X10_moves F M LM x1 x2 x3 x4 x5) := by
  unfold f_X10_moves
  refine im_aload_n X 0 dX10_moves_0 rfl rfl ?_
  refine im_cget X 0 0 (v := .ref (aM 1)) fl_X10_13 rfl rfl rfl dX10_moves_1 ?_
  refine im_bipush X 56 dX10_moves_4 (by decide) ?_
  refine im_ciald X 0 1 0 (f := (M 1)) rfl rfl rfl dX10_moves_6 ?_
  refine im_bipush X 24 dX10_moves_7 (by decide) ?_
  refine im_icmp_eq (tgt := 26) X dX10_moves_9 rfl ?_ ?_
  · refine im_iconst X (-1) dX10_moves_26 (by decide) ?_
    exact im_ireturn X ((-1), M) rfl rfl dX10_moves_27
  · refine im_aload_n X 0 dX10_moves_12 rfl rfl ?_
    refine im_iload_n X 1 dX10_moves_13 rfl rfl ?_
    refine im_iload_n X 2 dX10_moves_14 rfl rfl ?_
    refine im_iload_n X 3 dX10_moves_15 rfl rfl ?_
    refine im_iload X 4 dX10_moves_16 rfl ?_
    refine im_iload X 5 dX10_moves_18 rfl ?_
    refine im_cciV X [.int x1, .int x2, .int x3, .int x4, .int x5] [] [w_Model ct aM M LM] [w_Model ct aM M LM] [0] (fun z20 => [w_Model ct aM z20.2 LM]) 0 0 10 rfl rfl rfl cl_X10_158 (c_X10_canMove l D ct F aM M LM x1 x2 x3 x4 x5) rfl (by decide) (fun _ => lc fa_Model (rfl)) rfl ⟨by decide, by decide⟩ (Nat.le_of_ble_eq_true rfl) rfl dX10_moves_20 (fun z20 => ?_)
    refine im_ws (cat [w_Model ct aM z20.2 LM]) rfl ?_
    refine im_if_ne (tgt := 28) X dX10_moves_23 rfl ?_ ?_
    · refine im_aload_n X 0 dX10_moves_28 rfl rfl ?_
      refine im_ccvV X [] [] [w_Model ct aM z20.2 LM] [w_Model ct aM z20.2 LM] [0] (fun z29 => [w_Model ct aM z29 LM]) 0 0 10 rfl rfl rfl cl_X10_115 (c_X10_keeps l D ct F aM z20.2 LM) rfl (by decide) (fun _ => lc fa_Model (rfl)) rfl ⟨by decide, by decide⟩ (Nat.le_of_ble_eq_true rfl) rfl dX10_moves_29 (fun z29 => ?_)
      refine im_ws (cat [w_Model ct aM z29 LM]) rfl ?_
      refine im_aload_n X 0 dX10_moves_32 rfl rfl ?_
      refine im_iconst X 1 dX10_moves_33 (by decide) ?_
      refine im_ccvV X [.int 1] [] [w_Model ct aM z29 LM] [w_Model ct aM z29 LM] [0] (fun z34 => [w_Model ct aM z34 LM]) 0 0 10 rfl rfl rfl cl_X10_161 (c_X10_goes l D ct F aM z29 LM 1) rfl (by decide) (fun _ => lc fa_Model (rfl)) rfl ⟨by decide, by decide⟩ (Nat.le_of_ble_eq_true rfl) rfl dX10_moves_34 (fun z34 => ?_)
      refine im_ws (cat [w_Model ct aM z34 LM]) rfl ?_
      refine im_aload_n X 0 dX10_moves_37 rfl rfl ?_
      refine im_ccvV X [] [] [w_Model ct aM z34 LM] [w_Model ct aM z34 LM] [0] (fun z38 => [w_Model ct aM z38 LM]) 0 0 10 rfl rfl rfl cl_X10_165 (c_X10_takesNow l D ct F aM z34 LM) rfl (by decide) (fun _ => lc fa_Model (rfl)) rfl ⟨by decide, by decide⟩ (Nat.le_of_ble_eq_true rfl) rfl dX10_moves_38 (fun z38 => ?_)
      refine im_ws (cat [w_Model ct aM z38 LM]) rfl ?_
      refine im_bipush X 57 dX10_moves_41 (by decide) ?_
      refine im_iconst X 5 dX10_moves_43 (by decide) ?_
      refine im_aload_n X 0 dX10_moves_44 rfl rfl ?_
      refine im_cget X 0 0 (v := .ref (aM 1)) fl_X10_13 rfl rfl rfl dX10_moves_45 ?_
      refine im_bipush X 56 dX10_moves_48 (by decide) ?_
      refine im_ciald X 0 1 0 (f := (z38 1)) rfl rfl rfl dX10_moves_50 ?_
      refine im_imul X dX10_moves_51 ?_
      refine im_iadd X dX10_moves_52 ?_
      refine im_istore X [1, 2, 3, 4, 5, 6, 0] [(0, .ref (aM 0)), (1, .int x1), (2, .int x2), (3, .int x3), (4, .int x4), (5, .int x5), (6, .int (57 + (5 * ((z38 1) (56 : Int32).toNatClampNeg))))] dX10_moves_53 (by decide) rfl ?_
      refine im_aload_n X 0 dX10_moves_55 rfl rfl ?_
      refine im_cget X 0 0 (v := .ref (aM 1)) fl_X10_13 rfl rfl rfl dX10_moves_56 ?_
      refine im_iload X 6 dX10_moves_59 rfl ?_
      refine im_iload_n X 1 dX10_moves_61 rfl rfl ?_
      refine im_ciast X 0 1 0 (wx_Model ct aM (z38 0 0) (z38 0 4) (z38 0 6) (z38 0 7) (z38 0 8) (z38 0 9) (z38 0 24) (z38 0 27) (z38 0 29) (z38 0 31) (z38 0 32) (z38 0 33) (z38 0 34) (z38 0 35) (upd (z38 1) ((57 + (5 * ((z38 1) (56 : Int32).toNatClampNeg)))).toNatClampNeg x1) (z38 2) (z38 3) (z38 4) (z38 5) (z38 9) (z38 10) (z38 11) (z38 12) (z38 13) (z38 14) (z38 15) (z38 16) (z38 17) (z38 18) (z38 19) (z38 20) (z38 21) (z38 22) (LM 6) (LM 7) (LM 8)) [wx_Model ct aM (z38 0 0) (z38 0 4) (z38 0 6) (z38 0 7) (z38 0 8) (z38 0 9) (z38 0 24) (z38 0 27) (z38 0 29) (z38 0 31) (z38 0 32) (z38 0 33) (z38 0 34) (z38 0 35) (upd (z38 1) ((57 + (5 * ((z38 1) (56 : Int32).toNatClampNeg)))).toNatClampNeg x1) (z38 2) (z38 3) (z38 4) (z38 5) (z38 9) (z38 10) (z38 11) (z38 12) (z38 13) (z38 14) (z38 15) (z38 16) (z38 17) (z38 18) (z38 19) (z38 20) (z38 21) (z38 22) (LM 6) (LM 7) (LM 8)] (f := (z38 1)) rfl rfl rfl rfl rfl dX10_moves_62 ?_
      refine im_aload_n X 0 dX10_moves_63 rfl rfl ?_
      refine im_cget X 0 0 (v := .ref (aM 1)) fl_X10_13 rfl rfl rfl dX10_moves_64 ?_
      refine im_iload X 6 dX10_moves_67 rfl ?_
      refine im_iconst X 1 dX10_moves_69 (by decide) ?_
      refine im_iadd X dX10_moves_70 ?_
      refine im_iload_n X 2 dX10_moves_71 rfl rfl ?_
      refine im_ciast X 0 1 0 (wx_Model ct aM (z38 0 0) (z38 0 4) (z38 0 6) (z38 0 7) (z38 0 8) (z38 0 9) (z38 0 24) (z38 0 27) (z38 0 29) (z38 0 31) (z38 0 32) (z38 0 33) (z38 0 34) (z38 0 35) (upd (upd (z38 1) ((57 + (5 * ((z38 1) (56 : Int32).toNatClampNeg)))).toNatClampNeg x1) (((57 + (5 * ((z38 1) (56 : Int32).toNatClampNeg))) + 1)).toNatClampNeg x2) (z38 2) (z38 3) (z38 4) (z38 5) (z38 9) (z38 10) (z38 11) (z38 12) (z38 13) (z38 14) (z38 15) (z38 16) (z38 17) (z38 18) (z38 19) (z38 20) (z38 21) (z38 22) (LM 6) (LM 7) (LM 8)) [wx_Model ct aM (z38 0 0) (z38 0 4) (z38 0 6) (z38 0 7) (z38 0 8) (z38 0 9) (z38 0 24) (z38 0 27) (z38 0 29) (z38 0 31) (z38 0 32) (z38 0 33) (z38 0 34) (z38 0 35) (upd (upd (z38 1) ((57 + (5 * ((z38 1) (56 : Int32).toNatClampNeg)))).toNatClampNeg x1) (((57 + (5 * ((z38 1) (56 : Int32).toNatClampNeg))) + 1)).toNatClampNeg x2) (z38 2) (z38 3) (z38 4) (z38 5) (z38 9) (z38 10) (z38 11) (z38 12) (z38 13) (z38 14) (z38 15) (z38 16) (z38 17) (z38 18) (z38 19) (z38 20) (z38 21) (z38 22) (LM 6) (LM 7) (LM 8)] (f := (upd (z38 1) ((57 + (5 * ((z38 1) (56 : Int32).toNatClampNeg)))).toNatClampNeg x1)) rfl rfl rfl rfl rfl dX10_moves_72 ?_
      refine im_aload_n X 0 dX10_moves_73 rfl rfl ?_
      refine im_cget X 0 0 (v := .ref (aM 1)) fl_X10_13 rfl rfl rfl dX10_moves_74 ?_
      refine im_iload X 6 dX10_moves_77 rfl ?_
      refine im_iconst X 2 dX10_moves_79 (by decide) ?_
      refine im_iadd X dX10_moves_80 ?_
      refine im_iload_n X 3 dX10_moves_81 rfl rfl ?_
      refine im_ciast X 0 1 0 (wx_Model ct aM (z38 0 0) (z38 0 4) (z38 0 6) (z38 0 7) (z38 0 8) (z38 0 9) (z38 0 24) (z38 0 27) (z38 0 29) (z38 0 31) (z38 0 32) (z38 0 33) (z38 0 34) (z38 0 35) (upd (upd (upd (z38 1) ((57 + (5 * ((z38 1) (56 : Int32).toNatClampNeg)))).toNatClampNeg x1) (((57 + (5 * ((z38 1) (56 : Int32).toNatClampNeg))) + 1)).toNatClampNeg x2) (((57 + (5 * ((z38 1) (56 : Int32).toNatClampNeg))) + 2)).toNatClampNeg x3) (z38 2) (z38 3) (z38 4) (z38 5) (z38 9) (z38 10) (z38 11) (z38 12) (z38 13) (z38 14) (z38 15) (z38 16) (z38 17) (z38 18) (z38 19) (z38 20) (z38 21) (z38 22) (LM 6) (LM 7) (LM 8)) [wx_Model ct aM (z38 0 0) (z38 0 4) (z38 0 6) (z38 0 7) (z38 0 8) (z38 0 9) (z38 0 24) (z38 0 27) (z38 0 29) (z38 0 31) (z38 0 32) (z38 0 33) (z38 0 34) (z38 0 35) (upd (upd (upd (z38 1) ((57 + (5 * ((z38 1) (56 : Int32).toNatClampNeg)))).toNatClampNeg x1) (((57 + (5 * ((z38 1) (56 : Int32).toNatClampNeg))) + 1)).toNatClampNeg x2) (((57 + (5 * ((z38 1) (56 : Int32).toNatClampNeg))) + 2)).toNatClampNeg x3) (z38 2) (z38 3) (z38 4) (z38 5) (z38 9) (z38 10) (z38 11) (z38 12) (z38 13) (z38 14) (z38 15) (z38 16) (z38 17) (z38 18) (z38 19) (z38 20) (z38 21) (z38 22) (LM 6) (LM 7) (LM 8)] (f := (upd (upd (z38 1) ((57 + (5 * ((z38 1) (56 : Int32).toNatClampNeg)))).toNatClampNeg x1) (((57 + (5 * ((z38 1) (56 : Int32).toNatClampNeg))) + 1)).toNatClampNeg x2)) rfl rfl rfl rfl rfl dX10_moves_82 ?_
      refine im_aload_n X 0 dX10_moves_83 rfl rfl ?_
      refine im_cget X 0 0 (v := .ref (aM 1)) fl_X10_13 rfl rfl rfl dX10_moves_84 ?_
      refine im_iload X 6 dX10_moves_87 rfl ?_
      refine im_iconst X 3 dX10_moves_89 (by decide) ?_
      refine im_iadd X dX10_moves_90 ?_
      refine im_iload X 4 dX10_moves_91 rfl ?_
      refine im_ciast X 0 1 0 (wx_Model ct aM (z38 0 0) (z38 0 4) (z38 0 6) (z38 0 7) (z38 0 8) (z38 0 9) (z38 0 24) (z38 0 27) (z38 0 29) (z38 0 31) (z38 0 32) (z38 0 33) (z38 0 34) (z38 0 35) (upd (upd (upd (upd (z38 1) ((57 + (5 * ((z38 1) (56 : Int32).toNatClampNeg)))).toNatClampNeg x1) (((57 + (5 * ((z38 1) (56 : Int32).toNatClampNeg))) + 1)).toNatClampNeg x2) (((57 + (5 * ((z38 1) (56 : Int32).toNatClampNeg))) + 2)).toNatClampNeg x3) (((57 + (5 * ((z38 1) (56 : Int32).toNatClampNeg))) + 3)).toNatClampNeg x4) (z38 2) (z38 3) (z38 4) (z38 5) (z38 9) (z38 10) (z38 11) (z38 12) (z38 13) (z38 14) (z38 15) (z38 16) (z38 17) (z38 18) (z38 19) (z38 20) (z38 21) (z38 22) (LM 6) (LM 7) (LM 8)) [wx_Model ct aM (z38 0 0) (z38 0 4) (z38 0 6) (z38 0 7) (z38 0 8) (z38 0 9) (z38 0 24) (z38 0 27) (z38 0 29) (z38 0 31) (z38 0 32) (z38 0 33) (z38 0 34) (z38 0 35) (upd (upd (upd (upd (z38 1) ((57 + (5 * ((z38 1) (56 : Int32).toNatClampNeg)))).toNatClampNeg x1) (((57 + (5 * ((z38 1) (56 : Int32).toNatClampNeg))) + 1)).toNatClampNeg x2) (((57 + (5 * ((z38 1) (56 : Int32).toNatClampNeg))) + 2)).toNatClampNeg x3) (((57 + (5 * ((z38 1) (56 : Int32).toNatClampNeg))) + 3)).toNatClampNeg x4) (z38 2) (z38 3) (z38 4) (z38 5) (z38 9) (z38 10) (z38 11) (z38 12) (z38 13) (z38 14) (z38 15) (z38 16) (z38 17) (z38 18) (z38 19) (z38 20) (z38 21) (z38 22) (LM 6) (LM 7) (LM 8)] (f := (upd (upd (upd (z38 1) ((57 + (5 * ((z38 1) (56 : Int32).toNatClampNeg)))).toNatClampNeg x1) (((57 + (5 * ((z38 1) (56 : Int32).toNatClampNeg))) + 1)).toNatClampNeg x2) (((57 + (5 * ((z38 1) (56 : Int32).toNatClampNeg))) + 2)).toNatClampNeg x3)) rfl rfl rfl rfl rfl dX10_moves_93 ?_
      refine im_aload_n X 0 dX10_moves_94 rfl rfl ?_
      refine im_cget X 0 0 (v := .ref (aM 1)) fl_X10_13 rfl rfl rfl dX10_moves_95 ?_
      refine im_iload X 6 dX10_moves_98 rfl ?_
      refine im_iconst X 4 dX10_moves_100 (by decide) ?_
      refine im_iadd X dX10_moves_101 ?_
      refine im_iload X 5 dX10_moves_102 rfl ?_
      refine im_ciast X 0 1 0 (wx_Model ct aM (z38 0 0) (z38 0 4) (z38 0 6) (z38 0 7) (z38 0 8) (z38 0 9) (z38 0 24) (z38 0 27) (z38 0 29) (z38 0 31) (z38 0 32) (z38 0 33) (z38 0 34) (z38 0 35) (upd (upd (upd (upd (upd (z38 1) ((57 + (5 * ((z38 1) (56 : Int32).toNatClampNeg)))).toNatClampNeg x1) (((57 + (5 * ((z38 1) (56 : Int32).toNatClampNeg))) + 1)).toNatClampNeg x2) (((57 + (5 * ((z38 1) (56 : Int32).toNatClampNeg))) + 2)).toNatClampNeg x3) (((57 + (5 * ((z38 1) (56 : Int32).toNatClampNeg))) + 3)).toNatClampNeg x4) (((57 + (5 * ((z38 1) (56 : Int32).toNatClampNeg))) + 4)).toNatClampNeg x5) (z38 2) (z38 3) (z38 4) (z38 5) (z38 9) (z38 10) (z38 11) (z38 12) (z38 13) (z38 14) (z38 15) (z38 16) (z38 17) (z38 18) (z38 19) (z38 20) (z38 21) (z38 22) (LM 6) (LM 7) (LM 8)) [wx_Model ct aM (z38 0 0) (z38 0 4) (z38 0 6) (z38 0 7) (z38 0 8) (z38 0 9) (z38 0 24) (z38 0 27) (z38 0 29) (z38 0 31) (z38 0 32) (z38 0 33) (z38 0 34) (z38 0 35) (upd (upd (upd (upd (upd (z38 1) ((57 + (5 * ((z38 1) (56 : Int32).toNatClampNeg)))).toNatClampNeg x1) (((57 + (5 * ((z38 1) (56 : Int32).toNatClampNeg))) + 1)).toNatClampNeg x2) (((57 + (5 * ((z38 1) (56 : Int32).toNatClampNeg))) + 2)).toNatClampNeg x3) (((57 + (5 * ((z38 1) (56 : Int32).toNatClampNeg))) + 3)).toNatClampNeg x4) (((57 + (5 * ((z38 1) (56 : Int32).toNatClampNeg))) + 4)).toNatClampNeg x5) (z38 2) (z38 3) (z38 4) (z38 5) (z38 9) (z38 10) (z38 11) (z38 12) (z38 13) (z38 14) (z38 15) (z38 16) (z38 17) (z38 18) (z38 19) (z38 20) (z38 21) (z38 22) (LM 6) (LM 7) (LM 8)] (f := (upd (upd (upd (upd (z38 1) ((57 + (5 * ((z38 1) (56 : Int32).toNatClampNeg)))).toNatClampNeg x1) (((57 + (5 * ((z38 1) (56 : Int32).toNatClampNeg))) + 1)).toNatClampNeg x2) (((57 + (5 * ((z38 1) (56 : Int32).toNatClampNeg))) + 2)).toNatClampNeg x3) (((57 + (5 * ((z38 1) (56 : Int32).toNatClampNeg))) + 3)).toNatClampNeg x4)) rfl rfl rfl rfl rfl dX10_moves_104 ?_
      refine im_aload_n X 0 dX10_moves_105 rfl rfl ?_
      refine im_cget X 0 0 (v := .ref (aM 1)) fl_X10_13 rfl rfl rfl dX10_moves_106 ?_
      refine im_bipush X 56 dX10_moves_109 (by decide) ?_
      refine im_dup2_11 X rfl rfl dX10_moves_111 ?_
      refine im_ciald X 0 1 0 (f := (upd (upd (upd (upd (upd (z38 1) ((57 + (5 * ((z38 1) (56 : Int32).toNatClampNeg)))).toNatClampNeg x1) (((57 + (5 * ((z38 1) (56 : Int32).toNatClampNeg))) + 1)).toNatClampNeg x2) (((57 + (5 * ((z38 1) (56 : Int32).toNatClampNeg))) + 2)).toNatClampNeg x3) (((57 + (5 * ((z38 1) (56 : Int32).toNatClampNeg))) + 3)).toNatClampNeg x4) (((57 + (5 * ((z38 1) (56 : Int32).toNatClampNeg))) + 4)).toNatClampNeg x5)) rfl rfl rfl dX10_moves_112 ?_
      refine im_iconst X 1 dX10_moves_113 (by decide) ?_
      refine im_iadd X dX10_moves_114 ?_
      refine im_ciast X 0 1 0 (wx_Model ct aM (z38 0 0) (z38 0 4) (z38 0 6) (z38 0 7) (z38 0 8) (z38 0 9) (z38 0 24) (z38 0 27) (z38 0 29) (z38 0 31) (z38 0 32) (z38 0 33) (z38 0 34) (z38 0 35) (upd (upd (upd (upd (upd (upd (z38 1) ((57 + (5 * ((z38 1) (56 : Int32).toNatClampNeg)))).toNatClampNeg x1) (((57 + (5 * ((z38 1) (56 : Int32).toNatClampNeg))) + 1)).toNatClampNeg x2) (((57 + (5 * ((z38 1) (56 : Int32).toNatClampNeg))) + 2)).toNatClampNeg x3) (((57 + (5 * ((z38 1) (56 : Int32).toNatClampNeg))) + 3)).toNatClampNeg x4) (((57 + (5 * ((z38 1) (56 : Int32).toNatClampNeg))) + 4)).toNatClampNeg x5) (56 : Int32).toNatClampNeg (((upd (upd (upd (upd (upd (z38 1) ((57 + (5 * ((z38 1) (56 : Int32).toNatClampNeg)))).toNatClampNeg x1) (((57 + (5 * ((z38 1) (56 : Int32).toNatClampNeg))) + 1)).toNatClampNeg x2) (((57 + (5 * ((z38 1) (56 : Int32).toNatClampNeg))) + 2)).toNatClampNeg x3) (((57 + (5 * ((z38 1) (56 : Int32).toNatClampNeg))) + 3)).toNatClampNeg x4) (((57 + (5 * ((z38 1) (56 : Int32).toNatClampNeg))) + 4)).toNatClampNeg x5) (56 : Int32).toNatClampNeg) + 1)) (z38 2) (z38 3) (z38 4) (z38 5) (z38 9) (z38 10) (z38 11) (z38 12) (z38 13) (z38 14) (z38 15) (z38 16) (z38 17) (z38 18) (z38 19) (z38 20) (z38 21) (z38 22) (LM 6) (LM 7) (LM 8)) [wx_Model ct aM (z38 0 0) (z38 0 4) (z38 0 6) (z38 0 7) (z38 0 8) (z38 0 9) (z38 0 24) (z38 0 27) (z38 0 29) (z38 0 31) (z38 0 32) (z38 0 33) (z38 0 34) (z38 0 35) (upd (upd (upd (upd (upd (upd (z38 1) ((57 + (5 * ((z38 1) (56 : Int32).toNatClampNeg)))).toNatClampNeg x1) (((57 + (5 * ((z38 1) (56 : Int32).toNatClampNeg))) + 1)).toNatClampNeg x2) (((57 + (5 * ((z38 1) (56 : Int32).toNatClampNeg))) + 2)).toNatClampNeg x3) (((57 + (5 * ((z38 1) (56 : Int32).toNatClampNeg))) + 3)).toNatClampNeg x4) (((57 + (5 * ((z38 1) (56 : Int32).toNatClampNeg))) + 4)).toNatClampNeg x5) (56 : Int32).toNatClampNeg (((upd (upd (upd (upd (upd (z38 1) ((57 + (5 * ((z38 1) (56 : Int32).toNatClampNeg)))).toNatClampNeg x1) (((57 + (5 * ((z38 1) (56 : Int32).toNatClampNeg))) + 1)).toNatClampNeg x2) (((57 + (5 * ((z38 1) (56 : Int32).toNatClampNeg))) + 2)).toNatClampNeg x3) (((57 + (5 * ((z38 1) (56 : Int32).toNatClampNeg))) + 3)).toNatClampNeg x4) (((57 + (5 * ((z38 1) (56 : Int32).toNatClampNeg))) + 4)).toNatClampNeg x5) (56 : Int32).toNatClampNeg) + 1)) (z38 2) (z38 3) (z38 4) (z38 5) (z38 9) (z38 10) (z38 11) (z38 12) (z38 13) (z38 14) (z38 15) (z38 16) (z38 17) (z38 18) (z38 19) (z38 20) (z38 21) (z38 22) (LM 6) (LM 7) (LM 8)] (f := (upd (upd (upd (upd (upd (z38 1) ((57 + (5 * ((z38 1) (56 : Int32).toNatClampNeg)))).toNatClampNeg x1) (((57 + (5 * ((z38 1) (56 : Int32).toNatClampNeg))) + 1)).toNatClampNeg x2) (((57 + (5 * ((z38 1) (56 : Int32).toNatClampNeg))) + 2)).toNatClampNeg x3) (((57 + (5 * ((z38 1) (56 : Int32).toNatClampNeg))) + 3)).toNatClampNeg x4) (((57 + (5 * ((z38 1) (56 : Int32).toNatClampNeg))) + 4)).toNatClampNeg x5)) rfl rfl rfl rfl rfl dX10_moves_115 ?_
      refine im_iload_n X 1 dX10_moves_116 rfl rfl ?_
      refine im_iconst X 4 dX10_moves_117 (by decide) ?_
      refine im_icmp_ne (tgt := 131) X dX10_moves_118 rfl ?_ ?_
      · refine im_aload_n X 0 dX10_moves_131 rfl rfl ?_
        refine im_iload_n X 2 dX10_moves_132 rfl rfl ?_
        refine im_iload_n X 3 dX10_moves_133 rfl rfl ?_
        refine im_cciV X [.int x2, .int x3] [] [wx_Model ct aM (z38 0 0) (z38 0 4) (z38 0 6) (z38 0 7) (z38 0 8) (z38 0 9) (z38 0 24) (z38 0 27) (z38 0 29) (z38 0 31) (z38 0 32) (z38 0 33) (z38 0 34) (z38 0 35) (upd (upd (upd (upd (upd (upd (z38 1) ((57 + (5 * ((z38 1) (56 : Int32).toNatClampNeg)))).toNatClampNeg x1) (((57 + (5 * ((z38 1) (56 : Int32).toNatClampNeg))) + 1)).toNatClampNeg x2) (((57 + (5 * ((z38 1) (56 : Int32).toNatClampNeg))) + 2)).toNatClampNeg x3) (((57 + (5 * ((z38 1) (56 : Int32).toNatClampNeg))) + 3)).toNatClampNeg x4) (((57 + (5 * ((z38 1) (56 : Int32).toNatClampNeg))) + 4)).toNatClampNeg x5) (56 : Int32).toNatClampNeg (((upd (upd (upd (upd (upd (z38 1) ((57 + (5 * ((z38 1) (56 : Int32).toNatClampNeg)))).toNatClampNeg x1) (((57 + (5 * ((z38 1) (56 : Int32).toNatClampNeg))) + 1)).toNatClampNeg x2) (((57 + (5 * ((z38 1) (56 : Int32).toNatClampNeg))) + 2)).toNatClampNeg x3) (((57 + (5 * ((z38 1) (56 : Int32).toNatClampNeg))) + 3)).toNatClampNeg x4) (((57 + (5 * ((z38 1) (56 : Int32).toNatClampNeg))) + 4)).toNatClampNeg x5) (56 : Int32).toNatClampNeg) + 1)) (z38 2) (z38 3) (z38 4) (z38 5) (z38 9) (z38 10) (z38 11) (z38 12) (z38 13) (z38 14) (z38 15) (z38 16) (z38 17) (z38 18) (z38 19) (z38 20) (z38 21) (z38 22) (LM 6) (LM 7) (LM 8)] [w_Model ct aM (mr z38 1 (upd (upd (upd (upd (upd (upd (z38 1) ((57 + (5 * ((z38 1) (56 : Int32).toNatClampNeg)))).toNatClampNeg x1) (((57 + (5 * ((z38 1) (56 : Int32).toNatClampNeg))) + 1)).toNatClampNeg x2) (((57 + (5 * ((z38 1) (56 : Int32).toNatClampNeg))) + 2)).toNatClampNeg x3) (((57 + (5 * ((z38 1) (56 : Int32).toNatClampNeg))) + 3)).toNatClampNeg x4) (((57 + (5 * ((z38 1) (56 : Int32).toNatClampNeg))) + 4)).toNatClampNeg x5) (56 : Int32).toNatClampNeg (((upd (upd (upd (upd (upd (z38 1) ((57 + (5 * ((z38 1) (56 : Int32).toNatClampNeg)))).toNatClampNeg x1) (((57 + (5 * ((z38 1) (56 : Int32).toNatClampNeg))) + 1)).toNatClampNeg x2) (((57 + (5 * ((z38 1) (56 : Int32).toNatClampNeg))) + 2)).toNatClampNeg x3) (((57 + (5 * ((z38 1) (56 : Int32).toNatClampNeg))) + 3)).toNatClampNeg x4) (((57 + (5 * ((z38 1) (56 : Int32).toNatClampNeg))) + 4)).toNatClampNeg x5) (56 : Int32).toNatClampNeg) + 1))) LM] [0] (fun z134 => [w_Model ct aM (mr z38 1 (upd (upd (upd (upd (upd (upd (z38 1) ((57 + (5 * ((z38 1) (56 : Int32).toNatClampNeg)))).toNatClampNeg x1) (((57 + (5 * ((z38 1) (56 : Int32).toNatClampNeg))) + 1)).toNatClampNeg x2) (((57 + (5 * ((z38 1) (56 : Int32).toNatClampNeg))) + 2)).toNatClampNeg x3) (((57 + (5 * ((z38 1) (56 : Int32).toNatClampNeg))) + 3)).toNatClampNeg x4) (((57 + (5 * ((z38 1) (56 : Int32).toNatClampNeg))) + 4)).toNatClampNeg x5) (56 : Int32).toNatClampNeg (((upd (upd (upd (upd (upd (z38 1) ((57 + (5 * ((z38 1) (56 : Int32).toNatClampNeg)))).toNatClampNeg x1) (((57 + (5 * ((z38 1) (56 : Int32).toNatClampNeg))) + 1)).toNatClampNeg x2) (((57 + (5 * ((z38 1) (56 : Int32).toNatClampNeg))) + 2)).toNatClampNeg x3) (((57 + (5 * ((z38 1) (56 : Int32).toNatClampNeg))) + 3)).toNatClampNeg x4) (((57 + (5 * ((z38 1) (56 : Int32).toNatClampNeg))) + 4)).toNatClampNeg x5) (56 : Int32).toNatClampNeg) + 1))) LM]) 0 0 10 rfl rfl rfl cl_X10_105 (c_X10_now l D ct F aM (mr z38 1 (upd (upd (upd (upd (upd (upd (z38 1) ((57 + (5 * ((z38 1) (56 : Int32).toNatClampNeg)))).toNatClampNeg x1) (((57 + (5 * ((z38 1) (56 : Int32).toNatClampNeg))) + 1)).toNatClampNeg x2) (((57 + (5 * ((z38 1) (56 : Int32).toNatClampNeg))) + 2)).toNatClampNeg x3) (((57 + (5 * ((z38 1) (56 : Int32).toNatClampNeg))) + 3)).toNatClampNeg x4) (((57 + (5 * ((z38 1) (56 : Int32).toNatClampNeg))) + 4)).toNatClampNeg x5) (56 : Int32).toNatClampNeg (((upd (upd (upd (upd (upd (z38 1) ((57 + (5 * ((z38 1) (56 : Int32).toNatClampNeg)))).toNatClampNeg x1) (((57 + (5 * ((z38 1) (56 : Int32).toNatClampNeg))) + 1)).toNatClampNeg x2) (((57 + (5 * ((z38 1) (56 : Int32).toNatClampNeg))) + 2)).toNatClampNeg x3) (((57 + (5 * ((z38 1) (56 : Int32).toNatClampNeg))) + 3)).toNatClampNeg x4) (((57 + (5 * ((z38 1) (56 : Int32).toNatClampNeg))) + 4)).toNatClampNeg x5) (56 : Int32).toNatClampNeg) + 1))) LM x2 x3) rfl (by decide) (fun _ => lc rfl (rfl)) rfl ⟨by decide, by decide⟩ (Nat.le_of_ble_eq_true rfl) rfl dX10_moves_134 (fun z134 => ?_)
        refine im_ws (cat [wx_Model ct aM (z38 0 0) (z38 0 4) (z38 0 6) (z38 0 7) (z38 0 8) (z38 0 9) (z38 0 24) (z38 0 27) (z38 0 29) (z38 0 31) (z38 0 32) (z38 0 33) (z38 0 34) (z38 0 35) (upd (upd (upd (upd (upd (upd (z38 1) ((57 + (5 * ((z38 1) (56 : Int32).toNatClampNeg)))).toNatClampNeg x1) (((57 + (5 * ((z38 1) (56 : Int32).toNatClampNeg))) + 1)).toNatClampNeg x2) (((57 + (5 * ((z38 1) (56 : Int32).toNatClampNeg))) + 2)).toNatClampNeg x3) (((57 + (5 * ((z38 1) (56 : Int32).toNatClampNeg))) + 3)).toNatClampNeg x4) (((57 + (5 * ((z38 1) (56 : Int32).toNatClampNeg))) + 4)).toNatClampNeg x5) (56 : Int32).toNatClampNeg (((upd (upd (upd (upd (upd (z38 1) ((57 + (5 * ((z38 1) (56 : Int32).toNatClampNeg)))).toNatClampNeg x1) (((57 + (5 * ((z38 1) (56 : Int32).toNatClampNeg))) + 1)).toNatClampNeg x2) (((57 + (5 * ((z38 1) (56 : Int32).toNatClampNeg))) + 2)).toNatClampNeg x3) (((57 + (5 * ((z38 1) (56 : Int32).toNatClampNeg))) + 3)).toNatClampNeg x4) (((57 + (5 * ((z38 1) (56 : Int32).toNatClampNeg))) + 4)).toNatClampNeg x5) (56 : Int32).toNatClampNeg) + 1)) (z38 2) (z38 3) (z38 4) (z38 5) (z38 9) (z38 10) (z38 11) (z38 12) (z38 13) (z38 14) (z38 15) (z38 16) (z38 17) (z38 18) (z38 19) (z38 20) (z38 21) (z38 22) (LM 6) (LM 7) (LM 8)]) rfl ?_
        exact im_ireturn X (z134, (mr z38 1 (upd (upd (upd (upd (upd (upd (z38 1) ((57 + (5 * ((z38 1) (56 : Int32).toNatClampNeg)))).toNatClampNeg x1) (((57 + (5 * ((z38 1) (56 : Int32).toNatClampNeg))) + 1)).toNatClampNeg x2) (((57 + (5 * ((z38 1) (56 : Int32).toNatClampNeg))) + 2)).toNatClampNeg x3) (((57 + (5 * ((z38 1) (56 : Int32).toNatClampNeg))) + 3)).toNatClampNeg x4) (((57 + (5 * ((z38 1) (56 : Int32).toNatClampNeg))) + 4)).toNatClampNeg x5) (56 : Int32).toNatClampNeg (((upd (upd (upd (upd (upd (z38 1) ((57 + (5 * ((z38 1) (56 : Int32).toNatClampNeg)))).toNatClampNeg x1) (((57 + (5 * ((z38 1) (56 : Int32).toNatClampNeg))) + 1)).toNatClampNeg x2) (((57 + (5 * ((z38 1) (56 : Int32).toNatClampNeg))) + 2)).toNatClampNeg x3) (((57 + (5 * ((z38 1) (56 : Int32).toNatClampNeg))) + 3)).toNatClampNeg x4) (((57 + (5 * ((z38 1) (56 : Int32).toNatClampNeg))) + 4)).toNatClampNeg x5) (56 : Int32).toNatClampNeg) + 1)))) rfl rfl dX10_moves_137
      · refine im_aload_n X 0 dX10_moves_121 rfl rfl ?_
        refine im_iload X 5 dX10_moves_122 rfl ?_
        refine im_iload_n X 3 dX10_moves_124 rfl rfl ?_
        refine im_cciV X [.int x5, .int x3] [] [wx_Model ct aM (z38 0 0) (z38 0 4) (z38 0 6) (z38 0 7) (z38 0 8) (z38 0 9) (z38 0 24) (z38 0 27) (z38 0 29) (z38 0 31) (z38 0 32) (z38 0 33) (z38 0 34) (z38 0 35) (upd (upd (upd (upd (upd (upd (z38 1) ((57 + (5 * ((z38 1) (56 : Int32).toNatClampNeg)))).toNatClampNeg x1) (((57 + (5 * ((z38 1) (56 : Int32).toNatClampNeg))) + 1)).toNatClampNeg x2) (((57 + (5 * ((z38 1) (56 : Int32).toNatClampNeg))) + 2)).toNatClampNeg x3) (((57 + (5 * ((z38 1) (56 : Int32).toNatClampNeg))) + 3)).toNatClampNeg x4) (((57 + (5 * ((z38 1) (56 : Int32).toNatClampNeg))) + 4)).toNatClampNeg x5) (56 : Int32).toNatClampNeg (((upd (upd (upd (upd (upd (z38 1) ((57 + (5 * ((z38 1) (56 : Int32).toNatClampNeg)))).toNatClampNeg x1) (((57 + (5 * ((z38 1) (56 : Int32).toNatClampNeg))) + 1)).toNatClampNeg x2) (((57 + (5 * ((z38 1) (56 : Int32).toNatClampNeg))) + 2)).toNatClampNeg x3) (((57 + (5 * ((z38 1) (56 : Int32).toNatClampNeg))) + 3)).toNatClampNeg x4) (((57 + (5 * ((z38 1) (56 : Int32).toNatClampNeg))) + 4)).toNatClampNeg x5) (56 : Int32).toNatClampNeg) + 1)) (z38 2) (z38 3) (z38 4) (z38 5) (z38 9) (z38 10) (z38 11) (z38 12) (z38 13) (z38 14) (z38 15) (z38 16) (z38 17) (z38 18) (z38 19) (z38 20) (z38 21) (z38 22) (LM 6) (LM 7) (LM 8)] [w_Model ct aM (mr z38 1 (upd (upd (upd (upd (upd (upd (z38 1) ((57 + (5 * ((z38 1) (56 : Int32).toNatClampNeg)))).toNatClampNeg x1) (((57 + (5 * ((z38 1) (56 : Int32).toNatClampNeg))) + 1)).toNatClampNeg x2) (((57 + (5 * ((z38 1) (56 : Int32).toNatClampNeg))) + 2)).toNatClampNeg x3) (((57 + (5 * ((z38 1) (56 : Int32).toNatClampNeg))) + 3)).toNatClampNeg x4) (((57 + (5 * ((z38 1) (56 : Int32).toNatClampNeg))) + 4)).toNatClampNeg x5) (56 : Int32).toNatClampNeg (((upd (upd (upd (upd (upd (z38 1) ((57 + (5 * ((z38 1) (56 : Int32).toNatClampNeg)))).toNatClampNeg x1) (((57 + (5 * ((z38 1) (56 : Int32).toNatClampNeg))) + 1)).toNatClampNeg x2) (((57 + (5 * ((z38 1) (56 : Int32).toNatClampNeg))) + 2)).toNatClampNeg x3) (((57 + (5 * ((z38 1) (56 : Int32).toNatClampNeg))) + 3)).toNatClampNeg x4) (((57 + (5 * ((z38 1) (56 : Int32).toNatClampNeg))) + 4)).toNatClampNeg x5) (56 : Int32).toNatClampNeg) + 1))) LM] [0] (fun z125 => [w_Model ct aM (mr z38 1 (upd (upd (upd (upd (upd (upd (z38 1) ((57 + (5 * ((z38 1) (56 : Int32).toNatClampNeg)))).toNatClampNeg x1) (((57 + (5 * ((z38 1) (56 : Int32).toNatClampNeg))) + 1)).toNatClampNeg x2) (((57 + (5 * ((z38 1) (56 : Int32).toNatClampNeg))) + 2)).toNatClampNeg x3) (((57 + (5 * ((z38 1) (56 : Int32).toNatClampNeg))) + 3)).toNatClampNeg x4) (((57 + (5 * ((z38 1) (56 : Int32).toNatClampNeg))) + 4)).toNatClampNeg x5) (56 : Int32).toNatClampNeg (((upd (upd (upd (upd (upd (z38 1) ((57 + (5 * ((z38 1) (56 : Int32).toNatClampNeg)))).toNatClampNeg x1) (((57 + (5 * ((z38 1) (56 : Int32).toNatClampNeg))) + 1)).toNatClampNeg x2) (((57 + (5 * ((z38 1) (56 : Int32).toNatClampNeg))) + 2)).toNatClampNeg x3) (((57 + (5 * ((z38 1) (56 : Int32).toNatClampNeg))) + 3)).toNatClampNeg x4) (((57 + (5 * ((z38 1) (56 : Int32).toNatClampNeg))) + 4)).toNatClampNeg x5) (56 : Int32).toNatClampNeg) + 1))) LM]) 0 0 10 rfl rfl rfl cl_X10_105 (c_X10_now l D ct F aM (mr z38 1 (upd (upd (upd (upd (upd (upd (z38 1) ((57 + (5 * ((z38 1) (56 : Int32).toNatClampNeg)))).toNatClampNeg x1) (((57 + (5 * ((z38 1) (56 : Int32).toNatClampNeg))) + 1)).toNatClampNeg x2) (((57 + (5 * ((z38 1) (56 : Int32).toNatClampNeg))) + 2)).toNatClampNeg x3) (((57 + (5 * ((z38 1) (56 : Int32).toNatClampNeg))) + 3)).toNatClampNeg x4) (((57 + (5 * ((z38 1) (56 : Int32).toNatClampNeg))) + 4)).toNatClampNeg x5) (56 : Int32).toNatClampNeg (((upd (upd (upd (upd (upd (z38 1) ((57 + (5 * ((z38 1) (56 : Int32).toNatClampNeg)))).toNatClampNeg x1) (((57 + (5 * ((z38 1) (56 : Int32).toNatClampNeg))) + 1)).toNatClampNeg x2) (((57 + (5 * ((z38 1) (56 : Int32).toNatClampNeg))) + 2)).toNatClampNeg x3) (((57 + (5 * ((z38 1) (56 : Int32).toNatClampNeg))) + 3)).toNatClampNeg x4) (((57 + (5 * ((z38 1) (56 : Int32).toNatClampNeg))) + 4)).toNatClampNeg x5) (56 : Int32).toNatClampNeg) + 1))) LM x5 x3) rfl (by decide) (fun _ => lc rfl (rfl)) rfl ⟨by decide, by decide⟩ (Nat.le_of_ble_eq_true rfl) rfl dX10_moves_125 (fun z125 => ?_)
        refine im_ws (cat [wx_Model ct aM (z38 0 0) (z38 0 4) (z38 0 6) (z38 0 7) (z38 0 8) (z38 0 9) (z38 0 24) (z38 0 27) (z38 0 29) (z38 0 31) (z38 0 32) (z38 0 33) (z38 0 34) (z38 0 35) (upd (upd (upd (upd (upd (upd (z38 1) ((57 + (5 * ((z38 1) (56 : Int32).toNatClampNeg)))).toNatClampNeg x1) (((57 + (5 * ((z38 1) (56 : Int32).toNatClampNeg))) + 1)).toNatClampNeg x2) (((57 + (5 * ((z38 1) (56 : Int32).toNatClampNeg))) + 2)).toNatClampNeg x3) (((57 + (5 * ((z38 1) (56 : Int32).toNatClampNeg))) + 3)).toNatClampNeg x4) (((57 + (5 * ((z38 1) (56 : Int32).toNatClampNeg))) + 4)).toNatClampNeg x5) (56 : Int32).toNatClampNeg (((upd (upd (upd (upd (upd (z38 1) ((57 + (5 * ((z38 1) (56 : Int32).toNatClampNeg)))).toNatClampNeg x1) (((57 + (5 * ((z38 1) (56 : Int32).toNatClampNeg))) + 1)).toNatClampNeg x2) (((57 + (5 * ((z38 1) (56 : Int32).toNatClampNeg))) + 2)).toNatClampNeg x3) (((57 + (5 * ((z38 1) (56 : Int32).toNatClampNeg))) + 3)).toNatClampNeg x4) (((57 + (5 * ((z38 1) (56 : Int32).toNatClampNeg))) + 4)).toNatClampNeg x5) (56 : Int32).toNatClampNeg) + 1)) (z38 2) (z38 3) (z38 4) (z38 5) (z38 9) (z38 10) (z38 11) (z38 12) (z38 13) (z38 14) (z38 15) (z38 16) (z38 17) (z38 18) (z38 19) (z38 20) (z38 21) (z38 22) (LM 6) (LM 7) (LM 8)]) rfl ?_
        refine im_goto (tgt := 137) X dX10_moves_128 rfl ?_
        exact im_ireturn X (z125, (mr z38 1 (upd (upd (upd (upd (upd (upd (z38 1) ((57 + (5 * ((z38 1) (56 : Int32).toNatClampNeg)))).toNatClampNeg x1) (((57 + (5 * ((z38 1) (56 : Int32).toNatClampNeg))) + 1)).toNatClampNeg x2) (((57 + (5 * ((z38 1) (56 : Int32).toNatClampNeg))) + 2)).toNatClampNeg x3) (((57 + (5 * ((z38 1) (56 : Int32).toNatClampNeg))) + 3)).toNatClampNeg x4) (((57 + (5 * ((z38 1) (56 : Int32).toNatClampNeg))) + 4)).toNatClampNeg x5) (56 : Int32).toNatClampNeg (((upd (upd (upd (upd (upd (z38 1) ((57 + (5 * ((z38 1) (56 : Int32).toNatClampNeg)))).toNatClampNeg x1) (((57 + (5 * ((z38 1) (56 : Int32).toNatClampNeg))) + 1)).toNatClampNeg x2) (((57 + (5 * ((z38 1) (56 : Int32).toNatClampNeg))) + 2)).toNatClampNeg x3) (((57 + (5 * ((z38 1) (56 : Int32).toNatClampNeg))) + 3)).toNatClampNeg x4) (((57 + (5 * ((z38 1) (56 : Int32).toNatClampNeg))) + 4)).toNatClampNeg x5) (56 : Int32).toNatClampNeg) + 1)))) rfl rfl dX10_moves_137
    · refine im_iconst X (-1) dX10_moves_26 (by decide) ?_
      exact im_ireturn X ((-1), z20.2) rfl rfl dX10_moves_27
theorem c_X10_moves (l : Launch) (D : va_G) (ct : im_ct) (F : Nat) (aM : Nat → Nat) (M : Mem) (LM : MemL) (x1 : Int32) (x2 : Int32) (x3 : Int32) (x4 : Int32) (x5 : Int32) : CMi l D ct yX10_moves cX10_moves 7 (some .int) 5 [.ref (aM 0), .int x1, .int x2, .int x3, .int x4, .int x5] (cat [w_Model ct aM M LM]) (f_X10_moves F M LM x1 x2 x3 x4 x5) (fun z : Int32 × Mem => z.1) (fun z : Int32 × Mem => (cat [w_Model ct aM z.2 LM])) :=
  im_met (Qb := fun A => QI D A (fun z : Int32 × Mem => z.1) (fun z : Int32 × Mem => (cat [w_Model ct aM z.2 LM]))) (by decide +kernel) (Nat.le_of_ble_eq_true rfl) (fun p e s m args below meth c A X => i_X10_moves X F aM M LM x1 x2 x3 x4 x5)

noncomputable def f_X10_put_10 (F : Nat) (M : Mem) (LM : MemL) (x2 : Int32) (x3 : Int32) (x4 : Int32) (s1 : Int32) : Option (Int32 × Mem) :=
  (f_X10_moves F M LM s1 x2 x3 x4 0).bind (fun z15 => (some (z15.1, z15.2)))
set_option maxRecDepth 100000 in
set_option maxHeartbeats 4000000 in
theorem i_X10_put_10 {p : Program} {l : Launch} {e : Env} {s : State} {m : MethodId} {args : Array Value} {below : List Frame} {meth : Method} {c : Code} {D : va_G} {ct : im_ct} {A : Nat → Prop} (X : im_X p (im_rm 6) s m args meth c D ct A RX10 cX10_put 5 (some .int)) (F : Nat) (aM : Nat → Nat) (M : Mem) (LM : MemL) (x2 : Int32) (x3 : Int32) (x4 : Int32) (s1 : Int32) : Im p l e (im_rm 6) s m args below meth c D A 5 (QI D A (fun z : Int32 × Mem => z.1) (fun z : Int32 × Mem => (cat [w_Model ct aM z.2 LM]))) 10 [(2, .int x2), (3, .int x3), (4, .int x4)] [.int s1, .ref (aM 0)] (cat [w_Model ct aM M LM]) (f_X10_put_10 F M LM x2 x3 x4 s1) := by
  unfold f_X10_put_10
  refine im_iload_n X 0 dX10_put_10 rfl rfl ?_
  refine im_iload_n X 1 dX10_put_11 rfl rfl ?_
  refine im_iload X 2 dX10_put_12 rfl ?_
  refine im_iconst X 0 dX10_put_14 (by decide) ?_
  refine im_cciV X [.int s1, .int x2, .int x3, .int x4, .int 0] [] [w_Model ct aM M LM] [w_Model ct aM M LM] [0] (fun z15 => [w_Model ct aM z15.2 LM]) 0 0 10 rfl rfl rfl cl_X10_168 (c_X10_moves l D ct F aM M LM s1 x2 x3 x4 0) rfl (by decide) (fun _ => lc fa_Model (rfl)) rfl ⟨by decide, by decide⟩ (Nat.le_of_ble_eq_true rfl) rfl dX10_put_15 (fun z15 => ?_)
  refine im_ws (cat [w_Model ct aM z15.2 LM]) rfl ?_
  exact im_ireturn X (z15.1, z15.2) rfl rfl dX10_put_18
noncomputable def f_X10_put (F : Nat) (M : Mem) (LM : MemL) (x1 : Int32) (x2 : Int32) (x3 : Int32) (x4 : Int32) : Option (Int32 × Mem) :=
  (if x1 = 0 then f_X10_put_10 F M LM x2 x3 x4 0 else f_X10_put_10 F M LM x2 x3 x4 1)
set_option maxRecDepth 100000 in
set_option maxHeartbeats 4000000 in
theorem i_X10_put {p : Program} {l : Launch} {e : Env} {s : State} {m : MethodId} {args : Array Value} {below : List Frame} {meth : Method} {c : Code} {D : va_G} {ct : im_ct} {A : Nat → Prop} (X : im_X p (im_rm 6) s m args meth c D ct A RX10 cX10_put 5 (some .int)) (F : Nat) (aM : Nat → Nat) (M : Mem) (LM : MemL) (x1 : Int32) (x2 : Int32) (x3 : Int32) (x4 : Int32) : Im p l e (im_rm 6) s m args below meth c D A 5 (QI D A (fun z : Int32 × Mem => z.1) (fun z : Int32 × Mem => (cat [w_Model ct aM z.2 LM]))) 0 [(0, .ref (aM 0)), (1, .int x1), (2, .int x2), (3, .int x3), (4, .int x4)] [] (cat [w_Model ct aM M LM]) (f_X10_put F M LM x1 x2 x3 x4) := by
  unfold f_X10_put
  refine im_aload_n X 0 dX10_put_0 rfl rfl ?_
  refine im_iload_n X 1 dX10_put_1 rfl rfl ?_
  refine im_if_eq (tgt := 9) X dX10_put_2 rfl ?_ ?_
  · refine im_iconst X 0 dX10_put_9 (by decide) ?_
    refine im_lv [2, 3, 4] [(2, .int x2), (3, .int x3), (4, .int x4)] rfl ?_
    exact i_X10_put_10 X F aM M LM x2 x3 x4 0 
  · refine im_iconst X 1 dX10_put_5 (by decide) ?_
    refine im_goto (tgt := 10) X dX10_put_6 rfl ?_
    refine im_lv [2, 3, 4] [(2, .int x2), (3, .int x3), (4, .int x4)] rfl ?_
    exact i_X10_put_10 X F aM M LM x2 x3 x4 1 
theorem c_X10_put (l : Launch) (D : va_G) (ct : im_ct) (F : Nat) (aM : Nat → Nat) (M : Mem) (LM : MemL) (x1 : Int32) (x2 : Int32) (x3 : Int32) (x4 : Int32) : CMi l D ct yX10_put cX10_put 5 (some .int) 6 [.ref (aM 0), .int x1, .int x2, .int x3, .int x4] (cat [w_Model ct aM M LM]) (f_X10_put F M LM x1 x2 x3 x4) (fun z : Int32 × Mem => z.1) (fun z : Int32 × Mem => (cat [w_Model ct aM z.2 LM])) :=
  im_met (Qb := fun A => QI D A (fun z : Int32 × Mem => z.1) (fun z : Int32 × Mem => (cat [w_Model ct aM z.2 LM]))) (by decide +kernel) (Nat.le_of_ble_eq_true rfl) (fun p e s m args below meth c A X => i_X10_put X F aM M LM x1 x2 x3 x4)

noncomputable def f_X10_carry_10 (F : Nat) (M : Mem) (LM : MemL) (x2 : Int32) (x3 : Int32) (s1 : Int32) : Option (Int32 × Mem) :=
  (f_X10_moves F M LM s1 x2 x3 0 0).bind (fun z14 => (some (z14.1, z14.2)))
set_option maxRecDepth 100000 in
set_option maxHeartbeats 4000000 in
theorem i_X10_carry_10 {p : Program} {l : Launch} {e : Env} {s : State} {m : MethodId} {args : Array Value} {below : List Frame} {meth : Method} {c : Code} {D : va_G} {ct : im_ct} {A : Nat → Prop} (X : im_X p (im_rm 6) s m args meth c D ct A RX10 cX10_carry 4 (some .int)) (F : Nat) (aM : Nat → Nat) (M : Mem) (LM : MemL) (x2 : Int32) (x3 : Int32) (s1 : Int32) : Im p l e (im_rm 6) s m args below meth c D A 4 (QI D A (fun z : Int32 × Mem => z.1) (fun z : Int32 × Mem => (cat [w_Model ct aM z.2 LM]))) 10 [(2, .int x2), (3, .int x3)] [.int s1, .ref (aM 0)] (cat [w_Model ct aM M LM]) (f_X10_carry_10 F M LM x2 x3 s1) := by
  unfold f_X10_carry_10
  refine im_iload_n X 0 dX10_carry_10 rfl rfl ?_
  refine im_iload_n X 1 dX10_carry_11 rfl rfl ?_
  refine im_iconst X 0 dX10_carry_12 (by decide) ?_
  refine im_iconst X 0 dX10_carry_13 (by decide) ?_
  refine im_cciV X [.int s1, .int x2, .int x3, .int 0, .int 0] [] [w_Model ct aM M LM] [w_Model ct aM M LM] [0] (fun z14 => [w_Model ct aM z14.2 LM]) 0 0 10 rfl rfl rfl cl_X10_168 (c_X10_moves l D ct F aM M LM s1 x2 x3 0 0) rfl (by decide) (fun _ => lc fa_Model (rfl)) rfl ⟨by decide, by decide⟩ (Nat.le_of_ble_eq_true rfl) rfl dX10_carry_14 (fun z14 => ?_)
  refine im_ws (cat [w_Model ct aM z14.2 LM]) rfl ?_
  exact im_ireturn X (z14.1, z14.2) rfl rfl dX10_carry_17
noncomputable def f_X10_carry (F : Nat) (M : Mem) (LM : MemL) (x1 : Int32) (x2 : Int32) (x3 : Int32) : Option (Int32 × Mem) :=
  (if x1 = 0 then f_X10_carry_10 F M LM x2 x3 2 else f_X10_carry_10 F M LM x2 x3 3)
set_option maxRecDepth 100000 in
set_option maxHeartbeats 4000000 in
theorem i_X10_carry {p : Program} {l : Launch} {e : Env} {s : State} {m : MethodId} {args : Array Value} {below : List Frame} {meth : Method} {c : Code} {D : va_G} {ct : im_ct} {A : Nat → Prop} (X : im_X p (im_rm 6) s m args meth c D ct A RX10 cX10_carry 4 (some .int)) (F : Nat) (aM : Nat → Nat) (M : Mem) (LM : MemL) (x1 : Int32) (x2 : Int32) (x3 : Int32) : Im p l e (im_rm 6) s m args below meth c D A 4 (QI D A (fun z : Int32 × Mem => z.1) (fun z : Int32 × Mem => (cat [w_Model ct aM z.2 LM]))) 0 [(0, .ref (aM 0)), (1, .int x1), (2, .int x2), (3, .int x3)] [] (cat [w_Model ct aM M LM]) (f_X10_carry F M LM x1 x2 x3) := by
  unfold f_X10_carry
  refine im_aload_n X 0 dX10_carry_0 rfl rfl ?_
  refine im_iload_n X 1 dX10_carry_1 rfl rfl ?_
  refine im_if_eq (tgt := 9) X dX10_carry_2 rfl ?_ ?_
  · refine im_iconst X 2 dX10_carry_9 (by decide) ?_
    refine im_lv [2, 3] [(2, .int x2), (3, .int x3)] rfl ?_
    exact i_X10_carry_10 X F aM M LM x2 x3 2 
  · refine im_iconst X 3 dX10_carry_5 (by decide) ?_
    refine im_goto (tgt := 10) X dX10_carry_6 rfl ?_
    refine im_lv [2, 3] [(2, .int x2), (3, .int x3)] rfl ?_
    exact i_X10_carry_10 X F aM M LM x2 x3 3 
theorem c_X10_carry (l : Launch) (D : va_G) (ct : im_ct) (F : Nat) (aM : Nat → Nat) (M : Mem) (LM : MemL) (x1 : Int32) (x2 : Int32) (x3 : Int32) : CMi l D ct yX10_carry cX10_carry 4 (some .int) 6 [.ref (aM 0), .int x1, .int x2, .int x3] (cat [w_Model ct aM M LM]) (f_X10_carry F M LM x1 x2 x3) (fun z : Int32 × Mem => z.1) (fun z : Int32 × Mem => (cat [w_Model ct aM z.2 LM])) :=
  im_met (Qb := fun A => QI D A (fun z : Int32 × Mem => z.1) (fun z : Int32 × Mem => (cat [w_Model ct aM z.2 LM]))) (by decide +kernel) (Nat.le_of_ble_eq_true rfl) (fun p e s m args below meth c A X => i_X10_carry X F aM M LM x1 x2 x3)

noncomputable def f_X10_shift (F : Nat) (M : Mem) (LM : MemL) (x1 : Int32) (x2 : Int32) (x3 : Int32) (x4 : Int32) : Option (Int32 × Mem) :=
  (f_X10_moves F M LM 4 x1 x3 x4 x2).bind (fun z7 => (some (z7.1, z7.2)))
set_option maxRecDepth 100000 in
set_option maxHeartbeats 4000000 in
theorem i_X10_shift {p : Program} {l : Launch} {e : Env} {s : State} {m : MethodId} {args : Array Value} {below : List Frame} {meth : Method} {c : Code} {D : va_G} {ct : im_ct} {A : Nat → Prop} (X : im_X p (im_rm 6) s m args meth c D ct A RX10 cX10_shift 5 (some .int)) (F : Nat) (aM : Nat → Nat) (M : Mem) (LM : MemL) (x1 : Int32) (x2 : Int32) (x3 : Int32) (x4 : Int32) : Im p l e (im_rm 6) s m args below meth c D A 5 (QI D A (fun z : Int32 × Mem => z.1) (fun z : Int32 × Mem => (cat [w_Model ct aM z.2 LM]))) 0 [(0, .ref (aM 0)), (1, .int x1), (2, .int x2), (3, .int x3), (4, .int x4)] [] (cat [w_Model ct aM M LM]) (f_X10_shift F M LM x1 x2 x3 x4) := by
  unfold f_X10_shift
  refine im_aload_n X 0 dX10_shift_0 rfl rfl ?_
  refine im_iconst X 4 dX10_shift_1 (by decide) ?_
  refine im_iload_n X 1 dX10_shift_2 rfl rfl ?_
  refine im_iload_n X 3 dX10_shift_3 rfl rfl ?_
  refine im_iload X 4 dX10_shift_4 rfl ?_
  refine im_iload_n X 2 dX10_shift_6 rfl rfl ?_
  refine im_cciV X [.int 4, .int x1, .int x3, .int x4, .int x2] [] [w_Model ct aM M LM] [w_Model ct aM M LM] [0] (fun z7 => [w_Model ct aM z7.2 LM]) 0 0 10 rfl rfl rfl cl_X10_168 (c_X10_moves l D ct F aM M LM 4 x1 x3 x4 x2) rfl (by decide) (fun _ => lc fa_Model (rfl)) rfl ⟨by decide, by decide⟩ (Nat.le_of_ble_eq_true rfl) rfl dX10_shift_7 (fun z7 => ?_)
  refine im_ws (cat [w_Model ct aM z7.2 LM]) rfl ?_
  exact im_ireturn X (z7.1, z7.2) rfl rfl dX10_shift_10
theorem c_X10_shift (l : Launch) (D : va_G) (ct : im_ct) (F : Nat) (aM : Nat → Nat) (M : Mem) (LM : MemL) (x1 : Int32) (x2 : Int32) (x3 : Int32) (x4 : Int32) : CMi l D ct yX10_shift cX10_shift 5 (some .int) 6 [.ref (aM 0), .int x1, .int x2, .int x3, .int x4] (cat [w_Model ct aM M LM]) (f_X10_shift F M LM x1 x2 x3 x4) (fun z : Int32 × Mem => z.1) (fun z : Int32 × Mem => (cat [w_Model ct aM z.2 LM])) :=
  im_met (Qb := fun A => QI D A (fun z : Int32 × Mem => z.1) (fun z : Int32 × Mem => (cat [w_Model ct aM z.2 LM]))) (by decide +kernel) (Nat.le_of_ble_eq_true rfl) (fun p e s m args below meth c A X => i_X10_shift X F aM M LM x1 x2 x3 x4)

noncomputable def f_X10_can (F : Nat) (M : Mem) (LM : MemL) (x1 : Int32) (x2 : Int32) (x3 : Int32) (x4 : Int32) (x5 : Int32) : Option (Int32 × Mem) :=
  (f_X10_canMove F M LM x1 x2 x4 x5 x3).bind (fun z8 => (if z8.1 = 0 then (some (0, z8.2)) else (some (1, z8.2))))
set_option maxRecDepth 100000 in
set_option maxHeartbeats 4000000 in
theorem i_X10_can {p : Program} {l : Launch} {e : Env} {s : State} {m : MethodId} {args : Array Value} {below : List Frame} {meth : Method} {c : Code} {D : va_G} {ct : im_ct} {A : Nat → Prop} (X : im_X p (im_rm 5) s m args meth c D ct A RX10 cX10_can 6 (some .int)) (F : Nat) (aM : Nat → Nat) (M : Mem) (LM : MemL) (x1 : Int32) (x2 : Int32) (x3 : Int32) (x4 : Int32) (x5 : Int32) : Im p l e (im_rm 5) s m args below meth c D A 6 (QI D A (fun z : Int32 × Mem => z.1) (fun z : Int32 × Mem => (cat [w_Model ct aM z.2 LM]))) 0 [(0, .ref (aM 0)), (1, .int x1), (2, .int x2), (3, .int x3), (4, .int x4), (5, .int x5)] [] (cat [w_Model ct aM M LM]) (f_X10_can F M LM x1 x2 x3 x4 x5) := by
  unfold f_X10_can
  refine im_aload_n X 0 dX10_can_0 rfl rfl ?_
  refine im_iload_n X 1 dX10_can_1 rfl rfl ?_
  refine im_iload_n X 2 dX10_can_2 rfl rfl ?_
  refine im_iload X 4 dX10_can_3 rfl ?_
  refine im_iload X 5 dX10_can_5 rfl ?_
  refine im_iload_n X 3 dX10_can_7 rfl rfl ?_
  refine im_cciV X [.int x1, .int x2, .int x4, .int x5, .int x3] [] [w_Model ct aM M LM] [w_Model ct aM M LM] [0] (fun z8 => [w_Model ct aM z8.2 LM]) 0 0 10 rfl rfl rfl cl_X10_158 (c_X10_canMove l D ct F aM M LM x1 x2 x4 x5 x3) rfl (by decide) (fun _ => lc fa_Model (rfl)) rfl ⟨by decide, by decide⟩ (Nat.le_of_ble_eq_true rfl) rfl dX10_can_8 (fun z8 => ?_)
  refine im_ws (cat [w_Model ct aM z8.2 LM]) rfl ?_
  refine im_if_eq (tgt := 18) X dX10_can_11 rfl ?_ ?_
  · refine im_iconst X 0 dX10_can_18 (by decide) ?_
    exact im_ireturn X (0, z8.2) rfl rfl dX10_can_19
  · refine im_iconst X 1 dX10_can_14 (by decide) ?_
    refine im_goto (tgt := 19) X dX10_can_15 rfl ?_
    exact im_ireturn X (1, z8.2) rfl rfl dX10_can_19
theorem c_X10_can (l : Launch) (D : va_G) (ct : im_ct) (F : Nat) (aM : Nat → Nat) (M : Mem) (LM : MemL) (x1 : Int32) (x2 : Int32) (x3 : Int32) (x4 : Int32) (x5 : Int32) : CMi l D ct yX10_can cX10_can 6 (some .int) 5 [.ref (aM 0), .int x1, .int x2, .int x3, .int x4, .int x5] (cat [w_Model ct aM M LM]) (f_X10_can F M LM x1 x2 x3 x4 x5) (fun z : Int32 × Mem => z.1) (fun z : Int32 × Mem => (cat [w_Model ct aM z.2 LM])) :=
  im_met (Qb := fun A => QI D A (fun z : Int32 × Mem => z.1) (fun z : Int32 × Mem => (cat [w_Model ct aM z.2 LM]))) (by decide +kernel) (Nat.le_of_ble_eq_true rfl) (fun p e s m args below meth c A X => i_X10_can X F aM M LM x1 x2 x3 x4 x5)

noncomputable def f_X10_unsees_8 (F : Nat) (LM : MemL) (k48 : Mem → Option (Mem)) : Nat → Mem → Int32 → Option (Mem)
  | 0, _, _ => none
  | n + 1, M, x2 =>
  (if 226 ≤ x2 then k48 M else (if 226 ≤ (x2 + 4) then ck x2 226 (f_X10_unsees_8 F LM k48 n (mr M 1 (upd (M 1) x2.toNatClampNeg 0)) (x2 + 1)) else ck (x2 + 4) 226 (ck x2 226 (f_X10_unsees_8 F LM k48 n (mr M 1 (upd (M 1) x2.toNatClampNeg ((M 1) ((x2 + 4)).toNatClampNeg))) (x2 + 1)))))
set_option maxRecDepth 100000 in
set_option maxHeartbeats 4000000 in
theorem i_X10_unsees_8 {p : Program} {l : Launch} {e : Env} {s : State} {m : MethodId} {args : Array Value} {below : List Frame} {meth : Method} {c : Code} {D : va_G} {ct : im_ct} {A : Nat → Prop} (X : im_X p (im_rm 0) s m args meth c D ct A RX10 cX10_unsees 3 none) (F : Nat) (aM : Nat → Nat) (LM : MemL) (k48 : Mem → Option (Mem)) (hk48 : ∀ (M : Mem), Im p l e (im_rm 0) s m args below meth c D A 3 (QV D A (fun z : Mem => (cat [w_Model ct aM z LM]))) 48 [(0, .ref (aM 0))] [] (cat [w_Model ct aM M LM]) (k48 M)) : ∀ (n : Nat) (M : Mem) (x2 : Int32), Im p l e (im_rm 0) s m args below meth c D A 3 (QV D A (fun z : Mem => (cat [w_Model ct aM z LM]))) 8 [(0, .ref (aM 0)), (2, .int x2)] [] (cat [w_Model ct aM M LM]) (f_X10_unsees_8 F LM k48 n M x2) := by
  intro n
  induction n with
  | zero => intros; exact im_none
  | succ n ih =>
    intro M x2
    unfold f_X10_unsees_8
    refine im_iload_n X 1 dX10_unsees_8 rfl rfl ?_
    refine im_sipush X 226 dX10_unsees_9 (by decide) ?_
    refine im_icmp_ge (tgt := 48) X dX10_unsees_12 rfl ?_ ?_
    · refine im_lv [0] [(0, .ref (aM 0))] rfl ?_
      exact hk48 M
    · refine im_aload_n X 0 dX10_unsees_15 rfl rfl ?_
      refine im_cget X 0 0 (v := .ref (aM 1)) fl_X10_13 rfl rfl rfl dX10_unsees_16 ?_
      refine im_iload_n X 1 dX10_unsees_19 rfl rfl ?_
      refine im_iload_n X 1 dX10_unsees_20 rfl rfl ?_
      refine im_iconst X 4 dX10_unsees_21 (by decide) ?_
      refine im_iadd X dX10_unsees_22 ?_
      refine im_sipush X 226 dX10_unsees_23 (by decide) ?_
      refine im_icmp_ge (tgt := 40) X dX10_unsees_26 rfl ?_ ?_
      · refine im_iconst X 0 dX10_unsees_40 (by decide) ?_
        refine im_ciast X 0 1 0 (wx_Model ct aM (M 0 0) (M 0 4) (M 0 6) (M 0 7) (M 0 8) (M 0 9) (M 0 24) (M 0 27) (M 0 29) (M 0 31) (M 0 32) (M 0 33) (M 0 34) (M 0 35) (upd (M 1) x2.toNatClampNeg 0) (M 2) (M 3) (M 4) (M 5) (M 9) (M 10) (M 11) (M 12) (M 13) (M 14) (M 15) (M 16) (M 17) (M 18) (M 19) (M 20) (M 21) (M 22) (LM 6) (LM 7) (LM 8)) [wx_Model ct aM (M 0 0) (M 0 4) (M 0 6) (M 0 7) (M 0 8) (M 0 9) (M 0 24) (M 0 27) (M 0 29) (M 0 31) (M 0 32) (M 0 33) (M 0 34) (M 0 35) (upd (M 1) x2.toNatClampNeg 0) (M 2) (M 3) (M 4) (M 5) (M 9) (M 10) (M 11) (M 12) (M 13) (M 14) (M 15) (M 16) (M 17) (M 18) (M 19) (M 20) (M 21) (M 22) (LM 6) (LM 7) (LM 8)] (f := (M 1)) rfl rfl rfl rfl rfl dX10_unsees_41 ?_
        refine im_iinc X 1 1 [1, 0] [(0, .ref (aM 0)), (2, .int (x2 + 1))] dX10_unsees_42 (by decide) rfl (by decide) rfl ?_
        refine im_goto (tgt := 8) X dX10_unsees_45 rfl ?_
        exact ih (mr M 1 (upd (M 1) x2.toNatClampNeg 0)) (x2 + 1)
      · refine im_aload_n X 0 dX10_unsees_29 rfl rfl ?_
        refine im_cget X 0 0 (v := .ref (aM 1)) fl_X10_13 rfl rfl rfl dX10_unsees_30 ?_
        refine im_iload_n X 1 dX10_unsees_33 rfl rfl ?_
        refine im_iconst X 4 dX10_unsees_34 (by decide) ?_
        refine im_iadd X dX10_unsees_35 ?_
        refine im_ciald X 0 1 0 (f := (M 1)) rfl rfl rfl dX10_unsees_36 ?_
        refine im_goto (tgt := 41) X dX10_unsees_37 rfl ?_
        refine im_ciast X 0 1 0 (wx_Model ct aM (M 0 0) (M 0 4) (M 0 6) (M 0 7) (M 0 8) (M 0 9) (M 0 24) (M 0 27) (M 0 29) (M 0 31) (M 0 32) (M 0 33) (M 0 34) (M 0 35) (upd (M 1) x2.toNatClampNeg ((M 1) ((x2 + 4)).toNatClampNeg)) (M 2) (M 3) (M 4) (M 5) (M 9) (M 10) (M 11) (M 12) (M 13) (M 14) (M 15) (M 16) (M 17) (M 18) (M 19) (M 20) (M 21) (M 22) (LM 6) (LM 7) (LM 8)) [wx_Model ct aM (M 0 0) (M 0 4) (M 0 6) (M 0 7) (M 0 8) (M 0 9) (M 0 24) (M 0 27) (M 0 29) (M 0 31) (M 0 32) (M 0 33) (M 0 34) (M 0 35) (upd (M 1) x2.toNatClampNeg ((M 1) ((x2 + 4)).toNatClampNeg)) (M 2) (M 3) (M 4) (M 5) (M 9) (M 10) (M 11) (M 12) (M 13) (M 14) (M 15) (M 16) (M 17) (M 18) (M 19) (M 20) (M 21) (M 22) (LM 6) (LM 7) (LM 8)] (f := (M 1)) rfl rfl rfl rfl rfl dX10_unsees_41 ?_
        refine im_iinc X 1 1 [1, 0] [(0, .ref (aM 0)), (2, .int (x2 + 1))] dX10_unsees_42 (by decide) rfl (by decide) rfl ?_
        refine im_goto (tgt := 8) X dX10_unsees_45 rfl ?_
        exact ih (mr M 1 (upd (M 1) x2.toNatClampNeg ((M 1) ((x2 + 4)).toNatClampNeg))) (x2 + 1)
noncomputable def f_X10_unsees (F : Nat) (M : Mem) (LM : MemL) (x1 : Int32) : Option (Mem) :=
  f_X10_unsees_8 F LM (fun M_48 => ck 177 226 (ck 177 226 ((some (mr M_48 1 (upd (M_48 1) (177 : Int32).toNatClampNeg (((M_48 1) (177 : Int32).toNatClampNeg) - 1))))))) F M (178 + (4 * x1))
set_option maxRecDepth 100000 in
set_option maxHeartbeats 4000000 in
theorem i_X10_unsees {p : Program} {l : Launch} {e : Env} {s : State} {m : MethodId} {args : Array Value} {below : List Frame} {meth : Method} {c : Code} {D : va_G} {ct : im_ct} {A : Nat → Prop} (X : im_X p (im_rm 0) s m args meth c D ct A RX10 cX10_unsees 3 none) (F : Nat) (aM : Nat → Nat) (M : Mem) (LM : MemL) (x1 : Int32) : Im p l e (im_rm 0) s m args below meth c D A 3 (QV D A (fun z : Mem => (cat [w_Model ct aM z LM]))) 0 [(0, .ref (aM 0)), (1, .int x1)] [] (cat [w_Model ct aM M LM]) (f_X10_unsees F M LM x1) := by
  unfold f_X10_unsees
  refine im_sipush X 178 dX10_unsees_0 (by decide) ?_
  refine im_iconst X 4 dX10_unsees_3 (by decide) ?_
  refine im_iload_n X 1 dX10_unsees_4 rfl rfl ?_
  refine im_imul X dX10_unsees_5 ?_
  refine im_iadd X dX10_unsees_6 ?_
  refine im_istore_n X [1, 2, 0] [(0, .ref (aM 0)), (1, .int x1), (2, .int (178 + (4 * x1)))] dX10_unsees_7 rfl (by decide) rfl ?_
  refine im_lv [0, 2] [(0, .ref (aM 0)), (2, .int (178 + (4 * x1)))] rfl ?_
  refine i_X10_unsees_8 X F aM LM  _ (fun M_48 => ?_) F M (178 + (4 * x1))
  refine im_aload_n X 0 dX10_unsees_48 rfl rfl ?_
  refine im_cget X 0 0 (v := .ref (aM 1)) fl_X10_13 rfl rfl rfl dX10_unsees_49 ?_
  refine im_sipush X 177 dX10_unsees_52 (by decide) ?_
  refine im_dup2_11 X rfl rfl dX10_unsees_55 ?_
  refine im_ciald X 0 1 0 (f := (M_48 1)) rfl rfl rfl dX10_unsees_56 ?_
  refine im_iconst X 1 dX10_unsees_57 (by decide) ?_
  refine im_isub X dX10_unsees_58 ?_
  refine im_ciast X 0 1 0 (wx_Model ct aM (M_48 0 0) (M_48 0 4) (M_48 0 6) (M_48 0 7) (M_48 0 8) (M_48 0 9) (M_48 0 24) (M_48 0 27) (M_48 0 29) (M_48 0 31) (M_48 0 32) (M_48 0 33) (M_48 0 34) (M_48 0 35) (upd (M_48 1) (177 : Int32).toNatClampNeg (((M_48 1) (177 : Int32).toNatClampNeg) - 1)) (M_48 2) (M_48 3) (M_48 4) (M_48 5) (M_48 9) (M_48 10) (M_48 11) (M_48 12) (M_48 13) (M_48 14) (M_48 15) (M_48 16) (M_48 17) (M_48 18) (M_48 19) (M_48 20) (M_48 21) (M_48 22) (LM 6) (LM 7) (LM 8)) [wx_Model ct aM (M_48 0 0) (M_48 0 4) (M_48 0 6) (M_48 0 7) (M_48 0 8) (M_48 0 9) (M_48 0 24) (M_48 0 27) (M_48 0 29) (M_48 0 31) (M_48 0 32) (M_48 0 33) (M_48 0 34) (M_48 0 35) (upd (M_48 1) (177 : Int32).toNatClampNeg (((M_48 1) (177 : Int32).toNatClampNeg) - 1)) (M_48 2) (M_48 3) (M_48 4) (M_48 5) (M_48 9) (M_48 10) (M_48 11) (M_48 12) (M_48 13) (M_48 14) (M_48 15) (M_48 16) (M_48 17) (M_48 18) (M_48 19) (M_48 20) (M_48 21) (M_48 22) (LM 6) (LM 7) (LM 8)] (f := (M_48 1)) rfl rfl rfl rfl rfl dX10_unsees_59 ?_
  exact im_return X (mr M_48 1 (upd (M_48 1) (177 : Int32).toNatClampNeg (((M_48 1) (177 : Int32).toNatClampNeg) - 1))) rfl dX10_unsees_60
theorem c_X10_unsees (l : Launch) (D : va_G) (ct : im_ct) (F : Nat) (aM : Nat → Nat) (M : Mem) (LM : MemL) (x1 : Int32) : CMv l D ct yX10_unsees cX10_unsees 3 none 0 [.ref (aM 0), .int x1] (cat [w_Model ct aM M LM]) (f_X10_unsees F M LM x1) (fun z : Mem => (cat [w_Model ct aM z LM])) :=
  im_met (Qb := fun A => QV D A (fun z : Mem => (cat [w_Model ct aM z LM]))) (by decide +kernel) (Nat.le_of_ble_eq_true rfl) (fun p e s m args below meth c A X => i_X10_unsees X F aM M LM x1)

noncomputable def f_X10_strike_96 (F : Nat) (LM : MemL) (k127 : Mem → Option (Int32 × Mem)) : Nat → Mem → Int32 → Option (Int32 × Mem)
  | 0, _, _ => none
  | n + 1, M, x1 =>
  (if 5 ≤ x1 then k127 M else ck 56 226 (ck ((57 + (5 * ((M 1) (56 : Int32).toNatClampNeg))) + x1) 226 (f_X10_strike_96 F LM k127 n (mr M 1 (upd (M 1) (((57 + (5 * ((M 1) (56 : Int32).toNatClampNeg))) + x1)).toNatClampNeg 0)) (x1 + 1))))
set_option maxRecDepth 100000 in
set_option maxHeartbeats 4000000 in
theorem i_X10_strike_96 {p : Program} {l : Launch} {e : Env} {s : State} {m : MethodId} {args : Array Value} {below : List Frame} {meth : Method} {c : Code} {D : va_G} {ct : im_ct} {A : Nat → Prop} (X : im_X p (im_rm 5) s m args meth c D ct A RX10 cX10_strike 2 (some .int)) (F : Nat) (aM : Nat → Nat) (LM : MemL) (k127 : Mem → Option (Int32 × Mem)) (hk127 : ∀ (M : Mem), Im p l e (im_rm 5) s m args below meth c D A 2 (QI D A (fun z : Int32 × Mem => z.1) (fun z : Int32 × Mem => (cat [w_Model ct aM z.2 LM]))) 127 [(0, .ref (aM 0))] [] (cat [w_Model ct aM M LM]) (k127 M)) : ∀ (n : Nat) (M : Mem) (x1 : Int32), Im p l e (im_rm 5) s m args below meth c D A 2 (QI D A (fun z : Int32 × Mem => z.1) (fun z : Int32 × Mem => (cat [w_Model ct aM z.2 LM]))) 96 [(0, .ref (aM 0)), (1, .int x1)] [] (cat [w_Model ct aM M LM]) (f_X10_strike_96 F LM k127 n M x1) := by
  intro n
  induction n with
  | zero => intros; exact im_none
  | succ n ih =>
    intro M x1
    unfold f_X10_strike_96
    refine im_iload_n X 1 dX10_strike_96 rfl rfl ?_
    refine im_iconst X 5 dX10_strike_97 (by decide) ?_
    refine im_icmp_ge (tgt := 127) X dX10_strike_98 rfl ?_ ?_
    · refine im_lv [0] [(0, .ref (aM 0))] rfl ?_
      exact hk127 M
    · refine im_aload_n X 0 dX10_strike_101 rfl rfl ?_
      refine im_cget X 0 0 (v := .ref (aM 1)) fl_X10_13 rfl rfl rfl dX10_strike_102 ?_
      refine im_bipush X 57 dX10_strike_105 (by decide) ?_
      refine im_iconst X 5 dX10_strike_107 (by decide) ?_
      refine im_aload_n X 0 dX10_strike_108 rfl rfl ?_
      refine im_cget X 0 0 (v := .ref (aM 1)) fl_X10_13 rfl rfl rfl dX10_strike_109 ?_
      refine im_bipush X 56 dX10_strike_112 (by decide) ?_
      refine im_ciald X 0 1 0 (f := (M 1)) rfl rfl rfl dX10_strike_114 ?_
      refine im_imul X dX10_strike_115 ?_
      refine im_iadd X dX10_strike_116 ?_
      refine im_iload_n X 1 dX10_strike_117 rfl rfl ?_
      refine im_iadd X dX10_strike_118 ?_
      refine im_iconst X 0 dX10_strike_119 (by decide) ?_
      refine im_ciast X 0 1 0 (wx_Model ct aM (M 0 0) (M 0 4) (M 0 6) (M 0 7) (M 0 8) (M 0 9) (M 0 24) (M 0 27) (M 0 29) (M 0 31) (M 0 32) (M 0 33) (M 0 34) (M 0 35) (upd (M 1) (((57 + (5 * ((M 1) (56 : Int32).toNatClampNeg))) + x1)).toNatClampNeg 0) (M 2) (M 3) (M 4) (M 5) (M 9) (M 10) (M 11) (M 12) (M 13) (M 14) (M 15) (M 16) (M 17) (M 18) (M 19) (M 20) (M 21) (M 22) (LM 6) (LM 7) (LM 8)) [wx_Model ct aM (M 0 0) (M 0 4) (M 0 6) (M 0 7) (M 0 8) (M 0 9) (M 0 24) (M 0 27) (M 0 29) (M 0 31) (M 0 32) (M 0 33) (M 0 34) (M 0 35) (upd (M 1) (((57 + (5 * ((M 1) (56 : Int32).toNatClampNeg))) + x1)).toNatClampNeg 0) (M 2) (M 3) (M 4) (M 5) (M 9) (M 10) (M 11) (M 12) (M 13) (M 14) (M 15) (M 16) (M 17) (M 18) (M 19) (M 20) (M 21) (M 22) (LM 6) (LM 7) (LM 8)] (f := (M 1)) rfl rfl rfl rfl rfl dX10_strike_120 ?_
      refine im_iinc X 1 1 [1, 0] [(0, .ref (aM 0)), (1, .int (x1 + 1))] dX10_strike_121 (by decide) rfl (by decide) rfl ?_
      refine im_goto (tgt := 96) X dX10_strike_124 rfl ?_
      exact ih (mr M 1 (upd (M 1) (((57 + (5 * ((M 1) (56 : Int32).toNatClampNeg))) + x1)).toNatClampNeg 0)) (x1 + 1)
noncomputable def f_X10_strike_138 (F : Nat) (LM : MemL) (k175 : Mem → Option (Int32 × Mem)) : Nat → Mem → Int32 → Option (Int32 × Mem)
  | 0, _, _ => none
  | n + 1, M, x1 =>
  (if x1 < 0 then k175 M else ck (178 + (4 * x1)) 226 (ck 56 226 ((if ((M 1) ((178 + (4 * x1))).toNatClampNeg) ≤ ((M 1) (56 : Int32).toNatClampNeg) then f_X10_strike_138 F LM k175 n M (x1 + (-1)) else (f_X10_unsees F M LM x1).bind (fun z166 => f_X10_strike_138 F LM k175 n z166 (x1 + (-1)))))))
set_option maxRecDepth 100000 in
set_option maxHeartbeats 4000000 in
theorem i_X10_strike_138 {p : Program} {l : Launch} {e : Env} {s : State} {m : MethodId} {args : Array Value} {below : List Frame} {meth : Method} {c : Code} {D : va_G} {ct : im_ct} {A : Nat → Prop} (X : im_X p (im_rm 5) s m args meth c D ct A RX10 cX10_strike 2 (some .int)) (F : Nat) (aM : Nat → Nat) (LM : MemL) (k175 : Mem → Option (Int32 × Mem)) (hk175 : ∀ (M : Mem), Im p l e (im_rm 5) s m args below meth c D A 2 (QI D A (fun z : Int32 × Mem => z.1) (fun z : Int32 × Mem => (cat [w_Model ct aM z.2 LM]))) 175 [(0, .ref (aM 0))] [] (cat [w_Model ct aM M LM]) (k175 M)) : ∀ (n : Nat) (M : Mem) (x1 : Int32), Im p l e (im_rm 5) s m args below meth c D A 2 (QI D A (fun z : Int32 × Mem => z.1) (fun z : Int32 × Mem => (cat [w_Model ct aM z.2 LM]))) 138 [(0, .ref (aM 0)), (1, .int x1)] [] (cat [w_Model ct aM M LM]) (f_X10_strike_138 F LM k175 n M x1) := by
  intro n
  induction n with
  | zero => intros; exact im_none
  | succ n ih =>
    intro M x1
    unfold f_X10_strike_138
    refine im_iload_n X 1 dX10_strike_138 rfl rfl ?_
    refine im_if_lt (tgt := 175) X dX10_strike_139 rfl ?_ ?_
    · refine im_lv [0] [(0, .ref (aM 0))] rfl ?_
      exact hk175 M
    · refine im_aload_n X 0 dX10_strike_142 rfl rfl ?_
      refine im_cget X 0 0 (v := .ref (aM 1)) fl_X10_13 rfl rfl rfl dX10_strike_143 ?_
      refine im_sipush X 178 dX10_strike_146 (by decide) ?_
      refine im_iconst X 4 dX10_strike_149 (by decide) ?_
      refine im_iload_n X 1 dX10_strike_150 rfl rfl ?_
      refine im_imul X dX10_strike_151 ?_
      refine im_iadd X dX10_strike_152 ?_
      refine im_ciald X 0 1 0 (f := (M 1)) rfl rfl rfl dX10_strike_153 ?_
      refine im_aload_n X 0 dX10_strike_154 rfl rfl ?_
      refine im_cget X 0 0 (v := .ref (aM 1)) fl_X10_13 rfl rfl rfl dX10_strike_155 ?_
      refine im_bipush X 56 dX10_strike_158 (by decide) ?_
      refine im_ciald X 0 1 0 (f := (M 1)) rfl rfl rfl dX10_strike_160 ?_
      refine im_icmp_le (tgt := 169) X dX10_strike_161 rfl ?_ ?_
      · refine im_iinc X 1 (-1) [1, 0] [(0, .ref (aM 0)), (1, .int (x1 + (-1)))] dX10_strike_169 (by decide) rfl (by decide) rfl ?_
        refine im_goto (tgt := 138) X dX10_strike_172 rfl ?_
        exact ih M (x1 + (-1))
      · refine im_aload_n X 0 dX10_strike_164 rfl rfl ?_
        refine im_iload_n X 1 dX10_strike_165 rfl rfl ?_
        refine im_ccvV X [.int x1] [] [w_Model ct aM M LM] [w_Model ct aM M LM] [0] (fun z166 => [w_Model ct aM z166 LM]) 0 0 10 rfl rfl rfl cl_X10_175 (c_X10_unsees l D ct F aM M LM x1) rfl (by decide) (fun _ => lc fa_Model (rfl)) rfl ⟨by decide, by decide⟩ (Nat.le_of_ble_eq_true rfl) rfl dX10_strike_166 (fun z166 => ?_)
        refine im_ws (cat [w_Model ct aM z166 LM]) rfl ?_
        refine im_iinc X 1 (-1) [1, 0] [(0, .ref (aM 0)), (1, .int (x1 + (-1)))] dX10_strike_169 (by decide) rfl (by decide) rfl ?_
        refine im_goto (tgt := 138) X dX10_strike_172 rfl ?_
        exact ih z166 (x1 + (-1))
noncomputable def f_X10_strike_75 (F : Nat) (M : Mem) (LM : MemL) : Option (Int32 × Mem) :=
  (f_X10_keeps F M LM).bind (fun z76 => (f_X10_takesNow F z76 LM).bind (fun z80 => ck 56 226 (ck 56 226 (f_X10_strike_96 F LM (fun M_127 => ck 177 226 (f_X10_strike_138 F LM (fun M_175 => ck 56 226 ((some (((M_175 1) (56 : Int32).toNatClampNeg), M_175)))) F M_127 (((M_127 1) (177 : Int32).toNatClampNeg) - 1))) F (mr z80 1 (upd (z80 1) (56 : Int32).toNatClampNeg (((z80 1) (56 : Int32).toNatClampNeg) - 1))) 0))))
set_option maxRecDepth 100000 in
set_option maxHeartbeats 4000000 in
theorem i_X10_strike_75 {p : Program} {l : Launch} {e : Env} {s : State} {m : MethodId} {args : Array Value} {below : List Frame} {meth : Method} {c : Code} {D : va_G} {ct : im_ct} {A : Nat → Prop} (X : im_X p (im_rm 5) s m args meth c D ct A RX10 cX10_strike 2 (some .int)) (F : Nat) (aM : Nat → Nat) (M : Mem) (LM : MemL) : Im p l e (im_rm 5) s m args below meth c D A 2 (QI D A (fun z : Int32 × Mem => z.1) (fun z : Int32 × Mem => (cat [w_Model ct aM z.2 LM]))) 75 [(0, .ref (aM 0))] [] (cat [w_Model ct aM M LM]) (f_X10_strike_75 F M LM) := by
  unfold f_X10_strike_75
  refine im_aload_n X 0 dX10_strike_75 rfl rfl ?_
  refine im_ccvV X [] [] [w_Model ct aM M LM] [w_Model ct aM M LM] [0] (fun z76 => [w_Model ct aM z76 LM]) 0 0 10 rfl rfl rfl cl_X10_115 (c_X10_keeps l D ct F aM M LM) rfl (by decide) (fun _ => lc fa_Model (rfl)) rfl ⟨by decide, by decide⟩ (Nat.le_of_ble_eq_true rfl) rfl dX10_strike_76 (fun z76 => ?_)
  refine im_ws (cat [w_Model ct aM z76 LM]) rfl ?_
  refine im_aload_n X 0 dX10_strike_79 rfl rfl ?_
  refine im_ccvV X [] [] [w_Model ct aM z76 LM] [w_Model ct aM z76 LM] [0] (fun z80 => [w_Model ct aM z80 LM]) 0 0 10 rfl rfl rfl cl_X10_165 (c_X10_takesNow l D ct F aM z76 LM) rfl (by decide) (fun _ => lc fa_Model (rfl)) rfl ⟨by decide, by decide⟩ (Nat.le_of_ble_eq_true rfl) rfl dX10_strike_80 (fun z80 => ?_)
  refine im_ws (cat [w_Model ct aM z80 LM]) rfl ?_
  refine im_aload_n X 0 dX10_strike_83 rfl rfl ?_
  refine im_cget X 0 0 (v := .ref (aM 1)) fl_X10_13 rfl rfl rfl dX10_strike_84 ?_
  refine im_bipush X 56 dX10_strike_87 (by decide) ?_
  refine im_dup2_11 X rfl rfl dX10_strike_89 ?_
  refine im_ciald X 0 1 0 (f := (z80 1)) rfl rfl rfl dX10_strike_90 ?_
  refine im_iconst X 1 dX10_strike_91 (by decide) ?_
  refine im_isub X dX10_strike_92 ?_
  refine im_ciast X 0 1 0 (wx_Model ct aM (z80 0 0) (z80 0 4) (z80 0 6) (z80 0 7) (z80 0 8) (z80 0 9) (z80 0 24) (z80 0 27) (z80 0 29) (z80 0 31) (z80 0 32) (z80 0 33) (z80 0 34) (z80 0 35) (upd (z80 1) (56 : Int32).toNatClampNeg (((z80 1) (56 : Int32).toNatClampNeg) - 1)) (z80 2) (z80 3) (z80 4) (z80 5) (z80 9) (z80 10) (z80 11) (z80 12) (z80 13) (z80 14) (z80 15) (z80 16) (z80 17) (z80 18) (z80 19) (z80 20) (z80 21) (z80 22) (LM 6) (LM 7) (LM 8)) [wx_Model ct aM (z80 0 0) (z80 0 4) (z80 0 6) (z80 0 7) (z80 0 8) (z80 0 9) (z80 0 24) (z80 0 27) (z80 0 29) (z80 0 31) (z80 0 32) (z80 0 33) (z80 0 34) (z80 0 35) (upd (z80 1) (56 : Int32).toNatClampNeg (((z80 1) (56 : Int32).toNatClampNeg) - 1)) (z80 2) (z80 3) (z80 4) (z80 5) (z80 9) (z80 10) (z80 11) (z80 12) (z80 13) (z80 14) (z80 15) (z80 16) (z80 17) (z80 18) (z80 19) (z80 20) (z80 21) (z80 22) (LM 6) (LM 7) (LM 8)] (f := (z80 1)) rfl rfl rfl rfl rfl dX10_strike_93 ?_
  refine im_iconst X 0 dX10_strike_94 (by decide) ?_
  refine im_istore_n X [1, 0] [(0, .ref (aM 0)), (1, .int 0)] dX10_strike_95 rfl (by decide) rfl ?_
  refine i_X10_strike_96 X F aM LM  _ (fun M_127 => ?_) F (mr z80 1 (upd (z80 1) (56 : Int32).toNatClampNeg (((z80 1) (56 : Int32).toNatClampNeg) - 1))) 0
  refine im_aload_n X 0 dX10_strike_127 rfl rfl ?_
  refine im_cget X 0 0 (v := .ref (aM 1)) fl_X10_13 rfl rfl rfl dX10_strike_128 ?_
  refine im_sipush X 177 dX10_strike_131 (by decide) ?_
  refine im_ciald X 0 1 0 (f := (M_127 1)) rfl rfl rfl dX10_strike_134 ?_
  refine im_iconst X 1 dX10_strike_135 (by decide) ?_
  refine im_isub X dX10_strike_136 ?_
  refine im_istore_n X [1, 0] [(0, .ref (aM 0)), (1, .int (((M_127 1) (177 : Int32).toNatClampNeg) - 1))] dX10_strike_137 rfl (by decide) rfl ?_
  refine i_X10_strike_138 X F aM LM  _ (fun M_175 => ?_) F M_127 (((M_127 1) (177 : Int32).toNatClampNeg) - 1)
  refine im_aload_n X 0 dX10_strike_175 rfl rfl ?_
  refine im_cget X 0 0 (v := .ref (aM 1)) fl_X10_13 rfl rfl rfl dX10_strike_176 ?_
  refine im_bipush X 56 dX10_strike_179 (by decide) ?_
  refine im_ciald X 0 1 0 (f := (M_175 1)) rfl rfl rfl dX10_strike_181 ?_
  exact im_ireturn X (((M_175 1) (56 : Int32).toNatClampNeg), M_175) rfl rfl dX10_strike_182
noncomputable def f_X10_strike (F : Nat) (M : Mem) (LM : MemL) : Option (Int32 × Mem) :=
  ck 56 226 ((if ((M 1) (56 : Int32).toNatClampNeg) = 0 then (some ((-1), M)) else ck 56 226 ((f_X10_laysLogged F M LM (((M 1) (56 : Int32).toNatClampNeg) - 1)).bind (fun z22 => (f_X10_laysNow F z22 LM).bind (fun z26 => (f_X10_goes F z26 LM (-1)).bind (fun z31 => ck (z31 0 6) 24 ((f_X10_holds F ((z31 4) ((z31 0 6)).toNatClampNeg)).bind (fun z43 => (if z43 = 0 then (some ((-2), z31)) else (if (z31 0 7) = (-1) then f_X10_strike_75 F z31 LM else ck (z31 0 7) 24 ((f_X10_holds F ((z31 4) ((z31 0 7)).toNatClampNeg)).bind (fun z66 => (if z66 = 0 then (some ((-2), z31)) else f_X10_strike_75 F z31 LM)))))))))))))
set_option maxRecDepth 100000 in
set_option maxHeartbeats 4000000 in
theorem i_X10_strike {p : Program} {l : Launch} {e : Env} {s : State} {m : MethodId} {args : Array Value} {below : List Frame} {meth : Method} {c : Code} {D : va_G} {ct : im_ct} {A : Nat → Prop} (X : im_X p (im_rm 5) s m args meth c D ct A RX10 cX10_strike 2 (some .int)) (F : Nat) (aM : Nat → Nat) (M : Mem) (LM : MemL) : Im p l e (im_rm 5) s m args below meth c D A 2 (QI D A (fun z : Int32 × Mem => z.1) (fun z : Int32 × Mem => (cat [w_Model ct aM z.2 LM]))) 0 [(0, .ref (aM 0))] [] (cat [w_Model ct aM M LM]) (f_X10_strike F M LM) := by
  unfold f_X10_strike
  refine im_aload_n X 0 dX10_strike_0 rfl rfl ?_
  refine im_cget X 0 0 (v := .ref (aM 1)) fl_X10_13 rfl rfl rfl dX10_strike_1 ?_
  refine im_bipush X 56 dX10_strike_4 (by decide) ?_
  refine im_ciald X 0 1 0 (f := (M 1)) rfl rfl rfl dX10_strike_6 ?_
  refine im_if_ne (tgt := 12) X dX10_strike_7 rfl ?_ ?_
  · refine im_aload_n X 0 dX10_strike_12 rfl rfl ?_
    refine im_aload_n X 0 dX10_strike_13 rfl rfl ?_
    refine im_cget X 0 0 (v := .ref (aM 1)) fl_X10_13 rfl rfl rfl dX10_strike_14 ?_
    refine im_bipush X 56 dX10_strike_17 (by decide) ?_
    refine im_ciald X 0 1 0 (f := (M 1)) rfl rfl rfl dX10_strike_19 ?_
    refine im_iconst X 1 dX10_strike_20 (by decide) ?_
    refine im_isub X dX10_strike_21 ?_
    refine im_ccvV X [.int (((M 1) (56 : Int32).toNatClampNeg) - 1)] [] [w_Model ct aM M LM] [w_Model ct aM M LM] [0] (fun z22 => [w_Model ct aM z22 LM]) 0 0 10 rfl rfl rfl cl_X10_172 (c_X10_laysLogged l D ct F aM M LM (((M 1) (56 : Int32).toNatClampNeg) - 1)) rfl (by decide) (fun _ => lc fa_Model (rfl)) rfl ⟨by decide, by decide⟩ (Nat.le_of_ble_eq_true rfl) rfl dX10_strike_22 (fun z22 => ?_)
    refine im_ws (cat [w_Model ct aM z22 LM]) rfl ?_
    refine im_aload_n X 0 dX10_strike_25 rfl rfl ?_
    refine im_ccvV X [] [] [w_Model ct aM z22 LM] [w_Model ct aM z22 LM] [0] (fun z26 => [w_Model ct aM z26 LM]) 0 0 10 rfl rfl rfl cl_X10_151 (c_X10_laysNow l D ct F aM z22 LM) rfl (by decide) (fun _ => lc fa_Model (rfl)) rfl ⟨by decide, by decide⟩ (Nat.le_of_ble_eq_true rfl) rfl dX10_strike_26 (fun z26 => ?_)
    refine im_ws (cat [w_Model ct aM z26 LM]) rfl ?_
    refine im_aload_n X 0 dX10_strike_29 rfl rfl ?_
    refine im_iconst X (-1) dX10_strike_30 (by decide) ?_
    refine im_ccvV X [.int (-1)] [] [w_Model ct aM z26 LM] [w_Model ct aM z26 LM] [0] (fun z31 => [w_Model ct aM z31 LM]) 0 0 10 rfl rfl rfl cl_X10_161 (c_X10_goes l D ct F aM z26 LM (-1)) rfl (by decide) (fun _ => lc fa_Model (rfl)) rfl ⟨by decide, by decide⟩ (Nat.le_of_ble_eq_true rfl) rfl dX10_strike_31 (fun z31 => ?_)
    refine im_ws (cat [w_Model ct aM z31 LM]) rfl ?_
    refine im_aload_n X 0 dX10_strike_34 rfl rfl ?_
    refine im_cget X 0 0 (v := .ref (aM 4)) fl_X10_23 rfl rfl rfl dX10_strike_35 ?_
    refine im_aload_n X 0 dX10_strike_38 rfl rfl ?_
    refine im_cget X 0 0 (v := .int (z31 0 6)) fl_X10_136 rfl rfl rfl dX10_strike_39 ?_
    refine im_ciald X 0 4 0 (f := (z31 4)) rfl rfl rfl dX10_strike_42 ?_
    refine im_cciS X [.int ((z31 4) ((z31 0 6)).toNatClampNeg)] [] [w_Model ct aM z31 LM] [] [] (fun z43 => []) cl_X10_148 (c_X10_holds l D ct F ((z31 4) ((z31 0 6)).toNatClampNeg)) rfl (by decide) (fun _ => rfl) rfl ⟨by decide, by decide⟩ (Nat.le_of_ble_eq_true rfl) rfl dX10_strike_43 (fun z43 => ?_)
    refine im_ws (cat [w_Model ct aM z31 LM]) rfl ?_
    refine im_if_eq (tgt := 72) X dX10_strike_46 rfl ?_ ?_
    · refine im_bipush X (-2) dX10_strike_72 (by decide) ?_
      exact im_ireturn X ((-2), z31) rfl rfl dX10_strike_74
    · refine im_aload_n X 0 dX10_strike_49 rfl rfl ?_
      refine im_cget X 0 0 (v := .int (z31 0 7)) fl_X10_124 rfl rfl rfl dX10_strike_50 ?_
      refine im_iconst X (-1) dX10_strike_53 (by decide) ?_
      refine im_icmp_eq (tgt := 75) X dX10_strike_54 rfl ?_ ?_
      · exact i_X10_strike_75 X F aM z31 LM  
      · refine im_aload_n X 0 dX10_strike_57 rfl rfl ?_
        refine im_cget X 0 0 (v := .ref (aM 4)) fl_X10_23 rfl rfl rfl dX10_strike_58 ?_
        refine im_aload_n X 0 dX10_strike_61 rfl rfl ?_
        refine im_cget X 0 0 (v := .int (z31 0 7)) fl_X10_124 rfl rfl rfl dX10_strike_62 ?_
        refine im_ciald X 0 4 0 (f := (z31 4)) rfl rfl rfl dX10_strike_65 ?_
        refine im_cciS X [.int ((z31 4) ((z31 0 7)).toNatClampNeg)] [] [w_Model ct aM z31 LM] [] [] (fun z66 => []) cl_X10_148 (c_X10_holds l D ct F ((z31 4) ((z31 0 7)).toNatClampNeg)) rfl (by decide) (fun _ => rfl) rfl ⟨by decide, by decide⟩ (Nat.le_of_ble_eq_true rfl) rfl dX10_strike_66 (fun z66 => ?_)
        refine im_ws (cat [w_Model ct aM z31 LM]) rfl ?_
        refine im_if_ne (tgt := 75) X dX10_strike_69 rfl ?_ ?_
        · exact i_X10_strike_75 X F aM z31 LM  
        · refine im_bipush X (-2) dX10_strike_72 (by decide) ?_
          exact im_ireturn X ((-2), z31) rfl rfl dX10_strike_74
  · refine im_iconst X (-1) dX10_strike_10 (by decide) ?_
    exact im_ireturn X ((-1), M) rfl rfl dX10_strike_11
theorem c_X10_strike (l : Launch) (D : va_G) (ct : im_ct) (F : Nat) (aM : Nat → Nat) (M : Mem) (LM : MemL) : CMi l D ct yX10_strike cX10_strike 2 (some .int) 5 [.ref (aM 0)] (cat [w_Model ct aM M LM]) (f_X10_strike F M LM) (fun z : Int32 × Mem => z.1) (fun z : Int32 × Mem => (cat [w_Model ct aM z.2 LM])) :=
  im_met (Qb := fun A => QI D A (fun z : Int32 × Mem => z.1) (fun z : Int32 × Mem => (cat [w_Model ct aM z.2 LM]))) (by decide +kernel) (Nat.le_of_ble_eq_true rfl) (fun p e s m args below meth c A X => i_X10_strike X F aM M LM)

noncomputable def f_X10_slips_13 (F : Nat) (M : Mem) (LM : MemL) (x1 : Int32) (x2 : Int32) (s0 : Int32) : Option (Int32) :=
  (f_X10_isCell F M LM x1 x2).bind (fun z18 => (if z18 = 0 then (some 0) else (f_X10_isColumn F M LM s0).bind (fun z27 => (if z27 = 0 then (some 0) else (f_X10_cell F x1 x2).bind (fun z39 => ck z39 24 ((if ((M 4) z39.toNatClampNeg) < 1 then (some 0) else (f_X10_cell F x1 s0).bind (fun z54 => ck z54 24 ((if 99 ≤ ((M 4) z54.toNatClampNeg) then (some 0) else (some 1)))))))))))
set_option maxRecDepth 100000 in
set_option maxHeartbeats 4000000 in
theorem i_X10_slips_13 {p : Program} {l : Launch} {e : Env} {s : State} {m : MethodId} {args : Array Value} {below : List Frame} {meth : Method} {c : Code} {D : va_G} {ct : im_ct} {A : Nat → Prop} (X : im_X p (im_rm 3) s m args meth c D ct A RX10 cX10_slips 5 (some .boolean)) (F : Nat) (aM : Nat → Nat) (M : Mem) (LM : MemL) (x1 : Int32) (x2 : Int32) (s0 : Int32) : Im p l e (im_rm 3) s m args below meth c D A 5 (QI D A (fun z : Int32 => z) (fun z : Int32 => (cat [w_Model ct aM M LM]))) 13 [(0, .ref (aM 0)), (1, .int x1), (2, .int x2)] [.int s0] (cat [w_Model ct aM M LM]) (f_X10_slips_13 F M LM x1 x2 s0) := by
  unfold f_X10_slips_13
  refine im_istore X [1, 2, 3, 0] [(0, .ref (aM 0)), (1, .int x1), (2, .int x2), (4, .int s0)] dX10_slips_13 (by decide) rfl ?_
  refine im_aload_n X 0 dX10_slips_15 rfl rfl ?_
  refine im_iload_n X 1 dX10_slips_16 rfl rfl ?_
  refine im_iload_n X 2 dX10_slips_17 rfl rfl ?_
  refine im_cciV X [.int x1, .int x2] [] [w_Model ct aM M LM] [w_Model ct aM M LM] [0] (fun z18 => [w_Model ct aM M LM]) 0 0 10 rfl rfl rfl cl_X10_132 (c_X10_isCell l D ct F aM M LM x1 x2) rfl (by decide) (fun _ => lc rfl (rfl)) rfl ⟨by decide, by decide⟩ (Nat.le_of_ble_eq_true rfl) rfl dX10_slips_18 (fun z18 => ?_)
  refine im_ws (cat [w_Model ct aM M LM]) rfl ?_
  refine im_if_eq (tgt := 67) X dX10_slips_21 rfl ?_ ?_
  · refine im_iconst X 0 dX10_slips_67 (by decide) ?_
    exact im_zreturn X 0 rfl rfl rfl dX10_slips_68
  · refine im_aload_n X 0 dX10_slips_24 rfl rfl ?_
    refine im_iload X 3 dX10_slips_25 rfl ?_
    refine im_cciV X [.int s0] [] [w_Model ct aM M LM] [w_Model ct aM M LM] [0] (fun z27 => [w_Model ct aM M LM]) 0 0 10 rfl rfl rfl cl_X10_94 (c_X10_isColumn l D ct F aM M LM s0) rfl (by decide) (fun _ => lc rfl (rfl)) rfl ⟨by decide, by decide⟩ (Nat.le_of_ble_eq_true rfl) rfl dX10_slips_27 (fun z27 => ?_)
    refine im_ws (cat [w_Model ct aM M LM]) rfl ?_
    refine im_if_eq (tgt := 67) X dX10_slips_30 rfl ?_ ?_
    · refine im_iconst X 0 dX10_slips_67 (by decide) ?_
      exact im_zreturn X 0 rfl rfl rfl dX10_slips_68
    · refine im_aload_n X 0 dX10_slips_33 rfl rfl ?_
      refine im_cget X 0 0 (v := .ref (aM 4)) fl_X10_23 rfl rfl rfl dX10_slips_34 ?_
      refine im_iload_n X 1 dX10_slips_37 rfl rfl ?_
      refine im_iload_n X 2 dX10_slips_38 rfl rfl ?_
      refine im_cciS X [.int x1, .int x2] [.ref (aM 4)] [w_Model ct aM M LM] [] [] (fun z39 => []) cl_X10_101 (c_X10_cell l D ct F x1 x2) rfl (by decide) (fun _ => rfl) rfl ⟨by decide, by decide⟩ (Nat.le_of_ble_eq_true rfl) rfl dX10_slips_39 (fun z39 => ?_)
      refine im_ws (cat [w_Model ct aM M LM]) rfl ?_
      refine im_ciald X 0 4 0 (f := (M 4)) rfl rfl rfl dX10_slips_42 ?_
      refine im_iconst X 1 dX10_slips_43 (by decide) ?_
      refine im_icmp_lt (tgt := 67) X dX10_slips_44 rfl ?_ ?_
      · refine im_iconst X 0 dX10_slips_67 (by decide) ?_
        exact im_zreturn X 0 rfl rfl rfl dX10_slips_68
      · refine im_aload_n X 0 dX10_slips_47 rfl rfl ?_
        refine im_cget X 0 0 (v := .ref (aM 4)) fl_X10_23 rfl rfl rfl dX10_slips_48 ?_
        refine im_iload_n X 1 dX10_slips_51 rfl rfl ?_
        refine im_iload X 3 dX10_slips_52 rfl ?_
        refine im_cciS X [.int x1, .int s0] [.ref (aM 4)] [w_Model ct aM M LM] [] [] (fun z54 => []) cl_X10_101 (c_X10_cell l D ct F x1 s0) rfl (by decide) (fun _ => rfl) rfl ⟨by decide, by decide⟩ (Nat.le_of_ble_eq_true rfl) rfl dX10_slips_54 (fun z54 => ?_)
        refine im_ws (cat [w_Model ct aM M LM]) rfl ?_
        refine im_ciald X 0 4 0 (f := (M 4)) rfl rfl rfl dX10_slips_57 ?_
        refine im_bipush X 99 dX10_slips_58 (by decide) ?_
        refine im_icmp_ge (tgt := 67) X dX10_slips_60 rfl ?_ ?_
        · refine im_iconst X 0 dX10_slips_67 (by decide) ?_
          exact im_zreturn X 0 rfl rfl rfl dX10_slips_68
        · refine im_iconst X 1 dX10_slips_63 (by decide) ?_
          refine im_goto (tgt := 68) X dX10_slips_64 rfl ?_
          exact im_zreturn X 1 rfl rfl rfl dX10_slips_68
noncomputable def f_X10_slips (F : Nat) (M : Mem) (LM : MemL) (x1 : Int32) (x2 : Int32) (x3 : Int32) : Option (Int32) :=
  (if x3 = 0 then f_X10_slips_13 F M LM x1 x2 (x2 - 1) else f_X10_slips_13 F M LM x1 x2 (x2 + 1))
set_option maxRecDepth 100000 in
set_option maxHeartbeats 4000000 in
theorem i_X10_slips {p : Program} {l : Launch} {e : Env} {s : State} {m : MethodId} {args : Array Value} {below : List Frame} {meth : Method} {c : Code} {D : va_G} {ct : im_ct} {A : Nat → Prop} (X : im_X p (im_rm 3) s m args meth c D ct A RX10 cX10_slips 5 (some .boolean)) (F : Nat) (aM : Nat → Nat) (M : Mem) (LM : MemL) (x1 : Int32) (x2 : Int32) (x3 : Int32) : Im p l e (im_rm 3) s m args below meth c D A 5 (QI D A (fun z : Int32 => z) (fun z : Int32 => (cat [w_Model ct aM M LM]))) 0 [(0, .ref (aM 0)), (1, .int x1), (2, .int x2), (3, .int x3)] [] (cat [w_Model ct aM M LM]) (f_X10_slips F M LM x1 x2 x3) := by
  unfold f_X10_slips
  refine im_iload_n X 3 dX10_slips_0 rfl rfl ?_
  refine im_if_eq (tgt := 10) X dX10_slips_1 rfl ?_ ?_
  · refine im_iload_n X 2 dX10_slips_10 rfl rfl ?_
    refine im_iconst X 1 dX10_slips_11 (by decide) ?_
    refine im_isub X dX10_slips_12 ?_
    refine im_lv [0, 1, 2] [(0, .ref (aM 0)), (1, .int x1), (2, .int x2)] rfl ?_
    exact i_X10_slips_13 X F aM M LM x1 x2 (x2 - 1) 
  · refine im_iload_n X 2 dX10_slips_4 rfl rfl ?_
    refine im_iconst X 1 dX10_slips_5 (by decide) ?_
    refine im_iadd X dX10_slips_6 ?_
    refine im_goto (tgt := 13) X dX10_slips_7 rfl ?_
    refine im_lv [0, 1, 2] [(0, .ref (aM 0)), (1, .int x1), (2, .int x2)] rfl ?_
    exact i_X10_slips_13 X F aM M LM x1 x2 (x2 + 1) 
theorem c_X10_slips (l : Launch) (D : va_G) (ct : im_ct) (F : Nat) (aM : Nat → Nat) (M : Mem) (LM : MemL) (x1 : Int32) (x2 : Int32) (x3 : Int32) : CMi l D ct yX10_slips cX10_slips 5 (some .boolean) 3 [.ref (aM 0), .int x1, .int x2, .int x3] (cat [w_Model ct aM M LM]) (f_X10_slips F M LM x1 x2 x3) (fun z : Int32 => z) (fun z : Int32 => (cat [w_Model ct aM M LM])) :=
  im_met (Qb := fun A => QI D A (fun z : Int32 => z) (fun z : Int32 => (cat [w_Model ct aM M LM]))) (by decide +kernel) (Nat.le_of_ble_eq_true rfl) (fun p e s m args below meth c A X => i_X10_slips X F aM M LM x1 x2 x3)

noncomputable def f_X10_changeOf_14 (F : Nat) (M : Mem) (LM : MemL) (x1 : Int32) (s1 : Int32) : Option (Int32) :=
  (f_X10_worthOf F M LM s1).bind (fun z14 => (f_X10_worthOf F M LM x1).bind (fun z19 => (some (z14 - z19))))
set_option maxRecDepth 100000 in
set_option maxHeartbeats 4000000 in
theorem i_X10_changeOf_14 {p : Program} {l : Launch} {e : Env} {s : State} {m : MethodId} {args : Array Value} {below : List Frame} {meth : Method} {c : Code} {D : va_G} {ct : im_ct} {A : Nat → Prop} (X : im_X p (im_rm 2) s m args meth c D ct A RX10 cX10_changeOf 3 (some .int)) (F : Nat) (aM : Nat → Nat) (M : Mem) (LM : MemL) (x1 : Int32) (s1 : Int32) : Im p l e (im_rm 2) s m args below meth c D A 3 (QI D A (fun z : Int32 => z) (fun z : Int32 => (cat [w_Model ct aM M LM]))) 14 [(0, .ref (aM 0)), (1, .int x1)] [.int s1, .ref (aM 0)] (cat [w_Model ct aM M LM]) (f_X10_changeOf_14 F M LM x1 s1) := by
  unfold f_X10_changeOf_14
  refine im_cciV X [.int s1] [] [w_Model ct aM M LM] [w_Model ct aM M LM] [0] (fun z14 => [w_Model ct aM M LM]) 0 0 10 rfl rfl rfl cl_X10_108 (c_X10_worthOf l D ct F aM M LM s1) rfl (by decide) (fun _ => lc rfl (rfl)) rfl ⟨by decide, by decide⟩ (Nat.le_of_ble_eq_true rfl) rfl dX10_changeOf_14 (fun z14 => ?_)
  refine im_ws (cat [w_Model ct aM M LM]) rfl ?_
  refine im_aload_n X 0 dX10_changeOf_17 rfl rfl ?_
  refine im_iload_n X 1 dX10_changeOf_18 rfl rfl ?_
  refine im_cciV X [.int x1] [.int z14] [w_Model ct aM M LM] [w_Model ct aM M LM] [0] (fun z19 => [w_Model ct aM M LM]) 0 0 10 rfl rfl rfl cl_X10_108 (c_X10_worthOf l D ct F aM M LM x1) rfl (by decide) (fun _ => lc rfl (rfl)) rfl ⟨by decide, by decide⟩ (Nat.le_of_ble_eq_true rfl) rfl dX10_changeOf_19 (fun z19 => ?_)
  refine im_ws (cat [w_Model ct aM M LM]) rfl ?_
  refine im_isub X dX10_changeOf_22 ?_
  exact im_ireturn X (z14 - z19) rfl rfl dX10_changeOf_23
noncomputable def f_X10_changeOf (F : Nat) (M : Mem) (LM : MemL) (x1 : Int32) (x2 : Int32) : Option (Int32) :=
  (if x2 = 0 then f_X10_changeOf_14 F M LM x1 (x1 - 1) else f_X10_changeOf_14 F M LM x1 (x1 + 1))
set_option maxRecDepth 100000 in
set_option maxHeartbeats 4000000 in
theorem i_X10_changeOf {p : Program} {l : Launch} {e : Env} {s : State} {m : MethodId} {args : Array Value} {below : List Frame} {meth : Method} {c : Code} {D : va_G} {ct : im_ct} {A : Nat → Prop} (X : im_X p (im_rm 2) s m args meth c D ct A RX10 cX10_changeOf 3 (some .int)) (F : Nat) (aM : Nat → Nat) (M : Mem) (LM : MemL) (x1 : Int32) (x2 : Int32) : Im p l e (im_rm 2) s m args below meth c D A 3 (QI D A (fun z : Int32 => z) (fun z : Int32 => (cat [w_Model ct aM M LM]))) 0 [(0, .ref (aM 0)), (1, .int x1), (2, .int x2)] [] (cat [w_Model ct aM M LM]) (f_X10_changeOf F M LM x1 x2) := by
  unfold f_X10_changeOf
  refine im_aload_n X 0 dX10_changeOf_0 rfl rfl ?_
  refine im_iload_n X 2 dX10_changeOf_1 rfl rfl ?_
  refine im_if_eq (tgt := 11) X dX10_changeOf_2 rfl ?_ ?_
  · refine im_iload_n X 1 dX10_changeOf_11 rfl rfl ?_
    refine im_iconst X 1 dX10_changeOf_12 (by decide) ?_
    refine im_isub X dX10_changeOf_13 ?_
    refine im_lv [0, 1] [(0, .ref (aM 0)), (1, .int x1)] rfl ?_
    exact i_X10_changeOf_14 X F aM M LM x1 (x1 - 1) 
  · refine im_iload_n X 1 dX10_changeOf_5 rfl rfl ?_
    refine im_iconst X 1 dX10_changeOf_6 (by decide) ?_
    refine im_iadd X dX10_changeOf_7 ?_
    refine im_goto (tgt := 14) X dX10_changeOf_8 rfl ?_
    refine im_lv [0, 1] [(0, .ref (aM 0)), (1, .int x1)] rfl ?_
    exact i_X10_changeOf_14 X F aM M LM x1 (x1 + 1) 
theorem c_X10_changeOf (l : Launch) (D : va_G) (ct : im_ct) (F : Nat) (aM : Nat → Nat) (M : Mem) (LM : MemL) (x1 : Int32) (x2 : Int32) : CMi l D ct yX10_changeOf cX10_changeOf 3 (some .int) 2 [.ref (aM 0), .int x1, .int x2] (cat [w_Model ct aM M LM]) (f_X10_changeOf F M LM x1 x2) (fun z : Int32 => z) (fun z : Int32 => (cat [w_Model ct aM M LM])) :=
  im_met (Qb := fun A => QI D A (fun z : Int32 => z) (fun z : Int32 => (cat [w_Model ct aM M LM]))) (by decide +kernel) (Nat.le_of_ble_eq_true rfl) (fun p e s m args below meth c A X => i_X10_changeOf X F aM M LM x1 x2)

noncomputable def f_X10_slide_47 (F : Nat) (M : Mem) (LM : MemL) (x1 : Int32) (x2 : Int32) (x3 : Int32) (s0 : Int32) : Option (Int32 × Mem) :=
  (f_X10_now F M LM x1 s0).bind (fun z57 => (f_X10_sets F M LM x1 s0 (z57 + 1)).bind (fun z62 => (f_X10_changeOf F z62 LM x2 x3).bind (fun z68 => (some (z68, z62)))))
set_option maxRecDepth 100000 in
set_option maxHeartbeats 4000000 in
theorem i_X10_slide_47 {p : Program} {l : Launch} {e : Env} {s : State} {m : MethodId} {args : Array Value} {below : List Frame} {meth : Method} {c : Code} {D : va_G} {ct : im_ct} {A : Nat → Prop} (X : im_X p (im_rm 4) s m args meth c D ct A RX10 cX10_slide 5 (some .int)) (F : Nat) (aM : Nat → Nat) (M : Mem) (LM : MemL) (x1 : Int32) (x2 : Int32) (x3 : Int32) (s0 : Int32) : Im p l e (im_rm 4) s m args below meth c D A 5 (QI D A (fun z : Int32 × Mem => z.1) (fun z : Int32 × Mem => (cat [w_Model ct aM z.2 LM]))) 47 [(0, .ref (aM 0)), (1, .int x1), (2, .int x2), (3, .int x3)] [.int s0] (cat [w_Model ct aM M LM]) (f_X10_slide_47 F M LM x1 x2 x3 s0) := by
  unfold f_X10_slide_47
  refine im_istore X [1, 2, 3, 4, 0] [(0, .ref (aM 0)), (1, .int x1), (2, .int x2), (3, .int x3), (4, .int s0)] dX10_slide_47 (by decide) rfl ?_
  refine im_aload_n X 0 dX10_slide_49 rfl rfl ?_
  refine im_iload_n X 1 dX10_slide_50 rfl rfl ?_
  refine im_iload X 4 dX10_slide_51 rfl ?_
  refine im_aload_n X 0 dX10_slide_53 rfl rfl ?_
  refine im_iload_n X 1 dX10_slide_54 rfl rfl ?_
  refine im_iload X 4 dX10_slide_55 rfl ?_
  refine im_cciV X [.int x1, .int s0] [.int s0, .int x1, .ref (aM 0)] [w_Model ct aM M LM] [w_Model ct aM M LM] [0] (fun z57 => [w_Model ct aM M LM]) 0 0 10 rfl rfl rfl cl_X10_105 (c_X10_now l D ct F aM M LM x1 s0) rfl (by decide) (fun _ => lc rfl (rfl)) rfl ⟨by decide, by decide⟩ (Nat.le_of_ble_eq_true rfl) rfl dX10_slide_57 (fun z57 => ?_)
  refine im_ws (cat [w_Model ct aM M LM]) rfl ?_
  refine im_iconst X 1 dX10_slide_60 (by decide) ?_
  refine im_iadd X dX10_slide_61 ?_
  refine im_ccvV X [.int x1, .int s0, .int (z57 + 1)] [] [w_Model ct aM M LM] [w_Model ct aM M LM] [0] (fun z62 => [w_Model ct aM z62 LM]) 0 0 10 rfl rfl rfl cl_X10_182 (c_X10_sets l D ct F aM M LM x1 s0 (z57 + 1)) rfl (by decide) (fun _ => lc fa_Model (rfl)) rfl ⟨by decide, by decide⟩ (Nat.le_of_ble_eq_true rfl) rfl dX10_slide_62 (fun z62 => ?_)
  refine im_ws (cat [w_Model ct aM z62 LM]) rfl ?_
  refine im_aload_n X 0 dX10_slide_65 rfl rfl ?_
  refine im_iload_n X 2 dX10_slide_66 rfl rfl ?_
  refine im_iload_n X 3 dX10_slide_67 rfl rfl ?_
  refine im_cciV X [.int x2, .int x3] [] [w_Model ct aM z62 LM] [w_Model ct aM z62 LM] [0] (fun z68 => [w_Model ct aM z62 LM]) 0 0 10 rfl rfl rfl cl_X10_186 (c_X10_changeOf l D ct F aM z62 LM x2 x3) rfl (by decide) (fun _ => lc rfl (rfl)) rfl ⟨by decide, by decide⟩ (Nat.le_of_ble_eq_true rfl) rfl dX10_slide_68 (fun z68 => ?_)
  refine im_ws (cat [w_Model ct aM z62 LM]) rfl ?_
  exact im_ireturn X (z68, z62) rfl rfl dX10_slide_71
noncomputable def f_X10_slide (F : Nat) (M : Mem) (LM : MemL) (x1 : Int32) (x2 : Int32) (x3 : Int32) : Option (Int32 × Mem) :=
  (f_X10_laysNow F M LM).bind (fun z1 => (f_X10_slips F z1 LM x1 x2 x3).bind (fun z8 => (if z8 = 0 then (some (0, z1)) else (f_X10_keeps F z1 LM).bind (fun z17 => (f_X10_now F z17 LM x1 x2).bind (fun z26 => (f_X10_sets F z17 LM x1 x2 (z26 - 1)).bind (fun z31 => (if x3 = 0 then f_X10_slide_47 F z31 LM x1 x2 x3 (x2 - 1) else f_X10_slide_47 F z31 LM x1 x2 x3 (x2 + 1))))))))
set_option maxRecDepth 100000 in
set_option maxHeartbeats 4000000 in
theorem i_X10_slide {p : Program} {l : Launch} {e : Env} {s : State} {m : MethodId} {args : Array Value} {below : List Frame} {meth : Method} {c : Code} {D : va_G} {ct : im_ct} {A : Nat → Prop} (X : im_X p (im_rm 4) s m args meth c D ct A RX10 cX10_slide 5 (some .int)) (F : Nat) (aM : Nat → Nat) (M : Mem) (LM : MemL) (x1 : Int32) (x2 : Int32) (x3 : Int32) : Im p l e (im_rm 4) s m args below meth c D A 5 (QI D A (fun z : Int32 × Mem => z.1) (fun z : Int32 × Mem => (cat [w_Model ct aM z.2 LM]))) 0 [(0, .ref (aM 0)), (1, .int x1), (2, .int x2), (3, .int x3)] [] (cat [w_Model ct aM M LM]) (f_X10_slide F M LM x1 x2 x3) := by
  unfold f_X10_slide
  refine im_aload_n X 0 dX10_slide_0 rfl rfl ?_
  refine im_ccvV X [] [] [w_Model ct aM M LM] [w_Model ct aM M LM] [0] (fun z1 => [w_Model ct aM z1 LM]) 0 0 10 rfl rfl rfl cl_X10_151 (c_X10_laysNow l D ct F aM M LM) rfl (by decide) (fun _ => lc fa_Model (rfl)) rfl ⟨by decide, by decide⟩ (Nat.le_of_ble_eq_true rfl) rfl dX10_slide_1 (fun z1 => ?_)
  refine im_ws (cat [w_Model ct aM z1 LM]) rfl ?_
  refine im_aload_n X 0 dX10_slide_4 rfl rfl ?_
  refine im_iload_n X 1 dX10_slide_5 rfl rfl ?_
  refine im_iload_n X 2 dX10_slide_6 rfl rfl ?_
  refine im_iload_n X 3 dX10_slide_7 rfl rfl ?_
  refine im_cciV X [.int x1, .int x2, .int x3] [] [w_Model ct aM z1 LM] [w_Model ct aM z1 LM] [0] (fun z8 => [w_Model ct aM z1 LM]) 0 0 10 rfl rfl rfl cl_X10_178 (c_X10_slips l D ct F aM z1 LM x1 x2 x3) rfl (by decide) (fun _ => lc rfl (rfl)) rfl ⟨by decide, by decide⟩ (Nat.le_of_ble_eq_true rfl) rfl dX10_slide_8 (fun z8 => ?_)
  refine im_ws (cat [w_Model ct aM z1 LM]) rfl ?_
  refine im_if_ne (tgt := 16) X dX10_slide_11 rfl ?_ ?_
  · refine im_aload_n X 0 dX10_slide_16 rfl rfl ?_
    refine im_ccvV X [] [] [w_Model ct aM z1 LM] [w_Model ct aM z1 LM] [0] (fun z17 => [w_Model ct aM z17 LM]) 0 0 10 rfl rfl rfl cl_X10_115 (c_X10_keeps l D ct F aM z1 LM) rfl (by decide) (fun _ => lc fa_Model (rfl)) rfl ⟨by decide, by decide⟩ (Nat.le_of_ble_eq_true rfl) rfl dX10_slide_17 (fun z17 => ?_)
    refine im_ws (cat [w_Model ct aM z17 LM]) rfl ?_
    refine im_aload_n X 0 dX10_slide_20 rfl rfl ?_
    refine im_iload_n X 1 dX10_slide_21 rfl rfl ?_
    refine im_iload_n X 2 dX10_slide_22 rfl rfl ?_
    refine im_aload_n X 0 dX10_slide_23 rfl rfl ?_
    refine im_iload_n X 1 dX10_slide_24 rfl rfl ?_
    refine im_iload_n X 2 dX10_slide_25 rfl rfl ?_
    refine im_cciV X [.int x1, .int x2] [.int x2, .int x1, .ref (aM 0)] [w_Model ct aM z17 LM] [w_Model ct aM z17 LM] [0] (fun z26 => [w_Model ct aM z17 LM]) 0 0 10 rfl rfl rfl cl_X10_105 (c_X10_now l D ct F aM z17 LM x1 x2) rfl (by decide) (fun _ => lc rfl (rfl)) rfl ⟨by decide, by decide⟩ (Nat.le_of_ble_eq_true rfl) rfl dX10_slide_26 (fun z26 => ?_)
    refine im_ws (cat [w_Model ct aM z17 LM]) rfl ?_
    refine im_iconst X 1 dX10_slide_29 (by decide) ?_
    refine im_isub X dX10_slide_30 ?_
    refine im_ccvV X [.int x1, .int x2, .int (z26 - 1)] [] [w_Model ct aM z17 LM] [w_Model ct aM z17 LM] [0] (fun z31 => [w_Model ct aM z31 LM]) 0 0 10 rfl rfl rfl cl_X10_182 (c_X10_sets l D ct F aM z17 LM x1 x2 (z26 - 1)) rfl (by decide) (fun _ => lc fa_Model (rfl)) rfl ⟨by decide, by decide⟩ (Nat.le_of_ble_eq_true rfl) rfl dX10_slide_31 (fun z31 => ?_)
    refine im_ws (cat [w_Model ct aM z31 LM]) rfl ?_
    refine im_iload_n X 3 dX10_slide_34 rfl rfl ?_
    refine im_if_eq (tgt := 44) X dX10_slide_35 rfl ?_ ?_
    · refine im_iload_n X 2 dX10_slide_44 rfl rfl ?_
      refine im_iconst X 1 dX10_slide_45 (by decide) ?_
      refine im_isub X dX10_slide_46 ?_
      exact i_X10_slide_47 X F aM z31 LM x1 x2 x3 (x2 - 1) 
    · refine im_iload_n X 2 dX10_slide_38 rfl rfl ?_
      refine im_iconst X 1 dX10_slide_39 (by decide) ?_
      refine im_iadd X dX10_slide_40 ?_
      refine im_goto (tgt := 47) X dX10_slide_41 rfl ?_
      exact i_X10_slide_47 X F aM z31 LM x1 x2 x3 (x2 + 1) 
  · refine im_iconst X 0 dX10_slide_14 (by decide) ?_
    exact im_ireturn X (0, z1) rfl rfl dX10_slide_15
theorem c_X10_slide (l : Launch) (D : va_G) (ct : im_ct) (F : Nat) (aM : Nat → Nat) (M : Mem) (LM : MemL) (x1 : Int32) (x2 : Int32) (x3 : Int32) : CMi l D ct yX10_slide cX10_slide 5 (some .int) 4 [.ref (aM 0), .int x1, .int x2, .int x3] (cat [w_Model ct aM M LM]) (f_X10_slide F M LM x1 x2 x3) (fun z : Int32 × Mem => z.1) (fun z : Int32 × Mem => (cat [w_Model ct aM z.2 LM])) :=
  im_met (Qb := fun A => QI D A (fun z : Int32 × Mem => z.1) (fun z : Int32 × Mem => (cat [w_Model ct aM z.2 LM]))) (by decide +kernel) (Nat.le_of_ble_eq_true rfl) (fun p e s m args below meth c A X => i_X10_slide X F aM M LM x1 x2 x3)

noncomputable def f_X10_laysPlain_11 (F : Nat) (LM : MemL) (k42 : Mem → Option (Mem)) : Nat → Mem → Int32 → Int32 → Option (Mem)
  | 0, _, _, _ => none
  | n + 1, M, x2, x3 =>
  (if x3 < 0 then k42 M else (f_X10_worthOf F M LM x3).bind (fun z23 => dv z23 (ck x3 6 ((f_X10_worthOf F (mr M 5 (upd (M 5) x3.toNatClampNeg (x2 / z23))) LM x3).bind (fun z31 => dv z31 (f_X10_laysPlain_11 F LM k42 n (mr M 5 (upd (M 5) x3.toNatClampNeg (x2 / z23))) (x2 - x2 / z31 * z31) (x3 + (-1))))))))
set_option maxRecDepth 100000 in
set_option maxHeartbeats 4000000 in
theorem i_X10_laysPlain_11 {p : Program} {l : Launch} {e : Env} {s : State} {m : MethodId} {args : Array Value} {below : List Frame} {meth : Method} {c : Code} {D : va_G} {ct : im_ct} {A : Nat → Prop} (X : im_X p (im_rm 2) s m args meth c D ct A RX10 cX10_laysPlain 4 none) (F : Nat) (aM : Nat → Nat) (LM : MemL) (k42 : Mem → Option (Mem)) (hk42 : ∀ (M : Mem), Im p l e (im_rm 2) s m args below meth c D A 4 (QV D A (fun z : Mem => (cat [w_Model ct aM z LM]))) 42 [] [] (cat [w_Model ct aM M LM]) (k42 M)) : ∀ (n : Nat) (M : Mem) (x2 : Int32) (x3 : Int32), Im p l e (im_rm 2) s m args below meth c D A 4 (QV D A (fun z : Mem => (cat [w_Model ct aM z LM]))) 11 [(0, .ref (aM 0)), (2, .int x2), (3, .int x3)] [] (cat [w_Model ct aM M LM]) (f_X10_laysPlain_11 F LM k42 n M x2 x3) := by
  intro n
  induction n with
  | zero => intros; exact im_none
  | succ n ih =>
    intro M x2 x3
    unfold f_X10_laysPlain_11
    refine im_iload_n X 2 dX10_laysPlain_11 rfl rfl ?_
    refine im_if_lt (tgt := 42) X dX10_laysPlain_12 rfl ?_ ?_
    · refine im_lv [] [] rfl ?_
      exact hk42 M
    · refine im_aload_n X 0 dX10_laysPlain_15 rfl rfl ?_
      refine im_cget X 0 0 (v := .ref (aM 5)) fl_X10_26 rfl rfl rfl dX10_laysPlain_16 ?_
      refine im_iload_n X 2 dX10_laysPlain_19 rfl rfl ?_
      refine im_iload_n X 1 dX10_laysPlain_20 rfl rfl ?_
      refine im_aload_n X 0 dX10_laysPlain_21 rfl rfl ?_
      refine im_iload_n X 2 dX10_laysPlain_22 rfl rfl ?_
      refine im_cciV X [.int x3] [.int x2, .int x3, .ref (aM 5)] [w_Model ct aM M LM] [w_Model ct aM M LM] [0] (fun z23 => [w_Model ct aM M LM]) 0 0 10 rfl rfl rfl cl_X10_108 (c_X10_worthOf l D ct F aM M LM x3) rfl (by decide) (fun _ => lc rfl (rfl)) rfl ⟨by decide, by decide⟩ (Nat.le_of_ble_eq_true rfl) rfl dX10_laysPlain_23 (fun z23 => ?_)
      refine im_ws (cat [w_Model ct aM M LM]) rfl ?_
      refine im_idiv X dX10_laysPlain_26 ?_
      refine im_ciast X 0 5 0 (wx_Model ct aM (M 0 0) (M 0 4) (M 0 6) (M 0 7) (M 0 8) (M 0 9) (M 0 24) (M 0 27) (M 0 29) (M 0 31) (M 0 32) (M 0 33) (M 0 34) (M 0 35) (M 1) (M 2) (M 3) (M 4) (upd (M 5) x3.toNatClampNeg (x2 / z23)) (M 9) (M 10) (M 11) (M 12) (M 13) (M 14) (M 15) (M 16) (M 17) (M 18) (M 19) (M 20) (M 21) (M 22) (LM 6) (LM 7) (LM 8)) [wx_Model ct aM (M 0 0) (M 0 4) (M 0 6) (M 0 7) (M 0 8) (M 0 9) (M 0 24) (M 0 27) (M 0 29) (M 0 31) (M 0 32) (M 0 33) (M 0 34) (M 0 35) (M 1) (M 2) (M 3) (M 4) (upd (M 5) x3.toNatClampNeg (x2 / z23)) (M 9) (M 10) (M 11) (M 12) (M 13) (M 14) (M 15) (M 16) (M 17) (M 18) (M 19) (M 20) (M 21) (M 22) (LM 6) (LM 7) (LM 8)] (f := (M 5)) rfl rfl rfl rfl rfl dX10_laysPlain_27 ?_
      refine im_iload_n X 1 dX10_laysPlain_28 rfl rfl ?_
      refine im_aload_n X 0 dX10_laysPlain_29 rfl rfl ?_
      refine im_iload_n X 2 dX10_laysPlain_30 rfl rfl ?_
      refine im_cciV X [.int x3] [.int x2] [wx_Model ct aM (M 0 0) (M 0 4) (M 0 6) (M 0 7) (M 0 8) (M 0 9) (M 0 24) (M 0 27) (M 0 29) (M 0 31) (M 0 32) (M 0 33) (M 0 34) (M 0 35) (M 1) (M 2) (M 3) (M 4) (upd (M 5) x3.toNatClampNeg (x2 / z23)) (M 9) (M 10) (M 11) (M 12) (M 13) (M 14) (M 15) (M 16) (M 17) (M 18) (M 19) (M 20) (M 21) (M 22) (LM 6) (LM 7) (LM 8)] [w_Model ct aM (mr M 5 (upd (M 5) x3.toNatClampNeg (x2 / z23))) LM] [0] (fun z31 => [w_Model ct aM (mr M 5 (upd (M 5) x3.toNatClampNeg (x2 / z23))) LM]) 0 0 10 rfl rfl rfl cl_X10_108 (c_X10_worthOf l D ct F aM (mr M 5 (upd (M 5) x3.toNatClampNeg (x2 / z23))) LM x3) rfl (by decide) (fun _ => lc rfl (rfl)) rfl ⟨by decide, by decide⟩ (Nat.le_of_ble_eq_true rfl) rfl dX10_laysPlain_31 (fun z31 => ?_)
      refine im_ws (cat [wx_Model ct aM (M 0 0) (M 0 4) (M 0 6) (M 0 7) (M 0 8) (M 0 9) (M 0 24) (M 0 27) (M 0 29) (M 0 31) (M 0 32) (M 0 33) (M 0 34) (M 0 35) (M 1) (M 2) (M 3) (M 4) (upd (M 5) x3.toNatClampNeg (x2 / z23)) (M 9) (M 10) (M 11) (M 12) (M 13) (M 14) (M 15) (M 16) (M 17) (M 18) (M 19) (M 20) (M 21) (M 22) (LM 6) (LM 7) (LM 8)]) rfl ?_
      refine im_irem X dX10_laysPlain_34 ?_
      refine im_istore_n X [1, 0, 2] [(0, .ref (aM 0)), (2, .int (x2 - x2 / z31 * z31)), (3, .int x3)] dX10_laysPlain_35 rfl (by decide) rfl ?_
      refine im_iinc X 2 (-1) [1, 2, 0] [(0, .ref (aM 0)), (2, .int (x2 - x2 / z31 * z31)), (3, .int (x3 + (-1)))] dX10_laysPlain_36 (by decide) rfl (by decide) rfl ?_
      refine im_goto (tgt := 11) X dX10_laysPlain_39 rfl ?_
      exact ih (mr M 5 (upd (M 5) x3.toNatClampNeg (x2 / z23))) (x2 - x2 / z31 * z31) (x3 + (-1))
noncomputable def f_X10_laysPlain (F : Nat) (M : Mem) (LM : MemL) (x1 : Int32) : Option (Mem) :=
  ck 0 226 (f_X10_laysPlain_11 F LM (fun M_42 => (some M_42)) F M x1 (((M 1) (0 : Int32).toNatClampNeg) - 1))
set_option maxRecDepth 100000 in
set_option maxHeartbeats 4000000 in
theorem i_X10_laysPlain {p : Program} {l : Launch} {e : Env} {s : State} {m : MethodId} {args : Array Value} {below : List Frame} {meth : Method} {c : Code} {D : va_G} {ct : im_ct} {A : Nat → Prop} (X : im_X p (im_rm 2) s m args meth c D ct A RX10 cX10_laysPlain 4 none) (F : Nat) (aM : Nat → Nat) (M : Mem) (LM : MemL) (x1 : Int32) : Im p l e (im_rm 2) s m args below meth c D A 4 (QV D A (fun z : Mem => (cat [w_Model ct aM z LM]))) 0 [(0, .ref (aM 0)), (1, .int x1)] [] (cat [w_Model ct aM M LM]) (f_X10_laysPlain F M LM x1) := by
  unfold f_X10_laysPlain
  refine im_iload_n X 1 dX10_laysPlain_0 rfl rfl ?_
  refine im_istore_n X [1, 2, 0] [(0, .ref (aM 0)), (1, .int x1), (2, .int x1)] dX10_laysPlain_1 rfl (by decide) rfl ?_
  refine im_aload_n X 0 dX10_laysPlain_2 rfl rfl ?_
  refine im_cget X 0 0 (v := .ref (aM 1)) fl_X10_13 rfl rfl rfl dX10_laysPlain_3 ?_
  refine im_iconst X 0 dX10_laysPlain_6 (by decide) ?_
  refine im_ciald X 0 1 0 (f := (M 1)) rfl rfl rfl dX10_laysPlain_7 ?_
  refine im_iconst X 1 dX10_laysPlain_8 (by decide) ?_
  refine im_isub X dX10_laysPlain_9 ?_
  refine im_istore_n X [1, 2, 3, 0] [(0, .ref (aM 0)), (1, .int x1), (2, .int x1), (3, .int (((M 1) (0 : Int32).toNatClampNeg) - 1))] dX10_laysPlain_10 rfl (by decide) rfl ?_
  refine im_lv [0, 2, 3] [(0, .ref (aM 0)), (2, .int x1), (3, .int (((M 1) (0 : Int32).toNatClampNeg) - 1))] rfl ?_
  refine i_X10_laysPlain_11 X F aM LM  _ (fun M_42 => ?_) F M x1 (((M 1) (0 : Int32).toNatClampNeg) - 1)
  exact im_return X M_42 rfl dX10_laysPlain_42
theorem c_X10_laysPlain (l : Launch) (D : va_G) (ct : im_ct) (F : Nat) (aM : Nat → Nat) (M : Mem) (LM : MemL) (x1 : Int32) : CMv l D ct yX10_laysPlain cX10_laysPlain 4 none 2 [.ref (aM 0), .int x1] (cat [w_Model ct aM M LM]) (f_X10_laysPlain F M LM x1) (fun z : Mem => (cat [w_Model ct aM z LM])) :=
  im_met (Qb := fun A => QV D A (fun z : Mem => (cat [w_Model ct aM z LM]))) (by decide +kernel) (Nat.le_of_ble_eq_true rfl) (fun p e s m args below meth c A X => i_X10_laysPlain X F aM M LM x1)

noncomputable def f_X10_isOwnFull_2 (F : Nat) (M : Mem) (LM : MemL) (k23 : Option (Int32)) (k31 : Option (Int32)) : Nat → Int32 → Option (Int32)
  | 0, _ => none
  | n + 1, x1 =>
  ck 0 226 ((if ((M 1) (0 : Int32).toNatClampNeg) ≤ x1 then k31 else ck x1 6 ((if ((M 5) x1.toNatClampNeg) ≤ 99 then f_X10_isOwnFull_2 F M LM k23 k31 n (x1 + 1) else k23))))
set_option maxRecDepth 100000 in
set_option maxHeartbeats 4000000 in
theorem i_X10_isOwnFull_2 {p : Program} {l : Launch} {e : Env} {s : State} {m : MethodId} {args : Array Value} {below : List Frame} {meth : Method} {c : Code} {D : va_G} {ct : im_ct} {A : Nat → Prop} (X : im_X p (im_rm 0) s m args meth c D ct A RX10 cX10_isOwnFull 2 (some .boolean)) (F : Nat) (aM : Nat → Nat) (M : Mem) (LM : MemL) (k23 : Option (Int32)) (hk23 : Im p l e (im_rm 0) s m args below meth c D A 2 (QI D A (fun z : Int32 => z) (fun z : Int32 => (cat [w_Model ct aM M LM]))) 23 [] [] (cat [w_Model ct aM M LM]) (k23)) (k31 : Option (Int32)) (hk31 : Im p l e (im_rm 0) s m args below meth c D A 2 (QI D A (fun z : Int32 => z) (fun z : Int32 => (cat [w_Model ct aM M LM]))) 31 [] [] (cat [w_Model ct aM M LM]) (k31)) : ∀ (n : Nat) (x1 : Int32), Im p l e (im_rm 0) s m args below meth c D A 2 (QI D A (fun z : Int32 => z) (fun z : Int32 => (cat [w_Model ct aM M LM]))) 2 [(0, .ref (aM 0)), (1, .int x1)] [] (cat [w_Model ct aM M LM]) (f_X10_isOwnFull_2 F M LM k23 k31 n x1) := by
  intro n
  induction n with
  | zero => intros; exact im_none
  | succ n ih =>
    intro x1
    unfold f_X10_isOwnFull_2
    refine im_iload_n X 1 dX10_isOwnFull_2 rfl rfl ?_
    refine im_aload_n X 0 dX10_isOwnFull_3 rfl rfl ?_
    refine im_cget X 0 0 (v := .ref (aM 1)) fl_X10_13 rfl rfl rfl dX10_isOwnFull_4 ?_
    refine im_iconst X 0 dX10_isOwnFull_7 (by decide) ?_
    refine im_ciald X 0 1 0 (f := (M 1)) rfl rfl rfl dX10_isOwnFull_8 ?_
    refine im_icmp_ge (tgt := 31) X dX10_isOwnFull_9 rfl ?_ ?_
    · refine im_lv [] [] rfl ?_
      exact hk31
    · refine im_aload_n X 0 dX10_isOwnFull_12 rfl rfl ?_
      refine im_cget X 0 0 (v := .ref (aM 5)) fl_X10_26 rfl rfl rfl dX10_isOwnFull_13 ?_
      refine im_iload_n X 1 dX10_isOwnFull_16 rfl rfl ?_
      refine im_ciald X 0 5 0 (f := (M 5)) rfl rfl rfl dX10_isOwnFull_17 ?_
      refine im_bipush X 99 dX10_isOwnFull_18 (by decide) ?_
      refine im_icmp_le (tgt := 25) X dX10_isOwnFull_20 rfl ?_ ?_
      · refine im_iinc X 1 1 [1, 0] [(0, .ref (aM 0)), (1, .int (x1 + 1))] dX10_isOwnFull_25 (by decide) rfl (by decide) rfl ?_
        refine im_goto (tgt := 2) X dX10_isOwnFull_28 rfl ?_
        exact ih (x1 + 1)
      · refine im_lv [] [] rfl ?_
        exact hk23
noncomputable def f_X10_isOwnFull (F : Nat) (M : Mem) (LM : MemL) : Option (Int32) :=
  f_X10_isOwnFull_2 F M LM ((some 1)) ((some 0)) F 0
set_option maxRecDepth 100000 in
set_option maxHeartbeats 4000000 in
theorem i_X10_isOwnFull {p : Program} {l : Launch} {e : Env} {s : State} {m : MethodId} {args : Array Value} {below : List Frame} {meth : Method} {c : Code} {D : va_G} {ct : im_ct} {A : Nat → Prop} (X : im_X p (im_rm 0) s m args meth c D ct A RX10 cX10_isOwnFull 2 (some .boolean)) (F : Nat) (aM : Nat → Nat) (M : Mem) (LM : MemL) : Im p l e (im_rm 0) s m args below meth c D A 2 (QI D A (fun z : Int32 => z) (fun z : Int32 => (cat [w_Model ct aM M LM]))) 0 [(0, .ref (aM 0))] [] (cat [w_Model ct aM M LM]) (f_X10_isOwnFull F M LM) := by
  unfold f_X10_isOwnFull
  refine im_iconst X 0 dX10_isOwnFull_0 (by decide) ?_
  refine im_istore_n X [1, 0] [(0, .ref (aM 0)), (1, .int 0)] dX10_isOwnFull_1 rfl (by decide) rfl ?_
  refine i_X10_isOwnFull_2 X F aM M LM  _ ?_ _ ?_ F 0
  · refine im_iconst X 1 dX10_isOwnFull_23 (by decide) ?_
    exact im_zreturn X 1 rfl rfl rfl dX10_isOwnFull_24
  · refine im_iconst X 0 dX10_isOwnFull_31 (by decide) ?_
    exact im_zreturn X 0 rfl rfl rfl dX10_isOwnFull_32
theorem c_X10_isOwnFull (l : Launch) (D : va_G) (ct : im_ct) (F : Nat) (aM : Nat → Nat) (M : Mem) (LM : MemL) : CMi l D ct yX10_isOwnFull cX10_isOwnFull 2 (some .boolean) 0 [.ref (aM 0)] (cat [w_Model ct aM M LM]) (f_X10_isOwnFull F M LM) (fun z : Int32 => z) (fun z : Int32 => (cat [w_Model ct aM M LM])) :=
  im_met (Qb := fun A => QI D A (fun z : Int32 => z) (fun z : Int32 => (cat [w_Model ct aM M LM]))) (by decide +kernel) (Nat.le_of_ble_eq_true rfl) (fun p e s m args below meth c A X => i_X10_isOwnFull X F aM M LM)

noncomputable def f_X10_isOwn_2 (F : Nat) (M : Mem) (LM : MemL) (x1 : Int32) (k27 : Option (Int32)) (k35 : Option (Int32)) : Nat → Int32 → Option (Int32)
  | 0, _ => none
  | n + 1, x2 =>
  ck 0 226 ((if ((M 1) (0 : Int32).toNatClampNeg) ≤ x2 then k35 else ck x2 6 ((f_X10_now F M LM x1 x2).bind (fun z21 => (if ((M 5) x2.toNatClampNeg) = z21 then f_X10_isOwn_2 F M LM x1 k27 k35 n (x2 + 1) else k27)))))
set_option maxRecDepth 100000 in
set_option maxHeartbeats 4000000 in
theorem i_X10_isOwn_2 {p : Program} {l : Launch} {e : Env} {s : State} {m : MethodId} {args : Array Value} {below : List Frame} {meth : Method} {c : Code} {D : va_G} {ct : im_ct} {A : Nat → Prop} (X : im_X p (im_rm 2) s m args meth c D ct A RX10 cX10_isOwn 3 (some .boolean)) (F : Nat) (aM : Nat → Nat) (M : Mem) (LM : MemL) (x1 : Int32) (k27 : Option (Int32)) (hk27 : Im p l e (im_rm 2) s m args below meth c D A 3 (QI D A (fun z : Int32 => z) (fun z : Int32 => (cat [w_Model ct aM M LM]))) 27 [] [] (cat [w_Model ct aM M LM]) (k27)) (k35 : Option (Int32)) (hk35 : Im p l e (im_rm 2) s m args below meth c D A 3 (QI D A (fun z : Int32 => z) (fun z : Int32 => (cat [w_Model ct aM M LM]))) 35 [] [] (cat [w_Model ct aM M LM]) (k35)) : ∀ (n : Nat) (x2 : Int32), Im p l e (im_rm 2) s m args below meth c D A 3 (QI D A (fun z : Int32 => z) (fun z : Int32 => (cat [w_Model ct aM M LM]))) 2 [(0, .ref (aM 0)), (1, .int x1), (2, .int x2)] [] (cat [w_Model ct aM M LM]) (f_X10_isOwn_2 F M LM x1 k27 k35 n x2) := by
  intro n
  induction n with
  | zero => intros; exact im_none
  | succ n ih =>
    intro x2
    unfold f_X10_isOwn_2
    refine im_iload_n X 2 dX10_isOwn_2 rfl rfl ?_
    refine im_aload_n X 0 dX10_isOwn_3 rfl rfl ?_
    refine im_cget X 0 0 (v := .ref (aM 1)) fl_X10_13 rfl rfl rfl dX10_isOwn_4 ?_
    refine im_iconst X 0 dX10_isOwn_7 (by decide) ?_
    refine im_ciald X 0 1 0 (f := (M 1)) rfl rfl rfl dX10_isOwn_8 ?_
    refine im_icmp_ge (tgt := 35) X dX10_isOwn_9 rfl ?_ ?_
    · refine im_lv [] [] rfl ?_
      exact hk35
    · refine im_aload_n X 0 dX10_isOwn_12 rfl rfl ?_
      refine im_cget X 0 0 (v := .ref (aM 5)) fl_X10_26 rfl rfl rfl dX10_isOwn_13 ?_
      refine im_iload_n X 2 dX10_isOwn_16 rfl rfl ?_
      refine im_ciald X 0 5 0 (f := (M 5)) rfl rfl rfl dX10_isOwn_17 ?_
      refine im_aload_n X 0 dX10_isOwn_18 rfl rfl ?_
      refine im_iload_n X 1 dX10_isOwn_19 rfl rfl ?_
      refine im_iload_n X 2 dX10_isOwn_20 rfl rfl ?_
      refine im_cciV X [.int x1, .int x2] [.int ((M 5) x2.toNatClampNeg)] [w_Model ct aM M LM] [w_Model ct aM M LM] [0] (fun z21 => [w_Model ct aM M LM]) 0 0 10 rfl rfl rfl cl_X10_105 (c_X10_now l D ct F aM M LM x1 x2) rfl (by decide) (fun _ => lc rfl (rfl)) rfl ⟨by decide, by decide⟩ (Nat.le_of_ble_eq_true rfl) rfl dX10_isOwn_21 (fun z21 => ?_)
      refine im_ws (cat [w_Model ct aM M LM]) rfl ?_
      refine im_icmp_eq (tgt := 29) X dX10_isOwn_24 rfl ?_ ?_
      · refine im_iinc X 2 1 [1, 2, 0] [(0, .ref (aM 0)), (1, .int x1), (2, .int (x2 + 1))] dX10_isOwn_29 (by decide) rfl (by decide) rfl ?_
        refine im_goto (tgt := 2) X dX10_isOwn_32 rfl ?_
        exact ih (x2 + 1)
      · refine im_lv [] [] rfl ?_
        exact hk27
noncomputable def f_X10_isOwn (F : Nat) (M : Mem) (LM : MemL) (x1 : Int32) : Option (Int32) :=
  f_X10_isOwn_2 F M LM x1 ((some 0)) ((some 1)) F 0
set_option maxRecDepth 100000 in
set_option maxHeartbeats 4000000 in
theorem i_X10_isOwn {p : Program} {l : Launch} {e : Env} {s : State} {m : MethodId} {args : Array Value} {below : List Frame} {meth : Method} {c : Code} {D : va_G} {ct : im_ct} {A : Nat → Prop} (X : im_X p (im_rm 2) s m args meth c D ct A RX10 cX10_isOwn 3 (some .boolean)) (F : Nat) (aM : Nat → Nat) (M : Mem) (LM : MemL) (x1 : Int32) : Im p l e (im_rm 2) s m args below meth c D A 3 (QI D A (fun z : Int32 => z) (fun z : Int32 => (cat [w_Model ct aM M LM]))) 0 [(0, .ref (aM 0)), (1, .int x1)] [] (cat [w_Model ct aM M LM]) (f_X10_isOwn F M LM x1) := by
  unfold f_X10_isOwn
  refine im_iconst X 0 dX10_isOwn_0 (by decide) ?_
  refine im_istore_n X [1, 2, 0] [(0, .ref (aM 0)), (1, .int x1), (2, .int 0)] dX10_isOwn_1 rfl (by decide) rfl ?_
  refine i_X10_isOwn_2 X F aM M LM x1 _ ?_ _ ?_ F 0
  · refine im_iconst X 0 dX10_isOwn_27 (by decide) ?_
    exact im_zreturn X 0 rfl rfl rfl dX10_isOwn_28
  · refine im_iconst X 1 dX10_isOwn_35 (by decide) ?_
    exact im_zreturn X 1 rfl rfl rfl dX10_isOwn_36
theorem c_X10_isOwn (l : Launch) (D : va_G) (ct : im_ct) (F : Nat) (aM : Nat → Nat) (M : Mem) (LM : MemL) (x1 : Int32) : CMi l D ct yX10_isOwn cX10_isOwn 3 (some .boolean) 2 [.ref (aM 0), .int x1] (cat [w_Model ct aM M LM]) (f_X10_isOwn F M LM x1) (fun z : Int32 => z) (fun z : Int32 => (cat [w_Model ct aM M LM])) :=
  im_met (Qb := fun A => QI D A (fun z : Int32 => z) (fun z : Int32 => (cat [w_Model ct aM M LM]))) (by decide +kernel) (Nat.le_of_ble_eq_true rfl) (fun p e s m args below meth c A X => i_X10_isOwn X F aM M LM x1)

noncomputable def f_X10_takesOwn_6 (F : Nat) (LM : MemL) (x1 : Int32) (k34 : Mem → Option (Mem)) : Nat → Mem → Int32 → Option (Mem)
  | 0, _, _ => none
  | n + 1, M, x2 =>
  ck 0 226 ((if ((M 1) (0 : Int32).toNatClampNeg) ≤ x2 then k34 M else ck x2 6 ((f_X10_sets F M LM x1 x2 ((M 5) x2.toNatClampNeg)).bind (fun z25 => f_X10_takesOwn_6 F LM x1 k34 n z25 (x2 + 1)))))
set_option maxRecDepth 100000 in
set_option maxHeartbeats 4000000 in
theorem i_X10_takesOwn_6 {p : Program} {l : Launch} {e : Env} {s : State} {m : MethodId} {args : Array Value} {below : List Frame} {meth : Method} {c : Code} {D : va_G} {ct : im_ct} {A : Nat → Prop} (X : im_X p (im_rm 2) s m args meth c D ct A RX10 cX10_takesOwn 3 none) (F : Nat) (aM : Nat → Nat) (LM : MemL) (x1 : Int32) (k34 : Mem → Option (Mem)) (hk34 : ∀ (M : Mem), Im p l e (im_rm 2) s m args below meth c D A 3 (QV D A (fun z : Mem => (cat [w_Model ct aM z LM]))) 34 [(0, .ref (aM 0))] [] (cat [w_Model ct aM M LM]) (k34 M)) : ∀ (n : Nat) (M : Mem) (x2 : Int32), Im p l e (im_rm 2) s m args below meth c D A 3 (QV D A (fun z : Mem => (cat [w_Model ct aM z LM]))) 6 [(0, .ref (aM 0)), (1, .int x1), (2, .int x2)] [] (cat [w_Model ct aM M LM]) (f_X10_takesOwn_6 F LM x1 k34 n M x2) := by
  intro n
  induction n with
  | zero => intros; exact im_none
  | succ n ih =>
    intro M x2
    unfold f_X10_takesOwn_6
    refine im_iload_n X 2 dX10_takesOwn_6 rfl rfl ?_
    refine im_aload_n X 0 dX10_takesOwn_7 rfl rfl ?_
    refine im_cget X 0 0 (v := .ref (aM 1)) fl_X10_13 rfl rfl rfl dX10_takesOwn_8 ?_
    refine im_iconst X 0 dX10_takesOwn_11 (by decide) ?_
    refine im_ciald X 0 1 0 (f := (M 1)) rfl rfl rfl dX10_takesOwn_12 ?_
    refine im_icmp_ge (tgt := 34) X dX10_takesOwn_13 rfl ?_ ?_
    · refine im_lv [0] [(0, .ref (aM 0))] rfl ?_
      exact hk34 M
    · refine im_aload_n X 0 dX10_takesOwn_16 rfl rfl ?_
      refine im_iload_n X 1 dX10_takesOwn_17 rfl rfl ?_
      refine im_iload_n X 2 dX10_takesOwn_18 rfl rfl ?_
      refine im_aload_n X 0 dX10_takesOwn_19 rfl rfl ?_
      refine im_cget X 0 0 (v := .ref (aM 5)) fl_X10_26 rfl rfl rfl dX10_takesOwn_20 ?_
      refine im_iload_n X 2 dX10_takesOwn_23 rfl rfl ?_
      refine im_ciald X 0 5 0 (f := (M 5)) rfl rfl rfl dX10_takesOwn_24 ?_
      refine im_ccvV X [.int x1, .int x2, .int ((M 5) x2.toNatClampNeg)] [] [w_Model ct aM M LM] [w_Model ct aM M LM] [0] (fun z25 => [w_Model ct aM z25 LM]) 0 0 10 rfl rfl rfl cl_X10_182 (c_X10_sets l D ct F aM M LM x1 x2 ((M 5) x2.toNatClampNeg)) rfl (by decide) (fun _ => lc fa_Model (rfl)) rfl ⟨by decide, by decide⟩ (Nat.le_of_ble_eq_true rfl) rfl dX10_takesOwn_25 (fun z25 => ?_)
      refine im_ws (cat [w_Model ct aM z25 LM]) rfl ?_
      refine im_iinc X 2 1 [1, 2, 0] [(0, .ref (aM 0)), (1, .int x1), (2, .int (x2 + 1))] dX10_takesOwn_28 (by decide) rfl (by decide) rfl ?_
      refine im_goto (tgt := 6) X dX10_takesOwn_31 rfl ?_
      exact ih z25 (x2 + 1)
noncomputable def f_X10_takesOwn (F : Nat) (M : Mem) (LM : MemL) (x1 : Int32) : Option (Mem) :=
  (f_X10_keeps F M LM).bind (fun z1 => f_X10_takesOwn_6 F LM x1 (fun M_34 => (f_X10_anew F M_34 LM).bind (fun z35 => (some z35))) F z1 0)
set_option maxRecDepth 100000 in
set_option maxHeartbeats 4000000 in
theorem i_X10_takesOwn {p : Program} {l : Launch} {e : Env} {s : State} {m : MethodId} {args : Array Value} {below : List Frame} {meth : Method} {c : Code} {D : va_G} {ct : im_ct} {A : Nat → Prop} (X : im_X p (im_rm 2) s m args meth c D ct A RX10 cX10_takesOwn 3 none) (F : Nat) (aM : Nat → Nat) (M : Mem) (LM : MemL) (x1 : Int32) : Im p l e (im_rm 2) s m args below meth c D A 3 (QV D A (fun z : Mem => (cat [w_Model ct aM z LM]))) 0 [(0, .ref (aM 0)), (1, .int x1)] [] (cat [w_Model ct aM M LM]) (f_X10_takesOwn F M LM x1) := by
  unfold f_X10_takesOwn
  refine im_aload_n X 0 dX10_takesOwn_0 rfl rfl ?_
  refine im_ccvV X [] [] [w_Model ct aM M LM] [w_Model ct aM M LM] [0] (fun z1 => [w_Model ct aM z1 LM]) 0 0 10 rfl rfl rfl cl_X10_115 (c_X10_keeps l D ct F aM M LM) rfl (by decide) (fun _ => lc fa_Model (rfl)) rfl ⟨by decide, by decide⟩ (Nat.le_of_ble_eq_true rfl) rfl dX10_takesOwn_1 (fun z1 => ?_)
  refine im_ws (cat [w_Model ct aM z1 LM]) rfl ?_
  refine im_iconst X 0 dX10_takesOwn_4 (by decide) ?_
  refine im_istore_n X [1, 2, 0] [(0, .ref (aM 0)), (1, .int x1), (2, .int 0)] dX10_takesOwn_5 rfl (by decide) rfl ?_
  refine i_X10_takesOwn_6 X F aM LM x1 _ (fun M_34 => ?_) F z1 0
  refine im_aload_n X 0 dX10_takesOwn_34 rfl rfl ?_
  refine im_ccvV X [] [] [w_Model ct aM M_34 LM] [w_Model ct aM M_34 LM] [0] (fun z35 => [w_Model ct aM z35 LM]) 0 0 10 rfl rfl rfl cl_X10_118 (c_X10_anew l D ct F aM M_34 LM) rfl (by decide) (fun _ => lc fa_Model (rfl)) rfl ⟨by decide, by decide⟩ (Nat.le_of_ble_eq_true rfl) rfl dX10_takesOwn_35 (fun z35 => ?_)
  refine im_ws (cat [w_Model ct aM z35 LM]) rfl ?_
  exact im_return X z35 rfl dX10_takesOwn_38
theorem c_X10_takesOwn (l : Launch) (D : va_G) (ct : im_ct) (F : Nat) (aM : Nat → Nat) (M : Mem) (LM : MemL) (x1 : Int32) : CMv l D ct yX10_takesOwn cX10_takesOwn 3 none 2 [.ref (aM 0), .int x1] (cat [w_Model ct aM M LM]) (f_X10_takesOwn F M LM x1) (fun z : Mem => (cat [w_Model ct aM z LM])) :=
  im_met (Qb := fun A => QV D A (fun z : Mem => (cat [w_Model ct aM z LM]))) (by decide +kernel) (Nat.le_of_ble_eq_true rfl) (fun p e s m args below meth c A X => i_X10_takesOwn X F aM M LM x1)

noncomputable def f_X10_plain (F : Nat) (M : Mem) (LM : MemL) (x1 : Int32) : Option (Int32 × Mem) :=
  (f_X10_isRow F M LM x1).bind (fun z2 => (if z2 = 0 then (some ((-1), M)) else (f_X10_sumOf F M LM x1).bind (fun z13 => (f_X10_laysPlain F M LM z13).bind (fun z16 => (f_X10_isOwn F z16 LM x1).bind (fun z21 => (if z21 = 0 then (f_X10_isOwnFull F z16 LM).bind (fun z28 => (if z28 = 0 then (f_X10_countersOf F z16 LM x1).bind (fun z38 => (f_X10_takesOwn F z16 LM x1).bind (fun z44 => (f_X10_countersOf F z44 LM x1).bind (fun z50 => (some ((z38 - z50), z44))))) else (some ((-1), z16)))) else (some ((-1), z16))))))))
set_option maxRecDepth 100000 in
set_option maxHeartbeats 4000000 in
theorem i_X10_plain {p : Program} {l : Launch} {e : Env} {s : State} {m : MethodId} {args : Array Value} {below : List Frame} {meth : Method} {c : Code} {D : va_G} {ct : im_ct} {A : Nat → Prop} (X : im_X p (im_rm 3) s m args meth c D ct A RX10 cX10_plain 3 (some .int)) (F : Nat) (aM : Nat → Nat) (M : Mem) (LM : MemL) (x1 : Int32) : Im p l e (im_rm 3) s m args below meth c D A 3 (QI D A (fun z : Int32 × Mem => z.1) (fun z : Int32 × Mem => (cat [w_Model ct aM z.2 LM]))) 0 [(0, .ref (aM 0)), (1, .int x1)] [] (cat [w_Model ct aM M LM]) (f_X10_plain F M LM x1) := by
  unfold f_X10_plain
  refine im_aload_n X 0 dX10_plain_0 rfl rfl ?_
  refine im_iload_n X 1 dX10_plain_1 rfl rfl ?_
  refine im_cciV X [.int x1] [] [w_Model ct aM M LM] [w_Model ct aM M LM] [0] (fun z2 => [w_Model ct aM M LM]) 0 0 10 rfl rfl rfl cl_X10_90 (c_X10_isRow l D ct F aM M LM x1) rfl (by decide) (fun _ => lc rfl (rfl)) rfl ⟨by decide, by decide⟩ (Nat.le_of_ble_eq_true rfl) rfl dX10_plain_2 (fun z2 => ?_)
  refine im_ws (cat [w_Model ct aM M LM]) rfl ?_
  refine im_if_ne (tgt := 10) X dX10_plain_5 rfl ?_ ?_
  · refine im_aload_n X 0 dX10_plain_10 rfl rfl ?_
    refine im_aload_n X 0 dX10_plain_11 rfl rfl ?_
    refine im_iload_n X 1 dX10_plain_12 rfl rfl ?_
    refine im_cciV X [.int x1] [.ref (aM 0)] [w_Model ct aM M LM] [w_Model ct aM M LM] [0] (fun z13 => [w_Model ct aM M LM]) 0 0 10 rfl rfl rfl cl_X10_121 (c_X10_sumOf l D ct F aM M LM x1) rfl (by decide) (fun _ => lc rfl (rfl)) rfl ⟨by decide, by decide⟩ (Nat.le_of_ble_eq_true rfl) rfl dX10_plain_13 (fun z13 => ?_)
    refine im_ws (cat [w_Model ct aM M LM]) rfl ?_
    refine im_ccvV X [.int z13] [] [w_Model ct aM M LM] [w_Model ct aM M LM] [0] (fun z16 => [w_Model ct aM z16 LM]) 0 0 10 rfl rfl rfl cl_X10_190 (c_X10_laysPlain l D ct F aM M LM z13) rfl (by decide) (fun _ => lc fa_Model (rfl)) rfl ⟨by decide, by decide⟩ (Nat.le_of_ble_eq_true rfl) rfl dX10_plain_16 (fun z16 => ?_)
    refine im_ws (cat [w_Model ct aM z16 LM]) rfl ?_
    refine im_aload_n X 0 dX10_plain_19 rfl rfl ?_
    refine im_iload_n X 1 dX10_plain_20 rfl rfl ?_
    refine im_cciV X [.int x1] [] [w_Model ct aM z16 LM] [w_Model ct aM z16 LM] [0] (fun z21 => [w_Model ct aM z16 LM]) 0 0 10 rfl rfl rfl cl_X10_193 (c_X10_isOwn l D ct F aM z16 LM x1) rfl (by decide) (fun _ => lc rfl (rfl)) rfl ⟨by decide, by decide⟩ (Nat.le_of_ble_eq_true rfl) rfl dX10_plain_21 (fun z21 => ?_)
    refine im_ws (cat [w_Model ct aM z16 LM]) rfl ?_
    refine im_if_ne (tgt := 34) X dX10_plain_24 rfl ?_ ?_
    · refine im_iconst X (-1) dX10_plain_34 (by decide) ?_
      exact im_ireturn X ((-1), z16) rfl rfl dX10_plain_35
    · refine im_aload_n X 0 dX10_plain_27 rfl rfl ?_
      refine im_cciV X [] [] [w_Model ct aM z16 LM] [w_Model ct aM z16 LM] [0] (fun z28 => [w_Model ct aM z16 LM]) 0 0 10 rfl rfl rfl cl_X10_196 (c_X10_isOwnFull l D ct F aM z16 LM) rfl (by decide) (fun _ => lc rfl (rfl)) rfl ⟨by decide, by decide⟩ (Nat.le_of_ble_eq_true rfl) rfl dX10_plain_28 (fun z28 => ?_)
      refine im_ws (cat [w_Model ct aM z16 LM]) rfl ?_
      refine im_if_eq (tgt := 36) X dX10_plain_31 rfl ?_ ?_
      · refine im_aload_n X 0 dX10_plain_36 rfl rfl ?_
        refine im_iload_n X 1 dX10_plain_37 rfl rfl ?_
        refine im_cciV X [.int x1] [] [w_Model ct aM z16 LM] [w_Model ct aM z16 LM] [0] (fun z38 => [w_Model ct aM z16 LM]) 0 0 10 rfl rfl rfl cl_X10_199 (c_X10_countersOf l D ct F aM z16 LM x1) rfl (by decide) (fun _ => lc rfl (rfl)) rfl ⟨by decide, by decide⟩ (Nat.le_of_ble_eq_true rfl) rfl dX10_plain_38 (fun z38 => ?_)
        refine im_ws (cat [w_Model ct aM z16 LM]) rfl ?_
        refine im_istore_n X [1, 2, 0] [(0, .ref (aM 0)), (1, .int x1), (2, .int z38)] dX10_plain_41 rfl (by decide) rfl ?_
        refine im_aload_n X 0 dX10_plain_42 rfl rfl ?_
        refine im_iload_n X 1 dX10_plain_43 rfl rfl ?_
        refine im_ccvV X [.int x1] [] [w_Model ct aM z16 LM] [w_Model ct aM z16 LM] [0] (fun z44 => [w_Model ct aM z44 LM]) 0 0 10 rfl rfl rfl cl_X10_202 (c_X10_takesOwn l D ct F aM z16 LM x1) rfl (by decide) (fun _ => lc fa_Model (rfl)) rfl ⟨by decide, by decide⟩ (Nat.le_of_ble_eq_true rfl) rfl dX10_plain_44 (fun z44 => ?_)
        refine im_ws (cat [w_Model ct aM z44 LM]) rfl ?_
        refine im_iload_n X 2 dX10_plain_47 rfl rfl ?_
        refine im_aload_n X 0 dX10_plain_48 rfl rfl ?_
        refine im_iload_n X 1 dX10_plain_49 rfl rfl ?_
        refine im_cciV X [.int x1] [.int z38] [w_Model ct aM z44 LM] [w_Model ct aM z44 LM] [0] (fun z50 => [w_Model ct aM z44 LM]) 0 0 10 rfl rfl rfl cl_X10_199 (c_X10_countersOf l D ct F aM z44 LM x1) rfl (by decide) (fun _ => lc rfl (rfl)) rfl ⟨by decide, by decide⟩ (Nat.le_of_ble_eq_true rfl) rfl dX10_plain_50 (fun z50 => ?_)
        refine im_ws (cat [w_Model ct aM z44 LM]) rfl ?_
        refine im_isub X dX10_plain_53 ?_
        exact im_ireturn X ((z38 - z50), z44) rfl rfl dX10_plain_54
      · refine im_iconst X (-1) dX10_plain_34 (by decide) ?_
        exact im_ireturn X ((-1), z16) rfl rfl dX10_plain_35
  · refine im_iconst X (-1) dX10_plain_8 (by decide) ?_
    exact im_ireturn X ((-1), M) rfl rfl dX10_plain_9
theorem c_X10_plain (l : Launch) (D : va_G) (ct : im_ct) (F : Nat) (aM : Nat → Nat) (M : Mem) (LM : MemL) (x1 : Int32) : CMi l D ct yX10_plain cX10_plain 3 (some .int) 3 [.ref (aM 0), .int x1] (cat [w_Model ct aM M LM]) (f_X10_plain F M LM x1) (fun z : Int32 × Mem => z.1) (fun z : Int32 × Mem => (cat [w_Model ct aM z.2 LM])) :=
  im_met (Qb := fun A => QI D A (fun z : Int32 × Mem => z.1) (fun z : Int32 × Mem => (cat [w_Model ct aM z.2 LM]))) (by decide +kernel) (Nat.le_of_ble_eq_true rfl) (fun p e s m args below meth c A X => i_X10_plain X F aM M LM x1)

noncomputable def f_X10_join_33 (F : Nat) (LM : MemL) (x1 : Int32) (x2 : Int32) (k68 : Mem → Option (Int32 × Mem)) : Nat → Mem → Int32 → Option (Int32 × Mem)
  | 0, _, _ => none
  | n + 1, M, x3 =>
  ck 0 226 ((if ((M 1) (0 : Int32).toNatClampNeg) ≤ x3 then k68 M else (f_X10_now F M LM x1 x3).bind (fun z51 => (f_X10_now F M LM x2 x3).bind (fun z57 => ck x3 6 (f_X10_join_33 F LM x1 x2 k68 n (mr M 5 (upd (M 5) x3.toNatClampNeg (z51 + z57))) (x3 + 1))))))
set_option maxRecDepth 100000 in
set_option maxHeartbeats 4000000 in
theorem i_X10_join_33 {p : Program} {l : Launch} {e : Env} {s : State} {m : MethodId} {args : Array Value} {below : List Frame} {meth : Method} {c : Code} {D : va_G} {ct : im_ct} {A : Nat → Prop} (X : im_X p (im_rm 3) s m args meth c D ct A RX10 cX10_join 4 (some .int)) (F : Nat) (aM : Nat → Nat) (LM : MemL) (x1 : Int32) (x2 : Int32) (k68 : Mem → Option (Int32 × Mem)) (hk68 : ∀ (M : Mem), Im p l e (im_rm 3) s m args below meth c D A 4 (QI D A (fun z : Int32 × Mem => z.1) (fun z : Int32 × Mem => (cat [w_Model ct aM z.2 LM]))) 68 [(0, .ref (aM 0)), (1, .int x1), (2, .int x2)] [] (cat [w_Model ct aM M LM]) (k68 M)) : ∀ (n : Nat) (M : Mem) (x3 : Int32), Im p l e (im_rm 3) s m args below meth c D A 4 (QI D A (fun z : Int32 × Mem => z.1) (fun z : Int32 × Mem => (cat [w_Model ct aM z.2 LM]))) 33 [(0, .ref (aM 0)), (1, .int x1), (2, .int x2), (3, .int x3)] [] (cat [w_Model ct aM M LM]) (f_X10_join_33 F LM x1 x2 k68 n M x3) := by
  intro n
  induction n with
  | zero => intros; exact im_none
  | succ n ih =>
    intro M x3
    unfold f_X10_join_33
    refine im_iload_n X 3 dX10_join_33 rfl rfl ?_
    refine im_aload_n X 0 dX10_join_34 rfl rfl ?_
    refine im_cget X 0 0 (v := .ref (aM 1)) fl_X10_13 rfl rfl rfl dX10_join_35 ?_
    refine im_iconst X 0 dX10_join_38 (by decide) ?_
    refine im_ciald X 0 1 0 (f := (M 1)) rfl rfl rfl dX10_join_39 ?_
    refine im_icmp_ge (tgt := 68) X dX10_join_40 rfl ?_ ?_
    · refine im_lv [0, 1, 2] [(0, .ref (aM 0)), (1, .int x1), (2, .int x2)] rfl ?_
      exact hk68 M
    · refine im_aload_n X 0 dX10_join_43 rfl rfl ?_
      refine im_cget X 0 0 (v := .ref (aM 5)) fl_X10_26 rfl rfl rfl dX10_join_44 ?_
      refine im_iload_n X 3 dX10_join_47 rfl rfl ?_
      refine im_aload_n X 0 dX10_join_48 rfl rfl ?_
      refine im_iload_n X 1 dX10_join_49 rfl rfl ?_
      refine im_iload_n X 3 dX10_join_50 rfl rfl ?_
      refine im_cciV X [.int x1, .int x3] [.int x3, .ref (aM 5)] [w_Model ct aM M LM] [w_Model ct aM M LM] [0] (fun z51 => [w_Model ct aM M LM]) 0 0 10 rfl rfl rfl cl_X10_105 (c_X10_now l D ct F aM M LM x1 x3) rfl (by decide) (fun _ => lc rfl (rfl)) rfl ⟨by decide, by decide⟩ (Nat.le_of_ble_eq_true rfl) rfl dX10_join_51 (fun z51 => ?_)
      refine im_ws (cat [w_Model ct aM M LM]) rfl ?_
      refine im_aload_n X 0 dX10_join_54 rfl rfl ?_
      refine im_iload_n X 2 dX10_join_55 rfl rfl ?_
      refine im_iload_n X 3 dX10_join_56 rfl rfl ?_
      refine im_cciV X [.int x2, .int x3] [.int z51, .int x3, .ref (aM 5)] [w_Model ct aM M LM] [w_Model ct aM M LM] [0] (fun z57 => [w_Model ct aM M LM]) 0 0 10 rfl rfl rfl cl_X10_105 (c_X10_now l D ct F aM M LM x2 x3) rfl (by decide) (fun _ => lc rfl (rfl)) rfl ⟨by decide, by decide⟩ (Nat.le_of_ble_eq_true rfl) rfl dX10_join_57 (fun z57 => ?_)
      refine im_ws (cat [w_Model ct aM M LM]) rfl ?_
      refine im_iadd X dX10_join_60 ?_
      refine im_ciast X 0 5 0 (wx_Model ct aM (M 0 0) (M 0 4) (M 0 6) (M 0 7) (M 0 8) (M 0 9) (M 0 24) (M 0 27) (M 0 29) (M 0 31) (M 0 32) (M 0 33) (M 0 34) (M 0 35) (M 1) (M 2) (M 3) (M 4) (upd (M 5) x3.toNatClampNeg (z51 + z57)) (M 9) (M 10) (M 11) (M 12) (M 13) (M 14) (M 15) (M 16) (M 17) (M 18) (M 19) (M 20) (M 21) (M 22) (LM 6) (LM 7) (LM 8)) [wx_Model ct aM (M 0 0) (M 0 4) (M 0 6) (M 0 7) (M 0 8) (M 0 9) (M 0 24) (M 0 27) (M 0 29) (M 0 31) (M 0 32) (M 0 33) (M 0 34) (M 0 35) (M 1) (M 2) (M 3) (M 4) (upd (M 5) x3.toNatClampNeg (z51 + z57)) (M 9) (M 10) (M 11) (M 12) (M 13) (M 14) (M 15) (M 16) (M 17) (M 18) (M 19) (M 20) (M 21) (M 22) (LM 6) (LM 7) (LM 8)] (f := (M 5)) rfl rfl rfl rfl rfl dX10_join_61 ?_
      refine im_iinc X 3 1 [1, 2, 3, 0] [(0, .ref (aM 0)), (1, .int x1), (2, .int x2), (3, .int (x3 + 1))] dX10_join_62 (by decide) rfl (by decide) rfl ?_
      refine im_goto (tgt := 33) X dX10_join_65 rfl ?_
      exact ih (mr M 5 (upd (M 5) x3.toNatClampNeg (z51 + z57))) (x3 + 1)
noncomputable def f_X10_join_84 (F : Nat) (LM : MemL) (x1 : Int32) (x2 : Int32) (k107 : Mem → Option (Int32 × Mem)) : Nat → Mem → Int32 → Option (Int32 × Mem)
  | 0, _, _ => none
  | n + 1, M, x3 =>
  ck 0 226 ((if ((M 1) (0 : Int32).toNatClampNeg) ≤ x3 then k107 M else (f_X10_sets F M LM x1 x3 0).bind (fun z98 => f_X10_join_84 F LM x1 x2 k107 n z98 (x3 + 1))))
set_option maxRecDepth 100000 in
set_option maxHeartbeats 4000000 in
theorem i_X10_join_84 {p : Program} {l : Launch} {e : Env} {s : State} {m : MethodId} {args : Array Value} {below : List Frame} {meth : Method} {c : Code} {D : va_G} {ct : im_ct} {A : Nat → Prop} (X : im_X p (im_rm 3) s m args meth c D ct A RX10 cX10_join 4 (some .int)) (F : Nat) (aM : Nat → Nat) (LM : MemL) (x1 : Int32) (x2 : Int32) (k107 : Mem → Option (Int32 × Mem)) (hk107 : ∀ (M : Mem), Im p l e (im_rm 3) s m args below meth c D A 4 (QI D A (fun z : Int32 × Mem => z.1) (fun z : Int32 × Mem => (cat [w_Model ct aM z.2 LM]))) 107 [(0, .ref (aM 0)), (2, .int x2)] [] (cat [w_Model ct aM M LM]) (k107 M)) : ∀ (n : Nat) (M : Mem) (x3 : Int32), Im p l e (im_rm 3) s m args below meth c D A 4 (QI D A (fun z : Int32 × Mem => z.1) (fun z : Int32 × Mem => (cat [w_Model ct aM z.2 LM]))) 84 [(0, .ref (aM 0)), (1, .int x1), (2, .int x2), (3, .int x3)] [] (cat [w_Model ct aM M LM]) (f_X10_join_84 F LM x1 x2 k107 n M x3) := by
  intro n
  induction n with
  | zero => intros; exact im_none
  | succ n ih =>
    intro M x3
    unfold f_X10_join_84
    refine im_iload_n X 3 dX10_join_84 rfl rfl ?_
    refine im_aload_n X 0 dX10_join_85 rfl rfl ?_
    refine im_cget X 0 0 (v := .ref (aM 1)) fl_X10_13 rfl rfl rfl dX10_join_86 ?_
    refine im_iconst X 0 dX10_join_89 (by decide) ?_
    refine im_ciald X 0 1 0 (f := (M 1)) rfl rfl rfl dX10_join_90 ?_
    refine im_icmp_ge (tgt := 107) X dX10_join_91 rfl ?_ ?_
    · refine im_lv [0, 2] [(0, .ref (aM 0)), (2, .int x2)] rfl ?_
      exact hk107 M
    · refine im_aload_n X 0 dX10_join_94 rfl rfl ?_
      refine im_iload_n X 1 dX10_join_95 rfl rfl ?_
      refine im_iload_n X 3 dX10_join_96 rfl rfl ?_
      refine im_iconst X 0 dX10_join_97 (by decide) ?_
      refine im_ccvV X [.int x1, .int x3, .int 0] [] [w_Model ct aM M LM] [w_Model ct aM M LM] [0] (fun z98 => [w_Model ct aM z98 LM]) 0 0 10 rfl rfl rfl cl_X10_182 (c_X10_sets l D ct F aM M LM x1 x3 0) rfl (by decide) (fun _ => lc fa_Model (rfl)) rfl ⟨by decide, by decide⟩ (Nat.le_of_ble_eq_true rfl) rfl dX10_join_98 (fun z98 => ?_)
      refine im_ws (cat [w_Model ct aM z98 LM]) rfl ?_
      refine im_iinc X 3 1 [1, 2, 3, 0] [(0, .ref (aM 0)), (1, .int x1), (2, .int x2), (3, .int (x3 + 1))] dX10_join_101 (by decide) rfl (by decide) rfl ?_
      refine im_goto (tgt := 84) X dX10_join_104 rfl ?_
      exact ih z98 (x3 + 1)
noncomputable def f_X10_join (F : Nat) (M : Mem) (LM : MemL) (x1 : Int32) (x2 : Int32) : Option (Int32 × Mem) :=
  (f_X10_isRow F M LM x1).bind (fun z2 => (if z2 = 0 then (some ((-1), M)) else (f_X10_isRow F M LM x2).bind (fun z10 => (if z10 = 0 then (some ((-1), M)) else (if x1 = x2 then (some ((-1), M)) else (f_X10_countersOf F M LM x1).bind (fun z23 => (if z23 = 0 then (some ((-1), M)) else f_X10_join_33 F LM x1 x2 (fun M_68 => (f_X10_isOwnFull F M_68 LM).bind (fun z69 => (if z69 = 0 then (f_X10_takesOwn F M_68 LM x2).bind (fun z79 => f_X10_join_84 F LM x1 x2 (fun M_107 => (f_X10_anew F M_107 LM).bind (fun z108 => (f_X10_sumOf F z108 LM x2).bind (fun z113 => (some (z113, z108))))) F z79 0) else (some ((-1), M_68))))) F M 0)))))))
set_option maxRecDepth 100000 in
set_option maxHeartbeats 4000000 in
theorem i_X10_join {p : Program} {l : Launch} {e : Env} {s : State} {m : MethodId} {args : Array Value} {below : List Frame} {meth : Method} {c : Code} {D : va_G} {ct : im_ct} {A : Nat → Prop} (X : im_X p (im_rm 3) s m args meth c D ct A RX10 cX10_join 4 (some .int)) (F : Nat) (aM : Nat → Nat) (M : Mem) (LM : MemL) (x1 : Int32) (x2 : Int32) : Im p l e (im_rm 3) s m args below meth c D A 4 (QI D A (fun z : Int32 × Mem => z.1) (fun z : Int32 × Mem => (cat [w_Model ct aM z.2 LM]))) 0 [(0, .ref (aM 0)), (1, .int x1), (2, .int x2)] [] (cat [w_Model ct aM M LM]) (f_X10_join F M LM x1 x2) := by
  unfold f_X10_join
  refine im_aload_n X 0 dX10_join_0 rfl rfl ?_
  refine im_iload_n X 1 dX10_join_1 rfl rfl ?_
  refine im_cciV X [.int x1] [] [w_Model ct aM M LM] [w_Model ct aM M LM] [0] (fun z2 => [w_Model ct aM M LM]) 0 0 10 rfl rfl rfl cl_X10_90 (c_X10_isRow l D ct F aM M LM x1) rfl (by decide) (fun _ => lc rfl (rfl)) rfl ⟨by decide, by decide⟩ (Nat.le_of_ble_eq_true rfl) rfl dX10_join_2 (fun z2 => ?_)
  refine im_ws (cat [w_Model ct aM M LM]) rfl ?_
  refine im_if_eq (tgt := 29) X dX10_join_5 rfl ?_ ?_
  · refine im_iconst X (-1) dX10_join_29 (by decide) ?_
    exact im_ireturn X ((-1), M) rfl rfl dX10_join_30
  · refine im_aload_n X 0 dX10_join_8 rfl rfl ?_
    refine im_iload_n X 2 dX10_join_9 rfl rfl ?_
    refine im_cciV X [.int x2] [] [w_Model ct aM M LM] [w_Model ct aM M LM] [0] (fun z10 => [w_Model ct aM M LM]) 0 0 10 rfl rfl rfl cl_X10_90 (c_X10_isRow l D ct F aM M LM x2) rfl (by decide) (fun _ => lc rfl (rfl)) rfl ⟨by decide, by decide⟩ (Nat.le_of_ble_eq_true rfl) rfl dX10_join_10 (fun z10 => ?_)
    refine im_ws (cat [w_Model ct aM M LM]) rfl ?_
    refine im_if_eq (tgt := 29) X dX10_join_13 rfl ?_ ?_
    · refine im_iconst X (-1) dX10_join_29 (by decide) ?_
      exact im_ireturn X ((-1), M) rfl rfl dX10_join_30
    · refine im_iload_n X 1 dX10_join_16 rfl rfl ?_
      refine im_iload_n X 2 dX10_join_17 rfl rfl ?_
      refine im_icmp_eq (tgt := 29) X dX10_join_18 rfl ?_ ?_
      · refine im_iconst X (-1) dX10_join_29 (by decide) ?_
        exact im_ireturn X ((-1), M) rfl rfl dX10_join_30
      · refine im_aload_n X 0 dX10_join_21 rfl rfl ?_
        refine im_iload_n X 1 dX10_join_22 rfl rfl ?_
        refine im_cciV X [.int x1] [] [w_Model ct aM M LM] [w_Model ct aM M LM] [0] (fun z23 => [w_Model ct aM M LM]) 0 0 10 rfl rfl rfl cl_X10_199 (c_X10_countersOf l D ct F aM M LM x1) rfl (by decide) (fun _ => lc rfl (rfl)) rfl ⟨by decide, by decide⟩ (Nat.le_of_ble_eq_true rfl) rfl dX10_join_23 (fun z23 => ?_)
        refine im_ws (cat [w_Model ct aM M LM]) rfl ?_
        refine im_if_ne (tgt := 31) X dX10_join_26 rfl ?_ ?_
        · refine im_iconst X 0 dX10_join_31 (by decide) ?_
          refine im_istore_n X [1, 2, 3, 0] [(0, .ref (aM 0)), (1, .int x1), (2, .int x2), (3, .int 0)] dX10_join_32 rfl (by decide) rfl ?_
          refine i_X10_join_33 X F aM LM x1 x2 _ (fun M_68 => ?_) F M 0
          refine im_aload_n X 0 dX10_join_68 rfl rfl ?_
          refine im_cciV X [] [] [w_Model ct aM M_68 LM] [w_Model ct aM M_68 LM] [0] (fun z69 => [w_Model ct aM M_68 LM]) 0 0 10 rfl rfl rfl cl_X10_196 (c_X10_isOwnFull l D ct F aM M_68 LM) rfl (by decide) (fun _ => lc rfl (rfl)) rfl ⟨by decide, by decide⟩ (Nat.le_of_ble_eq_true rfl) rfl dX10_join_69 (fun z69 => ?_)
          refine im_ws (cat [w_Model ct aM M_68 LM]) rfl ?_
          refine im_if_eq (tgt := 77) X dX10_join_72 rfl ?_ ?_
          · refine im_aload_n X 0 dX10_join_77 rfl rfl ?_
            refine im_iload_n X 2 dX10_join_78 rfl rfl ?_
            refine im_ccvV X [.int x2] [] [w_Model ct aM M_68 LM] [w_Model ct aM M_68 LM] [0] (fun z79 => [w_Model ct aM z79 LM]) 0 0 10 rfl rfl rfl cl_X10_202 (c_X10_takesOwn l D ct F aM M_68 LM x2) rfl (by decide) (fun _ => lc fa_Model (rfl)) rfl ⟨by decide, by decide⟩ (Nat.le_of_ble_eq_true rfl) rfl dX10_join_79 (fun z79 => ?_)
            refine im_ws (cat [w_Model ct aM z79 LM]) rfl ?_
            refine im_iconst X 0 dX10_join_82 (by decide) ?_
            refine im_istore_n X [1, 2, 3, 0] [(0, .ref (aM 0)), (1, .int x1), (2, .int x2), (3, .int 0)] dX10_join_83 rfl (by decide) rfl ?_
            refine i_X10_join_84 X F aM LM x1 x2 _ (fun M_107 => ?_) F z79 0
            refine im_aload_n X 0 dX10_join_107 rfl rfl ?_
            refine im_ccvV X [] [] [w_Model ct aM M_107 LM] [w_Model ct aM M_107 LM] [0] (fun z108 => [w_Model ct aM z108 LM]) 0 0 10 rfl rfl rfl cl_X10_118 (c_X10_anew l D ct F aM M_107 LM) rfl (by decide) (fun _ => lc fa_Model (rfl)) rfl ⟨by decide, by decide⟩ (Nat.le_of_ble_eq_true rfl) rfl dX10_join_108 (fun z108 => ?_)
            refine im_ws (cat [w_Model ct aM z108 LM]) rfl ?_
            refine im_aload_n X 0 dX10_join_111 rfl rfl ?_
            refine im_iload_n X 1 dX10_join_112 rfl rfl ?_
            refine im_cciV X [.int x2] [] [w_Model ct aM z108 LM] [w_Model ct aM z108 LM] [0] (fun z113 => [w_Model ct aM z108 LM]) 0 0 10 rfl rfl rfl cl_X10_121 (c_X10_sumOf l D ct F aM z108 LM x2) rfl (by decide) (fun _ => lc rfl (rfl)) rfl ⟨by decide, by decide⟩ (Nat.le_of_ble_eq_true rfl) rfl dX10_join_113 (fun z113 => ?_)
            refine im_ws (cat [w_Model ct aM z108 LM]) rfl ?_
            exact im_ireturn X (z113, z108) rfl rfl dX10_join_116
          · refine im_iconst X (-1) dX10_join_75 (by decide) ?_
            exact im_ireturn X ((-1), M_68) rfl rfl dX10_join_76
        · refine im_iconst X (-1) dX10_join_29 (by decide) ?_
          exact im_ireturn X ((-1), M) rfl rfl dX10_join_30
theorem c_X10_join (l : Launch) (D : va_G) (ct : im_ct) (F : Nat) (aM : Nat → Nat) (M : Mem) (LM : MemL) (x1 : Int32) (x2 : Int32) : CMi l D ct yX10_join cX10_join 4 (some .int) 3 [.ref (aM 0), .int x1, .int x2] (cat [w_Model ct aM M LM]) (f_X10_join F M LM x1 x2) (fun z : Int32 × Mem => z.1) (fun z : Int32 × Mem => (cat [w_Model ct aM z.2 LM])) :=
  im_met (Qb := fun A => QI D A (fun z : Int32 × Mem => z.1) (fun z : Int32 × Mem => (cat [w_Model ct aM z.2 LM]))) (by decide +kernel) (Nat.le_of_ble_eq_true rfl) (fun p e s m args below meth c A X => i_X10_join X F aM M LM x1 x2)

noncomputable def f_X10_doubled_20 (F : Nat) (LM : MemL) (x1 : Int32) (k50 : Mem → Option (Int32 × Mem)) : Nat → Mem → Int32 → Option (Int32 × Mem)
  | 0, _, _ => none
  | n + 1, M, x2 =>
  ck 0 226 ((if ((M 1) (0 : Int32).toNatClampNeg) ≤ x2 then k50 M else (f_X10_now F M LM x1 x2).bind (fun z39 => ck x2 6 (f_X10_doubled_20 F LM x1 k50 n (mr M 5 (upd (M 5) x2.toNatClampNeg (2 * z39))) (x2 + 1)))))
set_option maxRecDepth 100000 in
set_option maxHeartbeats 4000000 in
theorem i_X10_doubled_20 {p : Program} {l : Launch} {e : Env} {s : State} {m : MethodId} {args : Array Value} {below : List Frame} {meth : Method} {c : Code} {D : va_G} {ct : im_ct} {A : Nat → Prop} (X : im_X p (im_rm 3) s m args meth c D ct A RX10 cX10_doubled 3 (some .int)) (F : Nat) (aM : Nat → Nat) (LM : MemL) (x1 : Int32) (k50 : Mem → Option (Int32 × Mem)) (hk50 : ∀ (M : Mem), Im p l e (im_rm 3) s m args below meth c D A 3 (QI D A (fun z : Int32 × Mem => z.1) (fun z : Int32 × Mem => (cat [w_Model ct aM z.2 LM]))) 50 [(0, .ref (aM 0)), (1, .int x1)] [] (cat [w_Model ct aM M LM]) (k50 M)) : ∀ (n : Nat) (M : Mem) (x2 : Int32), Im p l e (im_rm 3) s m args below meth c D A 3 (QI D A (fun z : Int32 × Mem => z.1) (fun z : Int32 × Mem => (cat [w_Model ct aM z.2 LM]))) 20 [(0, .ref (aM 0)), (1, .int x1), (2, .int x2)] [] (cat [w_Model ct aM M LM]) (f_X10_doubled_20 F LM x1 k50 n M x2) := by
  intro n
  induction n with
  | zero => intros; exact im_none
  | succ n ih =>
    intro M x2
    unfold f_X10_doubled_20
    refine im_iload_n X 2 dX10_doubled_20 rfl rfl ?_
    refine im_aload_n X 0 dX10_doubled_21 rfl rfl ?_
    refine im_cget X 0 0 (v := .ref (aM 1)) fl_X10_13 rfl rfl rfl dX10_doubled_22 ?_
    refine im_iconst X 0 dX10_doubled_25 (by decide) ?_
    refine im_ciald X 0 1 0 (f := (M 1)) rfl rfl rfl dX10_doubled_26 ?_
    refine im_icmp_ge (tgt := 50) X dX10_doubled_27 rfl ?_ ?_
    · refine im_lv [0, 1] [(0, .ref (aM 0)), (1, .int x1)] rfl ?_
      exact hk50 M
    · refine im_aload_n X 0 dX10_doubled_30 rfl rfl ?_
      refine im_cget X 0 0 (v := .ref (aM 5)) fl_X10_26 rfl rfl rfl dX10_doubled_31 ?_
      refine im_iload_n X 2 dX10_doubled_34 rfl rfl ?_
      refine im_iconst X 2 dX10_doubled_35 (by decide) ?_
      refine im_aload_n X 0 dX10_doubled_36 rfl rfl ?_
      refine im_iload_n X 1 dX10_doubled_37 rfl rfl ?_
      refine im_iload_n X 2 dX10_doubled_38 rfl rfl ?_
      refine im_cciV X [.int x1, .int x2] [.int 2, .int x2, .ref (aM 5)] [w_Model ct aM M LM] [w_Model ct aM M LM] [0] (fun z39 => [w_Model ct aM M LM]) 0 0 10 rfl rfl rfl cl_X10_105 (c_X10_now l D ct F aM M LM x1 x2) rfl (by decide) (fun _ => lc rfl (rfl)) rfl ⟨by decide, by decide⟩ (Nat.le_of_ble_eq_true rfl) rfl dX10_doubled_39 (fun z39 => ?_)
      refine im_ws (cat [w_Model ct aM M LM]) rfl ?_
      refine im_imul X dX10_doubled_42 ?_
      refine im_ciast X 0 5 0 (wx_Model ct aM (M 0 0) (M 0 4) (M 0 6) (M 0 7) (M 0 8) (M 0 9) (M 0 24) (M 0 27) (M 0 29) (M 0 31) (M 0 32) (M 0 33) (M 0 34) (M 0 35) (M 1) (M 2) (M 3) (M 4) (upd (M 5) x2.toNatClampNeg (2 * z39)) (M 9) (M 10) (M 11) (M 12) (M 13) (M 14) (M 15) (M 16) (M 17) (M 18) (M 19) (M 20) (M 21) (M 22) (LM 6) (LM 7) (LM 8)) [wx_Model ct aM (M 0 0) (M 0 4) (M 0 6) (M 0 7) (M 0 8) (M 0 9) (M 0 24) (M 0 27) (M 0 29) (M 0 31) (M 0 32) (M 0 33) (M 0 34) (M 0 35) (M 1) (M 2) (M 3) (M 4) (upd (M 5) x2.toNatClampNeg (2 * z39)) (M 9) (M 10) (M 11) (M 12) (M 13) (M 14) (M 15) (M 16) (M 17) (M 18) (M 19) (M 20) (M 21) (M 22) (LM 6) (LM 7) (LM 8)] (f := (M 5)) rfl rfl rfl rfl rfl dX10_doubled_43 ?_
      refine im_iinc X 2 1 [1, 2, 0] [(0, .ref (aM 0)), (1, .int x1), (2, .int (x2 + 1))] dX10_doubled_44 (by decide) rfl (by decide) rfl ?_
      refine im_goto (tgt := 20) X dX10_doubled_47 rfl ?_
      exact ih (mr M 5 (upd (M 5) x2.toNatClampNeg (2 * z39))) (x2 + 1)
noncomputable def f_X10_doubled (F : Nat) (M : Mem) (LM : MemL) (x1 : Int32) : Option (Int32 × Mem) :=
  (f_X10_isRow F M LM x1).bind (fun z2 => (if z2 = 0 then (some ((-1), M)) else (f_X10_countersOf F M LM x1).bind (fun z10 => (if z10 = 0 then (some ((-1), M)) else f_X10_doubled_20 F LM x1 (fun M_50 => (f_X10_isOwnFull F M_50 LM).bind (fun z51 => (if z51 = 0 then (f_X10_takesOwn F M_50 LM x1).bind (fun z61 => (f_X10_sumOf F z61 LM x1).bind (fun z66 => (some (z66, z61)))) else (some ((-1), M_50))))) F M 0))))
set_option maxRecDepth 100000 in
set_option maxHeartbeats 4000000 in
theorem i_X10_doubled {p : Program} {l : Launch} {e : Env} {s : State} {m : MethodId} {args : Array Value} {below : List Frame} {meth : Method} {c : Code} {D : va_G} {ct : im_ct} {A : Nat → Prop} (X : im_X p (im_rm 3) s m args meth c D ct A RX10 cX10_doubled 3 (some .int)) (F : Nat) (aM : Nat → Nat) (M : Mem) (LM : MemL) (x1 : Int32) : Im p l e (im_rm 3) s m args below meth c D A 3 (QI D A (fun z : Int32 × Mem => z.1) (fun z : Int32 × Mem => (cat [w_Model ct aM z.2 LM]))) 0 [(0, .ref (aM 0)), (1, .int x1)] [] (cat [w_Model ct aM M LM]) (f_X10_doubled F M LM x1) := by
  unfold f_X10_doubled
  refine im_aload_n X 0 dX10_doubled_0 rfl rfl ?_
  refine im_iload_n X 1 dX10_doubled_1 rfl rfl ?_
  refine im_cciV X [.int x1] [] [w_Model ct aM M LM] [w_Model ct aM M LM] [0] (fun z2 => [w_Model ct aM M LM]) 0 0 10 rfl rfl rfl cl_X10_90 (c_X10_isRow l D ct F aM M LM x1) rfl (by decide) (fun _ => lc rfl (rfl)) rfl ⟨by decide, by decide⟩ (Nat.le_of_ble_eq_true rfl) rfl dX10_doubled_2 (fun z2 => ?_)
  refine im_ws (cat [w_Model ct aM M LM]) rfl ?_
  refine im_if_eq (tgt := 16) X dX10_doubled_5 rfl ?_ ?_
  · refine im_iconst X (-1) dX10_doubled_16 (by decide) ?_
    exact im_ireturn X ((-1), M) rfl rfl dX10_doubled_17
  · refine im_aload_n X 0 dX10_doubled_8 rfl rfl ?_
    refine im_iload_n X 1 dX10_doubled_9 rfl rfl ?_
    refine im_cciV X [.int x1] [] [w_Model ct aM M LM] [w_Model ct aM M LM] [0] (fun z10 => [w_Model ct aM M LM]) 0 0 10 rfl rfl rfl cl_X10_199 (c_X10_countersOf l D ct F aM M LM x1) rfl (by decide) (fun _ => lc rfl (rfl)) rfl ⟨by decide, by decide⟩ (Nat.le_of_ble_eq_true rfl) rfl dX10_doubled_10 (fun z10 => ?_)
    refine im_ws (cat [w_Model ct aM M LM]) rfl ?_
    refine im_if_ne (tgt := 18) X dX10_doubled_13 rfl ?_ ?_
    · refine im_iconst X 0 dX10_doubled_18 (by decide) ?_
      refine im_istore_n X [1, 2, 0] [(0, .ref (aM 0)), (1, .int x1), (2, .int 0)] dX10_doubled_19 rfl (by decide) rfl ?_
      refine i_X10_doubled_20 X F aM LM x1 _ (fun M_50 => ?_) F M 0
      refine im_aload_n X 0 dX10_doubled_50 rfl rfl ?_
      refine im_cciV X [] [] [w_Model ct aM M_50 LM] [w_Model ct aM M_50 LM] [0] (fun z51 => [w_Model ct aM M_50 LM]) 0 0 10 rfl rfl rfl cl_X10_196 (c_X10_isOwnFull l D ct F aM M_50 LM) rfl (by decide) (fun _ => lc rfl (rfl)) rfl ⟨by decide, by decide⟩ (Nat.le_of_ble_eq_true rfl) rfl dX10_doubled_51 (fun z51 => ?_)
      refine im_ws (cat [w_Model ct aM M_50 LM]) rfl ?_
      refine im_if_eq (tgt := 59) X dX10_doubled_54 rfl ?_ ?_
      · refine im_aload_n X 0 dX10_doubled_59 rfl rfl ?_
        refine im_iload_n X 1 dX10_doubled_60 rfl rfl ?_
        refine im_ccvV X [.int x1] [] [w_Model ct aM M_50 LM] [w_Model ct aM M_50 LM] [0] (fun z61 => [w_Model ct aM z61 LM]) 0 0 10 rfl rfl rfl cl_X10_202 (c_X10_takesOwn l D ct F aM M_50 LM x1) rfl (by decide) (fun _ => lc fa_Model (rfl)) rfl ⟨by decide, by decide⟩ (Nat.le_of_ble_eq_true rfl) rfl dX10_doubled_61 (fun z61 => ?_)
        refine im_ws (cat [w_Model ct aM z61 LM]) rfl ?_
        refine im_aload_n X 0 dX10_doubled_64 rfl rfl ?_
        refine im_iload_n X 1 dX10_doubled_65 rfl rfl ?_
        refine im_cciV X [.int x1] [] [w_Model ct aM z61 LM] [w_Model ct aM z61 LM] [0] (fun z66 => [w_Model ct aM z61 LM]) 0 0 10 rfl rfl rfl cl_X10_121 (c_X10_sumOf l D ct F aM z61 LM x1) rfl (by decide) (fun _ => lc rfl (rfl)) rfl ⟨by decide, by decide⟩ (Nat.le_of_ble_eq_true rfl) rfl dX10_doubled_66 (fun z66 => ?_)
        refine im_ws (cat [w_Model ct aM z61 LM]) rfl ?_
        exact im_ireturn X (z66, z61) rfl rfl dX10_doubled_69
      · refine im_iconst X (-1) dX10_doubled_57 (by decide) ?_
        exact im_ireturn X ((-1), M_50) rfl rfl dX10_doubled_58
    · refine im_iconst X (-1) dX10_doubled_16 (by decide) ?_
      exact im_ireturn X ((-1), M) rfl rfl dX10_doubled_17
theorem c_X10_doubled (l : Launch) (D : va_G) (ct : im_ct) (F : Nat) (aM : Nat → Nat) (M : Mem) (LM : MemL) (x1 : Int32) : CMi l D ct yX10_doubled cX10_doubled 3 (some .int) 3 [.ref (aM 0), .int x1] (cat [w_Model ct aM M LM]) (f_X10_doubled F M LM x1) (fun z : Int32 × Mem => z.1) (fun z : Int32 × Mem => (cat [w_Model ct aM z.2 LM])) :=
  im_met (Qb := fun A => QI D A (fun z : Int32 × Mem => z.1) (fun z : Int32 × Mem => (cat [w_Model ct aM z.2 LM]))) (by decide +kernel) (Nat.le_of_ble_eq_true rfl) (fun p e s m args below meth c A X => i_X10_doubled X F aM M LM x1)

noncomputable def f_X10_halve (F : Nat) (M : Mem) (LM : MemL) (x1 : Int32) : Option (Int32 × Mem) :=
  (f_X10_isRow F M LM x1).bind (fun z2 => (if z2 = 0 then (some ((-1), M)) else (f_X10_countersOf F M LM x1).bind (fun z10 => (if z10 = 0 then (some ((-1), M)) else (f_X10_sumOf F M LM x1).bind (fun z20 => dv 2 ((f_X10_laysPlain F M LM (z20 / 2)).bind (fun z28 => (f_X10_isOwnFull F z28 LM).bind (fun z32 => (if z32 = 0 then (f_X10_takesOwn F z28 LM x1).bind (fun z42 => dv 2 ((some ((z20 - z20 / 2 * 2), z42)))) else (some ((-1), z28)))))))))))
set_option maxRecDepth 100000 in
set_option maxHeartbeats 4000000 in
theorem i_X10_halve {p : Program} {l : Launch} {e : Env} {s : State} {m : MethodId} {args : Array Value} {below : List Frame} {meth : Method} {c : Code} {D : va_G} {ct : im_ct} {A : Nat → Prop} (X : im_X p (im_rm 3) s m args meth c D ct A RX10 cX10_halve 3 (some .int)) (F : Nat) (aM : Nat → Nat) (M : Mem) (LM : MemL) (x1 : Int32) : Im p l e (im_rm 3) s m args below meth c D A 3 (QI D A (fun z : Int32 × Mem => z.1) (fun z : Int32 × Mem => (cat [w_Model ct aM z.2 LM]))) 0 [(0, .ref (aM 0)), (1, .int x1)] [] (cat [w_Model ct aM M LM]) (f_X10_halve F M LM x1) := by
  unfold f_X10_halve
  refine im_aload_n X 0 dX10_halve_0 rfl rfl ?_
  refine im_iload_n X 1 dX10_halve_1 rfl rfl ?_
  refine im_cciV X [.int x1] [] [w_Model ct aM M LM] [w_Model ct aM M LM] [0] (fun z2 => [w_Model ct aM M LM]) 0 0 10 rfl rfl rfl cl_X10_90 (c_X10_isRow l D ct F aM M LM x1) rfl (by decide) (fun _ => lc rfl (rfl)) rfl ⟨by decide, by decide⟩ (Nat.le_of_ble_eq_true rfl) rfl dX10_halve_2 (fun z2 => ?_)
  refine im_ws (cat [w_Model ct aM M LM]) rfl ?_
  refine im_if_eq (tgt := 16) X dX10_halve_5 rfl ?_ ?_
  · refine im_iconst X (-1) dX10_halve_16 (by decide) ?_
    exact im_ireturn X ((-1), M) rfl rfl dX10_halve_17
  · refine im_aload_n X 0 dX10_halve_8 rfl rfl ?_
    refine im_iload_n X 1 dX10_halve_9 rfl rfl ?_
    refine im_cciV X [.int x1] [] [w_Model ct aM M LM] [w_Model ct aM M LM] [0] (fun z10 => [w_Model ct aM M LM]) 0 0 10 rfl rfl rfl cl_X10_199 (c_X10_countersOf l D ct F aM M LM x1) rfl (by decide) (fun _ => lc rfl (rfl)) rfl ⟨by decide, by decide⟩ (Nat.le_of_ble_eq_true rfl) rfl dX10_halve_10 (fun z10 => ?_)
    refine im_ws (cat [w_Model ct aM M LM]) rfl ?_
    refine im_if_ne (tgt := 18) X dX10_halve_13 rfl ?_ ?_
    · refine im_aload_n X 0 dX10_halve_18 rfl rfl ?_
      refine im_iload_n X 1 dX10_halve_19 rfl rfl ?_
      refine im_cciV X [.int x1] [] [w_Model ct aM M LM] [w_Model ct aM M LM] [0] (fun z20 => [w_Model ct aM M LM]) 0 0 10 rfl rfl rfl cl_X10_121 (c_X10_sumOf l D ct F aM M LM x1) rfl (by decide) (fun _ => lc rfl (rfl)) rfl ⟨by decide, by decide⟩ (Nat.le_of_ble_eq_true rfl) rfl dX10_halve_20 (fun z20 => ?_)
      refine im_ws (cat [w_Model ct aM M LM]) rfl ?_
      refine im_istore_n X [1, 2, 0] [(0, .ref (aM 0)), (1, .int x1), (2, .int z20)] dX10_halve_23 rfl (by decide) rfl ?_
      refine im_aload_n X 0 dX10_halve_24 rfl rfl ?_
      refine im_iload_n X 2 dX10_halve_25 rfl rfl ?_
      refine im_iconst X 2 dX10_halve_26 (by decide) ?_
      refine im_idiv X dX10_halve_27 ?_
      refine im_ccvV X [.int (z20 / 2)] [] [w_Model ct aM M LM] [w_Model ct aM M LM] [0] (fun z28 => [w_Model ct aM z28 LM]) 0 0 10 rfl rfl rfl cl_X10_190 (c_X10_laysPlain l D ct F aM M LM (z20 / 2)) rfl (by decide) (fun _ => lc fa_Model (rfl)) rfl ⟨by decide, by decide⟩ (Nat.le_of_ble_eq_true rfl) rfl dX10_halve_28 (fun z28 => ?_)
      refine im_ws (cat [w_Model ct aM z28 LM]) rfl ?_
      refine im_aload_n X 0 dX10_halve_31 rfl rfl ?_
      refine im_cciV X [] [] [w_Model ct aM z28 LM] [w_Model ct aM z28 LM] [0] (fun z32 => [w_Model ct aM z28 LM]) 0 0 10 rfl rfl rfl cl_X10_196 (c_X10_isOwnFull l D ct F aM z28 LM) rfl (by decide) (fun _ => lc rfl (rfl)) rfl ⟨by decide, by decide⟩ (Nat.le_of_ble_eq_true rfl) rfl dX10_halve_32 (fun z32 => ?_)
      refine im_ws (cat [w_Model ct aM z28 LM]) rfl ?_
      refine im_if_eq (tgt := 40) X dX10_halve_35 rfl ?_ ?_
      · refine im_aload_n X 0 dX10_halve_40 rfl rfl ?_
        refine im_iload_n X 1 dX10_halve_41 rfl rfl ?_
        refine im_ccvV X [.int x1] [] [w_Model ct aM z28 LM] [w_Model ct aM z28 LM] [0] (fun z42 => [w_Model ct aM z42 LM]) 0 0 10 rfl rfl rfl cl_X10_202 (c_X10_takesOwn l D ct F aM z28 LM x1) rfl (by decide) (fun _ => lc fa_Model (rfl)) rfl ⟨by decide, by decide⟩ (Nat.le_of_ble_eq_true rfl) rfl dX10_halve_42 (fun z42 => ?_)
        refine im_ws (cat [w_Model ct aM z42 LM]) rfl ?_
        refine im_iload_n X 2 dX10_halve_45 rfl rfl ?_
        refine im_iconst X 2 dX10_halve_46 (by decide) ?_
        refine im_irem X dX10_halve_47 ?_
        exact im_ireturn X ((z20 - z20 / 2 * 2), z42) rfl rfl dX10_halve_48
      · refine im_iconst X (-1) dX10_halve_38 (by decide) ?_
        exact im_ireturn X ((-1), z28) rfl rfl dX10_halve_39
    · refine im_iconst X (-1) dX10_halve_16 (by decide) ?_
      exact im_ireturn X ((-1), M) rfl rfl dX10_halve_17
theorem c_X10_halve (l : Launch) (D : va_G) (ct : im_ct) (F : Nat) (aM : Nat → Nat) (M : Mem) (LM : MemL) (x1 : Int32) : CMi l D ct yX10_halve cX10_halve 3 (some .int) 3 [.ref (aM 0), .int x1] (cat [w_Model ct aM M LM]) (f_X10_halve F M LM x1) (fun z : Int32 × Mem => z.1) (fun z : Int32 × Mem => (cat [w_Model ct aM z.2 LM])) :=
  im_met (Qb := fun A => QI D A (fun z : Int32 × Mem => z.1) (fun z : Int32 × Mem => (cat [w_Model ct aM z.2 LM]))) (by decide +kernel) (Nat.le_of_ble_eq_true rfl) (fun p e s m args below meth c A X => i_X10_halve X F aM M LM x1)

noncomputable def f_X10_clear_26 (F : Nat) (LM : MemL) (x1 : Int32) (x2 : Int32) (k49 : Mem → Option (Int32 × Mem)) : Nat → Mem → Int32 → Option (Int32 × Mem)
  | 0, _, _ => none
  | n + 1, M, x3 =>
  ck 0 226 ((if ((M 1) (0 : Int32).toNatClampNeg) ≤ x3 then k49 M else ck x3 6 (f_X10_clear_26 F LM x1 x2 k49 n (mr M 5 (upd (M 5) x3.toNatClampNeg 0)) (x3 + 1))))
set_option maxRecDepth 100000 in
set_option maxHeartbeats 4000000 in
theorem i_X10_clear_26 {p : Program} {l : Launch} {e : Env} {s : State} {m : MethodId} {args : Array Value} {below : List Frame} {meth : Method} {c : Code} {D : va_G} {ct : im_ct} {A : Nat → Prop} (X : im_X p (im_rm 3) s m args meth c D ct A RX10 cX10_clear 4 (some .int)) (F : Nat) (aM : Nat → Nat) (LM : MemL) (x1 : Int32) (x2 : Int32) (k49 : Mem → Option (Int32 × Mem)) (hk49 : ∀ (M : Mem), Im p l e (im_rm 3) s m args below meth c D A 4 (QI D A (fun z : Int32 × Mem => z.1) (fun z : Int32 × Mem => (cat [w_Model ct aM z.2 LM]))) 49 [(0, .ref (aM 0)), (1, .int x1), (2, .int x2)] [] (cat [w_Model ct aM M LM]) (k49 M)) : ∀ (n : Nat) (M : Mem) (x3 : Int32), Im p l e (im_rm 3) s m args below meth c D A 4 (QI D A (fun z : Int32 × Mem => z.1) (fun z : Int32 × Mem => (cat [w_Model ct aM z.2 LM]))) 26 [(0, .ref (aM 0)), (1, .int x1), (2, .int x2), (3, .int x3)] [] (cat [w_Model ct aM M LM]) (f_X10_clear_26 F LM x1 x2 k49 n M x3) := by
  intro n
  induction n with
  | zero => intros; exact im_none
  | succ n ih =>
    intro M x3
    unfold f_X10_clear_26
    refine im_iload_n X 3 dX10_clear_26 rfl rfl ?_
    refine im_aload_n X 0 dX10_clear_27 rfl rfl ?_
    refine im_cget X 0 0 (v := .ref (aM 1)) fl_X10_13 rfl rfl rfl dX10_clear_28 ?_
    refine im_iconst X 0 dX10_clear_31 (by decide) ?_
    refine im_ciald X 0 1 0 (f := (M 1)) rfl rfl rfl dX10_clear_32 ?_
    refine im_icmp_ge (tgt := 49) X dX10_clear_33 rfl ?_ ?_
    · refine im_lv [0, 1, 2] [(0, .ref (aM 0)), (1, .int x1), (2, .int x2)] rfl ?_
      exact hk49 M
    · refine im_aload_n X 0 dX10_clear_36 rfl rfl ?_
      refine im_cget X 0 0 (v := .ref (aM 5)) fl_X10_26 rfl rfl rfl dX10_clear_37 ?_
      refine im_iload_n X 3 dX10_clear_40 rfl rfl ?_
      refine im_iconst X 0 dX10_clear_41 (by decide) ?_
      refine im_ciast X 0 5 0 (wx_Model ct aM (M 0 0) (M 0 4) (M 0 6) (M 0 7) (M 0 8) (M 0 9) (M 0 24) (M 0 27) (M 0 29) (M 0 31) (M 0 32) (M 0 33) (M 0 34) (M 0 35) (M 1) (M 2) (M 3) (M 4) (upd (M 5) x3.toNatClampNeg 0) (M 9) (M 10) (M 11) (M 12) (M 13) (M 14) (M 15) (M 16) (M 17) (M 18) (M 19) (M 20) (M 21) (M 22) (LM 6) (LM 7) (LM 8)) [wx_Model ct aM (M 0 0) (M 0 4) (M 0 6) (M 0 7) (M 0 8) (M 0 9) (M 0 24) (M 0 27) (M 0 29) (M 0 31) (M 0 32) (M 0 33) (M 0 34) (M 0 35) (M 1) (M 2) (M 3) (M 4) (upd (M 5) x3.toNatClampNeg 0) (M 9) (M 10) (M 11) (M 12) (M 13) (M 14) (M 15) (M 16) (M 17) (M 18) (M 19) (M 20) (M 21) (M 22) (LM 6) (LM 7) (LM 8)] (f := (M 5)) rfl rfl rfl rfl rfl dX10_clear_42 ?_
      refine im_iinc X 3 1 [1, 2, 3, 0] [(0, .ref (aM 0)), (1, .int x1), (2, .int x2), (3, .int (x3 + 1))] dX10_clear_43 (by decide) rfl (by decide) rfl ?_
      refine im_goto (tgt := 26) X dX10_clear_46 rfl ?_
      exact ih (mr M 5 (upd (M 5) x3.toNatClampNeg 0)) (x3 + 1)
noncomputable def f_X10_clear (F : Nat) (M : Mem) (LM : MemL) (x1 : Int32) : Option (Int32 × Mem) :=
  (f_X10_isRow F M LM x1).bind (fun z2 => (if z2 = 0 then (some ((-1), M)) else (f_X10_countersOf F M LM x1).bind (fun z10 => (if z10 = 0 then (some ((-1), M)) else (f_X10_sumOf F M LM x1).bind (fun z20 => f_X10_clear_26 F LM x1 z20 (fun M_49 => (f_X10_takesOwn F M_49 LM x1).bind (fun z51 => (some (z20, z51)))) F M 0)))))
set_option maxRecDepth 100000 in
set_option maxHeartbeats 4000000 in
theorem i_X10_clear {p : Program} {l : Launch} {e : Env} {s : State} {m : MethodId} {args : Array Value} {below : List Frame} {meth : Method} {c : Code} {D : va_G} {ct : im_ct} {A : Nat → Prop} (X : im_X p (im_rm 3) s m args meth c D ct A RX10 cX10_clear 4 (some .int)) (F : Nat) (aM : Nat → Nat) (M : Mem) (LM : MemL) (x1 : Int32) : Im p l e (im_rm 3) s m args below meth c D A 4 (QI D A (fun z : Int32 × Mem => z.1) (fun z : Int32 × Mem => (cat [w_Model ct aM z.2 LM]))) 0 [(0, .ref (aM 0)), (1, .int x1)] [] (cat [w_Model ct aM M LM]) (f_X10_clear F M LM x1) := by
  unfold f_X10_clear
  refine im_aload_n X 0 dX10_clear_0 rfl rfl ?_
  refine im_iload_n X 1 dX10_clear_1 rfl rfl ?_
  refine im_cciV X [.int x1] [] [w_Model ct aM M LM] [w_Model ct aM M LM] [0] (fun z2 => [w_Model ct aM M LM]) 0 0 10 rfl rfl rfl cl_X10_90 (c_X10_isRow l D ct F aM M LM x1) rfl (by decide) (fun _ => lc rfl (rfl)) rfl ⟨by decide, by decide⟩ (Nat.le_of_ble_eq_true rfl) rfl dX10_clear_2 (fun z2 => ?_)
  refine im_ws (cat [w_Model ct aM M LM]) rfl ?_
  refine im_if_eq (tgt := 16) X dX10_clear_5 rfl ?_ ?_
  · refine im_iconst X (-1) dX10_clear_16 (by decide) ?_
    exact im_ireturn X ((-1), M) rfl rfl dX10_clear_17
  · refine im_aload_n X 0 dX10_clear_8 rfl rfl ?_
    refine im_iload_n X 1 dX10_clear_9 rfl rfl ?_
    refine im_cciV X [.int x1] [] [w_Model ct aM M LM] [w_Model ct aM M LM] [0] (fun z10 => [w_Model ct aM M LM]) 0 0 10 rfl rfl rfl cl_X10_199 (c_X10_countersOf l D ct F aM M LM x1) rfl (by decide) (fun _ => lc rfl (rfl)) rfl ⟨by decide, by decide⟩ (Nat.le_of_ble_eq_true rfl) rfl dX10_clear_10 (fun z10 => ?_)
    refine im_ws (cat [w_Model ct aM M LM]) rfl ?_
    refine im_if_ne (tgt := 18) X dX10_clear_13 rfl ?_ ?_
    · refine im_aload_n X 0 dX10_clear_18 rfl rfl ?_
      refine im_iload_n X 1 dX10_clear_19 rfl rfl ?_
      refine im_cciV X [.int x1] [] [w_Model ct aM M LM] [w_Model ct aM M LM] [0] (fun z20 => [w_Model ct aM M LM]) 0 0 10 rfl rfl rfl cl_X10_121 (c_X10_sumOf l D ct F aM M LM x1) rfl (by decide) (fun _ => lc rfl (rfl)) rfl ⟨by decide, by decide⟩ (Nat.le_of_ble_eq_true rfl) rfl dX10_clear_20 (fun z20 => ?_)
      refine im_ws (cat [w_Model ct aM M LM]) rfl ?_
      refine im_istore_n X [1, 2, 0] [(0, .ref (aM 0)), (1, .int x1), (2, .int z20)] dX10_clear_23 rfl (by decide) rfl ?_
      refine im_iconst X 0 dX10_clear_24 (by decide) ?_
      refine im_istore_n X [1, 2, 3, 0] [(0, .ref (aM 0)), (1, .int x1), (2, .int z20), (3, .int 0)] dX10_clear_25 rfl (by decide) rfl ?_
      refine i_X10_clear_26 X F aM LM x1 z20 _ (fun M_49 => ?_) F M 0
      refine im_aload_n X 0 dX10_clear_49 rfl rfl ?_
      refine im_iload_n X 1 dX10_clear_50 rfl rfl ?_
      refine im_ccvV X [.int x1] [] [w_Model ct aM M_49 LM] [w_Model ct aM M_49 LM] [0] (fun z51 => [w_Model ct aM z51 LM]) 0 0 10 rfl rfl rfl cl_X10_202 (c_X10_takesOwn l D ct F aM M_49 LM x1) rfl (by decide) (fun _ => lc fa_Model (rfl)) rfl ⟨by decide, by decide⟩ (Nat.le_of_ble_eq_true rfl) rfl dX10_clear_51 (fun z51 => ?_)
      refine im_ws (cat [w_Model ct aM z51 LM]) rfl ?_
      refine im_iload_n X 2 dX10_clear_54 rfl rfl ?_
      exact im_ireturn X (z20, z51) rfl rfl dX10_clear_55
    · refine im_iconst X (-1) dX10_clear_16 (by decide) ?_
      exact im_ireturn X ((-1), M) rfl rfl dX10_clear_17
theorem c_X10_clear (l : Launch) (D : va_G) (ct : im_ct) (F : Nat) (aM : Nat → Nat) (M : Mem) (LM : MemL) (x1 : Int32) : CMi l D ct yX10_clear cX10_clear 4 (some .int) 3 [.ref (aM 0), .int x1] (cat [w_Model ct aM M LM]) (f_X10_clear F M LM x1) (fun z : Int32 × Mem => z.1) (fun z : Int32 × Mem => (cat [w_Model ct aM z.2 LM])) :=
  im_met (Qb := fun A => QI D A (fun z : Int32 × Mem => z.1) (fun z : Int32 × Mem => (cat [w_Model ct aM z.2 LM]))) (by decide +kernel) (Nat.le_of_ble_eq_true rfl) (fun p e s m args below meth c A X => i_X10_clear X F aM M LM x1)

