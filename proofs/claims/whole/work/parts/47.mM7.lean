noncomputable def f_X10_readsAll_95 (F : Nat) (M : Mem) (LM : MemL) (x2 : Int32) (x3 : Int32) (k2 : Mem → Int32 → Option (Mem)) : Option (Mem) :=
  (f_X10_stage F x3).bind (fun z96 => (if x3 = 0 then (f_X10_readsColumn F M LM x2).bind (fun z106 => k2 z106 z96) else (if x3 = 1 then (f_X10_readsRow F M LM x2).bind (fun z119 => k2 z119 z96) else (if x3 = 7 then (f_X10_readsSeen F M LM x2).bind (fun z133 => k2 z133 z96) else (f_X10_readsMove F M LM x2 (x3 - 2)).bind (fun z144 => k2 z144 z96)))))
set_option maxRecDepth 100000 in
set_option maxHeartbeats 4000000 in
theorem i_X10_readsAll_95 {p : Program} {l : Launch} {e : Env} {s : State} {m : MethodId} {args : Array Value} {below : List Frame} {meth : Method} {c : Code} {D : va_G} {ct : im_ct} {A : Nat → Prop} (X : im_X p (im_rm 6) s m args meth c D ct A RX10 cX10_readsAll 5 none) (F : Nat) (aM : Nat → Nat) (M : Mem) (LM : MemL) (x2 : Int32) (x3 : Int32) (k2 : Mem → Int32 → Option (Mem)) (hk2 : ∀ (M : Mem) (x1 : Int32), Im p l e (im_rm 6) s m args below meth c D A 5 (QV D A (fun z : Mem => (cat [w_Model ct aM z LM]))) 2 [(0, .ref (aM 0)), (1, .int x1)] [] (cat [w_Model ct aM M LM]) (k2 M x1)) : Im p l e (im_rm 6) s m args below meth c D A 5 (QV D A (fun z : Mem => (cat [w_Model ct aM z LM]))) 95 [(0, .ref (aM 0)), (2, .int x2), (3, .int x3)] [] (cat [w_Model ct aM M LM]) (f_X10_readsAll_95 F M LM x2 x3 k2) := by
  unfold f_X10_readsAll_95
  refine im_iload_n X 2 dX10_readsAll_95 rfl rfl ?_
  refine im_cciS X [.int x3] [] [w_Model ct aM M LM] [] [] (fun z96 => []) cl_X10_366 (c_X10_stage l D ct F x3) rfl (by decide) (fun _ => rfl) rfl ⟨by decide, by decide⟩ (Nat.le_of_ble_eq_true rfl) rfl dX10_readsAll_96 (fun z96 => ?_)
  refine im_ws (cat [w_Model ct aM M LM]) rfl ?_
  refine im_istore_n X [1, 0, 2, 3] [(0, .ref (aM 0)), (1, .int z96), (2, .int x2), (3, .int x3)] dX10_readsAll_99 rfl (by decide) rfl ?_
  refine im_iload_n X 3 dX10_readsAll_100 rfl rfl ?_
  refine im_if_ne (tgt := 112) X dX10_readsAll_101 rfl ?_ ?_
  · refine im_iload_n X 3 dX10_readsAll_112 rfl rfl ?_
    refine im_iconst X 1 dX10_readsAll_113 (by decide) ?_
    refine im_icmp_ne (tgt := 125) X dX10_readsAll_114 rfl ?_ ?_
    · refine im_iload_n X 3 dX10_readsAll_125 rfl rfl ?_
      refine im_bipush X 7 dX10_readsAll_126 (by decide) ?_
      refine im_icmp_ne (tgt := 139) X dX10_readsAll_128 rfl ?_ ?_
      · refine im_aload_n X 0 dX10_readsAll_139 rfl rfl ?_
        refine im_iload_n X 2 dX10_readsAll_140 rfl rfl ?_
        refine im_iload_n X 3 dX10_readsAll_141 rfl rfl ?_
        refine im_iconst X 2 dX10_readsAll_142 (by decide) ?_
        refine im_isub X dX10_readsAll_143 ?_
        refine im_ccvV X [.int x2, .int (x3 - 2)] [] [w_Model ct aM M LM] [w_Model ct aM M LM] [0] (fun z144 => [w_Model ct aM z144 LM]) 0 0 10 rfl rfl rfl cl_X10_378 (c_X10_readsMove l D ct F aM M LM x2 (x3 - 2)) rfl (by decide) (fun _ => lc fa_Model (rfl)) rfl ⟨by decide, by decide⟩ (Nat.le_of_ble_eq_true rfl) rfl dX10_readsAll_144 (fun z144 => ?_)
        refine im_ws (cat [w_Model ct aM z144 LM]) rfl ?_
        refine im_goto (tgt := 2) X dX10_readsAll_147 rfl ?_
        refine im_lv [0, 1] [(0, .ref (aM 0)), (1, .int z96)] rfl ?_
        exact hk2 z144 z96
      · refine im_aload_n X 0 dX10_readsAll_131 rfl rfl ?_
        refine im_iload_n X 2 dX10_readsAll_132 rfl rfl ?_
        refine im_ccvV X [.int x2] [] [w_Model ct aM M LM] [w_Model ct aM M LM] [0] (fun z133 => [w_Model ct aM z133 LM]) 0 0 10 rfl rfl rfl cl_X10_375 (c_X10_readsSeen l D ct F aM M LM x2) rfl (by decide) (fun _ => lc fa_Model (rfl)) rfl ⟨by decide, by decide⟩ (Nat.le_of_ble_eq_true rfl) rfl dX10_readsAll_133 (fun z133 => ?_)
        refine im_ws (cat [w_Model ct aM z133 LM]) rfl ?_
        refine im_goto (tgt := 147) X dX10_readsAll_136 rfl ?_
        refine im_goto (tgt := 2) X dX10_readsAll_147 rfl ?_
        refine im_lv [0, 1] [(0, .ref (aM 0)), (1, .int z96)] rfl ?_
        exact hk2 z133 z96
    · refine im_aload_n X 0 dX10_readsAll_117 rfl rfl ?_
      refine im_iload_n X 2 dX10_readsAll_118 rfl rfl ?_
      refine im_ccvV X [.int x2] [] [w_Model ct aM M LM] [w_Model ct aM M LM] [0] (fun z119 => [w_Model ct aM z119 LM]) 0 0 10 rfl rfl rfl cl_X10_372 (c_X10_readsRow l D ct F aM M LM x2) rfl (by decide) (fun _ => lc fa_Model (rfl)) rfl ⟨by decide, by decide⟩ (Nat.le_of_ble_eq_true rfl) rfl dX10_readsAll_119 (fun z119 => ?_)
      refine im_ws (cat [w_Model ct aM z119 LM]) rfl ?_
      refine im_goto (tgt := 147) X dX10_readsAll_122 rfl ?_
      refine im_goto (tgt := 2) X dX10_readsAll_147 rfl ?_
      refine im_lv [0, 1] [(0, .ref (aM 0)), (1, .int z96)] rfl ?_
      exact hk2 z119 z96
  · refine im_aload_n X 0 dX10_readsAll_104 rfl rfl ?_
    refine im_iload_n X 2 dX10_readsAll_105 rfl rfl ?_
    refine im_ccvV X [.int x2] [] [w_Model ct aM M LM] [w_Model ct aM M LM] [0] (fun z106 => [w_Model ct aM z106 LM]) 0 0 10 rfl rfl rfl cl_X10_369 (c_X10_readsColumn l D ct F aM M LM x2) rfl (by decide) (fun _ => lc fa_Model (rfl)) rfl ⟨by decide, by decide⟩ (Nat.le_of_ble_eq_true rfl) rfl dX10_readsAll_106 (fun z106 => ?_)
    refine im_ws (cat [w_Model ct aM z106 LM]) rfl ?_
    refine im_goto (tgt := 147) X dX10_readsAll_109 rfl ?_
    refine im_goto (tgt := 2) X dX10_readsAll_147 rfl ?_
    refine im_lv [0, 1] [(0, .ref (aM 0)), (1, .int z96)] rfl ?_
    exact hk2 z106 z96
noncomputable def f_X10_readsAll_62 (F : Nat) (LM : MemL) (x2 : Int32) (x3 : Int32) (k95 : Mem → Option (Mem)) : Nat → Mem → Int32 → Option (Mem)
  | 0, _, _ => none
  | n + 1, M, x4 =>
  (if 24 ≤ x4 then k95 M else ck (8 + x4) 226 (ck (32 + x4) 226 (f_X10_readsAll_62 F LM x2 x3 k95 n (mr M 2 (upd (M 2) ((32 + x4)).toNatClampNeg ((M 2) ((8 + x4)).toNatClampNeg))) (x4 + 1))))
set_option maxRecDepth 100000 in
set_option maxHeartbeats 4000000 in
theorem i_X10_readsAll_62 {p : Program} {l : Launch} {e : Env} {s : State} {m : MethodId} {args : Array Value} {below : List Frame} {meth : Method} {c : Code} {D : va_G} {ct : im_ct} {A : Nat → Prop} (X : im_X p (im_rm 6) s m args meth c D ct A RX10 cX10_readsAll 5 none) (F : Nat) (aM : Nat → Nat) (LM : MemL) (x2 : Int32) (x3 : Int32) (k95 : Mem → Option (Mem)) (hk95 : ∀ (M : Mem), Im p l e (im_rm 6) s m args below meth c D A 5 (QV D A (fun z : Mem => (cat [w_Model ct aM z LM]))) 95 [(0, .ref (aM 0)), (2, .int x2), (3, .int x3)] [] (cat [w_Model ct aM M LM]) (k95 M)) : ∀ (n : Nat) (M : Mem) (x4 : Int32), Im p l e (im_rm 6) s m args below meth c D A 5 (QV D A (fun z : Mem => (cat [w_Model ct aM z LM]))) 62 [(0, .ref (aM 0)), (2, .int x2), (3, .int x3), (4, .int x4)] [] (cat [w_Model ct aM M LM]) (f_X10_readsAll_62 F LM x2 x3 k95 n M x4) := by
  intro n
  induction n with
  | zero => intros; exact im_none
  | succ n ih =>
    intro M x4
    unfold f_X10_readsAll_62
    refine im_iload X 3 dX10_readsAll_62 rfl ?_
    refine im_bipush X 24 dX10_readsAll_64 (by decide) ?_
    refine im_icmp_ge (tgt := 95) X dX10_readsAll_66 rfl ?_ ?_
    · refine im_lv [0, 1, 2] [(0, .ref (aM 0)), (2, .int x2), (3, .int x3)] rfl ?_
      exact hk95 M
    · refine im_aload_n X 0 dX10_readsAll_69 rfl rfl ?_
      refine im_cget X 0 0 (v := .ref (aM 2)) fl_X10_17 rfl rfl rfl dX10_readsAll_70 ?_
      refine im_bipush X 32 dX10_readsAll_73 (by decide) ?_
      refine im_iload X 3 dX10_readsAll_75 rfl ?_
      refine im_iadd X dX10_readsAll_77 ?_
      refine im_aload_n X 0 dX10_readsAll_78 rfl rfl ?_
      refine im_cget X 0 0 (v := .ref (aM 2)) fl_X10_17 rfl rfl rfl dX10_readsAll_79 ?_
      refine im_bipush X 8 dX10_readsAll_82 (by decide) ?_
      refine im_iload X 3 dX10_readsAll_84 rfl ?_
      refine im_iadd X dX10_readsAll_86 ?_
      refine im_ciald X 0 2 0 (f := (M 2)) rfl rfl rfl dX10_readsAll_87 ?_
      refine im_ciast X 0 2 0 (wx_Model ct aM (M 0 0) (M 0 4) (M 0 6) (M 0 7) (M 0 8) (M 0 9) (M 0 24) (M 0 27) (M 0 29) (M 0 31) (M 0 32) (M 0 33) (M 0 34) (M 0 35) (M 1) (upd (M 2) ((32 + x4)).toNatClampNeg ((M 2) ((8 + x4)).toNatClampNeg)) (M 3) (M 4) (M 5) (M 9) (M 10) (M 11) (M 12) (M 13) (M 14) (M 15) (M 16) (M 17) (M 18) (M 19) (M 20) (M 21) (M 22) (LM 6) (LM 7) (LM 8)) [wx_Model ct aM (M 0 0) (M 0 4) (M 0 6) (M 0 7) (M 0 8) (M 0 9) (M 0 24) (M 0 27) (M 0 29) (M 0 31) (M 0 32) (M 0 33) (M 0 34) (M 0 35) (M 1) (upd (M 2) ((32 + x4)).toNatClampNeg ((M 2) ((8 + x4)).toNatClampNeg)) (M 3) (M 4) (M 5) (M 9) (M 10) (M 11) (M 12) (M 13) (M 14) (M 15) (M 16) (M 17) (M 18) (M 19) (M 20) (M 21) (M 22) (LM 6) (LM 7) (LM 8)] (f := (M 2)) rfl rfl rfl rfl rfl dX10_readsAll_88 ?_
      refine im_iinc X 3 1 [1, 2, 3, 0] [(0, .ref (aM 0)), (2, .int x2), (3, .int x3), (4, .int (x4 + 1))] dX10_readsAll_89 (by decide) rfl (by decide) rfl ?_
      refine im_goto (tgt := 62) X dX10_readsAll_92 rfl ?_
      exact ih (mr M 2 (upd (M 2) ((32 + x4)).toNatClampNeg ((M 2) ((8 + x4)).toNatClampNeg))) (x4 + 1)
noncomputable def f_X10_readsAll_2 (F : Nat) (LM : MemL) (k40 : Mem → Int32 → Option (Mem)) (k150 : Mem → Int32 → Option (Mem)) : Nat → Mem → Int32 → Option (Mem)
  | 0, _, _ => none
  | n + 1, M, x1 =>
  (if (M 0 35) = (-1) then (if (M 0 32) = 0 then k150 M x1 else (f_X10_lineHere F M LM).bind (fun z23 => (if z23 = (-1) then k40 M (M 0 33) else (f_X10_stage F z23).bind (fun z33 => (if x1 ≤ z33 then (if 2 ≤ x1 then f_X10_readsAll_95 F M LM (M 0 33) z23 (f_X10_readsAll_2 F LM k40 k150 n) else (f_X10_stage F z23).bind (fun z52 => (if z52 < 2 then f_X10_readsAll_95 F M LM (M 0 33) z23 (f_X10_readsAll_2 F LM k40 k150 n) else f_X10_readsAll_62 F LM (M 0 33) z23 (fun M_95 => f_X10_readsAll_95 F M_95 LM (M 0 33) z23 (f_X10_readsAll_2 F LM k40 k150 n)) F M 0))) else k40 M (M 0 33)))))) else k150 M x1)
set_option maxRecDepth 100000 in
set_option maxHeartbeats 4000000 in
theorem i_X10_readsAll_2 {p : Program} {l : Launch} {e : Env} {s : State} {m : MethodId} {args : Array Value} {below : List Frame} {meth : Method} {c : Code} {D : va_G} {ct : im_ct} {A : Nat → Prop} (X : im_X p (im_rm 6) s m args meth c D ct A RX10 cX10_readsAll 5 none) (F : Nat) (aM : Nat → Nat) (LM : MemL) (k40 : Mem → Int32 → Option (Mem)) (hk40 : ∀ (M : Mem) (x2 : Int32), Im p l e (im_rm 6) s m args below meth c D A 5 (QV D A (fun z : Mem => (cat [w_Model ct aM z LM]))) 40 [(0, .ref (aM 0)), (2, .int x2)] [] (cat [w_Model ct aM M LM]) (k40 M x2)) (k150 : Mem → Int32 → Option (Mem)) (hk150 : ∀ (M : Mem) (x1 : Int32), Im p l e (im_rm 6) s m args below meth c D A 5 (QV D A (fun z : Mem => (cat [w_Model ct aM z LM]))) 150 [(0, .ref (aM 0)), (1, .int x1)] [] (cat [w_Model ct aM M LM]) (k150 M x1)) : ∀ (n : Nat) (M : Mem) (x1 : Int32), Im p l e (im_rm 6) s m args below meth c D A 5 (QV D A (fun z : Mem => (cat [w_Model ct aM z LM]))) 2 [(0, .ref (aM 0)), (1, .int x1)] [] (cat [w_Model ct aM M LM]) (f_X10_readsAll_2 F LM k40 k150 n M x1) := by
  intro n
  induction n with
  | zero => intros; exact im_none
  | succ n ih =>
    intro M x1
    unfold f_X10_readsAll_2
    refine im_aload_n X 0 dX10_readsAll_2 rfl rfl ?_
    refine im_cget X 0 0 (v := .int (M 0 35)) fl_X10_342 rfl rfl rfl dX10_readsAll_3 ?_
    refine im_iconst X (-1) dX10_readsAll_6 (by decide) ?_
    refine im_icmp_ne (tgt := 150) X dX10_readsAll_7 rfl ?_ ?_
    · exact hk150 M x1
    · refine im_aload_n X 0 dX10_readsAll_10 rfl rfl ?_
      refine im_cget X 0 0 (v := .int (M 0 32)) fl_X10_322 rfl rfl rfl dX10_readsAll_11 ?_
      refine im_if_eq (tgt := 150) X dX10_readsAll_14 rfl ?_ ?_
      · exact hk150 M x1
      · refine im_aload_n X 0 dX10_readsAll_17 rfl rfl ?_
        refine im_cget X 0 0 (v := .int (M 0 33)) fl_X10_328 rfl rfl rfl dX10_readsAll_18 ?_
        refine im_istore_n X [1, 2, 0] [(0, .ref (aM 0)), (1, .int x1), (2, .int (M 0 33))] dX10_readsAll_21 rfl (by decide) rfl ?_
        refine im_aload_n X 0 dX10_readsAll_22 rfl rfl ?_
        refine im_cciV X [] [] [w_Model ct aM M LM] [w_Model ct aM M LM] [0] (fun z23 => [w_Model ct aM M LM]) 0 0 10 rfl rfl rfl cl_X10_363 (c_X10_lineHere l D ct F aM M LM) rfl (by decide) (fun _ => lc rfl (rfl)) rfl ⟨by decide, by decide⟩ (Nat.le_of_ble_eq_true rfl) rfl dX10_readsAll_23 (fun z23 => ?_)
        refine im_ws (cat [w_Model ct aM M LM]) rfl ?_
        refine im_istore_n X [1, 2, 3, 0] [(0, .ref (aM 0)), (1, .int x1), (2, .int (M 0 33)), (3, .int z23)] dX10_readsAll_26 rfl (by decide) rfl ?_
        refine im_iload_n X 3 dX10_readsAll_27 rfl rfl ?_
        refine im_iconst X (-1) dX10_readsAll_28 (by decide) ?_
        refine im_icmp_eq (tgt := 40) X dX10_readsAll_29 rfl ?_ ?_
        · refine im_lv [0, 2] [(0, .ref (aM 0)), (2, .int (M 0 33))] rfl ?_
          exact hk40 M (M 0 33)
        · refine im_iload_n X 3 dX10_readsAll_32 rfl rfl ?_
          refine im_cciS X [.int z23] [] [w_Model ct aM M LM] [] [] (fun z33 => []) cl_X10_366 (c_X10_stage l D ct F z23) rfl (by decide) (fun _ => rfl) rfl ⟨by decide, by decide⟩ (Nat.le_of_ble_eq_true rfl) rfl dX10_readsAll_33 (fun z33 => ?_)
          refine im_ws (cat [w_Model ct aM M LM]) rfl ?_
          refine im_iload_n X 1 dX10_readsAll_36 rfl rfl ?_
          refine im_icmp_ge (tgt := 46) X dX10_readsAll_37 rfl ?_ ?_
          · refine im_iload_n X 1 dX10_readsAll_46 rfl rfl ?_
            refine im_iconst X 2 dX10_readsAll_47 (by decide) ?_
            refine im_icmp_ge (tgt := 95) X dX10_readsAll_48 rfl ?_ ?_
            · refine im_lv [0, 2, 3] [(0, .ref (aM 0)), (2, .int (M 0 33)), (3, .int z23)] rfl ?_
              exact i_X10_readsAll_95 X F aM M LM (M 0 33) z23 _ ih
            · refine im_iload_n X 3 dX10_readsAll_51 rfl rfl ?_
              refine im_cciS X [.int z23] [] [w_Model ct aM M LM] [] [] (fun z52 => []) cl_X10_366 (c_X10_stage l D ct F z23) rfl (by decide) (fun _ => rfl) rfl ⟨by decide, by decide⟩ (Nat.le_of_ble_eq_true rfl) rfl dX10_readsAll_52 (fun z52 => ?_)
              refine im_ws (cat [w_Model ct aM M LM]) rfl ?_
              refine im_iconst X 2 dX10_readsAll_55 (by decide) ?_
              refine im_icmp_lt (tgt := 95) X dX10_readsAll_56 rfl ?_ ?_
              · refine im_lv [0, 2, 3] [(0, .ref (aM 0)), (2, .int (M 0 33)), (3, .int z23)] rfl ?_
                exact i_X10_readsAll_95 X F aM M LM (M 0 33) z23 _ ih
              · refine im_iconst X 0 dX10_readsAll_59 (by decide) ?_
                refine im_istore X [1, 2, 3, 4, 0] [(0, .ref (aM 0)), (1, .int x1), (2, .int (M 0 33)), (3, .int z23), (4, .int 0)] dX10_readsAll_60 (by decide) rfl ?_
                refine im_lv [0, 2, 3, 4] [(0, .ref (aM 0)), (2, .int (M 0 33)), (3, .int z23), (4, .int 0)] rfl ?_
                refine i_X10_readsAll_62 X F aM LM (M 0 33) z23 _ (fun M_95 => ?_) F M 0
                exact i_X10_readsAll_95 X F aM M_95 LM (M 0 33) z23 _ ih
          · refine im_lv [0, 2] [(0, .ref (aM 0)), (2, .int (M 0 33))] rfl ?_
            exact hk40 M (M 0 33)
noncomputable def f_X10_readsAll_40 (F : Nat) (M : Mem) (LM : MemL) (x2 : Int32) : Option (Mem) :=
  (f_X10_fails F M LM x2).bind (fun z42 => (some z42))
set_option maxRecDepth 100000 in
set_option maxHeartbeats 4000000 in
theorem i_X10_readsAll_40 {p : Program} {l : Launch} {e : Env} {s : State} {m : MethodId} {args : Array Value} {below : List Frame} {meth : Method} {c : Code} {D : va_G} {ct : im_ct} {A : Nat → Prop} (X : im_X p (im_rm 6) s m args meth c D ct A RX10 cX10_readsAll 5 none) (F : Nat) (aM : Nat → Nat) (M : Mem) (LM : MemL) (x2 : Int32) : Im p l e (im_rm 6) s m args below meth c D A 5 (QV D A (fun z : Mem => (cat [w_Model ct aM z LM]))) 40 [(0, .ref (aM 0)), (2, .int x2)] [] (cat [w_Model ct aM M LM]) (f_X10_readsAll_40 F M LM x2) := by
  unfold f_X10_readsAll_40
  refine im_aload_n X 0 dX10_readsAll_40 rfl rfl ?_
  refine im_iload_n X 1 dX10_readsAll_41 rfl rfl ?_
  refine im_ccvV X [.int x2] [] [w_Model ct aM M LM] [w_Model ct aM M LM] [0] (fun z42 => [w_Model ct aM z42 LM]) 0 0 10 rfl rfl rfl cl_X10_345 (c_X10_fails l D ct F aM M LM x2) rfl (by decide) (fun _ => lc fa_Model (rfl)) rfl ⟨by decide, by decide⟩ (Nat.le_of_ble_eq_true rfl) rfl dX10_readsAll_42 (fun z42 => ?_)
  refine im_ws (cat [w_Model ct aM z42 LM]) rfl ?_
  exact im_return X z42 rfl dX10_readsAll_45
noncomputable def f_X10_readsAll_157 (F : Nat) (LM : MemL) (k187 : Mem → Option (Mem)) : Nat → Mem → Int32 → Option (Mem)
  | 0, _, _ => none
  | n + 1, M, x2 =>
  (if 24 ≤ x2 then k187 M else ck (8 + x2) 226 (ck (32 + x2) 226 (f_X10_readsAll_157 F LM k187 n (mr M 2 (upd (M 2) ((32 + x2)).toNatClampNeg ((M 2) ((8 + x2)).toNatClampNeg))) (x2 + 1))))
set_option maxRecDepth 100000 in
set_option maxHeartbeats 4000000 in
theorem i_X10_readsAll_157 {p : Program} {l : Launch} {e : Env} {s : State} {m : MethodId} {args : Array Value} {below : List Frame} {meth : Method} {c : Code} {D : va_G} {ct : im_ct} {A : Nat → Prop} (X : im_X p (im_rm 6) s m args meth c D ct A RX10 cX10_readsAll 5 none) (F : Nat) (aM : Nat → Nat) (LM : MemL) (k187 : Mem → Option (Mem)) (hk187 : ∀ (M : Mem), Im p l e (im_rm 6) s m args below meth c D A 5 (QV D A (fun z : Mem => (cat [w_Model ct aM z LM]))) 187 [] [] (cat [w_Model ct aM M LM]) (k187 M)) : ∀ (n : Nat) (M : Mem) (x2 : Int32), Im p l e (im_rm 6) s m args below meth c D A 5 (QV D A (fun z : Mem => (cat [w_Model ct aM z LM]))) 157 [(0, .ref (aM 0)), (2, .int x2)] [] (cat [w_Model ct aM M LM]) (f_X10_readsAll_157 F LM k187 n M x2) := by
  intro n
  induction n with
  | zero => intros; exact im_none
  | succ n ih =>
    intro M x2
    unfold f_X10_readsAll_157
    refine im_iload_n X 1 dX10_readsAll_157 rfl rfl ?_
    refine im_bipush X 24 dX10_readsAll_158 (by decide) ?_
    refine im_icmp_ge (tgt := 187) X dX10_readsAll_160 rfl ?_ ?_
    · refine im_lv [] [] rfl ?_
      exact hk187 M
    · refine im_aload_n X 0 dX10_readsAll_163 rfl rfl ?_
      refine im_cget X 0 0 (v := .ref (aM 2)) fl_X10_17 rfl rfl rfl dX10_readsAll_164 ?_
      refine im_bipush X 32 dX10_readsAll_167 (by decide) ?_
      refine im_iload_n X 1 dX10_readsAll_169 rfl rfl ?_
      refine im_iadd X dX10_readsAll_170 ?_
      refine im_aload_n X 0 dX10_readsAll_171 rfl rfl ?_
      refine im_cget X 0 0 (v := .ref (aM 2)) fl_X10_17 rfl rfl rfl dX10_readsAll_172 ?_
      refine im_bipush X 8 dX10_readsAll_175 (by decide) ?_
      refine im_iload_n X 1 dX10_readsAll_177 rfl rfl ?_
      refine im_iadd X dX10_readsAll_178 ?_
      refine im_ciald X 0 2 0 (f := (M 2)) rfl rfl rfl dX10_readsAll_179 ?_
      refine im_ciast X 0 2 0 (wx_Model ct aM (M 0 0) (M 0 4) (M 0 6) (M 0 7) (M 0 8) (M 0 9) (M 0 24) (M 0 27) (M 0 29) (M 0 31) (M 0 32) (M 0 33) (M 0 34) (M 0 35) (M 1) (upd (M 2) ((32 + x2)).toNatClampNeg ((M 2) ((8 + x2)).toNatClampNeg)) (M 3) (M 4) (M 5) (M 9) (M 10) (M 11) (M 12) (M 13) (M 14) (M 15) (M 16) (M 17) (M 18) (M 19) (M 20) (M 21) (M 22) (LM 6) (LM 7) (LM 8)) [wx_Model ct aM (M 0 0) (M 0 4) (M 0 6) (M 0 7) (M 0 8) (M 0 9) (M 0 24) (M 0 27) (M 0 29) (M 0 31) (M 0 32) (M 0 33) (M 0 34) (M 0 35) (M 1) (upd (M 2) ((32 + x2)).toNatClampNeg ((M 2) ((8 + x2)).toNatClampNeg)) (M 3) (M 4) (M 5) (M 9) (M 10) (M 11) (M 12) (M 13) (M 14) (M 15) (M 16) (M 17) (M 18) (M 19) (M 20) (M 21) (M 22) (LM 6) (LM 7) (LM 8)] (f := (M 2)) rfl rfl rfl rfl rfl dX10_readsAll_180 ?_
      refine im_iinc X 1 1 [1, 0] [(0, .ref (aM 0)), (2, .int (x2 + 1))] dX10_readsAll_181 (by decide) rfl (by decide) rfl ?_
      refine im_goto (tgt := 157) X dX10_readsAll_184 rfl ?_
      exact ih (mr M 2 (upd (M 2) ((32 + x2)).toNatClampNeg ((M 2) ((8 + x2)).toNatClampNeg))) (x2 + 1)
noncomputable def f_X10_readsAll_150 (F : Nat) (M : Mem) (LM : MemL) (x1 : Int32) : Option (Mem) :=
  (if 2 ≤ x1 then (some M) else f_X10_readsAll_157 F LM (fun M_187 => (some M_187)) F M 0)
set_option maxRecDepth 100000 in
set_option maxHeartbeats 4000000 in
theorem i_X10_readsAll_150 {p : Program} {l : Launch} {e : Env} {s : State} {m : MethodId} {args : Array Value} {below : List Frame} {meth : Method} {c : Code} {D : va_G} {ct : im_ct} {A : Nat → Prop} (X : im_X p (im_rm 6) s m args meth c D ct A RX10 cX10_readsAll 5 none) (F : Nat) (aM : Nat → Nat) (M : Mem) (LM : MemL) (x1 : Int32) : Im p l e (im_rm 6) s m args below meth c D A 5 (QV D A (fun z : Mem => (cat [w_Model ct aM z LM]))) 150 [(0, .ref (aM 0)), (1, .int x1)] [] (cat [w_Model ct aM M LM]) (f_X10_readsAll_150 F M LM x1) := by
  unfold f_X10_readsAll_150
  refine im_iload_n X 1 dX10_readsAll_150 rfl rfl ?_
  refine im_iconst X 2 dX10_readsAll_151 (by decide) ?_
  refine im_icmp_ge (tgt := 187) X dX10_readsAll_152 rfl ?_ ?_
  · exact im_return X M rfl dX10_readsAll_187
  · refine im_iconst X 0 dX10_readsAll_155 (by decide) ?_
    refine im_istore_n X [1, 2, 0] [(0, .ref (aM 0)), (1, .int x1), (2, .int 0)] dX10_readsAll_156 rfl (by decide) rfl ?_
    refine im_lv [0, 2] [(0, .ref (aM 0)), (2, .int 0)] rfl ?_
    refine i_X10_readsAll_157 X F aM LM  _ (fun M_187 => ?_) F M 0
    exact im_return X M_187 rfl dX10_readsAll_187
noncomputable def f_X10_readsAll (F : Nat) (M : Mem) (LM : MemL) : Option (Mem) :=
  f_X10_readsAll_2 F LM (fun M_40 x2_40 => f_X10_readsAll_40 F M_40 LM x2_40) (fun M_150 x1_150 => f_X10_readsAll_150 F M_150 LM x1_150) F M 0
set_option maxRecDepth 100000 in
set_option maxHeartbeats 4000000 in
theorem i_X10_readsAll {p : Program} {l : Launch} {e : Env} {s : State} {m : MethodId} {args : Array Value} {below : List Frame} {meth : Method} {c : Code} {D : va_G} {ct : im_ct} {A : Nat → Prop} (X : im_X p (im_rm 6) s m args meth c D ct A RX10 cX10_readsAll 5 none) (F : Nat) (aM : Nat → Nat) (M : Mem) (LM : MemL) : Im p l e (im_rm 6) s m args below meth c D A 5 (QV D A (fun z : Mem => (cat [w_Model ct aM z LM]))) 0 [(0, .ref (aM 0))] [] (cat [w_Model ct aM M LM]) (f_X10_readsAll F M LM) := by
  unfold f_X10_readsAll
  refine im_iconst X 0 dX10_readsAll_0 (by decide) ?_
  refine im_istore_n X [1, 0] [(0, .ref (aM 0)), (1, .int 0)] dX10_readsAll_1 rfl (by decide) rfl ?_
  refine i_X10_readsAll_2 X F aM LM  _ (fun M_40 x2_40 => ?_) _ (fun M_150 x1_150 => ?_) F M 0
  · exact i_X10_readsAll_40 X F aM M_40 LM x2_40 
  · exact i_X10_readsAll_150 X F aM M_150 LM x1_150 
theorem c_X10_readsAll (l : Launch) (D : va_G) (ct : im_ct) (F : Nat) (aM : Nat → Nat) (M : Mem) (LM : MemL) : CMv l D ct yX10_readsAll cX10_readsAll 5 none 6 [.ref (aM 0)] (cat [w_Model ct aM M LM]) (f_X10_readsAll F M LM) (fun z : Mem => (cat [w_Model ct aM z LM])) :=
  im_met (Qb := fun A => QV D A (fun z : Mem => (cat [w_Model ct aM z LM]))) (by decide +kernel) (Nat.le_of_ble_eq_true rfl) (fun p e s m args below meth c A X => i_X10_readsAll X F aM M LM)

noncomputable def f_X10_text_2 (F : Nat) (LM : MemL) (k22 : Mem → Option (Int32 × Mem)) : Nat → Mem → Int32 → Option (Int32 × Mem)
  | 0, _, _ => none
  | n + 1, M, x1 =>
  (if 226 ≤ x1 then k22 M else ck x1 226 (f_X10_text_2 F LM k22 n (mr M 2 (upd (M 2) x1.toNatClampNeg 0)) (x1 + 1)))
set_option maxRecDepth 100000 in
set_option maxHeartbeats 4000000 in
theorem i_X10_text_2 {p : Program} {l : Launch} {e : Env} {s : State} {m : MethodId} {args : Array Value} {below : List Frame} {meth : Method} {c : Code} {D : va_G} {ct : im_ct} {A : Nat → Prop} (X : im_X p (im_rm 7) s m args meth c D ct A RX10 cX10_text 2 (some .int)) (F : Nat) (aM : Nat → Nat) (LM : MemL) (k22 : Mem → Option (Int32 × Mem)) (hk22 : ∀ (M : Mem), Im p l e (im_rm 7) s m args below meth c D A 2 (QI D A (fun z : Int32 × Mem => z.1) (fun z : Int32 × Mem => (cat [w_Model ct aM z.2 LM]))) 22 [(0, .ref (aM 0))] [] (cat [w_Model ct aM M LM]) (k22 M)) : ∀ (n : Nat) (M : Mem) (x1 : Int32), Im p l e (im_rm 7) s m args below meth c D A 2 (QI D A (fun z : Int32 × Mem => z.1) (fun z : Int32 × Mem => (cat [w_Model ct aM z.2 LM]))) 2 [(0, .ref (aM 0)), (1, .int x1)] [] (cat [w_Model ct aM M LM]) (f_X10_text_2 F LM k22 n M x1) := by
  intro n
  induction n with
  | zero => intros; exact im_none
  | succ n ih =>
    intro M x1
    unfold f_X10_text_2
    refine im_iload_n X 1 dX10_text_2 rfl rfl ?_
    refine im_sipush X 226 dX10_text_3 (by decide) ?_
    refine im_icmp_ge (tgt := 22) X dX10_text_6 rfl ?_ ?_
    · refine im_lv [0] [(0, .ref (aM 0))] rfl ?_
      exact hk22 M
    · refine im_aload_n X 0 dX10_text_9 rfl rfl ?_
      refine im_cget X 0 0 (v := .ref (aM 2)) fl_X10_17 rfl rfl rfl dX10_text_10 ?_
      refine im_iload_n X 1 dX10_text_13 rfl rfl ?_
      refine im_iconst X 0 dX10_text_14 (by decide) ?_
      refine im_ciast X 0 2 0 (wx_Model ct aM (M 0 0) (M 0 4) (M 0 6) (M 0 7) (M 0 8) (M 0 9) (M 0 24) (M 0 27) (M 0 29) (M 0 31) (M 0 32) (M 0 33) (M 0 34) (M 0 35) (M 1) (upd (M 2) x1.toNatClampNeg 0) (M 3) (M 4) (M 5) (M 9) (M 10) (M 11) (M 12) (M 13) (M 14) (M 15) (M 16) (M 17) (M 18) (M 19) (M 20) (M 21) (M 22) (LM 6) (LM 7) (LM 8)) [wx_Model ct aM (M 0 0) (M 0 4) (M 0 6) (M 0 7) (M 0 8) (M 0 9) (M 0 24) (M 0 27) (M 0 29) (M 0 31) (M 0 32) (M 0 33) (M 0 34) (M 0 35) (M 1) (upd (M 2) x1.toNatClampNeg 0) (M 3) (M 4) (M 5) (M 9) (M 10) (M 11) (M 12) (M 13) (M 14) (M 15) (M 16) (M 17) (M 18) (M 19) (M 20) (M 21) (M 22) (LM 6) (LM 7) (LM 8)] (f := (M 2)) rfl rfl rfl rfl rfl dX10_text_15 ?_
      refine im_iinc X 1 1 [1, 0] [(0, .ref (aM 0)), (1, .int (x1 + 1))] dX10_text_16 (by decide) rfl (by decide) rfl ?_
      refine im_goto (tgt := 2) X dX10_text_19 rfl ?_
      exact ih (mr M 2 (upd (M 2) x1.toNatClampNeg 0)) (x1 + 1)
noncomputable def f_X10_text_68 (F : Nat) (LM : MemL) (k93 : Mem → Option (Int32 × Mem)) : Nat → Mem → Int32 → Option (Int32 × Mem)
  | 0, _, _ => none
  | n + 1, M, x1 =>
  (if 226 ≤ x1 then k93 M else ck x1 226 (ck x1 226 (f_X10_text_68 F LM k93 n (mr M 1 (upd (M 1) x1.toNatClampNeg ((M 2) x1.toNatClampNeg))) (x1 + 1))))
set_option maxRecDepth 100000 in
set_option maxHeartbeats 4000000 in
theorem i_X10_text_68 {p : Program} {l : Launch} {e : Env} {s : State} {m : MethodId} {args : Array Value} {below : List Frame} {meth : Method} {c : Code} {D : va_G} {ct : im_ct} {A : Nat → Prop} (X : im_X p (im_rm 7) s m args meth c D ct A RX10 cX10_text 2 (some .int)) (F : Nat) (aM : Nat → Nat) (LM : MemL) (k93 : Mem → Option (Int32 × Mem)) (hk93 : ∀ (M : Mem), Im p l e (im_rm 7) s m args below meth c D A 2 (QI D A (fun z : Int32 × Mem => z.1) (fun z : Int32 × Mem => (cat [w_Model ct aM z.2 LM]))) 93 [(0, .ref (aM 0))] [] (cat [w_Model ct aM M LM]) (k93 M)) : ∀ (n : Nat) (M : Mem) (x1 : Int32), Im p l e (im_rm 7) s m args below meth c D A 2 (QI D A (fun z : Int32 × Mem => z.1) (fun z : Int32 × Mem => (cat [w_Model ct aM z.2 LM]))) 68 [(0, .ref (aM 0)), (1, .int x1)] [] (cat [w_Model ct aM M LM]) (f_X10_text_68 F LM k93 n M x1) := by
  intro n
  induction n with
  | zero => intros; exact im_none
  | succ n ih =>
    intro M x1
    unfold f_X10_text_68
    refine im_iload_n X 1 dX10_text_68 rfl rfl ?_
    refine im_sipush X 226 dX10_text_69 (by decide) ?_
    refine im_icmp_ge (tgt := 93) X dX10_text_72 rfl ?_ ?_
    · refine im_lv [0] [(0, .ref (aM 0))] rfl ?_
      exact hk93 M
    · refine im_aload_n X 0 dX10_text_75 rfl rfl ?_
      refine im_cget X 0 0 (v := .ref (aM 1)) fl_X10_13 rfl rfl rfl dX10_text_76 ?_
      refine im_iload_n X 1 dX10_text_79 rfl rfl ?_
      refine im_aload_n X 0 dX10_text_80 rfl rfl ?_
      refine im_cget X 0 0 (v := .ref (aM 2)) fl_X10_17 rfl rfl rfl dX10_text_81 ?_
      refine im_iload_n X 1 dX10_text_84 rfl rfl ?_
      refine im_ciald X 0 2 0 (f := (M 2)) rfl rfl rfl dX10_text_85 ?_
      refine im_ciast X 0 1 0 (wx_Model ct aM (M 0 0) (M 0 4) (M 0 6) (M 0 7) (M 0 8) (M 0 9) (M 0 24) (M 0 27) (M 0 29) (M 0 31) (M 0 32) (M 0 33) (M 0 34) (M 0 35) (upd (M 1) x1.toNatClampNeg ((M 2) x1.toNatClampNeg)) (M 2) (M 3) (M 4) (M 5) (M 9) (M 10) (M 11) (M 12) (M 13) (M 14) (M 15) (M 16) (M 17) (M 18) (M 19) (M 20) (M 21) (M 22) (LM 6) (LM 7) (LM 8)) [wx_Model ct aM (M 0 0) (M 0 4) (M 0 6) (M 0 7) (M 0 8) (M 0 9) (M 0 24) (M 0 27) (M 0 29) (M 0 31) (M 0 32) (M 0 33) (M 0 34) (M 0 35) (upd (M 1) x1.toNatClampNeg ((M 2) x1.toNatClampNeg)) (M 2) (M 3) (M 4) (M 5) (M 9) (M 10) (M 11) (M 12) (M 13) (M 14) (M 15) (M 16) (M 17) (M 18) (M 19) (M 20) (M 21) (M 22) (LM 6) (LM 7) (LM 8)] (f := (M 1)) rfl rfl rfl rfl rfl dX10_text_86 ?_
      refine im_iinc X 1 1 [1, 0] [(0, .ref (aM 0)), (1, .int (x1 + 1))] dX10_text_87 (by decide) rfl (by decide) rfl ?_
      refine im_goto (tgt := 68) X dX10_text_90 rfl ?_
      exact ih (mr M 1 (upd (M 1) x1.toNatClampNeg ((M 2) x1.toNatClampNeg))) (x1 + 1)
noncomputable def f_X10_text (F : Nat) (M : Mem) (LM : MemL) : Option (Int32 × Mem) :=
  f_X10_text_2 F LM (fun M_22 => (f_X10_goesOn F (mr M_22 0 (fu (fu (fu (M_22 0) 31 0) 32 3) 35 (-1))) LM).bind (fun z38 => (f_X10_readsAll F z38 LM).bind (fun z42 => (if (z42 0 35) = (-1) then f_X10_text_68 F LM (fun M_93 => ck 1 226 ((some (((M_93 1) (1 : Int32).toNatClampNeg), (mr M_93 0 (fu (M_93 0) 4 0)))))) F (mr z42 0 (fu (z42 0) 29 0)) 0 else (some (((-4) - (z42 0 35)), (mr z42 0 (fu (z42 0) 29 0)))))))) F M 0
set_option maxRecDepth 100000 in
set_option maxHeartbeats 4000000 in
theorem i_X10_text {p : Program} {l : Launch} {e : Env} {s : State} {m : MethodId} {args : Array Value} {below : List Frame} {meth : Method} {c : Code} {D : va_G} {ct : im_ct} {A : Nat → Prop} (X : im_X p (im_rm 7) s m args meth c D ct A RX10 cX10_text 2 (some .int)) (F : Nat) (aM : Nat → Nat) (M : Mem) (LM : MemL) : Im p l e (im_rm 7) s m args below meth c D A 2 (QI D A (fun z : Int32 × Mem => z.1) (fun z : Int32 × Mem => (cat [w_Model ct aM z.2 LM]))) 0 [(0, .ref (aM 0))] [] (cat [w_Model ct aM M LM]) (f_X10_text F M LM) := by
  unfold f_X10_text
  refine im_iconst X 0 dX10_text_0 (by decide) ?_
  refine im_istore_n X [1, 0] [(0, .ref (aM 0)), (1, .int 0)] dX10_text_1 rfl (by decide) rfl ?_
  refine i_X10_text_2 X F aM LM  _ (fun M_22 => ?_) F M 0
  refine im_aload_n X 0 dX10_text_22 rfl rfl ?_
  refine im_iconst X 0 dX10_text_23 (by decide) ?_
  refine im_cput X 0 0 (wx_Model ct aM (M_22 0 0) (M_22 0 4) (M_22 0 6) (M_22 0 7) (M_22 0 8) (M_22 0 9) (M_22 0 24) (M_22 0 27) (M_22 0 29) 0 (M_22 0 32) (M_22 0 33) (M_22 0 34) (M_22 0 35) (M_22 1) (M_22 2) (M_22 3) (M_22 4) (M_22 5) (M_22 9) (M_22 10) (M_22 11) (M_22 12) (M_22 13) (M_22 14) (M_22 15) (M_22 16) (M_22 17) (M_22 18) (M_22 19) (M_22 20) (M_22 21) (M_22 22) (LM 6) (LM 7) (LM 8)) [wx_Model ct aM (M_22 0 0) (M_22 0 4) (M_22 0 6) (M_22 0 7) (M_22 0 8) (M_22 0 9) (M_22 0 24) (M_22 0 27) (M_22 0 29) 0 (M_22 0 32) (M_22 0 33) (M_22 0 34) (M_22 0 35) (M_22 1) (M_22 2) (M_22 3) (M_22 4) (M_22 5) (M_22 9) (M_22 10) (M_22 11) (M_22 12) (M_22 13) (M_22 14) (M_22 15) (M_22 16) (M_22 17) (M_22 18) (M_22 19) (M_22 20) (M_22 21) (M_22 22) (LM 6) (LM 7) (LM 8)] fl_X10_319 rfl rfl rfl rfl (Nat.le_of_ble_eq_true rfl) rfl rfl dX10_text_24 ?_
  refine im_aload_n X 0 dX10_text_27 rfl rfl ?_
  refine im_iconst X 3 dX10_text_28 (by decide) ?_
  refine im_cput X 0 0 (wx_Model ct aM (M_22 0 0) (M_22 0 4) (M_22 0 6) (M_22 0 7) (M_22 0 8) (M_22 0 9) (M_22 0 24) (M_22 0 27) (M_22 0 29) 0 3 (M_22 0 33) (M_22 0 34) (M_22 0 35) (M_22 1) (M_22 2) (M_22 3) (M_22 4) (M_22 5) (M_22 9) (M_22 10) (M_22 11) (M_22 12) (M_22 13) (M_22 14) (M_22 15) (M_22 16) (M_22 17) (M_22 18) (M_22 19) (M_22 20) (M_22 21) (M_22 22) (LM 6) (LM 7) (LM 8)) [wx_Model ct aM (M_22 0 0) (M_22 0 4) (M_22 0 6) (M_22 0 7) (M_22 0 8) (M_22 0 9) (M_22 0 24) (M_22 0 27) (M_22 0 29) 0 3 (M_22 0 33) (M_22 0 34) (M_22 0 35) (M_22 1) (M_22 2) (M_22 3) (M_22 4) (M_22 5) (M_22 9) (M_22 10) (M_22 11) (M_22 12) (M_22 13) (M_22 14) (M_22 15) (M_22 16) (M_22 17) (M_22 18) (M_22 19) (M_22 20) (M_22 21) (M_22 22) (LM 6) (LM 7) (LM 8)] fl_X10_322 rfl rfl rfl rfl (Nat.le_of_ble_eq_true rfl) rfl rfl dX10_text_29 ?_
  refine im_aload_n X 0 dX10_text_32 rfl rfl ?_
  refine im_iconst X (-1) dX10_text_33 (by decide) ?_
  refine im_cput X 0 0 (wx_Model ct aM (M_22 0 0) (M_22 0 4) (M_22 0 6) (M_22 0 7) (M_22 0 8) (M_22 0 9) (M_22 0 24) (M_22 0 27) (M_22 0 29) 0 3 (M_22 0 33) (M_22 0 34) (-1) (M_22 1) (M_22 2) (M_22 3) (M_22 4) (M_22 5) (M_22 9) (M_22 10) (M_22 11) (M_22 12) (M_22 13) (M_22 14) (M_22 15) (M_22 16) (M_22 17) (M_22 18) (M_22 19) (M_22 20) (M_22 21) (M_22 22) (LM 6) (LM 7) (LM 8)) [wx_Model ct aM (M_22 0 0) (M_22 0 4) (M_22 0 6) (M_22 0 7) (M_22 0 8) (M_22 0 9) (M_22 0 24) (M_22 0 27) (M_22 0 29) 0 3 (M_22 0 33) (M_22 0 34) (-1) (M_22 1) (M_22 2) (M_22 3) (M_22 4) (M_22 5) (M_22 9) (M_22 10) (M_22 11) (M_22 12) (M_22 13) (M_22 14) (M_22 15) (M_22 16) (M_22 17) (M_22 18) (M_22 19) (M_22 20) (M_22 21) (M_22 22) (LM 6) (LM 7) (LM 8)] fl_X10_342 rfl rfl rfl rfl (Nat.le_of_ble_eq_true rfl) rfl rfl dX10_text_34 ?_
  refine im_aload_n X 0 dX10_text_37 rfl rfl ?_
  refine im_ccvV X [] [] [wx_Model ct aM (M_22 0 0) (M_22 0 4) (M_22 0 6) (M_22 0 7) (M_22 0 8) (M_22 0 9) (M_22 0 24) (M_22 0 27) (M_22 0 29) 0 3 (M_22 0 33) (M_22 0 34) (-1) (M_22 1) (M_22 2) (M_22 3) (M_22 4) (M_22 5) (M_22 9) (M_22 10) (M_22 11) (M_22 12) (M_22 13) (M_22 14) (M_22 15) (M_22 16) (M_22 17) (M_22 18) (M_22 19) (M_22 20) (M_22 21) (M_22 22) (LM 6) (LM 7) (LM 8)] [w_Model ct aM (mr M_22 0 (fu (fu (fu (M_22 0) 31 0) 32 3) 35 (-1))) LM] [0] (fun z38 => [w_Model ct aM z38 LM]) 0 0 10 rfl rfl rfl cl_X10_348 (c_X10_goesOn l D ct F aM (mr M_22 0 (fu (fu (fu (M_22 0) 31 0) 32 3) 35 (-1))) LM) rfl (by decide) (fun _ => lc fa_Model (rfl)) rfl ⟨by decide, by decide⟩ (Nat.le_of_ble_eq_true rfl) rfl dX10_text_38 (fun z38 => ?_)
  refine im_ws (cat [w_Model ct aM z38 LM]) rfl ?_
  refine im_aload_n X 0 dX10_text_41 rfl rfl ?_
  refine im_ccvV X [] [] [w_Model ct aM z38 LM] [w_Model ct aM z38 LM] [0] (fun z42 => [w_Model ct aM z42 LM]) 0 0 10 rfl rfl rfl cl_X10_382 (c_X10_readsAll l D ct F aM z38 LM) rfl (by decide) (fun _ => lc fa_Model (rfl)) rfl ⟨by decide, by decide⟩ (Nat.le_of_ble_eq_true rfl) rfl dX10_text_42 (fun z42 => ?_)
  refine im_ws (cat [w_Model ct aM z42 LM]) rfl ?_
  refine im_aload_n X 0 dX10_text_45 rfl rfl ?_
  refine im_iconst X 0 dX10_text_46 (by decide) ?_
  refine im_cput X 0 0 (wx_Model ct aM (z42 0 0) (z42 0 4) (z42 0 6) (z42 0 7) (z42 0 8) (z42 0 9) (z42 0 24) (z42 0 27) 0 (z42 0 31) (z42 0 32) (z42 0 33) (z42 0 34) (z42 0 35) (z42 1) (z42 2) (z42 3) (z42 4) (z42 5) (z42 9) (z42 10) (z42 11) (z42 12) (z42 13) (z42 14) (z42 15) (z42 16) (z42 17) (z42 18) (z42 19) (z42 20) (z42 21) (z42 22) (LM 6) (LM 7) (LM 8)) [wx_Model ct aM (z42 0 0) (z42 0 4) (z42 0 6) (z42 0 7) (z42 0 8) (z42 0 9) (z42 0 24) (z42 0 27) 0 (z42 0 31) (z42 0 32) (z42 0 33) (z42 0 34) (z42 0 35) (z42 1) (z42 2) (z42 3) (z42 4) (z42 5) (z42 9) (z42 10) (z42 11) (z42 12) (z42 13) (z42 14) (z42 15) (z42 16) (z42 17) (z42 18) (z42 19) (z42 20) (z42 21) (z42 22) (LM 6) (LM 7) (LM 8)] fl_X10_309 rfl rfl rfl rfl (Nat.le_of_ble_eq_true rfl) rfl rfl dX10_text_47 ?_
  refine im_aload_n X 0 dX10_text_50 rfl rfl ?_
  refine im_cget X 0 0 (v := .int (z42 0 35)) fl_X10_342 rfl rfl rfl dX10_text_51 ?_
  refine im_iconst X (-1) dX10_text_54 (by decide) ?_
  refine im_icmp_eq (tgt := 66) X dX10_text_55 rfl ?_ ?_
  · refine im_iconst X 0 dX10_text_66 (by decide) ?_
    refine im_istore_n X [1, 0] [(0, .ref (aM 0)), (1, .int 0)] dX10_text_67 rfl (by decide) rfl ?_
    refine i_X10_text_68 X F aM LM  _ (fun M_93 => ?_) F (mr z42 0 (fu (z42 0) 29 0)) 0
    refine im_aload_n X 0 dX10_text_93 rfl rfl ?_
    refine im_iconst X 0 dX10_text_94 (by decide) ?_
    refine im_cput X 0 0 (wx_Model ct aM (M_93 0 0) 0 (M_93 0 6) (M_93 0 7) (M_93 0 8) (M_93 0 9) (M_93 0 24) (M_93 0 27) (M_93 0 29) (M_93 0 31) (M_93 0 32) (M_93 0 33) (M_93 0 34) (M_93 0 35) (M_93 1) (M_93 2) (M_93 3) (M_93 4) (M_93 5) (M_93 9) (M_93 10) (M_93 11) (M_93 12) (M_93 13) (M_93 14) (M_93 15) (M_93 16) (M_93 17) (M_93 18) (M_93 19) (M_93 20) (M_93 21) (M_93 22) (LM 6) (LM 7) (LM 8)) [wx_Model ct aM (M_93 0 0) 0 (M_93 0 6) (M_93 0 7) (M_93 0 8) (M_93 0 9) (M_93 0 24) (M_93 0 27) (M_93 0 29) (M_93 0 31) (M_93 0 32) (M_93 0 33) (M_93 0 34) (M_93 0 35) (M_93 1) (M_93 2) (M_93 3) (M_93 4) (M_93 5) (M_93 9) (M_93 10) (M_93 11) (M_93 12) (M_93 13) (M_93 14) (M_93 15) (M_93 16) (M_93 17) (M_93 18) (M_93 19) (M_93 20) (M_93 21) (M_93 22) (LM 6) (LM 7) (LM 8)] fl_X10_83 rfl rfl rfl rfl (Nat.le_of_ble_eq_true rfl) rfl rfl dX10_text_95 ?_
    refine im_aload_n X 0 dX10_text_98 rfl rfl ?_
    refine im_cget X 0 0 (v := .ref (aM 1)) fl_X10_13 rfl rfl rfl dX10_text_99 ?_
    refine im_iconst X 1 dX10_text_102 (by decide) ?_
    refine im_ciald X 0 1 0 (f := (M_93 1)) rfl rfl rfl dX10_text_103 ?_
    exact im_ireturn X (((M_93 1) (1 : Int32).toNatClampNeg), (mr M_93 0 (fu (M_93 0) 4 0))) rfl rfl dX10_text_104
  · refine im_bipush X (-4) dX10_text_58 (by decide) ?_
    refine im_aload_n X 0 dX10_text_60 rfl rfl ?_
    refine im_cget X 0 0 (v := .int (z42 0 35)) fl_X10_342 rfl rfl rfl dX10_text_61 ?_
    refine im_isub X dX10_text_64 ?_
    exact im_ireturn X (((-4) - (z42 0 35)), (mr z42 0 (fu (z42 0) 29 0))) rfl rfl dX10_text_65
theorem c_X10_text (l : Launch) (D : va_G) (ct : im_ct) (F : Nat) (aM : Nat → Nat) (M : Mem) (LM : MemL) : CMi l D ct yX10_text cX10_text 2 (some .int) 7 [.ref (aM 0)] (cat [w_Model ct aM M LM]) (f_X10_text F M LM) (fun z : Int32 × Mem => z.1) (fun z : Int32 × Mem => (cat [w_Model ct aM z.2 LM])) :=
  im_met (Qb := fun A => QI D A (fun z : Int32 × Mem => z.1) (fun z : Int32 × Mem => (cat [w_Model ct aM z.2 LM]))) (by decide +kernel) (Nat.le_of_ble_eq_true rfl) (fun p e s m args below meth c A X => i_X10_text X F aM M LM)

