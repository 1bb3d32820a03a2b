noncomputable def f_X10_breaks_16 (F : Nat) (LM : MemL) (x1 : Int32) (x2 : Int32) (k37 : Mem → Option (Int32 × Mem)) : Nat → Mem → Int32 → Option (Int32 × Mem)
  | 0, _, _ => none
  | n + 1, M, x3 =>
  (if 840 ≤ x3 then k37 M else ck x3 840 (f_X10_breaks_16 F LM x1 x2 k37 n (mr M 13 (upd (M 13) x3.toNatClampNeg 1000000)) (x3 + 1)))
set_option maxRecDepth 100000 in
set_option maxHeartbeats 4000000 in
theorem i_X10_breaks_16 {p : Program} {l : Launch} {e : Env} {s : State} {m : MethodId} {args : Array Value} {below : List Frame} {meth : Method} {c : Code} {D : va_G} {ct : im_ct} {A : Nat → Prop} (X : im_X p (im_rm 3) s m args meth c D ct A RX10 cX10_breaks 9 (some .int)) (F : Nat) (aM : Nat → Nat) (LM : MemL) (x1 : Int32) (x2 : Int32) (k37 : Mem → Option (Int32 × Mem)) (hk37 : ∀ (M : Mem), Im p l e (im_rm 3) s m args below meth c D A 9 (QI D A (fun z : Int32 × Mem => z.1) (fun z : Int32 × Mem => (cat [w_Model ct aM z.2 LM]))) 37 [(0, .ref (aM 0)), (1, .int x1), (2, .int x2)] [] (cat [w_Model ct aM M LM]) (k37 M)) : ∀ (n : Nat) (M : Mem) (x3 : Int32), Im p l e (im_rm 3) s m args below meth c D A 9 (QI D A (fun z : Int32 × Mem => z.1) (fun z : Int32 × Mem => (cat [w_Model ct aM z.2 LM]))) 16 [(0, .ref (aM 0)), (1, .int x1), (2, .int x2), (3, .int x3)] [] (cat [w_Model ct aM M LM]) (f_X10_breaks_16 F LM x1 x2 k37 n M x3) := by
  intro n
  induction n with
  | zero => intros; exact im_none
  | succ n ih =>
    intro M x3
    unfold f_X10_breaks_16
    refine im_iload_n X 3 dX10_breaks_16 rfl rfl ?_
    refine im_sipush X 840 dX10_breaks_17 (by decide) ?_
    refine im_icmp_ge (tgt := 37) X dX10_breaks_20 rfl ?_ ?_
    · refine im_lv [0, 1, 2] [(0, .ref (aM 0)), (1, .int x1), (2, .int x2)] rfl ?_
      exact hk37 M
    · refine im_aload_n X 0 dX10_breaks_23 rfl rfl ?_
      refine im_cget X 0 0 (v := .ref (aM 13)) fl_X10_51 rfl rfl rfl dX10_breaks_24 ?_
      refine im_iload_n X 3 dX10_breaks_27 rfl rfl ?_
      refine im_ldc X kc_X10_221 dX10_breaks_28 ?_
      refine im_ciast X 0 13 0 (wx_Model ct aM (M 0 0) (M 0 4) (M 0 6) (M 0 7) (M 0 8) (M 0 9) (M 0 24) (M 0 27) (M 0 29) (M 0 31) (M 0 32) (M 0 33) (M 0 34) (M 0 35) (M 1) (M 2) (M 3) (M 4) (M 5) (M 9) (M 10) (M 11) (M 12) (upd (M 13) x3.toNatClampNeg 1000000) (M 14) (M 15) (M 16) (M 17) (M 18) (M 19) (M 20) (M 21) (M 22) (LM 6) (LM 7) (LM 8)) [wx_Model ct aM (M 0 0) (M 0 4) (M 0 6) (M 0 7) (M 0 8) (M 0 9) (M 0 24) (M 0 27) (M 0 29) (M 0 31) (M 0 32) (M 0 33) (M 0 34) (M 0 35) (M 1) (M 2) (M 3) (M 4) (M 5) (M 9) (M 10) (M 11) (M 12) (upd (M 13) x3.toNatClampNeg 1000000) (M 14) (M 15) (M 16) (M 17) (M 18) (M 19) (M 20) (M 21) (M 22) (LM 6) (LM 7) (LM 8)] (f := (M 13)) rfl rfl rfl rfl rfl dX10_breaks_30 ?_
      refine im_iinc X 3 1 [1, 2, 3, 0] [(0, .ref (aM 0)), (1, .int x1), (2, .int x2), (3, .int (x3 + 1))] dX10_breaks_31 (by decide) rfl (by decide) rfl ?_
      refine im_goto (tgt := 16) X dX10_breaks_34 rfl ?_
      exact ih (mr M 13 (upd (M 13) x3.toNatClampNeg 1000000)) (x3 + 1)
noncomputable def f_X10_breaks_79 (F : Nat) (LM : MemL) (x1 : Int32) (x3 : Int64) (x5 : Int32) (x6 : Int64) (k102 : Mem → Option (Int32 × Mem)) : Nat → Mem → Int32 → Option (Int32 × Mem)
  | 0, _, _ => none
  | n + 1, M, x8 =>
  (if 840 ≤ x8 then k102 M else ck x8 840 (f_X10_breaks_79 F LM x1 x3 x5 x6 k102 n (mr M 14 (upd (M 14) x8.toNatClampNeg 1000000)) (x8 + 1)))
set_option maxRecDepth 100000 in
set_option maxHeartbeats 4000000 in
theorem i_X10_breaks_79 {p : Program} {l : Launch} {e : Env} {s : State} {m : MethodId} {args : Array Value} {below : List Frame} {meth : Method} {c : Code} {D : va_G} {ct : im_ct} {A : Nat → Prop} (X : im_X p (im_rm 3) s m args meth c D ct A RX10 cX10_breaks 9 (some .int)) (F : Nat) (aM : Nat → Nat) (LM : MemL) (x1 : Int32) (x3 : Int64) (x5 : Int32) (x6 : Int64) (k102 : Mem → Option (Int32 × Mem)) (hk102 : ∀ (M : Mem), Im p l e (im_rm 3) s m args below meth c D A 9 (QI D A (fun z : Int32 × Mem => z.1) (fun z : Int32 × Mem => (cat [w_Model ct aM z.2 LM]))) 102 [(0, .ref (aM 0)), (1, .int x1), (3, .long x3), (5, .int x5), (6, .long x6)] [] (cat [w_Model ct aM M LM]) (k102 M)) : ∀ (n : Nat) (M : Mem) (x8 : Int32), Im p l e (im_rm 3) s m args below meth c D A 9 (QI D A (fun z : Int32 × Mem => z.1) (fun z : Int32 × Mem => (cat [w_Model ct aM z.2 LM]))) 79 [(0, .ref (aM 0)), (1, .int x1), (3, .long x3), (5, .int x5), (6, .long x6), (8, .int x8)] [] (cat [w_Model ct aM M LM]) (f_X10_breaks_79 F LM x1 x3 x5 x6 k102 n M x8) := by
  intro n
  induction n with
  | zero => intros; exact im_none
  | succ n ih =>
    intro M x8
    unfold f_X10_breaks_79
    refine im_iload X 5 dX10_breaks_79 rfl ?_
    refine im_sipush X 840 dX10_breaks_81 (by decide) ?_
    refine im_icmp_ge (tgt := 102) X dX10_breaks_84 rfl ?_ ?_
    · refine im_lv [0, 1, 2, 3, 4] [(0, .ref (aM 0)), (1, .int x1), (3, .long x3), (5, .int x5), (6, .long x6)] rfl ?_
      exact hk102 M
    · refine im_aload_n X 0 dX10_breaks_87 rfl rfl ?_
      refine im_cget X 0 0 (v := .ref (aM 14)) fl_X10_54 rfl rfl rfl dX10_breaks_88 ?_
      refine im_iload X 5 dX10_breaks_91 rfl ?_
      refine im_ldc X kc_X10_221 dX10_breaks_93 ?_
      refine im_ciast X 0 14 0 (wx_Model ct aM (M 0 0) (M 0 4) (M 0 6) (M 0 7) (M 0 8) (M 0 9) (M 0 24) (M 0 27) (M 0 29) (M 0 31) (M 0 32) (M 0 33) (M 0 34) (M 0 35) (M 1) (M 2) (M 3) (M 4) (M 5) (M 9) (M 10) (M 11) (M 12) (M 13) (upd (M 14) x8.toNatClampNeg 1000000) (M 15) (M 16) (M 17) (M 18) (M 19) (M 20) (M 21) (M 22) (LM 6) (LM 7) (LM 8)) [wx_Model ct aM (M 0 0) (M 0 4) (M 0 6) (M 0 7) (M 0 8) (M 0 9) (M 0 24) (M 0 27) (M 0 29) (M 0 31) (M 0 32) (M 0 33) (M 0 34) (M 0 35) (M 1) (M 2) (M 3) (M 4) (M 5) (M 9) (M 10) (M 11) (M 12) (M 13) (upd (M 14) x8.toNatClampNeg 1000000) (M 15) (M 16) (M 17) (M 18) (M 19) (M 20) (M 21) (M 22) (LM 6) (LM 7) (LM 8)] (f := (M 14)) rfl rfl rfl rfl rfl dX10_breaks_95 ?_
      refine im_iinc X 5 1 [1, 2, 3, 4, 5, 0] [(0, .ref (aM 0)), (1, .int x1), (3, .long x3), (5, .int x5), (6, .long x6), (8, .int (x8 + 1))] dX10_breaks_96 (by decide) rfl (by decide) rfl ?_
      refine im_goto (tgt := 79) X dX10_breaks_99 rfl ?_
      exact ih (mr M 14 (upd (M 14) x8.toNatClampNeg 1000000)) (x8 + 1)
noncomputable def f_X10_breaks_105 (F : Nat) (LM : MemL) (x1 : Int32) (x3 : Int64) (x5 : Int32) (x6 : Int64) (k145 : Mem → Option (Int32 × Mem)) : Nat → Mem → Int32 → Option (Int32 × Mem)
  | 0, _, _ => none
  | n + 1, M, x8 =>
  (if 420 ≤ x8 then k145 M else (f_X10_breaksOn F M LM x1 x5 x3 x6 x8 0).bind (fun z123 => (f_X10_breaksOn F z123 LM x1 x5 x3 x6 x8 1).bind (fun z136 => f_X10_breaks_105 F LM x1 x3 x5 x6 k145 n z136 (x8 + 1))))
set_option maxRecDepth 100000 in
set_option maxHeartbeats 4000000 in
theorem i_X10_breaks_105 {p : Program} {l : Launch} {e : Env} {s : State} {m : MethodId} {args : Array Value} {below : List Frame} {meth : Method} {c : Code} {D : va_G} {ct : im_ct} {A : Nat → Prop} (X : im_X p (im_rm 3) s m args meth c D ct A RX10 cX10_breaks 9 (some .int)) (F : Nat) (aM : Nat → Nat) (LM : MemL) (x1 : Int32) (x3 : Int64) (x5 : Int32) (x6 : Int64) (k145 : Mem → Option (Int32 × Mem)) (hk145 : ∀ (M : Mem), Im p l e (im_rm 3) s m args below meth c D A 9 (QI D A (fun z : Int32 × Mem => z.1) (fun z : Int32 × Mem => (cat [w_Model ct aM z.2 LM]))) 145 [(0, .ref (aM 0)), (1, .int x1), (5, .int x5), (6, .long x6)] [] (cat [w_Model ct aM M LM]) (k145 M)) : ∀ (n : Nat) (M : Mem) (x8 : Int32), Im p l e (im_rm 3) s m args below meth c D A 9 (QI D A (fun z : Int32 × Mem => z.1) (fun z : Int32 × Mem => (cat [w_Model ct aM z.2 LM]))) 105 [(0, .ref (aM 0)), (1, .int x1), (3, .long x3), (5, .int x5), (6, .long x6), (8, .int x8)] [] (cat [w_Model ct aM M LM]) (f_X10_breaks_105 F LM x1 x3 x5 x6 k145 n M x8) := by
  intro n
  induction n with
  | zero => intros; exact im_none
  | succ n ih =>
    intro M x8
    unfold f_X10_breaks_105
    refine im_iload X 5 dX10_breaks_105 rfl ?_
    refine im_sipush X 420 dX10_breaks_107 (by decide) ?_
    refine im_icmp_ge (tgt := 145) X dX10_breaks_110 rfl ?_ ?_
    · refine im_lv [0, 1, 3, 4] [(0, .ref (aM 0)), (1, .int x1), (5, .int x5), (6, .long x6)] rfl ?_
      exact hk145 M
    · refine im_aload_n X 0 dX10_breaks_113 rfl rfl ?_
      refine im_iload_n X 1 dX10_breaks_114 rfl rfl ?_
      refine im_iload X 3 dX10_breaks_115 rfl ?_
      refine im_lload_n X 2 dX10_breaks_117 rfl rfl ?_
      refine im_lload X 4 dX10_breaks_118 rfl ?_
      refine im_iload X 5 dX10_breaks_120 rfl ?_
      refine im_iconst X 0 dX10_breaks_122 (by decide) ?_
      refine im_ccvV X [.int x1, .int x5, .long x3, .long x6, .int x8, .int 0] [] [w_Model ct aM M LM] [w_Model ct aM M LM] [0] (fun z123 => [w_Model ct aM z123 LM]) 0 0 10 rfl rfl rfl cl_X10_246 (c_X10_breaksOn l D ct F aM M LM x1 x5 x3 x6 x8 0) rfl (by decide) (fun _ => lc fa_Model (rfl)) rfl ⟨by decide, by decide⟩ (Nat.le_of_ble_eq_true rfl) rfl dX10_breaks_123 (fun z123 => ?_)
      refine im_ws (cat [w_Model ct aM z123 LM]) rfl ?_
      refine im_aload_n X 0 dX10_breaks_126 rfl rfl ?_
      refine im_iload_n X 1 dX10_breaks_127 rfl rfl ?_
      refine im_iload X 3 dX10_breaks_128 rfl ?_
      refine im_lload_n X 2 dX10_breaks_130 rfl rfl ?_
      refine im_lload X 4 dX10_breaks_131 rfl ?_
      refine im_iload X 5 dX10_breaks_133 rfl ?_
      refine im_iconst X 1 dX10_breaks_135 (by decide) ?_
      refine im_ccvV X [.int x1, .int x5, .long x3, .long x6, .int x8, .int 1] [] [w_Model ct aM z123 LM] [w_Model ct aM z123 LM] [0] (fun z136 => [w_Model ct aM z136 LM]) 0 0 10 rfl rfl rfl cl_X10_246 (c_X10_breaksOn l D ct F aM z123 LM x1 x5 x3 x6 x8 1) rfl (by decide) (fun _ => lc fa_Model (rfl)) rfl ⟨by decide, by decide⟩ (Nat.le_of_ble_eq_true rfl) rfl dX10_breaks_136 (fun z136 => ?_)
      refine im_ws (cat [w_Model ct aM z136 LM]) rfl ?_
      refine im_iinc X 5 1 [1, 2, 3, 4, 5, 0] [(0, .ref (aM 0)), (1, .int x1), (3, .long x3), (5, .int x5), (6, .long x6), (8, .int (x8 + 1))] dX10_breaks_139 (by decide) rfl (by decide) rfl ?_
      refine im_goto (tgt := 105) X dX10_breaks_142 rfl ?_
      exact ih z136 (x8 + 1)
noncomputable def f_X10_breaks_148 (F : Nat) (LM : MemL) (x1 : Int32) (x5 : Int32) (x6 : Int64) (k176 : Mem → Option (Int32 × Mem)) : Nat → Mem → Int32 → Option (Int32 × Mem)
  | 0, _, _ => none
  | n + 1, M, x8 =>
  (if 840 ≤ x8 then k176 M else ck x8 840 (ck x8 840 (f_X10_breaks_148 F LM x1 x5 x6 k176 n (mr M 13 (upd (M 13) x8.toNatClampNeg ((M 14) x8.toNatClampNeg))) (x8 + 1))))
set_option maxRecDepth 100000 in
set_option maxHeartbeats 4000000 in
theorem i_X10_breaks_148 {p : Program} {l : Launch} {e : Env} {s : State} {m : MethodId} {args : Array Value} {below : List Frame} {meth : Method} {c : Code} {D : va_G} {ct : im_ct} {A : Nat → Prop} (X : im_X p (im_rm 3) s m args meth c D ct A RX10 cX10_breaks 9 (some .int)) (F : Nat) (aM : Nat → Nat) (LM : MemL) (x1 : Int32) (x5 : Int32) (x6 : Int64) (k176 : Mem → Option (Int32 × Mem)) (hk176 : ∀ (M : Mem), Im p l e (im_rm 3) s m args below meth c D A 9 (QI D A (fun z : Int32 × Mem => z.1) (fun z : Int32 × Mem => (cat [w_Model ct aM z.2 LM]))) 176 [(0, .ref (aM 0)), (1, .int x1), (5, .int x5), (6, .long x6)] [] (cat [w_Model ct aM M LM]) (k176 M)) : ∀ (n : Nat) (M : Mem) (x8 : Int32), Im p l e (im_rm 3) s m args below meth c D A 9 (QI D A (fun z : Int32 × Mem => z.1) (fun z : Int32 × Mem => (cat [w_Model ct aM z.2 LM]))) 148 [(0, .ref (aM 0)), (1, .int x1), (5, .int x5), (6, .long x6), (8, .int x8)] [] (cat [w_Model ct aM M LM]) (f_X10_breaks_148 F LM x1 x5 x6 k176 n M x8) := by
  intro n
  induction n with
  | zero => intros; exact im_none
  | succ n ih =>
    intro M x8
    unfold f_X10_breaks_148
    refine im_iload X 4 dX10_breaks_148 rfl ?_
    refine im_sipush X 840 dX10_breaks_150 (by decide) ?_
    refine im_icmp_ge (tgt := 176) X dX10_breaks_153 rfl ?_ ?_
    · refine im_lv [0, 1, 2, 3] [(0, .ref (aM 0)), (1, .int x1), (5, .int x5), (6, .long x6)] rfl ?_
      exact hk176 M
    · refine im_aload_n X 0 dX10_breaks_156 rfl rfl ?_
      refine im_cget X 0 0 (v := .ref (aM 13)) fl_X10_51 rfl rfl rfl dX10_breaks_157 ?_
      refine im_iload X 4 dX10_breaks_160 rfl ?_
      refine im_aload_n X 0 dX10_breaks_162 rfl rfl ?_
      refine im_cget X 0 0 (v := .ref (aM 14)) fl_X10_54 rfl rfl rfl dX10_breaks_163 ?_
      refine im_iload X 4 dX10_breaks_166 rfl ?_
      refine im_ciald X 0 14 0 (f := (M 14)) rfl rfl rfl dX10_breaks_168 ?_
      refine im_ciast X 0 13 0 (wx_Model ct aM (M 0 0) (M 0 4) (M 0 6) (M 0 7) (M 0 8) (M 0 9) (M 0 24) (M 0 27) (M 0 29) (M 0 31) (M 0 32) (M 0 33) (M 0 34) (M 0 35) (M 1) (M 2) (M 3) (M 4) (M 5) (M 9) (M 10) (M 11) (M 12) (upd (M 13) x8.toNatClampNeg ((M 14) x8.toNatClampNeg)) (M 14) (M 15) (M 16) (M 17) (M 18) (M 19) (M 20) (M 21) (M 22) (LM 6) (LM 7) (LM 8)) [wx_Model ct aM (M 0 0) (M 0 4) (M 0 6) (M 0 7) (M 0 8) (M 0 9) (M 0 24) (M 0 27) (M 0 29) (M 0 31) (M 0 32) (M 0 33) (M 0 34) (M 0 35) (M 1) (M 2) (M 3) (M 4) (M 5) (M 9) (M 10) (M 11) (M 12) (upd (M 13) x8.toNatClampNeg ((M 14) x8.toNatClampNeg)) (M 14) (M 15) (M 16) (M 17) (M 18) (M 19) (M 20) (M 21) (M 22) (LM 6) (LM 7) (LM 8)] (f := (M 13)) rfl rfl rfl rfl rfl dX10_breaks_169 ?_
      refine im_iinc X 4 1 [1, 2, 3, 4, 0] [(0, .ref (aM 0)), (1, .int x1), (5, .int x5), (6, .long x6), (8, .int (x8 + 1))] dX10_breaks_170 (by decide) rfl (by decide) rfl ?_
      refine im_goto (tgt := 148) X dX10_breaks_173 rfl ?_
      exact ih (mr M 13 (upd (M 13) x8.toNatClampNeg ((M 14) x8.toNatClampNeg))) (x8 + 1)
noncomputable def f_X10_breaks_50 (F : Nat) (LM : MemL) (x1 : Int32) (k185 : Mem → Int64 → Option (Int32 × Mem)) : Nat → Mem → Int64 → Int32 → Option (Int32 × Mem)
  | 0, _, _, _ => none
  | n + 1, M, x3, x5 =>
  ck 0 226 ((if ((M 1) (0 : Int32).toNatClampNeg) ≤ (x5 + 1) then k185 M x3 else (f_X10_ratio F M LM (x5 + 1)).bind (fun z69 => dvL (z69).toInt64 (f_X10_breaks_79 F LM x1 x3 x5 (x3 / (z69).toInt64) (fun M_102 => f_X10_breaks_105 F LM x1 x3 x5 (x3 / (z69).toInt64) (fun M_145 => f_X10_breaks_148 F LM x1 x5 (x3 / (z69).toInt64) (fun M_176 => f_X10_breaks_50 F LM x1 k185 n M_176 (x3 / (z69).toInt64) (x5 + 1)) F M_145 0) F M_102 0) F M 0))))
set_option maxRecDepth 100000 in
set_option maxHeartbeats 4000000 in
theorem i_X10_breaks_50 {p : Program} {l : Launch} {e : Env} {s : State} {m : MethodId} {args : Array Value} {below : List Frame} {meth : Method} {c : Code} {D : va_G} {ct : im_ct} {A : Nat → Prop} (X : im_X p (im_rm 3) s m args meth c D ct A RX10 cX10_breaks 9 (some .int)) (F : Nat) (aM : Nat → Nat) (LM : MemL) (x1 : Int32) (k185 : Mem → Int64 → Option (Int32 × Mem)) (hk185 : ∀ (M : Mem) (x3 : Int64), Im p l e (im_rm 3) s m args below meth c D A 9 (QI D A (fun z : Int32 × Mem => z.1) (fun z : Int32 × Mem => (cat [w_Model ct aM z.2 LM]))) 185 [(0, .ref (aM 0)), (1, .int x1), (3, .long x3)] [] (cat [w_Model ct aM M LM]) (k185 M x3)) : ∀ (n : Nat) (M : Mem) (x3 : Int64) (x5 : Int32), Im p l e (im_rm 3) s m args below meth c D A 9 (QI D A (fun z : Int32 × Mem => z.1) (fun z : Int32 × Mem => (cat [w_Model ct aM z.2 LM]))) 50 [(0, .ref (aM 0)), (1, .int x1), (3, .long x3), (5, .int x5)] [] (cat [w_Model ct aM M LM]) (f_X10_breaks_50 F LM x1 k185 n M x3 x5) := by
  intro n
  induction n with
  | zero => intros; exact im_none
  | succ n ih =>
    intro M x3 x5
    unfold f_X10_breaks_50
    refine im_iload X 3 dX10_breaks_50 rfl ?_
    refine im_iconst X 1 dX10_breaks_52 (by decide) ?_
    refine im_iadd X dX10_breaks_53 ?_
    refine im_aload_n X 0 dX10_breaks_54 rfl rfl ?_
    refine im_cget X 0 0 (v := .ref (aM 1)) fl_X10_13 rfl rfl rfl dX10_breaks_55 ?_
    refine im_iconst X 0 dX10_breaks_58 (by decide) ?_
    refine im_ciald X 0 1 0 (f := (M 1)) rfl rfl rfl dX10_breaks_59 ?_
    refine im_icmp_ge (tgt := 185) X dX10_breaks_60 rfl ?_ ?_
    · refine im_lv [0, 1, 2] [(0, .ref (aM 0)), (1, .int x1), (3, .long x3)] rfl ?_
      exact hk185 M x3
    · refine im_lload_n X 2 dX10_breaks_63 rfl rfl ?_
      refine im_aload_n X 0 dX10_breaks_64 rfl rfl ?_
      refine im_iload X 3 dX10_breaks_65 rfl ?_
      refine im_iconst X 1 dX10_breaks_67 (by decide) ?_
      refine im_iadd X dX10_breaks_68 ?_
      refine im_cciV X [.int (x5 + 1)] [.long x3] [w_Model ct aM M LM] [w_Model ct aM M LM] [0] (fun z69 => [w_Model ct aM M LM]) 0 0 10 rfl rfl rfl cl_X10_97 (c_X10_ratio l D ct F aM M LM (x5 + 1)) rfl (by decide) (fun _ => lc rfl (rfl)) rfl ⟨by decide, by decide⟩ (Nat.le_of_ble_eq_true rfl) rfl dX10_breaks_69 (fun z69 => ?_)
      refine im_ws (cat [w_Model ct aM M LM]) rfl ?_
      refine im_i2l X dX10_breaks_72 ?_
      refine im_ldiv X dX10_breaks_73 ?_
      refine im_lstore X [1, 2, 3, 4, 0] [(0, .ref (aM 0)), (1, .int x1), (3, .long x3), (5, .int x5), (6, .long (x3 / (z69).toInt64))] dX10_breaks_74 (by decide) rfl ?_
      refine im_iconst X 0 dX10_breaks_76 (by decide) ?_
      refine im_istore X [1, 2, 3, 4, 5, 0] [(0, .ref (aM 0)), (1, .int x1), (3, .long x3), (5, .int x5), (6, .long (x3 / (z69).toInt64)), (8, .int 0)] dX10_breaks_77 (by decide) rfl ?_
      refine i_X10_breaks_79 X F aM LM x1 x3 x5 (x3 / (z69).toInt64) _ (fun M_102 => ?_) F M 0
      refine im_iconst X 0 dX10_breaks_102 (by decide) ?_
      refine im_istore X [1, 2, 3, 4, 5, 0] [(0, .ref (aM 0)), (1, .int x1), (3, .long x3), (5, .int x5), (6, .long (x3 / (z69).toInt64)), (8, .int 0)] dX10_breaks_103 (by decide) rfl ?_
      refine i_X10_breaks_105 X F aM LM x1 x3 x5 (x3 / (z69).toInt64) _ (fun M_145 => ?_) F M_102 0
      refine im_iconst X 0 dX10_breaks_145 (by decide) ?_
      refine im_istore X [1, 2, 3, 4, 0] [(0, .ref (aM 0)), (1, .int x1), (5, .int x5), (6, .long (x3 / (z69).toInt64)), (8, .int 0)] dX10_breaks_146 (by decide) rfl ?_
      refine i_X10_breaks_148 X F aM LM x1 x5 (x3 / (z69).toInt64) _ (fun M_176 => ?_) F M_145 0
      refine im_lload X 3 dX10_breaks_176 rfl ?_
      refine im_lstore_n X [1, 2, 0, 3, 4] [(0, .ref (aM 0)), (1, .int x1), (3, .long (x3 / (z69).toInt64)), (5, .int x5), (6, .long (x3 / (z69).toInt64))] dX10_breaks_178 rfl (by decide) rfl ?_
      refine im_iinc X 3 1 [1, 2, 3, 0, 4] [(0, .ref (aM 0)), (1, .int x1), (3, .long (x3 / (z69).toInt64)), (5, .int (x5 + 1)), (6, .long (x3 / (z69).toInt64))] dX10_breaks_179 (by decide) rfl (by decide) rfl ?_
      refine im_goto (tgt := 50) X dX10_breaks_182 rfl ?_
      refine im_lv [0, 1, 2, 3] [(0, .ref (aM 0)), (1, .int x1), (3, .long (x3 / (z69).toInt64)), (5, .int (x5 + 1))] rfl ?_
      exact ih M_176 (x3 / (z69).toInt64) (x5 + 1)
noncomputable def f_X10_breaks_203 (F : Nat) (M : Mem) (LM : MemL) (x1 : Int32) (x3 : Int64) (x6 : Int32) (k263 : Int32 → Option (Int32 × Mem)) : Nat → Int32 → Int32 → Option (Int32 × Mem)
  | 0, _, _ => none
  | n + 1, x5, x7 =>
  (if 2 ≤ x7 then k263 x5 else ck 0 226 ((f_X10_now F M LM x1 (((M 1) (0 : Int32).toNatClampNeg) - 1)).bind (fun z225 => (f_X10_in F (x3 - (x6).toInt64) 0 ((z225 - x7)).toInt64).bind (fun z232 => (if z232 = 0 then f_X10_breaks_203 F M LM x1 x3 x6 k263 n x5 (x7 + 1) else ck ((2 * x6) + x7) 840 ((f_X10_lesser F x5 ((M 13) (((2 * x6) + x7)).toNatClampNeg)).bind (fun z252 => f_X10_breaks_203 F M LM x1 x3 x6 k263 n z252 (x7 + 1))))))))
set_option maxRecDepth 100000 in
set_option maxHeartbeats 4000000 in
theorem i_X10_breaks_203 {p : Program} {l : Launch} {e : Env} {s : State} {m : MethodId} {args : Array Value} {below : List Frame} {meth : Method} {c : Code} {D : va_G} {ct : im_ct} {A : Nat → Prop} (X : im_X p (im_rm 3) s m args meth c D ct A RX10 cX10_breaks 9 (some .int)) (F : Nat) (aM : Nat → Nat) (M : Mem) (LM : MemL) (x1 : Int32) (x3 : Int64) (x6 : Int32) (k263 : Int32 → Option (Int32 × Mem)) (hk263 : ∀ (x5 : Int32), Im p l e (im_rm 3) s m args below meth c D A 9 (QI D A (fun z : Int32 × Mem => z.1) (fun z : Int32 × Mem => (cat [w_Model ct aM z.2 LM]))) 263 [(0, .ref (aM 0)), (1, .int x1), (3, .long x3), (5, .int x5), (6, .int x6)] [] (cat [w_Model ct aM M LM]) (k263 x5)) : ∀ (n : Nat) (x5 : Int32) (x7 : Int32), Im p l e (im_rm 3) s m args below meth c D A 9 (QI D A (fun z : Int32 × Mem => z.1) (fun z : Int32 × Mem => (cat [w_Model ct aM z.2 LM]))) 203 [(0, .ref (aM 0)), (1, .int x1), (3, .long x3), (5, .int x5), (6, .int x6), (7, .int x7)] [] (cat [w_Model ct aM M LM]) (f_X10_breaks_203 F M LM x1 x3 x6 k263 n x5 x7) := by
  intro n
  induction n with
  | zero => intros; exact im_none
  | succ n ih =>
    intro x5 x7
    unfold f_X10_breaks_203
    refine im_iload X 5 dX10_breaks_203 rfl ?_
    refine im_iconst X 2 dX10_breaks_205 (by decide) ?_
    refine im_icmp_ge (tgt := 263) X dX10_breaks_206 rfl ?_ ?_
    · refine im_lv [0, 1, 2, 3, 4] [(0, .ref (aM 0)), (1, .int x1), (3, .long x3), (5, .int x5), (6, .int x6)] rfl ?_
      exact hk263 x5
    · refine im_lload_n X 2 dX10_breaks_209 rfl rfl ?_
      refine im_iload X 4 dX10_breaks_210 rfl ?_
      refine im_i2l X dX10_breaks_212 ?_
      refine im_lsub X dX10_breaks_213 ?_
      refine im_lconst X 0 dX10_breaks_214 (by decide) ?_
      refine im_aload_n X 0 dX10_breaks_215 rfl rfl ?_
      refine im_iload_n X 1 dX10_breaks_216 rfl rfl ?_
      refine im_aload_n X 0 dX10_breaks_217 rfl rfl ?_
      refine im_cget X 0 0 (v := .ref (aM 1)) fl_X10_13 rfl rfl rfl dX10_breaks_218 ?_
      refine im_iconst X 0 dX10_breaks_221 (by decide) ?_
      refine im_ciald X 0 1 0 (f := (M 1)) rfl rfl rfl dX10_breaks_222 ?_
      refine im_iconst X 1 dX10_breaks_223 (by decide) ?_
      refine im_isub X dX10_breaks_224 ?_
      refine im_cciV X [.int x1, .int (((M 1) (0 : Int32).toNatClampNeg) - 1)] [.long 0, .long (x3 - (x6).toInt64)] [w_Model ct aM M LM] [w_Model ct aM M LM] [0] (fun z225 => [w_Model ct aM M LM]) 0 0 10 rfl rfl rfl cl_X10_105 (c_X10_now l D ct F aM M LM x1 (((M 1) (0 : Int32).toNatClampNeg) - 1)) rfl (by decide) (fun _ => lc rfl (rfl)) rfl ⟨by decide, by decide⟩ (Nat.le_of_ble_eq_true rfl) rfl dX10_breaks_225 (fun z225 => ?_)
      refine im_ws (cat [w_Model ct aM M LM]) rfl ?_
      refine im_iload X 5 dX10_breaks_228 rfl ?_
      refine im_isub X dX10_breaks_230 ?_
      refine im_i2l X dX10_breaks_231 ?_
      refine im_cciS X [.long (x3 - (x6).toInt64), .long 0, .long ((z225 - x7)).toInt64] [] [w_Model ct aM M LM] [] [] (fun z232 => []) cl_X10_86 (c_X10_in l D ct F (x3 - (x6).toInt64) 0 ((z225 - x7)).toInt64) rfl (by decide) (fun _ => rfl) rfl ⟨by decide, by decide⟩ (Nat.le_of_ble_eq_true rfl) rfl dX10_breaks_232 (fun z232 => ?_)
      refine im_ws (cat [w_Model ct aM M LM]) rfl ?_
      refine im_if_eq (tgt := 257) X dX10_breaks_235 rfl ?_ ?_
      · refine im_iinc X 5 1 [1, 2, 3, 4, 5, 0] [(0, .ref (aM 0)), (1, .int x1), (3, .long x3), (5, .int x5), (6, .int x6), (7, .int (x7 + 1))] dX10_breaks_257 (by decide) rfl (by decide) rfl ?_
        refine im_goto (tgt := 203) X dX10_breaks_260 rfl ?_
        exact ih x5 (x7 + 1)
      · refine im_iload X 3 dX10_breaks_238 rfl ?_
        refine im_aload_n X 0 dX10_breaks_240 rfl rfl ?_
        refine im_cget X 0 0 (v := .ref (aM 13)) fl_X10_51 rfl rfl rfl dX10_breaks_241 ?_
        refine im_iconst X 2 dX10_breaks_244 (by decide) ?_
        refine im_iload X 4 dX10_breaks_245 rfl ?_
        refine im_imul X dX10_breaks_247 ?_
        refine im_iload X 5 dX10_breaks_248 rfl ?_
        refine im_iadd X dX10_breaks_250 ?_
        refine im_ciald X 0 13 0 (f := (M 13)) rfl rfl rfl dX10_breaks_251 ?_
        refine im_cciS X [.int x5, .int ((M 13) (((2 * x6) + x7)).toNatClampNeg)] [] [w_Model ct aM M LM] [] [] (fun z252 => []) cl_X10_240 (c_X10_lesser l D ct F x5 ((M 13) (((2 * x6) + x7)).toNatClampNeg)) rfl (by decide) (fun _ => rfl) rfl ⟨by decide, by decide⟩ (Nat.le_of_ble_eq_true rfl) rfl dX10_breaks_252 (fun z252 => ?_)
        refine im_ws (cat [w_Model ct aM M LM]) rfl ?_
        refine im_istore X [1, 2, 3, 0, 4, 5] [(0, .ref (aM 0)), (1, .int x1), (3, .long x3), (5, .int z252), (6, .int x6), (7, .int x7)] dX10_breaks_255 (by decide) rfl ?_
        refine im_iinc X 5 1 [1, 2, 3, 4, 5, 0] [(0, .ref (aM 0)), (1, .int x1), (3, .long x3), (5, .int z252), (6, .int x6), (7, .int (x7 + 1))] dX10_breaks_257 (by decide) rfl (by decide) rfl ?_
        refine im_goto (tgt := 203) X dX10_breaks_260 rfl ?_
        exact ih z252 (x7 + 1)
noncomputable def f_X10_breaks_192 (F : Nat) (M : Mem) (LM : MemL) (x1 : Int32) (x3 : Int64) (k269 : Int32 → Option (Int32 × Mem)) : Nat → Int32 → Int32 → Option (Int32 × Mem)
  | 0, _, _ => none
  | n + 1, x5, x6 =>
  (if 420 ≤ x6 then k269 x5 else f_X10_breaks_203 F M LM x1 x3 x6 (fun x5_263 => f_X10_breaks_192 F M LM x1 x3 k269 n x5_263 (x6 + 1)) F x5 0)
set_option maxRecDepth 100000 in
set_option maxHeartbeats 4000000 in
theorem i_X10_breaks_192 {p : Program} {l : Launch} {e : Env} {s : State} {m : MethodId} {args : Array Value} {below : List Frame} {meth : Method} {c : Code} {D : va_G} {ct : im_ct} {A : Nat → Prop} (X : im_X p (im_rm 3) s m args meth c D ct A RX10 cX10_breaks 9 (some .int)) (F : Nat) (aM : Nat → Nat) (M : Mem) (LM : MemL) (x1 : Int32) (x3 : Int64) (k269 : Int32 → Option (Int32 × Mem)) (hk269 : ∀ (x5 : Int32), Im p l e (im_rm 3) s m args below meth c D A 9 (QI D A (fun z : Int32 × Mem => z.1) (fun z : Int32 × Mem => (cat [w_Model ct aM z.2 LM]))) 269 [(5, .int x5)] [] (cat [w_Model ct aM M LM]) (k269 x5)) : ∀ (n : Nat) (x5 : Int32) (x6 : Int32), Im p l e (im_rm 3) s m args below meth c D A 9 (QI D A (fun z : Int32 × Mem => z.1) (fun z : Int32 × Mem => (cat [w_Model ct aM z.2 LM]))) 192 [(0, .ref (aM 0)), (1, .int x1), (3, .long x3), (5, .int x5), (6, .int x6)] [] (cat [w_Model ct aM M LM]) (f_X10_breaks_192 F M LM x1 x3 k269 n x5 x6) := by
  intro n
  induction n with
  | zero => intros; exact im_none
  | succ n ih =>
    intro x5 x6
    unfold f_X10_breaks_192
    refine im_iload X 4 dX10_breaks_192 rfl ?_
    refine im_sipush X 420 dX10_breaks_194 (by decide) ?_
    refine im_icmp_ge (tgt := 269) X dX10_breaks_197 rfl ?_ ?_
    · refine im_lv [3] [(5, .int x5)] rfl ?_
      exact hk269 x5
    · refine im_iconst X 0 dX10_breaks_200 (by decide) ?_
      refine im_istore X [1, 2, 3, 4, 5, 0] [(0, .ref (aM 0)), (1, .int x1), (3, .long x3), (5, .int x5), (6, .int x6), (7, .int 0)] dX10_breaks_201 (by decide) rfl ?_
      refine i_X10_breaks_203 X F aM M LM x1 x3 x6 _ (fun x5_263 => ?_) F x5 0
      refine im_iinc X 4 1 [1, 2, 3, 4, 0] [(0, .ref (aM 0)), (1, .int x1), (3, .long x3), (5, .int x5_263), (6, .int (x6 + 1))] dX10_breaks_263 (by decide) rfl (by decide) rfl ?_
      refine im_goto (tgt := 192) X dX10_breaks_266 rfl ?_
      exact ih x5_263 (x6 + 1)
noncomputable def f_X10_breaks (F : Nat) (M : Mem) (LM : MemL) (x1 : Int32) (x2 : Int32) : Option (Int32 × Mem) :=
  (f_X10_isRow F M LM x1).bind (fun z2 => (if z2 = 0 then (some ((-1), M)) else (if 0 ≤ x2 then f_X10_breaks_16 F LM x1 x2 (fun M_37 => ck 0 840 (f_X10_breaks_50 F LM x1 (fun M_185 x3_185 => f_X10_breaks_192 F M_185 LM x1 x3_185 (fun x5_269 => (if x5_269 < 1000000 then (some (x5_269, M_185)) else (some ((-2), M_185)))) F 1000000 0) F (mr M_37 13 (upd (M_37 13) (0 : Int32).toNatClampNeg 0)) (x2).toInt64 0)) F M 0 else (some ((-1), M)))))
set_option maxRecDepth 100000 in
set_option maxHeartbeats 4000000 in
theorem i_X10_breaks {p : Program} {l : Launch} {e : Env} {s : State} {m : MethodId} {args : Array Value} {below : List Frame} {meth : Method} {c : Code} {D : va_G} {ct : im_ct} {A : Nat → Prop} (X : im_X p (im_rm 3) s m args meth c D ct A RX10 cX10_breaks 9 (some .int)) (F : Nat) (aM : Nat → Nat) (M : Mem) (LM : MemL) (x1 : Int32) (x2 : Int32) : Im p l e (im_rm 3) s m args below meth c D A 9 (QI D A (fun z : Int32 × Mem => z.1) (fun z : Int32 × Mem => (cat [w_Model ct aM z.2 LM]))) 0 [(0, .ref (aM 0)), (1, .int x1), (2, .int x2)] [] (cat [w_Model ct aM M LM]) (f_X10_breaks F M LM x1 x2) := by
  unfold f_X10_breaks
  refine im_aload_n X 0 dX10_breaks_0 rfl rfl ?_
  refine im_iload_n X 1 dX10_breaks_1 rfl rfl ?_
  refine im_cciV X [.int x1] [] [w_Model ct aM M LM] [w_Model ct aM M LM] [0] (fun z2 => [w_Model ct aM M LM]) 0 0 10 rfl rfl rfl cl_X10_90 (c_X10_isRow l D ct F aM M LM x1) rfl (by decide) (fun _ => lc rfl (rfl)) rfl ⟨by decide, by decide⟩ (Nat.le_of_ble_eq_true rfl) rfl dX10_breaks_2 (fun z2 => ?_)
  refine im_ws (cat [w_Model ct aM M LM]) rfl ?_
  refine im_if_eq (tgt := 12) X dX10_breaks_5 rfl ?_ ?_
  · refine im_iconst X (-1) dX10_breaks_12 (by decide) ?_
    exact im_ireturn X ((-1), M) rfl rfl dX10_breaks_13
  · refine im_iload_n X 2 dX10_breaks_8 rfl rfl ?_
    refine im_if_ge (tgt := 14) X dX10_breaks_9 rfl ?_ ?_
    · refine im_iconst X 0 dX10_breaks_14 (by decide) ?_
      refine im_istore_n X [1, 2, 3, 0] [(0, .ref (aM 0)), (1, .int x1), (2, .int x2), (3, .int 0)] dX10_breaks_15 rfl (by decide) rfl ?_
      refine i_X10_breaks_16 X F aM LM x1 x2 _ (fun M_37 => ?_) F M 0
      refine im_aload_n X 0 dX10_breaks_37 rfl rfl ?_
      refine im_cget X 0 0 (v := .ref (aM 13)) fl_X10_51 rfl rfl rfl dX10_breaks_38 ?_
      refine im_iconst X 0 dX10_breaks_41 (by decide) ?_
      refine im_iconst X 0 dX10_breaks_42 (by decide) ?_
      refine im_ciast X 0 13 0 (wx_Model ct aM (M_37 0 0) (M_37 0 4) (M_37 0 6) (M_37 0 7) (M_37 0 8) (M_37 0 9) (M_37 0 24) (M_37 0 27) (M_37 0 29) (M_37 0 31) (M_37 0 32) (M_37 0 33) (M_37 0 34) (M_37 0 35) (M_37 1) (M_37 2) (M_37 3) (M_37 4) (M_37 5) (M_37 9) (M_37 10) (M_37 11) (M_37 12) (upd (M_37 13) (0 : Int32).toNatClampNeg 0) (M_37 14) (M_37 15) (M_37 16) (M_37 17) (M_37 18) (M_37 19) (M_37 20) (M_37 21) (M_37 22) (LM 6) (LM 7) (LM 8)) [wx_Model ct aM (M_37 0 0) (M_37 0 4) (M_37 0 6) (M_37 0 7) (M_37 0 8) (M_37 0 9) (M_37 0 24) (M_37 0 27) (M_37 0 29) (M_37 0 31) (M_37 0 32) (M_37 0 33) (M_37 0 34) (M_37 0 35) (M_37 1) (M_37 2) (M_37 3) (M_37 4) (M_37 5) (M_37 9) (M_37 10) (M_37 11) (M_37 12) (upd (M_37 13) (0 : Int32).toNatClampNeg 0) (M_37 14) (M_37 15) (M_37 16) (M_37 17) (M_37 18) (M_37 19) (M_37 20) (M_37 21) (M_37 22) (LM 6) (LM 7) (LM 8)] (f := (M_37 13)) rfl rfl rfl rfl rfl dX10_breaks_43 ?_
      refine im_iload_n X 2 dX10_breaks_44 rfl rfl ?_
      refine im_i2l X dX10_breaks_45 ?_
      refine im_lstore_n X [1, 2, 3, 0] [(0, .ref (aM 0)), (1, .int x1), (2, .int x2), (3, .long (x2).toInt64)] dX10_breaks_46 rfl (by decide) rfl ?_
      refine im_iconst X 0 dX10_breaks_47 (by decide) ?_
      refine im_istore X [1, 2, 3, 4, 0] [(0, .ref (aM 0)), (1, .int x1), (2, .int x2), (3, .long (x2).toInt64), (5, .int 0)] dX10_breaks_48 (by decide) rfl ?_
      refine im_lv [0, 1, 3, 4] [(0, .ref (aM 0)), (1, .int x1), (3, .long (x2).toInt64), (5, .int 0)] rfl ?_
      refine i_X10_breaks_50 X F aM LM x1 _ (fun M_185 x3_185 => ?_) F (mr M_37 13 (upd (M_37 13) (0 : Int32).toNatClampNeg 0)) (x2).toInt64 0
      refine im_ldc X kc_X10_221 dX10_breaks_185 ?_
      refine im_istore X [1, 2, 3, 0] [(0, .ref (aM 0)), (1, .int x1), (3, .long x3_185), (5, .int 1000000)] dX10_breaks_187 (by decide) rfl ?_
      refine im_iconst X 0 dX10_breaks_189 (by decide) ?_
      refine im_istore X [1, 2, 3, 4, 0] [(0, .ref (aM 0)), (1, .int x1), (3, .long x3_185), (5, .int 1000000), (6, .int 0)] dX10_breaks_190 (by decide) rfl ?_
      refine i_X10_breaks_192 X F aM M_185 LM x1 x3_185 _ (fun x5_269 => ?_) F 1000000 0
      refine im_iload X 0 dX10_breaks_269 rfl ?_
      refine im_ldc X kc_X10_221 dX10_breaks_271 ?_
      refine im_icmp_lt (tgt := 281) X dX10_breaks_273 rfl ?_ ?_
      · refine im_iload X 0 dX10_breaks_281 rfl ?_
        exact im_ireturn X (x5_269, M_185) rfl rfl dX10_breaks_283
      · refine im_bipush X (-2) dX10_breaks_276 (by decide) ?_
        refine im_goto (tgt := 283) X dX10_breaks_278 rfl ?_
        exact im_ireturn X ((-2), M_185) rfl rfl dX10_breaks_283
    · refine im_iconst X (-1) dX10_breaks_12 (by decide) ?_
      exact im_ireturn X ((-1), M) rfl rfl dX10_breaks_13
theorem c_X10_breaks (l : Launch) (D : va_G) (ct : im_ct) (F : Nat) (aM : Nat → Nat) (M : Mem) (LM : MemL) (x1 : Int32) (x2 : Int32) : CMi l D ct yX10_breaks cX10_breaks 9 (some .int) 3 [.ref (aM 0), .int x1, .int x2] (cat [w_Model ct aM M LM]) (f_X10_breaks F M LM x1 x2) (fun z : Int32 × Mem => z.1) (fun z : Int32 × Mem => (cat [w_Model ct aM z.2 LM])) :=
  im_met (Qb := fun A => QI D A (fun z : Int32 × Mem => z.1) (fun z : Int32 × Mem => (cat [w_Model ct aM z.2 LM]))) (by decide +kernel) (Nat.le_of_ble_eq_true rfl) (fun p e s m args below meth c A X => i_X10_breaks X F aM M LM x1 x2)

noncomputable def f_X10_missing_14 (F : Nat) (M : Mem) (LM : MemL) (x1 : Int32) (k65 : Int32 → Option (Int32)) : Nat → Int32 → Int32 → Option (Int32)
  | 0, _, _ => none
  | n + 1, x2, x3 =>
  ck 0 226 ((if ((M 1) (0 : Int32).toNatClampNeg) ≤ x3 then k65 x2 else (f_X10_now F M LM x1 x3).bind (fun z27 => (if z27 ≤ 0 then f_X10_missing_14 F M LM x1 k65 n x2 (x3 + 1) else (f_X10_worthOf F M LM x3).bind (fun z35 => (if (x2 + 1) < z35 then f_X10_missing_14 F M LM x1 k65 n x2 (x3 + 1) else (f_X10_now F M LM x1 x3).bind (fun z48 => (f_X10_worthOf F M LM x3).bind (fun z53 => f_X10_missing_14 F M LM x1 k65 n (x2 + (z48 * z53)) (x3 + 1)))))))))
set_option maxRecDepth 100000 in
set_option maxHeartbeats 4000000 in
theorem i_X10_missing_14 {p : Program} {l : Launch} {e : Env} {s : State} {m : MethodId} {args : Array Value} {below : List Frame} {meth : Method} {c : Code} {D : va_G} {ct : im_ct} {A : Nat → Prop} (X : im_X p (im_rm 2) s m args meth c D ct A RX10 cX10_missing 4 (some .int)) (F : Nat) (aM : Nat → Nat) (M : Mem) (LM : MemL) (x1 : Int32) (k65 : Int32 → Option (Int32)) (hk65 : ∀ (x2 : Int32), Im p l e (im_rm 2) s m args below meth c D A 4 (QI D A (fun z : Int32 => z) (fun z : Int32 => (cat [w_Model ct aM M LM]))) 65 [(2, .int x2)] [] (cat [w_Model ct aM M LM]) (k65 x2)) : ∀ (n : Nat) (x2 : Int32) (x3 : Int32), Im p l e (im_rm 2) s m args below meth c D A 4 (QI D A (fun z : Int32 => z) (fun z : Int32 => (cat [w_Model ct aM M LM]))) 14 [(0, .ref (aM 0)), (1, .int x1), (2, .int x2), (3, .int x3)] [] (cat [w_Model ct aM M LM]) (f_X10_missing_14 F M LM x1 k65 n x2 x3) := by
  intro n
  induction n with
  | zero => intros; exact im_none
  | succ n ih =>
    intro x2 x3
    unfold f_X10_missing_14
    refine im_iload_n X 3 dX10_missing_14 rfl rfl ?_
    refine im_aload_n X 0 dX10_missing_15 rfl rfl ?_
    refine im_cget X 0 0 (v := .ref (aM 1)) fl_X10_13 rfl rfl rfl dX10_missing_16 ?_
    refine im_iconst X 0 dX10_missing_19 (by decide) ?_
    refine im_ciald X 0 1 0 (f := (M 1)) rfl rfl rfl dX10_missing_20 ?_
    refine im_icmp_ge (tgt := 65) X dX10_missing_21 rfl ?_ ?_
    · refine im_lv [2] [(2, .int x2)] rfl ?_
      exact hk65 x2
    · refine im_aload_n X 0 dX10_missing_24 rfl rfl ?_
      refine im_iload_n X 1 dX10_missing_25 rfl rfl ?_
      refine im_iload_n X 3 dX10_missing_26 rfl rfl ?_
      refine im_cciV X [.int x1, .int x3] [] [w_Model ct aM M LM] [w_Model ct aM M LM] [0] (fun z27 => [w_Model ct aM M LM]) 0 0 10 rfl rfl rfl cl_X10_105 (c_X10_now l D ct F aM M LM x1 x3) rfl (by decide) (fun _ => lc rfl (rfl)) rfl ⟨by decide, by decide⟩ (Nat.le_of_ble_eq_true rfl) rfl dX10_missing_27 (fun z27 => ?_)
      refine im_ws (cat [w_Model ct aM M LM]) rfl ?_
      refine im_if_le (tgt := 59) X dX10_missing_30 rfl ?_ ?_
      · refine im_iinc X 3 1 [1, 2, 3, 0] [(0, .ref (aM 0)), (1, .int x1), (2, .int x2), (3, .int (x3 + 1))] dX10_missing_59 (by decide) rfl (by decide) rfl ?_
        refine im_goto (tgt := 14) X dX10_missing_62 rfl ?_
        exact ih x2 (x3 + 1)
      · refine im_aload_n X 0 dX10_missing_33 rfl rfl ?_
        refine im_iload_n X 3 dX10_missing_34 rfl rfl ?_
        refine im_cciV X [.int x3] [] [w_Model ct aM M LM] [w_Model ct aM M LM] [0] (fun z35 => [w_Model ct aM M LM]) 0 0 10 rfl rfl rfl cl_X10_108 (c_X10_worthOf l D ct F aM M LM x3) rfl (by decide) (fun _ => lc rfl (rfl)) rfl ⟨by decide, by decide⟩ (Nat.le_of_ble_eq_true rfl) rfl dX10_missing_35 (fun z35 => ?_)
        refine im_ws (cat [w_Model ct aM M LM]) rfl ?_
        refine im_iload_n X 2 dX10_missing_38 rfl rfl ?_
        refine im_iconst X 1 dX10_missing_39 (by decide) ?_
        refine im_iadd X dX10_missing_40 ?_
        refine im_icmp_gt (tgt := 59) X dX10_missing_41 rfl ?_ ?_
        · refine im_iinc X 3 1 [1, 2, 3, 0] [(0, .ref (aM 0)), (1, .int x1), (2, .int x2), (3, .int (x3 + 1))] dX10_missing_59 (by decide) rfl (by decide) rfl ?_
          refine im_goto (tgt := 14) X dX10_missing_62 rfl ?_
          exact ih x2 (x3 + 1)
        · refine im_iload_n X 2 dX10_missing_44 rfl rfl ?_
          refine im_aload_n X 0 dX10_missing_45 rfl rfl ?_
          refine im_iload_n X 1 dX10_missing_46 rfl rfl ?_
          refine im_iload_n X 3 dX10_missing_47 rfl rfl ?_
          refine im_cciV X [.int x1, .int x3] [.int x2] [w_Model ct aM M LM] [w_Model ct aM M LM] [0] (fun z48 => [w_Model ct aM M LM]) 0 0 10 rfl rfl rfl cl_X10_105 (c_X10_now l D ct F aM M LM x1 x3) rfl (by decide) (fun _ => lc rfl (rfl)) rfl ⟨by decide, by decide⟩ (Nat.le_of_ble_eq_true rfl) rfl dX10_missing_48 (fun z48 => ?_)
          refine im_ws (cat [w_Model ct aM M LM]) rfl ?_
          refine im_aload_n X 0 dX10_missing_51 rfl rfl ?_
          refine im_iload_n X 3 dX10_missing_52 rfl rfl ?_
          refine im_cciV X [.int x3] [.int z48, .int x2] [w_Model ct aM M LM] [w_Model ct aM M LM] [0] (fun z53 => [w_Model ct aM M LM]) 0 0 10 rfl rfl rfl cl_X10_108 (c_X10_worthOf l D ct F aM M LM x3) rfl (by decide) (fun _ => lc rfl (rfl)) rfl ⟨by decide, by decide⟩ (Nat.le_of_ble_eq_true rfl) rfl dX10_missing_53 (fun z53 => ?_)
          refine im_ws (cat [w_Model ct aM M LM]) rfl ?_
          refine im_imul X dX10_missing_56 ?_
          refine im_iadd X dX10_missing_57 ?_
          refine im_istore_n X [1, 2, 0, 3] [(0, .ref (aM 0)), (1, .int x1), (2, .int (x2 + (z48 * z53))), (3, .int x3)] dX10_missing_58 rfl (by decide) rfl ?_
          refine im_iinc X 3 1 [1, 2, 3, 0] [(0, .ref (aM 0)), (1, .int x1), (2, .int (x2 + (z48 * z53))), (3, .int (x3 + 1))] dX10_missing_59 (by decide) rfl (by decide) rfl ?_
          refine im_goto (tgt := 14) X dX10_missing_62 rfl ?_
          exact ih (x2 + (z48 * z53)) (x3 + 1)
noncomputable def f_X10_missing (F : Nat) (M : Mem) (LM : MemL) (x1 : Int32) : Option (Int32) :=
  (f_X10_isRow F M LM x1).bind (fun z2 => (if z2 = 0 then (some (-1)) else f_X10_missing_14 F M LM x1 (fun x2_65 => (some (x2_65 + 1))) F 0 0))
set_option maxRecDepth 100000 in
set_option maxHeartbeats 4000000 in
theorem i_X10_missing {p : Program} {l : Launch} {e : Env} {s : State} {m : MethodId} {args : Array Value} {below : List Frame} {meth : Method} {c : Code} {D : va_G} {ct : im_ct} {A : Nat → Prop} (X : im_X p (im_rm 2) s m args meth c D ct A RX10 cX10_missing 4 (some .int)) (F : Nat) (aM : Nat → Nat) (M : Mem) (LM : MemL) (x1 : Int32) : Im p l e (im_rm 2) s m args below meth c D A 4 (QI D A (fun z : Int32 => z) (fun z : Int32 => (cat [w_Model ct aM M LM]))) 0 [(0, .ref (aM 0)), (1, .int x1)] [] (cat [w_Model ct aM M LM]) (f_X10_missing F M LM x1) := by
  unfold f_X10_missing
  refine im_aload_n X 0 dX10_missing_0 rfl rfl ?_
  refine im_iload_n X 1 dX10_missing_1 rfl rfl ?_
  refine im_cciV X [.int x1] [] [w_Model ct aM M LM] [w_Model ct aM M LM] [0] (fun z2 => [w_Model ct aM M LM]) 0 0 10 rfl rfl rfl cl_X10_90 (c_X10_isRow l D ct F aM M LM x1) rfl (by decide) (fun _ => lc rfl (rfl)) rfl ⟨by decide, by decide⟩ (Nat.le_of_ble_eq_true rfl) rfl dX10_missing_2 (fun z2 => ?_)
  refine im_ws (cat [w_Model ct aM M LM]) rfl ?_
  refine im_if_ne (tgt := 10) X dX10_missing_5 rfl ?_ ?_
  · refine im_iconst X 0 dX10_missing_10 (by decide) ?_
    refine im_istore_n X [1, 2, 0] [(0, .ref (aM 0)), (1, .int x1), (2, .int 0)] dX10_missing_11 rfl (by decide) rfl ?_
    refine im_iconst X 0 dX10_missing_12 (by decide) ?_
    refine im_istore_n X [1, 2, 3, 0] [(0, .ref (aM 0)), (1, .int x1), (2, .int 0), (3, .int 0)] dX10_missing_13 rfl (by decide) rfl ?_
    refine i_X10_missing_14 X F aM M LM x1 _ (fun x2_65 => ?_) F 0 0
    refine im_iload_n X 0 dX10_missing_65 rfl rfl ?_
    refine im_iconst X 1 dX10_missing_66 (by decide) ?_
    refine im_iadd X dX10_missing_67 ?_
    exact im_ireturn X (x2_65 + 1) rfl rfl dX10_missing_68
  · refine im_iconst X (-1) dX10_missing_8 (by decide) ?_
    exact im_ireturn X (-1) rfl rfl dX10_missing_9
theorem c_X10_missing (l : Launch) (D : va_G) (ct : im_ct) (F : Nat) (aM : Nat → Nat) (M : Mem) (LM : MemL) (x1 : Int32) : CMi l D ct yX10_missing cX10_missing 4 (some .int) 2 [.ref (aM 0), .int x1] (cat [w_Model ct aM M LM]) (f_X10_missing F M LM x1) (fun z : Int32 => z) (fun z : Int32 => (cat [w_Model ct aM M LM])) :=
  im_met (Qb := fun A => QI D A (fun z : Int32 => z) (fun z : Int32 => (cat [w_Model ct aM M LM]))) (by decide +kernel) (Nat.le_of_ble_eq_true rfl) (fun p e s m args below meth c A X => i_X10_missing X F aM M LM x1)

noncomputable def f_X10_move (F : Nat) (M : Mem) (LM : MemL) (x1 : Int32) (x2 : Int32) : Option (Int32) :=
  ck 56 226 ((f_X10_in F (x1).toInt64 0 ((((M 1) (56 : Int32).toNatClampNeg) - 1)).toInt64).bind (fun z13 => (if z13 = 0 then (some (-1)) else (f_X10_in F (x2).toInt64 0 4).bind (fun z25 => (if z25 = 0 then (some (-1)) else ck ((57 + (5 * x1)) + x2) 226 ((some ((M 1) (((57 + (5 * x1)) + x2)).toNatClampNeg))))))))
set_option maxRecDepth 100000 in
set_option maxHeartbeats 4000000 in
theorem i_X10_move {p : Program} {l : Launch} {e : Env} {s : State} {m : MethodId} {args : Array Value} {below : List Frame} {meth : Method} {c : Code} {D : va_G} {ct : im_ct} {A : Nat → Prop} (X : im_X p (im_rm 1) s m args meth c D ct A RX10 cX10_move 3 (some .int)) (F : Nat) (aM : Nat → Nat) (M : Mem) (LM : MemL) (x1 : Int32) (x2 : Int32) : Im p l e (im_rm 1) s m args below meth c D A 3 (QI D A (fun z : Int32 => z) (fun z : Int32 => (cat [w_Model ct aM M LM]))) 0 [(0, .ref (aM 0)), (1, .int x1), (2, .int x2)] [] (cat [w_Model ct aM M LM]) (f_X10_move F M LM x1 x2) := by
  unfold f_X10_move
  refine im_iload_n X 1 dX10_move_0 rfl rfl ?_
  refine im_i2l X dX10_move_1 ?_
  refine im_lconst X 0 dX10_move_2 (by decide) ?_
  refine im_aload_n X 0 dX10_move_3 rfl rfl ?_
  refine im_cget X 0 0 (v := .ref (aM 1)) fl_X10_13 rfl rfl rfl dX10_move_4 ?_
  refine im_bipush X 56 dX10_move_7 (by decide) ?_
  refine im_ciald X 0 1 0 (f := (M 1)) rfl rfl rfl dX10_move_9 ?_
  refine im_iconst X 1 dX10_move_10 (by decide) ?_
  refine im_isub X dX10_move_11 ?_
  refine im_i2l X dX10_move_12 ?_
  refine im_cciS X [.long (x1).toInt64, .long 0, .long ((((M 1) (56 : Int32).toNatClampNeg) - 1)).toInt64] [] [w_Model ct aM M LM] [] [] (fun z13 => []) cl_X10_86 (c_X10_in l D ct F (x1).toInt64 0 ((((M 1) (56 : Int32).toNatClampNeg) - 1)).toInt64) rfl (by decide) (fun _ => rfl) rfl ⟨by decide, by decide⟩ (Nat.le_of_ble_eq_true rfl) rfl dX10_move_13 (fun z13 => ?_)
  refine im_ws (cat [w_Model ct aM M LM]) rfl ?_
  refine im_if_eq (tgt := 47) X dX10_move_16 rfl ?_ ?_
  · refine im_iconst X (-1) dX10_move_47 (by decide) ?_
    exact im_ireturn X (-1) rfl rfl dX10_move_48
  · refine im_iload_n X 2 dX10_move_19 rfl rfl ?_
    refine im_i2l X dX10_move_20 ?_
    refine im_lconst X 0 dX10_move_21 (by decide) ?_
    refine im_ldc2 X kc_X10_130 dX10_move_22 ?_
    refine im_cciS X [.long (x2).toInt64, .long 0, .long 4] [] [w_Model ct aM M LM] [] [] (fun z25 => []) cl_X10_86 (c_X10_in l D ct F (x2).toInt64 0 4) rfl (by decide) (fun _ => rfl) rfl ⟨by decide, by decide⟩ (Nat.le_of_ble_eq_true rfl) rfl dX10_move_25 (fun z25 => ?_)
    refine im_ws (cat [w_Model ct aM M LM]) rfl ?_
    refine im_if_eq (tgt := 47) X dX10_move_28 rfl ?_ ?_
    · refine im_iconst X (-1) dX10_move_47 (by decide) ?_
      exact im_ireturn X (-1) rfl rfl dX10_move_48
    · refine im_aload_n X 0 dX10_move_31 rfl rfl ?_
      refine im_cget X 0 0 (v := .ref (aM 1)) fl_X10_13 rfl rfl rfl dX10_move_32 ?_
      refine im_bipush X 57 dX10_move_35 (by decide) ?_
      refine im_iconst X 5 dX10_move_37 (by decide) ?_
      refine im_iload_n X 1 dX10_move_38 rfl rfl ?_
      refine im_imul X dX10_move_39 ?_
      refine im_iadd X dX10_move_40 ?_
      refine im_iload_n X 2 dX10_move_41 rfl rfl ?_
      refine im_iadd X dX10_move_42 ?_
      refine im_ciald X 0 1 0 (f := (M 1)) rfl rfl rfl dX10_move_43 ?_
      refine im_goto (tgt := 48) X dX10_move_44 rfl ?_
      exact im_ireturn X ((M 1) (((57 + (5 * x1)) + x2)).toNatClampNeg) rfl rfl dX10_move_48
theorem c_X10_move (l : Launch) (D : va_G) (ct : im_ct) (F : Nat) (aM : Nat → Nat) (M : Mem) (LM : MemL) (x1 : Int32) (x2 : Int32) : CMi l D ct yX10_move cX10_move 3 (some .int) 1 [.ref (aM 0), .int x1, .int x2] (cat [w_Model ct aM M LM]) (f_X10_move F M LM x1 x2) (fun z : Int32 => z) (fun z : Int32 => (cat [w_Model ct aM M LM])) :=
  im_met (Qb := fun A => QI D A (fun z : Int32 => z) (fun z : Int32 => (cat [w_Model ct aM M LM]))) (by decide +kernel) (Nat.le_of_ble_eq_true rfl) (fun p e s m args below meth c A X => i_X10_move X F aM M LM x1 x2)

noncomputable def f_X10_isTime (F : Nat) (M : Mem) (LM : MemL) (x1 : Int32) : Option (Int32) :=
  ck 56 226 ((f_X10_in F (x1).toInt64 0 (((M 1) (56 : Int32).toNatClampNeg)).toInt64).bind (fun z11 => (cb z11 (some z11))))
set_option maxRecDepth 100000 in
set_option maxHeartbeats 4000000 in
theorem i_X10_isTime {p : Program} {l : Launch} {e : Env} {s : State} {m : MethodId} {args : Array Value} {below : List Frame} {meth : Method} {c : Code} {D : va_G} {ct : im_ct} {A : Nat → Prop} (X : im_X p (im_rm 1) s m args meth c D ct A RX10 cX10_isTime 2 (some .boolean)) (F : Nat) (aM : Nat → Nat) (M : Mem) (LM : MemL) (x1 : Int32) : Im p l e (im_rm 1) s m args below meth c D A 2 (QI D A (fun z : Int32 => z) (fun z : Int32 => (cat [w_Model ct aM M LM]))) 0 [(0, .ref (aM 0)), (1, .int x1)] [] (cat [w_Model ct aM M LM]) (f_X10_isTime F M LM x1) := by
  unfold f_X10_isTime
  refine im_iload_n X 1 dX10_isTime_0 rfl rfl ?_
  refine im_i2l X dX10_isTime_1 ?_
  refine im_lconst X 0 dX10_isTime_2 (by decide) ?_
  refine im_aload_n X 0 dX10_isTime_3 rfl rfl ?_
  refine im_cget X 0 0 (v := .ref (aM 1)) fl_X10_13 rfl rfl rfl dX10_isTime_4 ?_
  refine im_bipush X 56 dX10_isTime_7 (by decide) ?_
  refine im_ciald X 0 1 0 (f := (M 1)) rfl rfl rfl dX10_isTime_9 ?_
  refine im_i2l X dX10_isTime_10 ?_
  refine im_cciS X [.long (x1).toInt64, .long 0, .long (((M 1) (56 : Int32).toNatClampNeg)).toInt64] [] [w_Model ct aM M LM] [] [] (fun z11 => []) cl_X10_86 (c_X10_in l D ct F (x1).toInt64 0 (((M 1) (56 : Int32).toNatClampNeg)).toInt64) rfl (by decide) (fun _ => rfl) rfl ⟨by decide, by decide⟩ (Nat.le_of_ble_eq_true rfl) rfl dX10_isTime_11 (fun z11 => ?_)
  refine im_ws (cat [w_Model ct aM M LM]) rfl ?_
  exact im_zreturnc X z11 rfl rfl dX10_isTime_14
theorem c_X10_isTime (l : Launch) (D : va_G) (ct : im_ct) (F : Nat) (aM : Nat → Nat) (M : Mem) (LM : MemL) (x1 : Int32) : CMi l D ct yX10_isTime cX10_isTime 2 (some .boolean) 1 [.ref (aM 0), .int x1] (cat [w_Model ct aM M LM]) (f_X10_isTime F M LM x1) (fun z : Int32 => z) (fun z : Int32 => (cat [w_Model ct aM M LM])) :=
  im_met (Qb := fun A => QI D A (fun z : Int32 => z) (fun z : Int32 => (cat [w_Model ct aM M LM]))) (by decide +kernel) (Nat.le_of_ble_eq_true rfl) (fun p e s m args below meth c A X => i_X10_isTime X F aM M LM x1)

noncomputable def f_X10_at (F : Nat) (M : Mem) (LM : MemL) (x1 : Int32) (x2 : Int32) (x3 : Int32) : Option (Int32 × Mem) :=
  (f_X10_isTime F M LM x1).bind (fun z2 => (if z2 = 0 then (some ((-1000), M)) else (f_X10_isCell F M LM x2 x3).bind (fun z11 => (if z11 = 0 then (some ((-1000), M)) else (f_X10_laysAt F M LM x1).bind (fun z23 => (f_X10_cell F x2 x3).bind (fun z32 => ck z32 24 ((some (((z23 4) z32.toNatClampNeg), z23)))))))))
set_option maxRecDepth 100000 in
set_option maxHeartbeats 4000000 in
theorem i_X10_at {p : Program} {l : Launch} {e : Env} {s : State} {m : MethodId} {args : Array Value} {below : List Frame} {meth : Method} {c : Code} {D : va_G} {ct : im_ct} {A : Nat → Prop} (X : im_X p (im_rm 6) s m args meth c D ct A RX10 cX10_at 4 (some .int)) (F : Nat) (aM : Nat → Nat) (M : Mem) (LM : MemL) (x1 : Int32) (x2 : Int32) (x3 : Int32) : Im p l e (im_rm 6) s m args below meth c D A 4 (QI D A (fun z : Int32 × Mem => z.1) (fun z : Int32 × Mem => (cat [w_Model ct aM z.2 LM]))) 0 [(0, .ref (aM 0)), (1, .int x1), (2, .int x2), (3, .int x3)] [] (cat [w_Model ct aM M LM]) (f_X10_at F M LM x1 x2 x3) := by
  unfold f_X10_at
  refine im_aload_n X 0 dX10_at_0 rfl rfl ?_
  refine im_iload_n X 1 dX10_at_1 rfl rfl ?_
  refine im_cciV X [.int x1] [] [w_Model ct aM M LM] [w_Model ct aM M LM] [0] (fun z2 => [w_Model ct aM M LM]) 0 0 10 rfl rfl rfl cl_X10_250 (c_X10_isTime l D ct F aM M LM x1) rfl (by decide) (fun _ => lc rfl (rfl)) rfl ⟨by decide, by decide⟩ (Nat.le_of_ble_eq_true rfl) rfl dX10_at_2 (fun z2 => ?_)
  refine im_ws (cat [w_Model ct aM M LM]) rfl ?_
  refine im_if_eq (tgt := 17) X dX10_at_5 rfl ?_ ?_
  · refine im_sipush X (-1000) dX10_at_17 (by decide) ?_
    exact im_ireturn X ((-1000), M) rfl rfl dX10_at_20
  · refine im_aload_n X 0 dX10_at_8 rfl rfl ?_
    refine im_iload_n X 2 dX10_at_9 rfl rfl ?_
    refine im_iload_n X 3 dX10_at_10 rfl rfl ?_
    refine im_cciV X [.int x2, .int x3] [] [w_Model ct aM M LM] [w_Model ct aM M LM] [0] (fun z11 => [w_Model ct aM M LM]) 0 0 10 rfl rfl rfl cl_X10_132 (c_X10_isCell l D ct F aM M LM x2 x3) rfl (by decide) (fun _ => lc rfl (rfl)) rfl ⟨by decide, by decide⟩ (Nat.le_of_ble_eq_true rfl) rfl dX10_at_11 (fun z11 => ?_)
    refine im_ws (cat [w_Model ct aM M LM]) rfl ?_
    refine im_if_ne (tgt := 21) X dX10_at_14 rfl ?_ ?_
    · refine im_aload_n X 0 dX10_at_21 rfl rfl ?_
      refine im_iload_n X 1 dX10_at_22 rfl rfl ?_
      refine im_ccvV X [.int x1] [] [w_Model ct aM M LM] [w_Model ct aM M LM] [0] (fun z23 => [w_Model ct aM z23 LM]) 0 0 10 rfl rfl rfl cl_X10_253 (c_X10_laysAt l D ct F aM M LM x1) rfl (by decide) (fun _ => lc fa_Model (rfl)) rfl ⟨by decide, by decide⟩ (Nat.le_of_ble_eq_true rfl) rfl dX10_at_23 (fun z23 => ?_)
      refine im_ws (cat [w_Model ct aM z23 LM]) rfl ?_
      refine im_aload_n X 0 dX10_at_26 rfl rfl ?_
      refine im_cget X 0 0 (v := .ref (aM 4)) fl_X10_23 rfl rfl rfl dX10_at_27 ?_
      refine im_iload_n X 2 dX10_at_30 rfl rfl ?_
      refine im_iload_n X 3 dX10_at_31 rfl rfl ?_
      refine im_cciS X [.int x2, .int x3] [.ref (aM 4)] [w_Model ct aM z23 LM] [] [] (fun z32 => []) cl_X10_101 (c_X10_cell l D ct F x2 x3) rfl (by decide) (fun _ => rfl) rfl ⟨by decide, by decide⟩ (Nat.le_of_ble_eq_true rfl) rfl dX10_at_32 (fun z32 => ?_)
      refine im_ws (cat [w_Model ct aM z23 LM]) rfl ?_
      refine im_ciald X 0 4 0 (f := (z23 4)) rfl rfl rfl dX10_at_35 ?_
      exact im_ireturn X (((z23 4) z32.toNatClampNeg), z23) rfl rfl dX10_at_36
    · refine im_sipush X (-1000) dX10_at_17 (by decide) ?_
      exact im_ireturn X ((-1000), M) rfl rfl dX10_at_20
theorem c_X10_at (l : Launch) (D : va_G) (ct : im_ct) (F : Nat) (aM : Nat → Nat) (M : Mem) (LM : MemL) (x1 : Int32) (x2 : Int32) (x3 : Int32) : CMi l D ct yX10_at cX10_at 4 (some .int) 6 [.ref (aM 0), .int x1, .int x2, .int x3] (cat [w_Model ct aM M LM]) (f_X10_at F M LM x1 x2 x3) (fun z : Int32 × Mem => z.1) (fun z : Int32 × Mem => (cat [w_Model ct aM z.2 LM])) :=
  im_met (Qb := fun A => QI D A (fun z : Int32 × Mem => z.1) (fun z : Int32 × Mem => (cat [w_Model ct aM z.2 LM]))) (by decide +kernel) (Nat.le_of_ble_eq_true rfl) (fun p e s m args below meth c A X => i_X10_at X F aM M LM x1 x2 x3)

noncomputable def f_X10_sumAt_34 (F : Nat) (M : Mem) (LM : MemL) (x3 : Int32) (k72 : Int32 → Option (Int32 × Mem)) : Nat → Int32 → Int32 → Option (Int32 × Mem)
  | 0, _, _ => none
  | n + 1, x2, x4 =>
  ck 0 226 ((if ((M 1) (0 : Int32).toNatClampNeg) ≤ x4 then k72 x2 else (f_X10_cell F x3 x4).bind (fun z53 => ck z53 24 ((f_X10_worthOf F M LM x4).bind (fun z60 => f_X10_sumAt_34 F M LM x3 k72 n (x2 + (((M 4) z53.toNatClampNeg) * z60)) (x4 + 1))))))
set_option maxRecDepth 100000 in
set_option maxHeartbeats 4000000 in
theorem i_X10_sumAt_34 {p : Program} {l : Launch} {e : Env} {s : State} {m : MethodId} {args : Array Value} {below : List Frame} {meth : Method} {c : Code} {D : va_G} {ct : im_ct} {A : Nat → Prop} (X : im_X p (im_rm 6) s m args meth c D ct A RX10 cX10_sumAt 5 (some .int)) (F : Nat) (aM : Nat → Nat) (M : Mem) (LM : MemL) (x3 : Int32) (k72 : Int32 → Option (Int32 × Mem)) (hk72 : ∀ (x2 : Int32), Im p l e (im_rm 6) s m args below meth c D A 5 (QI D A (fun z : Int32 × Mem => z.1) (fun z : Int32 × Mem => (cat [w_Model ct aM z.2 LM]))) 72 [(0, .ref (aM 0)), (2, .int x2), (3, .int x3)] [] (cat [w_Model ct aM M LM]) (k72 x2)) : ∀ (n : Nat) (x2 : Int32) (x4 : Int32), Im p l e (im_rm 6) s m args below meth c D A 5 (QI D A (fun z : Int32 × Mem => z.1) (fun z : Int32 × Mem => (cat [w_Model ct aM z.2 LM]))) 34 [(0, .ref (aM 0)), (2, .int x2), (3, .int x3), (4, .int x4)] [] (cat [w_Model ct aM M LM]) (f_X10_sumAt_34 F M LM x3 k72 n x2 x4) := by
  intro n
  induction n with
  | zero => intros; exact im_none
  | succ n ih =>
    intro x2 x4
    unfold f_X10_sumAt_34
    refine im_iload X 3 dX10_sumAt_34 rfl ?_
    refine im_aload_n X 0 dX10_sumAt_36 rfl rfl ?_
    refine im_cget X 0 0 (v := .ref (aM 1)) fl_X10_13 rfl rfl rfl dX10_sumAt_37 ?_
    refine im_iconst X 0 dX10_sumAt_40 (by decide) ?_
    refine im_ciald X 0 1 0 (f := (M 1)) rfl rfl rfl dX10_sumAt_41 ?_
    refine im_icmp_ge (tgt := 72) X dX10_sumAt_42 rfl ?_ ?_
    · refine im_lv [0, 1, 2] [(0, .ref (aM 0)), (2, .int x2), (3, .int x3)] rfl ?_
      exact hk72 x2
    · refine im_iload_n X 1 dX10_sumAt_45 rfl rfl ?_
      refine im_aload_n X 0 dX10_sumAt_46 rfl rfl ?_
      refine im_cget X 0 0 (v := .ref (aM 4)) fl_X10_23 rfl rfl rfl dX10_sumAt_47 ?_
      refine im_iload_n X 2 dX10_sumAt_50 rfl rfl ?_
      refine im_iload X 3 dX10_sumAt_51 rfl ?_
      refine im_cciS X [.int x3, .int x4] [.ref (aM 4), .int x2] [w_Model ct aM M LM] [] [] (fun z53 => []) cl_X10_101 (c_X10_cell l D ct F x3 x4) rfl (by decide) (fun _ => rfl) rfl ⟨by decide, by decide⟩ (Nat.le_of_ble_eq_true rfl) rfl dX10_sumAt_53 (fun z53 => ?_)
      refine im_ws (cat [w_Model ct aM M LM]) rfl ?_
      refine im_ciald X 0 4 0 (f := (M 4)) rfl rfl rfl dX10_sumAt_56 ?_
      refine im_aload_n X 0 dX10_sumAt_57 rfl rfl ?_
      refine im_iload X 3 dX10_sumAt_58 rfl ?_
      refine im_cciV X [.int x4] [.int ((M 4) z53.toNatClampNeg), .int x2] [w_Model ct aM M LM] [w_Model ct aM M LM] [0] (fun z60 => [w_Model ct aM M LM]) 0 0 10 rfl rfl rfl cl_X10_108 (c_X10_worthOf l D ct F aM M LM x4) rfl (by decide) (fun _ => lc rfl (rfl)) rfl ⟨by decide, by decide⟩ (Nat.le_of_ble_eq_true rfl) rfl dX10_sumAt_60 (fun z60 => ?_)
      refine im_ws (cat [w_Model ct aM M LM]) rfl ?_
      refine im_imul X dX10_sumAt_63 ?_
      refine im_iadd X dX10_sumAt_64 ?_
      refine im_istore_n X [1, 0, 2, 3] [(0, .ref (aM 0)), (2, .int (x2 + (((M 4) z53.toNatClampNeg) * z60))), (3, .int x3), (4, .int x4)] dX10_sumAt_65 rfl (by decide) rfl ?_
      refine im_iinc X 3 1 [1, 2, 3, 0] [(0, .ref (aM 0)), (2, .int (x2 + (((M 4) z53.toNatClampNeg) * z60))), (3, .int x3), (4, .int (x4 + 1))] dX10_sumAt_66 (by decide) rfl (by decide) rfl ?_
      refine im_goto (tgt := 34) X dX10_sumAt_69 rfl ?_
      exact ih (x2 + (((M 4) z53.toNatClampNeg) * z60)) (x4 + 1)
noncomputable def f_X10_sumAt_21 (F : Nat) (M : Mem) (LM : MemL) (k78 : Int32 → Option (Int32 × Mem)) : Nat → Int32 → Int32 → Option (Int32 × Mem)
  | 0, _, _ => none
  | n + 1, x2, x3 =>
  ck 1 226 ((if ((M 1) (1 : Int32).toNatClampNeg) ≤ x3 then k78 x2 else f_X10_sumAt_34 F M LM x3 (fun x2_72 => f_X10_sumAt_21 F M LM k78 n x2_72 (x3 + 1)) F x2 0))
set_option maxRecDepth 100000 in
set_option maxHeartbeats 4000000 in
theorem i_X10_sumAt_21 {p : Program} {l : Launch} {e : Env} {s : State} {m : MethodId} {args : Array Value} {below : List Frame} {meth : Method} {c : Code} {D : va_G} {ct : im_ct} {A : Nat → Prop} (X : im_X p (im_rm 6) s m args meth c D ct A RX10 cX10_sumAt 5 (some .int)) (F : Nat) (aM : Nat → Nat) (M : Mem) (LM : MemL) (k78 : Int32 → Option (Int32 × Mem)) (hk78 : ∀ (x2 : Int32), Im p l e (im_rm 6) s m args below meth c D A 5 (QI D A (fun z : Int32 × Mem => z.1) (fun z : Int32 × Mem => (cat [w_Model ct aM z.2 LM]))) 78 [(2, .int x2)] [] (cat [w_Model ct aM M LM]) (k78 x2)) : ∀ (n : Nat) (x2 : Int32) (x3 : Int32), Im p l e (im_rm 6) s m args below meth c D A 5 (QI D A (fun z : Int32 × Mem => z.1) (fun z : Int32 × Mem => (cat [w_Model ct aM z.2 LM]))) 21 [(0, .ref (aM 0)), (2, .int x2), (3, .int x3)] [] (cat [w_Model ct aM M LM]) (f_X10_sumAt_21 F M LM k78 n x2 x3) := by
  intro n
  induction n with
  | zero => intros; exact im_none
  | succ n ih =>
    intro x2 x3
    unfold f_X10_sumAt_21
    refine im_iload_n X 2 dX10_sumAt_21 rfl rfl ?_
    refine im_aload_n X 0 dX10_sumAt_22 rfl rfl ?_
    refine im_cget X 0 0 (v := .ref (aM 1)) fl_X10_13 rfl rfl rfl dX10_sumAt_23 ?_
    refine im_iconst X 1 dX10_sumAt_26 (by decide) ?_
    refine im_ciald X 0 1 0 (f := (M 1)) rfl rfl rfl dX10_sumAt_27 ?_
    refine im_icmp_ge (tgt := 78) X dX10_sumAt_28 rfl ?_ ?_
    · refine im_lv [1] [(2, .int x2)] rfl ?_
      exact hk78 x2
    · refine im_iconst X 0 dX10_sumAt_31 (by decide) ?_
      refine im_istore X [1, 2, 3, 0] [(0, .ref (aM 0)), (2, .int x2), (3, .int x3), (4, .int 0)] dX10_sumAt_32 (by decide) rfl ?_
      refine i_X10_sumAt_34 X F aM M LM x3 _ (fun x2_72 => ?_) F x2 0
      refine im_iinc X 2 1 [1, 2, 0] [(0, .ref (aM 0)), (2, .int x2_72), (3, .int (x3 + 1))] dX10_sumAt_72 (by decide) rfl (by decide) rfl ?_
      refine im_goto (tgt := 21) X dX10_sumAt_75 rfl ?_
      exact ih x2_72 (x3 + 1)
noncomputable def f_X10_sumAt (F : Nat) (M : Mem) (LM : MemL) (x1 : Int32) : Option (Int32 × Mem) :=
  (f_X10_isTime F M LM x1).bind (fun z2 => (if z2 = 0 then (some ((-2147483648), M)) else (f_X10_laysAt F M LM x1).bind (fun z14 => f_X10_sumAt_21 F z14 LM (fun x2_78 => (some (x2_78, z14))) F 0 0)))
set_option maxRecDepth 100000 in
set_option maxHeartbeats 4000000 in
theorem i_X10_sumAt {p : Program} {l : Launch} {e : Env} {s : State} {m : MethodId} {args : Array Value} {below : List Frame} {meth : Method} {c : Code} {D : va_G} {ct : im_ct} {A : Nat → Prop} (X : im_X p (im_rm 6) s m args meth c D ct A RX10 cX10_sumAt 5 (some .int)) (F : Nat) (aM : Nat → Nat) (M : Mem) (LM : MemL) (x1 : Int32) : Im p l e (im_rm 6) s m args below meth c D A 5 (QI D A (fun z : Int32 × Mem => z.1) (fun z : Int32 × Mem => (cat [w_Model ct aM z.2 LM]))) 0 [(0, .ref (aM 0)), (1, .int x1)] [] (cat [w_Model ct aM M LM]) (f_X10_sumAt F M LM x1) := by
  unfold f_X10_sumAt
  refine im_aload_n X 0 dX10_sumAt_0 rfl rfl ?_
  refine im_iload_n X 1 dX10_sumAt_1 rfl rfl ?_
  refine im_cciV X [.int x1] [] [w_Model ct aM M LM] [w_Model ct aM M LM] [0] (fun z2 => [w_Model ct aM M LM]) 0 0 10 rfl rfl rfl cl_X10_250 (c_X10_isTime l D ct F aM M LM x1) rfl (by decide) (fun _ => lc rfl (rfl)) rfl ⟨by decide, by decide⟩ (Nat.le_of_ble_eq_true rfl) rfl dX10_sumAt_2 (fun z2 => ?_)
  refine im_ws (cat [w_Model ct aM M LM]) rfl ?_
  refine im_if_ne (tgt := 12) X dX10_sumAt_5 rfl ?_ ?_
  · refine im_aload_n X 0 dX10_sumAt_12 rfl rfl ?_
    refine im_iload_n X 1 dX10_sumAt_13 rfl rfl ?_
    refine im_ccvV X [.int x1] [] [w_Model ct aM M LM] [w_Model ct aM M LM] [0] (fun z14 => [w_Model ct aM z14 LM]) 0 0 10 rfl rfl rfl cl_X10_253 (c_X10_laysAt l D ct F aM M LM x1) rfl (by decide) (fun _ => lc fa_Model (rfl)) rfl ⟨by decide, by decide⟩ (Nat.le_of_ble_eq_true rfl) rfl dX10_sumAt_14 (fun z14 => ?_)
    refine im_ws (cat [w_Model ct aM z14 LM]) rfl ?_
    refine im_iconst X 0 dX10_sumAt_17 (by decide) ?_
    refine im_istore_n X [1, 2, 0] [(0, .ref (aM 0)), (1, .int x1), (2, .int 0)] dX10_sumAt_18 rfl (by decide) rfl ?_
    refine im_iconst X 0 dX10_sumAt_19 (by decide) ?_
    refine im_istore_n X [1, 2, 3, 0] [(0, .ref (aM 0)), (1, .int x1), (2, .int 0), (3, .int 0)] dX10_sumAt_20 rfl (by decide) rfl ?_
    refine im_lv [0, 2, 3] [(0, .ref (aM 0)), (2, .int 0), (3, .int 0)] rfl ?_
    refine i_X10_sumAt_21 X F aM z14 LM  _ (fun x2_78 => ?_) F 0 0
    refine im_iload_n X 0 dX10_sumAt_78 rfl rfl ?_
    exact im_ireturn X (x2_78, z14) rfl rfl dX10_sumAt_79
  · refine im_ldcw X kc_X10_256 dX10_sumAt_8 ?_
    exact im_ireturn X ((-2147483648), M) rfl rfl dX10_sumAt_11
theorem c_X10_sumAt (l : Launch) (D : va_G) (ct : im_ct) (F : Nat) (aM : Nat → Nat) (M : Mem) (LM : MemL) (x1 : Int32) : CMi l D ct yX10_sumAt cX10_sumAt 5 (some .int) 6 [.ref (aM 0), .int x1] (cat [w_Model ct aM M LM]) (f_X10_sumAt F M LM x1) (fun z : Int32 × Mem => z.1) (fun z : Int32 × Mem => (cat [w_Model ct aM z.2 LM])) :=
  im_met (Qb := fun A => QI D A (fun z : Int32 × Mem => z.1) (fun z : Int32 × Mem => (cat [w_Model ct aM z.2 LM]))) (by decide +kernel) (Nat.le_of_ble_eq_true rfl) (fun p e s m args below meth c A X => i_X10_sumAt X F aM M LM x1)

noncomputable def f_X10_differs_15 (F : Nat) (M : Mem) (LM : MemL) (k48 : Int32 → Option (Int32 × Mem)) : Nat → Int32 → Int32 → Option (Int32 × Mem)
  | 0, _, _ => none
  | n + 1, x1, x2 =>
  (if 24 ≤ x2 then k48 x1 else ck x2 24 (ck (8 + x2) 226 ((if ((M 4) x2.toNatClampNeg) = ((M 1) ((8 + x2)).toNatClampNeg) then f_X10_differs_15 F M LM k48 n x1 (x2 + 1) else f_X10_differs_15 F M LM k48 n (x1 + 1) (x2 + 1)))))
set_option maxRecDepth 100000 in
set_option maxHeartbeats 4000000 in
theorem i_X10_differs_15 {p : Program} {l : Launch} {e : Env} {s : State} {m : MethodId} {args : Array Value} {below : List Frame} {meth : Method} {c : Code} {D : va_G} {ct : im_ct} {A : Nat → Prop} (X : im_X p (im_rm 6) s m args meth c D ct A RX10 cX10_differs 3 (some .int)) (F : Nat) (aM : Nat → Nat) (M : Mem) (LM : MemL) (k48 : Int32 → Option (Int32 × Mem)) (hk48 : ∀ (x1 : Int32), Im p l e (im_rm 6) s m args below meth c D A 3 (QI D A (fun z : Int32 × Mem => z.1) (fun z : Int32 × Mem => (cat [w_Model ct aM z.2 LM]))) 48 [(1, .int x1)] [] (cat [w_Model ct aM M LM]) (k48 x1)) : ∀ (n : Nat) (x1 : Int32) (x2 : Int32), Im p l e (im_rm 6) s m args below meth c D A 3 (QI D A (fun z : Int32 × Mem => z.1) (fun z : Int32 × Mem => (cat [w_Model ct aM z.2 LM]))) 15 [(0, .ref (aM 0)), (1, .int x1), (2, .int x2)] [] (cat [w_Model ct aM M LM]) (f_X10_differs_15 F M LM k48 n x1 x2) := by
  intro n
  induction n with
  | zero => intros; exact im_none
  | succ n ih =>
    intro x1 x2
    unfold f_X10_differs_15
    refine im_iload_n X 2 dX10_differs_15 rfl rfl ?_
    refine im_bipush X 24 dX10_differs_16 (by decide) ?_
    refine im_icmp_ge (tgt := 48) X dX10_differs_18 rfl ?_ ?_
    · refine im_lv [1] [(1, .int x1)] rfl ?_
      exact hk48 x1
    · refine im_aload_n X 0 dX10_differs_21 rfl rfl ?_
      refine im_cget X 0 0 (v := .ref (aM 4)) fl_X10_23 rfl rfl rfl dX10_differs_22 ?_
      refine im_iload_n X 2 dX10_differs_25 rfl rfl ?_
      refine im_ciald X 0 4 0 (f := (M 4)) rfl rfl rfl dX10_differs_26 ?_
      refine im_aload_n X 0 dX10_differs_27 rfl rfl ?_
      refine im_cget X 0 0 (v := .ref (aM 1)) fl_X10_13 rfl rfl rfl dX10_differs_28 ?_
      refine im_bipush X 8 dX10_differs_31 (by decide) ?_
      refine im_iload_n X 2 dX10_differs_33 rfl rfl ?_
      refine im_iadd X dX10_differs_34 ?_
      refine im_ciald X 0 1 0 (f := (M 1)) rfl rfl rfl dX10_differs_35 ?_
      refine im_icmp_eq (tgt := 42) X dX10_differs_36 rfl ?_ ?_
      · refine im_iinc X 2 1 [1, 2, 0] [(0, .ref (aM 0)), (1, .int x1), (2, .int (x2 + 1))] dX10_differs_42 (by decide) rfl (by decide) rfl ?_
        refine im_goto (tgt := 15) X dX10_differs_45 rfl ?_
        exact ih x1 (x2 + 1)
      · refine im_iinc X 1 1 [1, 0, 2] [(0, .ref (aM 0)), (1, .int (x1 + 1)), (2, .int x2)] dX10_differs_39 (by decide) rfl (by decide) rfl ?_
        refine im_iinc X 2 1 [1, 2, 0] [(0, .ref (aM 0)), (1, .int (x1 + 1)), (2, .int (x2 + 1))] dX10_differs_42 (by decide) rfl (by decide) rfl ?_
        refine im_goto (tgt := 15) X dX10_differs_45 rfl ?_
        exact ih (x1 + 1) (x2 + 1)
noncomputable def f_X10_differs (F : Nat) (M : Mem) (LM : MemL) : Option (Int32 × Mem) :=
  ck 56 226 ((f_X10_laysAt F M LM ((M 1) (56 : Int32).toNatClampNeg)).bind (fun z8 => f_X10_differs_15 F z8 LM (fun x1_48 => (some (x1_48, z8))) F 0 0))
set_option maxRecDepth 100000 in
set_option maxHeartbeats 4000000 in
theorem i_X10_differs {p : Program} {l : Launch} {e : Env} {s : State} {m : MethodId} {args : Array Value} {below : List Frame} {meth : Method} {c : Code} {D : va_G} {ct : im_ct} {A : Nat → Prop} (X : im_X p (im_rm 6) s m args meth c D ct A RX10 cX10_differs 3 (some .int)) (F : Nat) (aM : Nat → Nat) (M : Mem) (LM : MemL) : Im p l e (im_rm 6) s m args below meth c D A 3 (QI D A (fun z : Int32 × Mem => z.1) (fun z : Int32 × Mem => (cat [w_Model ct aM z.2 LM]))) 0 [(0, .ref (aM 0))] [] (cat [w_Model ct aM M LM]) (f_X10_differs F M LM) := by
  unfold f_X10_differs
  refine im_aload_n X 0 dX10_differs_0 rfl rfl ?_
  refine im_aload_n X 0 dX10_differs_1 rfl rfl ?_
  refine im_cget X 0 0 (v := .ref (aM 1)) fl_X10_13 rfl rfl rfl dX10_differs_2 ?_
  refine im_bipush X 56 dX10_differs_5 (by decide) ?_
  refine im_ciald X 0 1 0 (f := (M 1)) rfl rfl rfl dX10_differs_7 ?_
  refine im_ccvV X [.int ((M 1) (56 : Int32).toNatClampNeg)] [] [w_Model ct aM M LM] [w_Model ct aM M LM] [0] (fun z8 => [w_Model ct aM z8 LM]) 0 0 10 rfl rfl rfl cl_X10_253 (c_X10_laysAt l D ct F aM M LM ((M 1) (56 : Int32).toNatClampNeg)) rfl (by decide) (fun _ => lc fa_Model (rfl)) rfl ⟨by decide, by decide⟩ (Nat.le_of_ble_eq_true rfl) rfl dX10_differs_8 (fun z8 => ?_)
  refine im_ws (cat [w_Model ct aM z8 LM]) rfl ?_
  refine im_iconst X 0 dX10_differs_11 (by decide) ?_
  refine im_istore_n X [1, 0] [(0, .ref (aM 0)), (1, .int 0)] dX10_differs_12 rfl (by decide) rfl ?_
  refine im_iconst X 0 dX10_differs_13 (by decide) ?_
  refine im_istore_n X [1, 2, 0] [(0, .ref (aM 0)), (1, .int 0), (2, .int 0)] dX10_differs_14 rfl (by decide) rfl ?_
  refine i_X10_differs_15 X F aM z8 LM  _ (fun x1_48 => ?_) F 0 0
  refine im_iload_n X 0 dX10_differs_48 rfl rfl ?_
  exact im_ireturn X (x1_48, z8) rfl rfl dX10_differs_49
theorem c_X10_differs (l : Launch) (D : va_G) (ct : im_ct) (F : Nat) (aM : Nat → Nat) (M : Mem) (LM : MemL) : CMi l D ct yX10_differs cX10_differs 3 (some .int) 6 [.ref (aM 0)] (cat [w_Model ct aM M LM]) (f_X10_differs F M LM) (fun z : Int32 × Mem => z.1) (fun z : Int32 × Mem => (cat [w_Model ct aM z.2 LM])) :=
  im_met (Qb := fun A => QI D A (fun z : Int32 × Mem => z.1) (fun z : Int32 × Mem => (cat [w_Model ct aM z.2 LM]))) (by decide +kernel) (Nat.le_of_ble_eq_true rfl) (fun p e s m args below meth c A X => i_X10_differs X F aM M LM)

noncomputable def f_X10_seen (F : Nat) (M : Mem) (LM : MemL) (x1 : Int32) (x2 : Int32) : Option (Int32 × Mem) :=
  ck 177 226 ((f_X10_in F (x1).toInt64 0 ((((M 1) (177 : Int32).toNatClampNeg) - 1)).toInt64).bind (fun z14 => (if z14 = 0 then (some ((-1), M)) else (f_X10_in F (x2).toInt64 0 4).bind (fun z26 => (if z26 = 0 then (some ((-1), M)) else (if 4 ≤ x2 then (f_X10_isRight F M LM x1).bind (fun z58 => (if z58.1 = 0 then (some (0, z58.2)) else (some (1, z58.2)))) else ck ((178 + (4 * x1)) + x2) 226 ((some (((M 1) (((178 + (4 * x1)) + x2)).toNatClampNeg), M)))))))))
set_option maxRecDepth 100000 in
set_option maxHeartbeats 4000000 in
theorem i_X10_seen {p : Program} {l : Launch} {e : Env} {s : State} {m : MethodId} {args : Array Value} {below : List Frame} {meth : Method} {c : Code} {D : va_G} {ct : im_ct} {A : Nat → Prop} (X : im_X p (im_rm 7) s m args meth c D ct A RX10 cX10_seen 3 (some .int)) (F : Nat) (aM : Nat → Nat) (M : Mem) (LM : MemL) (x1 : Int32) (x2 : Int32) : Im p l e (im_rm 7) s m args below meth c D A 3 (QI D A (fun z : Int32 × Mem => z.1) (fun z : Int32 × Mem => (cat [w_Model ct aM z.2 LM]))) 0 [(0, .ref (aM 0)), (1, .int x1), (2, .int x2)] [] (cat [w_Model ct aM M LM]) (f_X10_seen F M LM x1 x2) := by
  unfold f_X10_seen
  refine im_iload_n X 1 dX10_seen_0 rfl rfl ?_
  refine im_i2l X dX10_seen_1 ?_
  refine im_lconst X 0 dX10_seen_2 (by decide) ?_
  refine im_aload_n X 0 dX10_seen_3 rfl rfl ?_
  refine im_cget X 0 0 (v := .ref (aM 1)) fl_X10_13 rfl rfl rfl dX10_seen_4 ?_
  refine im_sipush X 177 dX10_seen_7 (by decide) ?_
  refine im_ciald X 0 1 0 (f := (M 1)) rfl rfl rfl dX10_seen_10 ?_
  refine im_iconst X 1 dX10_seen_11 (by decide) ?_
  refine im_isub X dX10_seen_12 ?_
  refine im_i2l X dX10_seen_13 ?_
  refine im_cciS X [.long (x1).toInt64, .long 0, .long ((((M 1) (177 : Int32).toNatClampNeg) - 1)).toInt64] [] [w_Model ct aM M LM] [] [] (fun z14 => []) cl_X10_86 (c_X10_in l D ct F (x1).toInt64 0 ((((M 1) (177 : Int32).toNatClampNeg) - 1)).toInt64) rfl (by decide) (fun _ => rfl) rfl ⟨by decide, by decide⟩ (Nat.le_of_ble_eq_true rfl) rfl dX10_seen_14 (fun z14 => ?_)
  refine im_ws (cat [w_Model ct aM M LM]) rfl ?_
  refine im_if_eq (tgt := 32) X dX10_seen_17 rfl ?_ ?_
  · refine im_iconst X (-1) dX10_seen_32 (by decide) ?_
    exact im_ireturn X ((-1), M) rfl rfl dX10_seen_33
  · refine im_iload_n X 2 dX10_seen_20 rfl rfl ?_
    refine im_i2l X dX10_seen_21 ?_
    refine im_lconst X 0 dX10_seen_22 (by decide) ?_
    refine im_ldc2 X kc_X10_130 dX10_seen_23 ?_
    refine im_cciS X [.long (x2).toInt64, .long 0, .long 4] [] [w_Model ct aM M LM] [] [] (fun z26 => []) cl_X10_86 (c_X10_in l D ct F (x2).toInt64 0 4) rfl (by decide) (fun _ => rfl) rfl ⟨by decide, by decide⟩ (Nat.le_of_ble_eq_true rfl) rfl dX10_seen_26 (fun z26 => ?_)
    refine im_ws (cat [w_Model ct aM M LM]) rfl ?_
    refine im_if_ne (tgt := 34) X dX10_seen_29 rfl ?_ ?_
    · refine im_iload_n X 2 dX10_seen_34 rfl rfl ?_
      refine im_iconst X 4 dX10_seen_35 (by decide) ?_
      refine im_icmp_ge (tgt := 56) X dX10_seen_36 rfl ?_ ?_
      · refine im_aload_n X 0 dX10_seen_56 rfl rfl ?_
        refine im_iload_n X 1 dX10_seen_57 rfl rfl ?_
        refine im_cciV X [.int x1] [] [w_Model ct aM M LM] [w_Model ct aM M LM] [0] (fun z58 => [w_Model ct aM z58.2 LM]) 0 0 10 rfl rfl rfl cl_X10_216 (c_X10_isRight l D ct F aM M LM x1) rfl (by decide) (fun _ => lc fa_Model (rfl)) rfl ⟨by decide, by decide⟩ (Nat.le_of_ble_eq_true rfl) rfl dX10_seen_58 (fun z58 => ?_)
        refine im_ws (cat [w_Model ct aM z58.2 LM]) rfl ?_
        refine im_if_eq (tgt := 68) X dX10_seen_61 rfl ?_ ?_
        · refine im_iconst X 0 dX10_seen_68 (by decide) ?_
          exact im_ireturn X (0, z58.2) rfl rfl dX10_seen_69
        · refine im_iconst X 1 dX10_seen_64 (by decide) ?_
          refine im_goto (tgt := 69) X dX10_seen_65 rfl ?_
          exact im_ireturn X (1, z58.2) rfl rfl dX10_seen_69
      · refine im_aload_n X 0 dX10_seen_39 rfl rfl ?_
        refine im_cget X 0 0 (v := .ref (aM 1)) fl_X10_13 rfl rfl rfl dX10_seen_40 ?_
        refine im_sipush X 178 dX10_seen_43 (by decide) ?_
        refine im_iconst X 4 dX10_seen_46 (by decide) ?_
        refine im_iload_n X 1 dX10_seen_47 rfl rfl ?_
        refine im_imul X dX10_seen_48 ?_
        refine im_iadd X dX10_seen_49 ?_
        refine im_iload_n X 2 dX10_seen_50 rfl rfl ?_
        refine im_iadd X dX10_seen_51 ?_
        refine im_ciald X 0 1 0 (f := (M 1)) rfl rfl rfl dX10_seen_52 ?_
        refine im_goto (tgt := 69) X dX10_seen_53 rfl ?_
        exact im_ireturn X (((M 1) (((178 + (4 * x1)) + x2)).toNatClampNeg), M) rfl rfl dX10_seen_69
    · refine im_iconst X (-1) dX10_seen_32 (by decide) ?_
      exact im_ireturn X ((-1), M) rfl rfl dX10_seen_33
theorem c_X10_seen (l : Launch) (D : va_G) (ct : im_ct) (F : Nat) (aM : Nat → Nat) (M : Mem) (LM : MemL) (x1 : Int32) (x2 : Int32) : CMi l D ct yX10_seen cX10_seen 3 (some .int) 7 [.ref (aM 0), .int x1, .int x2] (cat [w_Model ct aM M LM]) (f_X10_seen F M LM x1 x2) (fun z : Int32 × Mem => z.1) (fun z : Int32 × Mem => (cat [w_Model ct aM z.2 LM])) :=
  im_met (Qb := fun A => QI D A (fun z : Int32 × Mem => z.1) (fun z : Int32 × Mem => (cat [w_Model ct aM z.2 LM]))) (by decide +kernel) (Nat.le_of_ble_eq_true rfl) (fun p e s m args below meth c A X => i_X10_seen X F aM M LM x1 x2)

noncomputable def f_X10_wrong_2 (F : Nat) (LM : MemL) (k22 : Mem → Int32 → Option (Int32 × Mem)) (k30 : Mem → Option (Int32 × Mem)) : Nat → Mem → Int32 → Option (Int32 × Mem)
  | 0, _, _ => none
  | n + 1, M, x1 =>
  ck 177 226 ((if ((M 1) (177 : Int32).toNatClampNeg) ≤ x1 then k30 M else (f_X10_isRight F M LM x1).bind (fun z16 => (if z16.1 = 0 then k22 z16.2 x1 else f_X10_wrong_2 F LM k22 k30 n z16.2 (x1 + 1)))))
set_option maxRecDepth 100000 in
set_option maxHeartbeats 4000000 in
theorem i_X10_wrong_2 {p : Program} {l : Launch} {e : Env} {s : State} {m : MethodId} {args : Array Value} {below : List Frame} {meth : Method} {c : Code} {D : va_G} {ct : im_ct} {A : Nat → Prop} (X : im_X p (im_rm 7) s m args meth c D ct A RX10 cX10_wrong 2 (some .int)) (F : Nat) (aM : Nat → Nat) (LM : MemL) (k22 : Mem → Int32 → Option (Int32 × Mem)) (hk22 : ∀ (M : Mem) (x1 : Int32), Im p l e (im_rm 7) s m args below meth c D A 2 (QI D A (fun z : Int32 × Mem => z.1) (fun z : Int32 × Mem => (cat [w_Model ct aM z.2 LM]))) 22 [(1, .int x1)] [] (cat [w_Model ct aM M LM]) (k22 M x1)) (k30 : Mem → Option (Int32 × Mem)) (hk30 : ∀ (M : Mem), Im p l e (im_rm 7) s m args below meth c D A 2 (QI D A (fun z : Int32 × Mem => z.1) (fun z : Int32 × Mem => (cat [w_Model ct aM z.2 LM]))) 30 [] [] (cat [w_Model ct aM M LM]) (k30 M)) : ∀ (n : Nat) (M : Mem) (x1 : Int32), Im p l e (im_rm 7) s m args below meth c D A 2 (QI D A (fun z : Int32 × Mem => z.1) (fun z : Int32 × Mem => (cat [w_Model ct aM z.2 LM]))) 2 [(0, .ref (aM 0)), (1, .int x1)] [] (cat [w_Model ct aM M LM]) (f_X10_wrong_2 F LM k22 k30 n M x1) := by
  intro n
  induction n with
  | zero => intros; exact im_none
  | succ n ih =>
    intro M x1
    unfold f_X10_wrong_2
    refine im_iload_n X 1 dX10_wrong_2 rfl rfl ?_
    refine im_aload_n X 0 dX10_wrong_3 rfl rfl ?_
    refine im_cget X 0 0 (v := .ref (aM 1)) fl_X10_13 rfl rfl rfl dX10_wrong_4 ?_
    refine im_sipush X 177 dX10_wrong_7 (by decide) ?_
    refine im_ciald X 0 1 0 (f := (M 1)) rfl rfl rfl dX10_wrong_10 ?_
    refine im_icmp_ge (tgt := 30) X dX10_wrong_11 rfl ?_ ?_
    · refine im_lv [] [] rfl ?_
      exact hk30 M
    · refine im_aload_n X 0 dX10_wrong_14 rfl rfl ?_
      refine im_iload_n X 1 dX10_wrong_15 rfl rfl ?_
      refine im_cciV X [.int x1] [] [w_Model ct aM M LM] [w_Model ct aM M LM] [0] (fun z16 => [w_Model ct aM z16.2 LM]) 0 0 10 rfl rfl rfl cl_X10_216 (c_X10_isRight l D ct F aM M LM x1) rfl (by decide) (fun _ => lc fa_Model (rfl)) rfl ⟨by decide, by decide⟩ (Nat.le_of_ble_eq_true rfl) rfl dX10_wrong_16 (fun z16 => ?_)
      refine im_ws (cat [w_Model ct aM z16.2 LM]) rfl ?_
      refine im_if_ne (tgt := 24) X dX10_wrong_19 rfl ?_ ?_
      · refine im_iinc X 1 1 [1, 0] [(0, .ref (aM 0)), (1, .int (x1 + 1))] dX10_wrong_24 (by decide) rfl (by decide) rfl ?_
        refine im_goto (tgt := 2) X dX10_wrong_27 rfl ?_
        exact ih z16.2 (x1 + 1)
      · refine im_lv [1] [(1, .int x1)] rfl ?_
        exact hk22 z16.2 x1
noncomputable def f_X10_wrong (F : Nat) (M : Mem) (LM : MemL) : Option (Int32 × Mem) :=
  f_X10_wrong_2 F LM (fun M_22 x1_22 => (some (x1_22, M_22))) (fun M_30 => (some ((-2), M_30))) F M 0
set_option maxRecDepth 100000 in
set_option maxHeartbeats 4000000 in
theorem i_X10_wrong {p : Program} {l : Launch} {e : Env} {s : State} {m : MethodId} {args : Array Value} {below : List Frame} {meth : Method} {c : Code} {D : va_G} {ct : im_ct} {A : Nat → Prop} (X : im_X p (im_rm 7) s m args meth c D ct A RX10 cX10_wrong 2 (some .int)) (F : Nat) (aM : Nat → Nat) (M : Mem) (LM : MemL) : Im p l e (im_rm 7) s m args below meth c D A 2 (QI D A (fun z : Int32 × Mem => z.1) (fun z : Int32 × Mem => (cat [w_Model ct aM z.2 LM]))) 0 [(0, .ref (aM 0))] [] (cat [w_Model ct aM M LM]) (f_X10_wrong F M LM) := by
  unfold f_X10_wrong
  refine im_iconst X 0 dX10_wrong_0 (by decide) ?_
  refine im_istore_n X [1, 0] [(0, .ref (aM 0)), (1, .int 0)] dX10_wrong_1 rfl (by decide) rfl ?_
  refine i_X10_wrong_2 X F aM LM  _ (fun M_22 x1_22 => ?_) _ (fun M_30 => ?_) F M 0
  · refine im_iload_n X 0 dX10_wrong_22 rfl rfl ?_
    exact im_ireturn X (x1_22, M_22) rfl rfl dX10_wrong_23
  · refine im_bipush X (-2) dX10_wrong_30 (by decide) ?_
    exact im_ireturn X ((-2), M_30) rfl rfl dX10_wrong_32
theorem c_X10_wrong (l : Launch) (D : va_G) (ct : im_ct) (F : Nat) (aM : Nat → Nat) (M : Mem) (LM : MemL) : CMi l D ct yX10_wrong cX10_wrong 2 (some .int) 7 [.ref (aM 0)] (cat [w_Model ct aM M LM]) (f_X10_wrong F M LM) (fun z : Int32 × Mem => z.1) (fun z : Int32 × Mem => (cat [w_Model ct aM z.2 LM])) :=
  im_met (Qb := fun A => QI D A (fun z : Int32 × Mem => z.1) (fun z : Int32 × Mem => (cat [w_Model ct aM z.2 LM]))) (by decide +kernel) (Nat.le_of_ble_eq_true rfl) (fun p e s m args below meth c A X => i_X10_wrong X F aM M LM)

noncomputable def f_X10_areSo_2 (F : Nat) (M : Mem) (LM : MemL) (x1 : Int32) (k38 : Option (Int32)) (k46 : Option (Int32)) : Nat → Int32 → Option (Int32)
  | 0, _ => none
  | n + 1, x2 =>
  ck 177 226 ((if ((M 1) (177 : Int32).toNatClampNeg) ≤ x2 then k46 else ck (178 + (4 * x2)) 226 ((if ((M 1) ((178 + (4 * x2))).toNatClampNeg) = x1 then (f_X10_isSo F M LM x2).bind (fun z32 => (if z32 = 0 then k38 else f_X10_areSo_2 F M LM x1 k38 k46 n (x2 + 1))) else f_X10_areSo_2 F M LM x1 k38 k46 n (x2 + 1)))))
set_option maxRecDepth 100000 in
set_option maxHeartbeats 4000000 in
theorem i_X10_areSo_2 {p : Program} {l : Launch} {e : Env} {s : State} {m : MethodId} {args : Array Value} {below : List Frame} {meth : Method} {c : Code} {D : va_G} {ct : im_ct} {A : Nat → Prop} (X : im_X p (im_rm 2) s m args meth c D ct A RX10 cX10_areSo 3 (some .boolean)) (F : Nat) (aM : Nat → Nat) (M : Mem) (LM : MemL) (x1 : Int32) (k38 : Option (Int32)) (hk38 : Im p l e (im_rm 2) s m args below meth c D A 3 (QI D A (fun z : Int32 => z) (fun z : Int32 => (cat [w_Model ct aM M LM]))) 38 [] [] (cat [w_Model ct aM M LM]) (k38)) (k46 : Option (Int32)) (hk46 : Im p l e (im_rm 2) s m args below meth c D A 3 (QI D A (fun z : Int32 => z) (fun z : Int32 => (cat [w_Model ct aM M LM]))) 46 [] [] (cat [w_Model ct aM M LM]) (k46)) : ∀ (n : Nat) (x2 : Int32), Im p l e (im_rm 2) s m args below meth c D A 3 (QI D A (fun z : Int32 => z) (fun z : Int32 => (cat [w_Model ct aM M LM]))) 2 [(0, .ref (aM 0)), (1, .int x1), (2, .int x2)] [] (cat [w_Model ct aM M LM]) (f_X10_areSo_2 F M LM x1 k38 k46 n x2) := by
  intro n
  induction n with
  | zero => intros; exact im_none
  | succ n ih =>
    intro x2
    unfold f_X10_areSo_2
    refine im_iload_n X 2 dX10_areSo_2 rfl rfl ?_
    refine im_aload_n X 0 dX10_areSo_3 rfl rfl ?_
    refine im_cget X 0 0 (v := .ref (aM 1)) fl_X10_13 rfl rfl rfl dX10_areSo_4 ?_
    refine im_sipush X 177 dX10_areSo_7 (by decide) ?_
    refine im_ciald X 0 1 0 (f := (M 1)) rfl rfl rfl dX10_areSo_10 ?_
    refine im_icmp_ge (tgt := 46) X dX10_areSo_11 rfl ?_ ?_
    · refine im_lv [] [] rfl ?_
      exact hk46
    · refine im_aload_n X 0 dX10_areSo_14 rfl rfl ?_
      refine im_cget X 0 0 (v := .ref (aM 1)) fl_X10_13 rfl rfl rfl dX10_areSo_15 ?_
      refine im_sipush X 178 dX10_areSo_18 (by decide) ?_
      refine im_iconst X 4 dX10_areSo_21 (by decide) ?_
      refine im_iload_n X 2 dX10_areSo_22 rfl rfl ?_
      refine im_imul X dX10_areSo_23 ?_
      refine im_iadd X dX10_areSo_24 ?_
      refine im_ciald X 0 1 0 (f := (M 1)) rfl rfl rfl dX10_areSo_25 ?_
      refine im_iload_n X 1 dX10_areSo_26 rfl rfl ?_
      refine im_icmp_ne (tgt := 40) X dX10_areSo_27 rfl ?_ ?_
      · refine im_iinc X 2 1 [1, 2, 0] [(0, .ref (aM 0)), (1, .int x1), (2, .int (x2 + 1))] dX10_areSo_40 (by decide) rfl (by decide) rfl ?_
        refine im_goto (tgt := 2) X dX10_areSo_43 rfl ?_
        exact ih (x2 + 1)
      · refine im_aload_n X 0 dX10_areSo_30 rfl rfl ?_
        refine im_iload_n X 2 dX10_areSo_31 rfl rfl ?_
        refine im_cciV X [.int x2] [] [w_Model ct aM M LM] [w_Model ct aM M LM] [0] (fun z32 => [w_Model ct aM M LM]) 0 0 10 rfl rfl rfl cl_X10_257 (c_X10_isSo l D ct F aM M LM x2) rfl (by decide) (fun _ => lc rfl (rfl)) rfl ⟨by decide, by decide⟩ (Nat.le_of_ble_eq_true rfl) rfl dX10_areSo_32 (fun z32 => ?_)
        refine im_ws (cat [w_Model ct aM M LM]) rfl ?_
        refine im_if_ne (tgt := 40) X dX10_areSo_35 rfl ?_ ?_
        · refine im_iinc X 2 1 [1, 2, 0] [(0, .ref (aM 0)), (1, .int x1), (2, .int (x2 + 1))] dX10_areSo_40 (by decide) rfl (by decide) rfl ?_
          refine im_goto (tgt := 2) X dX10_areSo_43 rfl ?_
          exact ih (x2 + 1)
        · refine im_lv [] [] rfl ?_
          exact hk38
noncomputable def f_X10_areSo (F : Nat) (M : Mem) (LM : MemL) (x1 : Int32) : Option (Int32) :=
  f_X10_areSo_2 F M LM x1 ((some 0)) ((some 1)) F 0
set_option maxRecDepth 100000 in
set_option maxHeartbeats 4000000 in
theorem i_X10_areSo {p : Program} {l : Launch} {e : Env} {s : State} {m : MethodId} {args : Array Value} {below : List Frame} {meth : Method} {c : Code} {D : va_G} {ct : im_ct} {A : Nat → Prop} (X : im_X p (im_rm 2) s m args meth c D ct A RX10 cX10_areSo 3 (some .boolean)) (F : Nat) (aM : Nat → Nat) (M : Mem) (LM : MemL) (x1 : Int32) : Im p l e (im_rm 2) s m args below meth c D A 3 (QI D A (fun z : Int32 => z) (fun z : Int32 => (cat [w_Model ct aM M LM]))) 0 [(0, .ref (aM 0)), (1, .int x1)] [] (cat [w_Model ct aM M LM]) (f_X10_areSo F M LM x1) := by
  unfold f_X10_areSo
  refine im_iconst X 0 dX10_areSo_0 (by decide) ?_
  refine im_istore_n X [1, 2, 0] [(0, .ref (aM 0)), (1, .int x1), (2, .int 0)] dX10_areSo_1 rfl (by decide) rfl ?_
  refine i_X10_areSo_2 X F aM M LM x1 _ ?_ _ ?_ F 0
  · refine im_iconst X 0 dX10_areSo_38 (by decide) ?_
    exact im_zreturn X 0 rfl rfl rfl dX10_areSo_39
  · refine im_iconst X 1 dX10_areSo_46 (by decide) ?_
    exact im_zreturn X 1 rfl rfl rfl dX10_areSo_47
theorem c_X10_areSo (l : Launch) (D : va_G) (ct : im_ct) (F : Nat) (aM : Nat → Nat) (M : Mem) (LM : MemL) (x1 : Int32) : CMi l D ct yX10_areSo cX10_areSo 3 (some .boolean) 2 [.ref (aM 0), .int x1] (cat [w_Model ct aM M LM]) (f_X10_areSo F M LM x1) (fun z : Int32 => z) (fun z : Int32 => (cat [w_Model ct aM M LM])) :=
  im_met (Qb := fun A => QI D A (fun z : Int32 => z) (fun z : Int32 => (cat [w_Model ct aM M LM]))) (by decide +kernel) (Nat.le_of_ble_eq_true rfl) (fun p e s m args below meth c A X => i_X10_areSo X F aM M LM x1)

noncomputable def f_X10_explains_80 (F : Nat) (M : Mem) (LM : MemL) (x1 : Int32) (x2 : Int32) (x3 : Int32) (x4 : Int32) (x5 : Int32) (k8 : Mem → Int32 → Option (Int32 × Mem)) (k89 : Mem → Option (Int32 × Mem)) (k103 : Mem → Option (Int32 × Mem)) (k118 : Mem → Option (Int32 × Mem)) : Option (Int32 × Mem) :=
  (f_X10_areSo F M LM x5).bind (fun z83 => (if z83 = 0 then k89 M else ck 56 226 ((if x5 = ((M 1) (56 : Int32).toNatClampNeg) then k103 M else (f_X10_laysLogged F M LM x5).bind (fun z108 => (f_X10_fits F z108 LM).bind (fun z112 => (if z112 = 0 then k118 z108 else (f_X10_goes F z108 LM 1).bind (fun z122 => k8 z122 (x5 + 1)))))))))
set_option maxRecDepth 100000 in
set_option maxHeartbeats 4000000 in
theorem i_X10_explains_80 {p : Program} {l : Launch} {e : Env} {s : State} {m : MethodId} {args : Array Value} {below : List Frame} {meth : Method} {c : Code} {D : va_G} {ct : im_ct} {A : Nat → Prop} (X : im_X p (im_rm 6) s m args meth c D ct A RX10 cX10_explains 6 (some .boolean)) (F : Nat) (aM : Nat → Nat) (M : Mem) (LM : MemL) (x1 : Int32) (x2 : Int32) (x3 : Int32) (x4 : Int32) (x5 : Int32) (k8 : Mem → Int32 → Option (Int32 × Mem)) (hk8 : ∀ (M : Mem) (x5 : Int32), Im p l e (im_rm 6) s m args below meth c D A 6 (QI D A (fun z : Int32 × Mem => z.1) (fun z : Int32 × Mem => (cat [w_Model ct aM z.2 LM]))) 8 [(0, .ref (aM 0)), (1, .int x1), (2, .int x2), (3, .int x3), (4, .int x4), (5, .int x5)] [] (cat [w_Model ct aM M LM]) (k8 M x5)) (k89 : Mem → Option (Int32 × Mem)) (hk89 : ∀ (M : Mem), Im p l e (im_rm 6) s m args below meth c D A 6 (QI D A (fun z : Int32 × Mem => z.1) (fun z : Int32 × Mem => (cat [w_Model ct aM z.2 LM]))) 89 [] [] (cat [w_Model ct aM M LM]) (k89 M)) (k103 : Mem → Option (Int32 × Mem)) (hk103 : ∀ (M : Mem), Im p l e (im_rm 6) s m args below meth c D A 6 (QI D A (fun z : Int32 × Mem => z.1) (fun z : Int32 × Mem => (cat [w_Model ct aM z.2 LM]))) 103 [] [] (cat [w_Model ct aM M LM]) (k103 M)) (k118 : Mem → Option (Int32 × Mem)) (hk118 : ∀ (M : Mem), Im p l e (im_rm 6) s m args below meth c D A 6 (QI D A (fun z : Int32 × Mem => z.1) (fun z : Int32 × Mem => (cat [w_Model ct aM z.2 LM]))) 118 [] [] (cat [w_Model ct aM M LM]) (k118 M)) : Im p l e (im_rm 6) s m args below meth c D A 6 (QI D A (fun z : Int32 × Mem => z.1) (fun z : Int32 × Mem => (cat [w_Model ct aM z.2 LM]))) 80 [(0, .ref (aM 0)), (1, .int x1), (2, .int x2), (3, .int x3), (4, .int x4), (5, .int x5)] [] (cat [w_Model ct aM M LM]) (f_X10_explains_80 F M LM x1 x2 x3 x4 x5 k8 k89 k103 k118) := by
  unfold f_X10_explains_80
  refine im_aload_n X 0 dX10_explains_80 rfl rfl ?_
  refine im_iload X 5 dX10_explains_81 rfl ?_
  refine im_cciV X [.int x5] [] [w_Model ct aM M LM] [w_Model ct aM M LM] [0] (fun z83 => [w_Model ct aM M LM]) 0 0 10 rfl rfl rfl cl_X10_260 (c_X10_areSo l D ct F aM M LM x5) rfl (by decide) (fun _ => lc rfl (rfl)) rfl ⟨by decide, by decide⟩ (Nat.le_of_ble_eq_true rfl) rfl dX10_explains_83 (fun z83 => ?_)
  refine im_ws (cat [w_Model ct aM M LM]) rfl ?_
  refine im_if_ne (tgt := 91) X dX10_explains_86 rfl ?_ ?_
  · refine im_iload X 5 dX10_explains_91 rfl ?_
    refine im_aload_n X 0 dX10_explains_93 rfl rfl ?_
    refine im_cget X 0 0 (v := .ref (aM 1)) fl_X10_13 rfl rfl rfl dX10_explains_94 ?_
    refine im_bipush X 56 dX10_explains_97 (by decide) ?_
    refine im_ciald X 0 1 0 (f := (M 1)) rfl rfl rfl dX10_explains_99 ?_
    refine im_icmp_ne (tgt := 105) X dX10_explains_100 rfl ?_ ?_
    · refine im_aload_n X 0 dX10_explains_105 rfl rfl ?_
      refine im_iload X 5 dX10_explains_106 rfl ?_
      refine im_ccvV X [.int x5] [] [w_Model ct aM M LM] [w_Model ct aM M LM] [0] (fun z108 => [w_Model ct aM z108 LM]) 0 0 10 rfl rfl rfl cl_X10_172 (c_X10_laysLogged l D ct F aM M LM x5) rfl (by decide) (fun _ => lc fa_Model (rfl)) rfl ⟨by decide, by decide⟩ (Nat.le_of_ble_eq_true rfl) rfl dX10_explains_108 (fun z108 => ?_)
      refine im_ws (cat [w_Model ct aM z108 LM]) rfl ?_
      refine im_aload_n X 0 dX10_explains_111 rfl rfl ?_
      refine im_cciV X [] [] [w_Model ct aM z108 LM] [w_Model ct aM z108 LM] [0] (fun z112 => [w_Model ct aM z108 LM]) 0 0 10 rfl rfl rfl cl_X10_154 (c_X10_fits l D ct F aM z108 LM) rfl (by decide) (fun _ => lc rfl (rfl)) rfl ⟨by decide, by decide⟩ (Nat.le_of_ble_eq_true rfl) rfl dX10_explains_112 (fun z112 => ?_)
      refine im_ws (cat [w_Model ct aM z108 LM]) rfl ?_
      refine im_if_ne (tgt := 120) X dX10_explains_115 rfl ?_ ?_
      · refine im_aload_n X 0 dX10_explains_120 rfl rfl ?_
        refine im_iconst X 1 dX10_explains_121 (by decide) ?_
        refine im_ccvV X [.int 1] [] [w_Model ct aM z108 LM] [w_Model ct aM z108 LM] [0] (fun z122 => [w_Model ct aM z122 LM]) 0 0 10 rfl rfl rfl cl_X10_161 (c_X10_goes l D ct F aM z108 LM 1) rfl (by decide) (fun _ => lc fa_Model (rfl)) rfl ⟨by decide, by decide⟩ (Nat.le_of_ble_eq_true rfl) rfl dX10_explains_122 (fun z122 => ?_)
        refine im_ws (cat [w_Model ct aM z122 LM]) rfl ?_
        refine im_iinc X 5 1 [1, 2, 3, 4, 5, 0] [(0, .ref (aM 0)), (1, .int x1), (2, .int x2), (3, .int x3), (4, .int x4), (5, .int (x5 + 1))] dX10_explains_125 (by decide) rfl (by decide) rfl ?_
        refine im_goto (tgt := 8) X dX10_explains_128 rfl ?_
        exact hk8 z122 (x5 + 1)
      · refine im_lv [] [] rfl ?_
        exact hk118 z108
    · refine im_lv [] [] rfl ?_
      exact hk103 M
  · refine im_lv [] [] rfl ?_
    exact hk89 M
noncomputable def f_X10_explains_72 (F : Nat) (M : Mem) (LM : MemL) (x1 : Int32) (x2 : Int32) (x3 : Int32) (x4 : Int32) (x5 : Int32) (s1 : Int32) (s2 : Int32) (k8 : Mem → Int32 → Option (Int32 × Mem)) (k89 : Mem → Option (Int32 × Mem)) (k103 : Mem → Option (Int32 × Mem)) (k118 : Mem → Option (Int32 × Mem)) : Option (Int32 × Mem) :=
  (f_X10_cell F s1 s2).bind (fun z72 => ck z72 24 (ck z72 24 (f_X10_explains_80 F (mr M 4 (upd (M 4) z72.toNatClampNeg (((M 4) z72.toNatClampNeg) + 1))) LM x1 x2 x3 x4 x5 k8 k89 k103 k118)))
set_option maxRecDepth 100000 in
set_option maxHeartbeats 4000000 in
theorem i_X10_explains_72 {p : Program} {l : Launch} {e : Env} {s : State} {m : MethodId} {args : Array Value} {below : List Frame} {meth : Method} {c : Code} {D : va_G} {ct : im_ct} {A : Nat → Prop} (X : im_X p (im_rm 6) s m args meth c D ct A RX10 cX10_explains 6 (some .boolean)) (F : Nat) (aM : Nat → Nat) (M : Mem) (LM : MemL) (x1 : Int32) (x2 : Int32) (x3 : Int32) (x4 : Int32) (x5 : Int32) (s1 : Int32) (s2 : Int32) (k8 : Mem → Int32 → Option (Int32 × Mem)) (hk8 : ∀ (M : Mem) (x5 : Int32), Im p l e (im_rm 6) s m args below meth c D A 6 (QI D A (fun z : Int32 × Mem => z.1) (fun z : Int32 × Mem => (cat [w_Model ct aM z.2 LM]))) 8 [(0, .ref (aM 0)), (1, .int x1), (2, .int x2), (3, .int x3), (4, .int x4), (5, .int x5)] [] (cat [w_Model ct aM M LM]) (k8 M x5)) (k89 : Mem → Option (Int32 × Mem)) (hk89 : ∀ (M : Mem), Im p l e (im_rm 6) s m args below meth c D A 6 (QI D A (fun z : Int32 × Mem => z.1) (fun z : Int32 × Mem => (cat [w_Model ct aM z.2 LM]))) 89 [] [] (cat [w_Model ct aM M LM]) (k89 M)) (k103 : Mem → Option (Int32 × Mem)) (hk103 : ∀ (M : Mem), Im p l e (im_rm 6) s m args below meth c D A 6 (QI D A (fun z : Int32 × Mem => z.1) (fun z : Int32 × Mem => (cat [w_Model ct aM z.2 LM]))) 103 [] [] (cat [w_Model ct aM M LM]) (k103 M)) (k118 : Mem → Option (Int32 × Mem)) (hk118 : ∀ (M : Mem), Im p l e (im_rm 6) s m args below meth c D A 6 (QI D A (fun z : Int32 × Mem => z.1) (fun z : Int32 × Mem => (cat [w_Model ct aM z.2 LM]))) 118 [] [] (cat [w_Model ct aM M LM]) (k118 M)) : Im p l e (im_rm 6) s m args below meth c D A 6 (QI D A (fun z : Int32 × Mem => z.1) (fun z : Int32 × Mem => (cat [w_Model ct aM z.2 LM]))) 72 [(0, .ref (aM 0)), (1, .int x1), (2, .int x2), (3, .int x3), (4, .int x4), (5, .int x5)] [.int s2, .int s1, .ref (aM 4)] (cat [w_Model ct aM M LM]) (f_X10_explains_72 F M LM x1 x2 x3 x4 x5 s1 s2 k8 k89 k103 k118) := by
  unfold f_X10_explains_72
  refine im_cciS X [.int s1, .int s2] [.ref (aM 4)] [w_Model ct aM M LM] [] [] (fun z72 => []) cl_X10_101 (c_X10_cell l D ct F s1 s2) rfl (by decide) (fun _ => rfl) rfl ⟨by decide, by decide⟩ (Nat.le_of_ble_eq_true rfl) rfl dX10_explains_72 (fun z72 => ?_)
  refine im_ws (cat [w_Model ct aM M LM]) rfl ?_
  refine im_dup2_11 X rfl rfl dX10_explains_75 ?_
  refine im_ciald X 0 4 0 (f := (M 4)) rfl rfl rfl dX10_explains_76 ?_
  refine im_iconst X 1 dX10_explains_77 (by decide) ?_
  refine im_iadd X dX10_explains_78 ?_
  refine im_ciast X 0 4 0 (wx_Model ct aM (M 0 0) (M 0 4) (M 0 6) (M 0 7) (M 0 8) (M 0 9) (M 0 24) (M 0 27) (M 0 29) (M 0 31) (M 0 32) (M 0 33) (M 0 34) (M 0 35) (M 1) (M 2) (M 3) (upd (M 4) z72.toNatClampNeg (((M 4) z72.toNatClampNeg) + 1)) (M 5) (M 9) (M 10) (M 11) (M 12) (M 13) (M 14) (M 15) (M 16) (M 17) (M 18) (M 19) (M 20) (M 21) (M 22) (LM 6) (LM 7) (LM 8)) [wx_Model ct aM (M 0 0) (M 0 4) (M 0 6) (M 0 7) (M 0 8) (M 0 9) (M 0 24) (M 0 27) (M 0 29) (M 0 31) (M 0 32) (M 0 33) (M 0 34) (M 0 35) (M 1) (M 2) (M 3) (upd (M 4) z72.toNatClampNeg (((M 4) z72.toNatClampNeg) + 1)) (M 5) (M 9) (M 10) (M 11) (M 12) (M 13) (M 14) (M 15) (M 16) (M 17) (M 18) (M 19) (M 20) (M 21) (M 22) (LM 6) (LM 7) (LM 8)] (f := (M 4)) rfl rfl rfl rfl rfl dX10_explains_79 ?_
  exact i_X10_explains_80 X F aM (mr M 4 (upd (M 4) z72.toNatClampNeg (((M 4) z72.toNatClampNeg) + 1))) LM x1 x2 x3 x4 x5 _ hk8 _ hk89 _ hk103 _ hk118
noncomputable def f_X10_explains_8 (F : Nat) (LM : MemL) (x1 : Int32) (x2 : Int32) (x3 : Int32) (x4 : Int32) (k37 : Mem → Option (Int32 × Mem)) (k89 : Mem → Option (Int32 × Mem)) (k103 : Mem → Option (Int32 × Mem)) (k118 : Mem → Option (Int32 × Mem)) (k131 : Mem → Option (Int32 × Mem)) : Nat → Mem → Int32 → Option (Int32 × Mem)
  | 0, _, _ => none
  | n + 1, M, x5 =>
  ck 56 226 ((if ((M 1) (56 : Int32).toNatClampNeg) < x5 then k131 M else (if x5 = x1 then (f_X10_slips F M LM x2 x3 x4).bind (fun z31 => (if z31 = 0 then k37 M else (f_X10_cell F x2 x3).bind (fun z45 => ck z45 24 (ck z45 24 ((if x4 = 0 then f_X10_explains_72 F (mr M 4 (upd (M 4) z45.toNatClampNeg (((M 4) z45.toNatClampNeg) - 1))) LM x1 x2 x3 x4 x5 x2 (x3 - 1) (f_X10_explains_8 F LM x1 x2 x3 x4 k37 k89 k103 k118 k131 n) k89 k103 k118 else f_X10_explains_72 F (mr M 4 (upd (M 4) z45.toNatClampNeg (((M 4) z45.toNatClampNeg) - 1))) LM x1 x2 x3 x4 x5 x2 (x3 + 1) (f_X10_explains_8 F LM x1 x2 x3 x4 k37 k89 k103 k118 k131 n) k89 k103 k118)))))) else f_X10_explains_80 F M LM x1 x2 x3 x4 x5 (f_X10_explains_8 F LM x1 x2 x3 x4 k37 k89 k103 k118 k131 n) k89 k103 k118)))
set_option maxRecDepth 100000 in
set_option maxHeartbeats 4000000 in
theorem i_X10_explains_8 {p : Program} {l : Launch} {e : Env} {s : State} {m : MethodId} {args : Array Value} {below : List Frame} {meth : Method} {c : Code} {D : va_G} {ct : im_ct} {A : Nat → Prop} (X : im_X p (im_rm 6) s m args meth c D ct A RX10 cX10_explains 6 (some .boolean)) (F : Nat) (aM : Nat → Nat) (LM : MemL) (x1 : Int32) (x2 : Int32) (x3 : Int32) (x4 : Int32) (k37 : Mem → Option (Int32 × Mem)) (hk37 : ∀ (M : Mem), Im p l e (im_rm 6) s m args below meth c D A 6 (QI D A (fun z : Int32 × Mem => z.1) (fun z : Int32 × Mem => (cat [w_Model ct aM z.2 LM]))) 37 [] [] (cat [w_Model ct aM M LM]) (k37 M)) (k89 : Mem → Option (Int32 × Mem)) (hk89 : ∀ (M : Mem), Im p l e (im_rm 6) s m args below meth c D A 6 (QI D A (fun z : Int32 × Mem => z.1) (fun z : Int32 × Mem => (cat [w_Model ct aM z.2 LM]))) 89 [] [] (cat [w_Model ct aM M LM]) (k89 M)) (k103 : Mem → Option (Int32 × Mem)) (hk103 : ∀ (M : Mem), Im p l e (im_rm 6) s m args below meth c D A 6 (QI D A (fun z : Int32 × Mem => z.1) (fun z : Int32 × Mem => (cat [w_Model ct aM z.2 LM]))) 103 [] [] (cat [w_Model ct aM M LM]) (k103 M)) (k118 : Mem → Option (Int32 × Mem)) (hk118 : ∀ (M : Mem), Im p l e (im_rm 6) s m args below meth c D A 6 (QI D A (fun z : Int32 × Mem => z.1) (fun z : Int32 × Mem => (cat [w_Model ct aM z.2 LM]))) 118 [] [] (cat [w_Model ct aM M LM]) (k118 M)) (k131 : Mem → Option (Int32 × Mem)) (hk131 : ∀ (M : Mem), Im p l e (im_rm 6) s m args below meth c D A 6 (QI D A (fun z : Int32 × Mem => z.1) (fun z : Int32 × Mem => (cat [w_Model ct aM z.2 LM]))) 131 [] [] (cat [w_Model ct aM M LM]) (k131 M)) : ∀ (n : Nat) (M : Mem) (x5 : Int32), Im p l e (im_rm 6) s m args below meth c D A 6 (QI D A (fun z : Int32 × Mem => z.1) (fun z : Int32 × Mem => (cat [w_Model ct aM z.2 LM]))) 8 [(0, .ref (aM 0)), (1, .int x1), (2, .int x2), (3, .int x3), (4, .int x4), (5, .int x5)] [] (cat [w_Model ct aM M LM]) (f_X10_explains_8 F LM x1 x2 x3 x4 k37 k89 k103 k118 k131 n M x5) := by
  intro n
  induction n with
  | zero => intros; exact im_none
  | succ n ih =>
    intro M x5
    unfold f_X10_explains_8
    refine im_iload X 5 dX10_explains_8 rfl ?_
    refine im_aload_n X 0 dX10_explains_10 rfl rfl ?_
    refine im_cget X 0 0 (v := .ref (aM 1)) fl_X10_13 rfl rfl rfl dX10_explains_11 ?_
    refine im_bipush X 56 dX10_explains_14 (by decide) ?_
    refine im_ciald X 0 1 0 (f := (M 1)) rfl rfl rfl dX10_explains_16 ?_
    refine im_icmp_gt (tgt := 131) X dX10_explains_17 rfl ?_ ?_
    · refine im_lv [] [] rfl ?_
      exact hk131 M
    · refine im_iload X 5 dX10_explains_20 rfl ?_
      refine im_iload_n X 1 dX10_explains_22 rfl rfl ?_
      refine im_icmp_ne (tgt := 80) X dX10_explains_23 rfl ?_ ?_
      · exact i_X10_explains_80 X F aM M LM x1 x2 x3 x4 x5 _ ih _ hk89 _ hk103 _ hk118
      · refine im_aload_n X 0 dX10_explains_26 rfl rfl ?_
        refine im_iload_n X 2 dX10_explains_27 rfl rfl ?_
        refine im_iload_n X 3 dX10_explains_28 rfl rfl ?_
        refine im_iload X 4 dX10_explains_29 rfl ?_
        refine im_cciV X [.int x2, .int x3, .int x4] [] [w_Model ct aM M LM] [w_Model ct aM M LM] [0] (fun z31 => [w_Model ct aM M LM]) 0 0 10 rfl rfl rfl cl_X10_178 (c_X10_slips l D ct F aM M LM x2 x3 x4) rfl (by decide) (fun _ => lc rfl (rfl)) rfl ⟨by decide, by decide⟩ (Nat.le_of_ble_eq_true rfl) rfl dX10_explains_31 (fun z31 => ?_)
        refine im_ws (cat [w_Model ct aM M LM]) rfl ?_
        refine im_if_ne (tgt := 39) X dX10_explains_34 rfl ?_ ?_
        · refine im_aload_n X 0 dX10_explains_39 rfl rfl ?_
          refine im_cget X 0 0 (v := .ref (aM 4)) fl_X10_23 rfl rfl rfl dX10_explains_40 ?_
          refine im_iload_n X 2 dX10_explains_43 rfl rfl ?_
          refine im_iload_n X 3 dX10_explains_44 rfl rfl ?_
          refine im_cciS X [.int x2, .int x3] [.ref (aM 4)] [w_Model ct aM M LM] [] [] (fun z45 => []) cl_X10_101 (c_X10_cell l D ct F x2 x3) rfl (by decide) (fun _ => rfl) rfl ⟨by decide, by decide⟩ (Nat.le_of_ble_eq_true rfl) rfl dX10_explains_45 (fun z45 => ?_)
          refine im_ws (cat [w_Model ct aM M LM]) rfl ?_
          refine im_dup2_11 X rfl rfl dX10_explains_48 ?_
          refine im_ciald X 0 4 0 (f := (M 4)) rfl rfl rfl dX10_explains_49 ?_
          refine im_iconst X 1 dX10_explains_50 (by decide) ?_
          refine im_isub X dX10_explains_51 ?_
          refine im_ciast X 0 4 0 (wx_Model ct aM (M 0 0) (M 0 4) (M 0 6) (M 0 7) (M 0 8) (M 0 9) (M 0 24) (M 0 27) (M 0 29) (M 0 31) (M 0 32) (M 0 33) (M 0 34) (M 0 35) (M 1) (M 2) (M 3) (upd (M 4) z45.toNatClampNeg (((M 4) z45.toNatClampNeg) - 1)) (M 5) (M 9) (M 10) (M 11) (M 12) (M 13) (M 14) (M 15) (M 16) (M 17) (M 18) (M 19) (M 20) (M 21) (M 22) (LM 6) (LM 7) (LM 8)) [wx_Model ct aM (M 0 0) (M 0 4) (M 0 6) (M 0 7) (M 0 8) (M 0 9) (M 0 24) (M 0 27) (M 0 29) (M 0 31) (M 0 32) (M 0 33) (M 0 34) (M 0 35) (M 1) (M 2) (M 3) (upd (M 4) z45.toNatClampNeg (((M 4) z45.toNatClampNeg) - 1)) (M 5) (M 9) (M 10) (M 11) (M 12) (M 13) (M 14) (M 15) (M 16) (M 17) (M 18) (M 19) (M 20) (M 21) (M 22) (LM 6) (LM 7) (LM 8)] (f := (M 4)) rfl rfl rfl rfl rfl dX10_explains_52 ?_
          refine im_aload_n X 0 dX10_explains_53 rfl rfl ?_
          refine im_cget X 0 0 (v := .ref (aM 4)) fl_X10_23 rfl rfl rfl dX10_explains_54 ?_
          refine im_iload_n X 2 dX10_explains_57 rfl rfl ?_
          refine im_iload X 4 dX10_explains_58 rfl ?_
          refine im_if_eq (tgt := 69) X dX10_explains_60 rfl ?_ ?_
          · refine im_iload_n X 3 dX10_explains_69 rfl rfl ?_
            refine im_iconst X 1 dX10_explains_70 (by decide) ?_
            refine im_isub X dX10_explains_71 ?_
            exact i_X10_explains_72 X F aM (mr M 4 (upd (M 4) z45.toNatClampNeg (((M 4) z45.toNatClampNeg) - 1))) LM x1 x2 x3 x4 x5 x2 (x3 - 1) _ ih _ hk89 _ hk103 _ hk118
          · refine im_iload_n X 3 dX10_explains_63 rfl rfl ?_
            refine im_iconst X 1 dX10_explains_64 (by decide) ?_
            refine im_iadd X dX10_explains_65 ?_
            refine im_goto (tgt := 72) X dX10_explains_66 rfl ?_
            exact i_X10_explains_72 X F aM (mr M 4 (upd (M 4) z45.toNatClampNeg (((M 4) z45.toNatClampNeg) - 1))) LM x1 x2 x3 x4 x5 x2 (x3 + 1) _ ih _ hk89 _ hk103 _ hk118
        · refine im_lv [] [] rfl ?_
          exact hk37 M
noncomputable def f_X10_explains (F : Nat) (M : Mem) (LM : MemL) (x1 : Int32) (x2 : Int32) (x3 : Int32) (x4 : Int32) : Option (Int32 × Mem) :=
  (f_X10_laysAt F M LM 0).bind (fun z2 => f_X10_explains_8 F LM x1 x2 x3 x4 (fun M_37 => (some (0, M_37))) (fun M_89 => (some (0, M_89))) (fun M_103 => (some (1, M_103))) (fun M_118 => (some (0, M_118))) (fun M_131 => (some (0, M_131))) F z2 0)
set_option maxRecDepth 100000 in
set_option maxHeartbeats 4000000 in
theorem i_X10_explains {p : Program} {l : Launch} {e : Env} {s : State} {m : MethodId} {args : Array Value} {below : List Frame} {meth : Method} {c : Code} {D : va_G} {ct : im_ct} {A : Nat → Prop} (X : im_X p (im_rm 6) s m args meth c D ct A RX10 cX10_explains 6 (some .boolean)) (F : Nat) (aM : Nat → Nat) (M : Mem) (LM : MemL) (x1 : Int32) (x2 : Int32) (x3 : Int32) (x4 : Int32) : Im p l e (im_rm 6) s m args below meth c D A 6 (QI D A (fun z : Int32 × Mem => z.1) (fun z : Int32 × Mem => (cat [w_Model ct aM z.2 LM]))) 0 [(0, .ref (aM 0)), (1, .int x1), (2, .int x2), (3, .int x3), (4, .int x4)] [] (cat [w_Model ct aM M LM]) (f_X10_explains F M LM x1 x2 x3 x4) := by
  unfold f_X10_explains
  refine im_aload_n X 0 dX10_explains_0 rfl rfl ?_
  refine im_iconst X 0 dX10_explains_1 (by decide) ?_
  refine im_ccvV X [.int 0] [] [w_Model ct aM M LM] [w_Model ct aM M LM] [0] (fun z2 => [w_Model ct aM z2 LM]) 0 0 10 rfl rfl rfl cl_X10_253 (c_X10_laysAt l D ct F aM M LM 0) rfl (by decide) (fun _ => lc fa_Model (rfl)) rfl ⟨by decide, by decide⟩ (Nat.le_of_ble_eq_true rfl) rfl dX10_explains_2 (fun z2 => ?_)
  refine im_ws (cat [w_Model ct aM z2 LM]) rfl ?_
  refine im_iconst X 0 dX10_explains_5 (by decide) ?_
  refine im_istore X [1, 2, 3, 4, 5, 0] [(0, .ref (aM 0)), (1, .int x1), (2, .int x2), (3, .int x3), (4, .int x4), (5, .int 0)] dX10_explains_6 (by decide) rfl ?_
  refine i_X10_explains_8 X F aM LM x1 x2 x3 x4 _ (fun M_37 => ?_) _ (fun M_89 => ?_) _ (fun M_103 => ?_) _ (fun M_118 => ?_) _ (fun M_131 => ?_) F z2 0
  · refine im_iconst X 0 dX10_explains_37 (by decide) ?_
    exact im_zreturn X (0, M_37) rfl rfl rfl dX10_explains_38
  · refine im_iconst X 0 dX10_explains_89 (by decide) ?_
    exact im_zreturn X (0, M_89) rfl rfl rfl dX10_explains_90
  · refine im_iconst X 1 dX10_explains_103 (by decide) ?_
    exact im_zreturn X (1, M_103) rfl rfl rfl dX10_explains_104
  · refine im_iconst X 0 dX10_explains_118 (by decide) ?_
    exact im_zreturn X (0, M_118) rfl rfl rfl dX10_explains_119
  · refine im_iconst X 0 dX10_explains_131 (by decide) ?_
    exact im_zreturn X (0, M_131) rfl rfl rfl dX10_explains_132
theorem c_X10_explains (l : Launch) (D : va_G) (ct : im_ct) (F : Nat) (aM : Nat → Nat) (M : Mem) (LM : MemL) (x1 : Int32) (x2 : Int32) (x3 : Int32) (x4 : Int32) : CMi l D ct yX10_explains cX10_explains 6 (some .boolean) 6 [.ref (aM 0), .int x1, .int x2, .int x3, .int x4] (cat [w_Model ct aM M LM]) (f_X10_explains F M LM x1 x2 x3 x4) (fun z : Int32 × Mem => z.1) (fun z : Int32 × Mem => (cat [w_Model ct aM z.2 LM])) :=
  im_met (Qb := fun A => QI D A (fun z : Int32 × Mem => z.1) (fun z : Int32 × Mem => (cat [w_Model ct aM z.2 LM]))) (by decide +kernel) (Nat.le_of_ble_eq_true rfl) (fun p e s m args below meth c A X => i_X10_explains X F aM M LM x1 x2 x3 x4)

noncomputable def f_X10_laysSlides_124 (F : Nat) (M : Mem) (LM : MemL) (x1 : Int32) (x2 : Int32) (x3 : Int32) (x4 : Int32) (s1 : Int32) (s2 : Int32) (k45 : Mem → Int32 → Option (Mem)) : Option (Mem) :=
  ck s1 1300 (k45 (mr (mr M 18 (upd (M 18) s1.toNatClampNeg (vp_nar .boolean s2))) 0 (fu (M 0) 24 ((M 0 24) + 1))) (x4 + 1))
set_option maxRecDepth 100000 in
set_option maxHeartbeats 4000000 in
theorem i_X10_laysSlides_124 {p : Program} {l : Launch} {e : Env} {s : State} {m : MethodId} {args : Array Value} {below : List Frame} {meth : Method} {c : Code} {D : va_G} {ct : im_ct} {A : Nat → Prop} (X : im_X p (im_rm 7) s m args meth c D ct A RX10 cX10_laysSlides 5 none) (F : Nat) (aM : Nat → Nat) (M : Mem) (LM : MemL) (x1 : Int32) (x2 : Int32) (x3 : Int32) (x4 : Int32) (s1 : Int32) (s2 : Int32) (k45 : Mem → Int32 → Option (Mem)) (hk45 : ∀ (M : Mem) (x4 : Int32), Im p l e (im_rm 7) s m args below meth c D A 5 (QV D A (fun z : Mem => (cat [w_Model ct aM z LM]))) 45 [(0, .ref (aM 0)), (1, .int x1), (2, .int x2), (3, .int x3), (4, .int x4)] [] (cat [w_Model ct aM M LM]) (k45 M x4)) : Im p l e (im_rm 7) s m args below meth c D A 5 (QV D A (fun z : Mem => (cat [w_Model ct aM z LM]))) 124 [(0, .ref (aM 0)), (1, .int x1), (2, .int x2), (3, .int x3), (4, .int x4)] [.int s2, .int s1, .ref (aM 18)] (cat [w_Model ct aM M LM]) (f_X10_laysSlides_124 F M LM x1 x2 x3 x4 s1 s2 k45) := by
  unfold f_X10_laysSlides_124
  refine im_czast X 0 18 3 (wx_Model ct aM (M 0 0) (M 0 4) (M 0 6) (M 0 7) (M 0 8) (M 0 9) (M 0 24) (M 0 27) (M 0 29) (M 0 31) (M 0 32) (M 0 33) (M 0 34) (M 0 35) (M 1) (M 2) (M 3) (M 4) (M 5) (M 9) (M 10) (M 11) (M 12) (M 13) (M 14) (M 15) (M 16) (M 17) (upd (M 18) s1.toNatClampNeg (vp_nar .boolean s2)) (M 19) (M 20) (M 21) (M 22) (LM 6) (LM 7) (LM 8)) [wx_Model ct aM (M 0 0) (M 0 4) (M 0 6) (M 0 7) (M 0 8) (M 0 9) (M 0 24) (M 0 27) (M 0 29) (M 0 31) (M 0 32) (M 0 33) (M 0 34) (M 0 35) (M 1) (M 2) (M 3) (M 4) (M 5) (M 9) (M 10) (M 11) (M 12) (M 13) (M 14) (M 15) (M 16) (M 17) (upd (M 18) s1.toNatClampNeg (vp_nar .boolean s2)) (M 19) (M 20) (M 21) (M 22) (LM 6) (LM 7) (LM 8)] (f := (M 18)) rfl rfl rfl rfl rfl dX10_laysSlides_124 ?_
  refine im_aload_n X 0 dX10_laysSlides_125 rfl rfl ?_
  refine im_dup X rfl dX10_laysSlides_126 ?_
  refine im_cget X 0 0 (v := .int (M 0 24)) fl_X10_263 rfl rfl rfl dX10_laysSlides_127 ?_
  refine im_iconst X 1 dX10_laysSlides_130 (by decide) ?_
  refine im_iadd X dX10_laysSlides_131 ?_
  refine im_cput X 0 0 (wx_Model ct aM (M 0 0) (M 0 4) (M 0 6) (M 0 7) (M 0 8) (M 0 9) ((M 0 24) + 1) (M 0 27) (M 0 29) (M 0 31) (M 0 32) (M 0 33) (M 0 34) (M 0 35) (M 1) (M 2) (M 3) (M 4) (M 5) (M 9) (M 10) (M 11) (M 12) (M 13) (M 14) (M 15) (M 16) (M 17) (upd (M 18) s1.toNatClampNeg (vp_nar .boolean s2)) (M 19) (M 20) (M 21) (M 22) (LM 6) (LM 7) (LM 8)) [wx_Model ct aM (M 0 0) (M 0 4) (M 0 6) (M 0 7) (M 0 8) (M 0 9) ((M 0 24) + 1) (M 0 27) (M 0 29) (M 0 31) (M 0 32) (M 0 33) (M 0 34) (M 0 35) (M 1) (M 2) (M 3) (M 4) (M 5) (M 9) (M 10) (M 11) (M 12) (M 13) (M 14) (M 15) (M 16) (M 17) (upd (M 18) s1.toNatClampNeg (vp_nar .boolean s2)) (M 19) (M 20) (M 21) (M 22) (LM 6) (LM 7) (LM 8)] fl_X10_263 rfl rfl rfl rfl (Nat.le_of_ble_eq_true rfl) rfl rfl dX10_laysSlides_132 ?_
  refine im_iinc X 4 1 [1, 2, 3, 4, 0] [(0, .ref (aM 0)), (1, .int x1), (2, .int x2), (3, .int x3), (4, .int (x4 + 1))] dX10_laysSlides_135 (by decide) rfl (by decide) rfl ?_
  refine im_goto (tgt := 45) X dX10_laysSlides_138 rfl ?_
  exact hk45 (mr (mr M 18 (upd (M 18) s1.toNatClampNeg (vp_nar .boolean s2))) 0 (fu (M 0) 24 ((M 0 24) + 1))) (x4 + 1)
noncomputable def f_X10_laysSlides_66 (F : Nat) (M : Mem) (LM : MemL) (x1 : Int32) (x2 : Int32) (x3 : Int32) (x4 : Int32) (s1 : Int32) (s2 : Int32) (s3 : Int32) (s4 : Int32) (k45 : Mem → Int32 → Option (Mem)) : Option (Mem) :=
  (f_X10_explains F M LM s1 s2 s3 s4).bind (fun z66 => (if z66.1 = 0 then k45 z66.2 (x4 + 1) else ck (z66.2 0 24) 1300 (ck (z66.2 0 24) 1300 (ck (z66.2 0 24) 1300 ((if x4 = 1 then f_X10_laysSlides_124 F (mr (mr (mr z66.2 15 (upd (z66.2 15) ((z66.2 0 24)).toNatClampNeg x1)) 16 (upd (z66.2 16) ((z66.2 0 24)).toNatClampNeg x2)) 17 (upd (z66.2 17) ((z66.2 0 24)).toNatClampNeg x3)) LM x1 x2 x3 x4 (z66.2 0 24) 1 k45 else f_X10_laysSlides_124 F (mr (mr (mr z66.2 15 (upd (z66.2 15) ((z66.2 0 24)).toNatClampNeg x1)) 16 (upd (z66.2 16) ((z66.2 0 24)).toNatClampNeg x2)) 17 (upd (z66.2 17) ((z66.2 0 24)).toNatClampNeg x3)) LM x1 x2 x3 x4 (z66.2 0 24) 0 k45))))))
set_option maxRecDepth 100000 in
set_option maxHeartbeats 4000000 in
theorem i_X10_laysSlides_66 {p : Program} {l : Launch} {e : Env} {s : State} {m : MethodId} {args : Array Value} {below : List Frame} {meth : Method} {c : Code} {D : va_G} {ct : im_ct} {A : Nat → Prop} (X : im_X p (im_rm 7) s m args meth c D ct A RX10 cX10_laysSlides 5 none) (F : Nat) (aM : Nat → Nat) (M : Mem) (LM : MemL) (x1 : Int32) (x2 : Int32) (x3 : Int32) (x4 : Int32) (s1 : Int32) (s2 : Int32) (s3 : Int32) (s4 : Int32) (k45 : Mem → Int32 → Option (Mem)) (hk45 : ∀ (M : Mem) (x4 : Int32), Im p l e (im_rm 7) s m args below meth c D A 5 (QV D A (fun z : Mem => (cat [w_Model ct aM z LM]))) 45 [(0, .ref (aM 0)), (1, .int x1), (2, .int x2), (3, .int x3), (4, .int x4)] [] (cat [w_Model ct aM M LM]) (k45 M x4)) : Im p l e (im_rm 7) s m args below meth c D A 5 (QV D A (fun z : Mem => (cat [w_Model ct aM z LM]))) 66 [(0, .ref (aM 0)), (1, .int x1), (2, .int x2), (3, .int x3), (4, .int x4)] [.int s4, .int s3, .int s2, .int s1, .ref (aM 0)] (cat [w_Model ct aM M LM]) (f_X10_laysSlides_66 F M LM x1 x2 x3 x4 s1 s2 s3 s4 k45) := by
  unfold f_X10_laysSlides_66
  refine im_cciV X [.int s1, .int s2, .int s3, .int s4] [] [w_Model ct aM M LM] [w_Model ct aM M LM] [0] (fun z66 => [w_Model ct aM z66.2 LM]) 0 0 10 rfl rfl rfl cl_X10_266 (c_X10_explains l D ct F aM M LM s1 s2 s3 s4) rfl (by decide) (fun _ => lc fa_Model (rfl)) rfl ⟨by decide, by decide⟩ (Nat.le_of_ble_eq_true rfl) rfl dX10_laysSlides_66 (fun z66 => ?_)
  refine im_ws (cat [w_Model ct aM z66.2 LM]) rfl ?_
  refine im_if_ne (tgt := 75) X dX10_laysSlides_69 rfl ?_ ?_
  · refine im_aload_n X 0 dX10_laysSlides_75 rfl rfl ?_
    refine im_cget X 0 0 (v := .ref (aM 15)) fl_X10_57 rfl rfl rfl dX10_laysSlides_76 ?_
    refine im_aload_n X 0 dX10_laysSlides_79 rfl rfl ?_
    refine im_cget X 0 0 (v := .int (z66.2 0 24)) fl_X10_263 rfl rfl rfl dX10_laysSlides_80 ?_
    refine im_iload_n X 1 dX10_laysSlides_83 rfl rfl ?_
    refine im_ciast X 0 15 0 (wx_Model ct aM (z66.2 0 0) (z66.2 0 4) (z66.2 0 6) (z66.2 0 7) (z66.2 0 8) (z66.2 0 9) (z66.2 0 24) (z66.2 0 27) (z66.2 0 29) (z66.2 0 31) (z66.2 0 32) (z66.2 0 33) (z66.2 0 34) (z66.2 0 35) (z66.2 1) (z66.2 2) (z66.2 3) (z66.2 4) (z66.2 5) (z66.2 9) (z66.2 10) (z66.2 11) (z66.2 12) (z66.2 13) (z66.2 14) (upd (z66.2 15) ((z66.2 0 24)).toNatClampNeg x1) (z66.2 16) (z66.2 17) (z66.2 18) (z66.2 19) (z66.2 20) (z66.2 21) (z66.2 22) (LM 6) (LM 7) (LM 8)) [wx_Model ct aM (z66.2 0 0) (z66.2 0 4) (z66.2 0 6) (z66.2 0 7) (z66.2 0 8) (z66.2 0 9) (z66.2 0 24) (z66.2 0 27) (z66.2 0 29) (z66.2 0 31) (z66.2 0 32) (z66.2 0 33) (z66.2 0 34) (z66.2 0 35) (z66.2 1) (z66.2 2) (z66.2 3) (z66.2 4) (z66.2 5) (z66.2 9) (z66.2 10) (z66.2 11) (z66.2 12) (z66.2 13) (z66.2 14) (upd (z66.2 15) ((z66.2 0 24)).toNatClampNeg x1) (z66.2 16) (z66.2 17) (z66.2 18) (z66.2 19) (z66.2 20) (z66.2 21) (z66.2 22) (LM 6) (LM 7) (LM 8)] (f := (z66.2 15)) rfl rfl rfl rfl rfl dX10_laysSlides_84 ?_
    refine im_aload_n X 0 dX10_laysSlides_85 rfl rfl ?_
    refine im_cget X 0 0 (v := .ref (aM 16)) fl_X10_60 rfl rfl rfl dX10_laysSlides_86 ?_
    refine im_aload_n X 0 dX10_laysSlides_89 rfl rfl ?_
    refine im_cget X 0 0 (v := .int (z66.2 0 24)) fl_X10_263 rfl rfl rfl dX10_laysSlides_90 ?_
    refine im_iload_n X 2 dX10_laysSlides_93 rfl rfl ?_
    refine im_ciast X 0 16 0 (wx_Model ct aM (z66.2 0 0) (z66.2 0 4) (z66.2 0 6) (z66.2 0 7) (z66.2 0 8) (z66.2 0 9) (z66.2 0 24) (z66.2 0 27) (z66.2 0 29) (z66.2 0 31) (z66.2 0 32) (z66.2 0 33) (z66.2 0 34) (z66.2 0 35) (z66.2 1) (z66.2 2) (z66.2 3) (z66.2 4) (z66.2 5) (z66.2 9) (z66.2 10) (z66.2 11) (z66.2 12) (z66.2 13) (z66.2 14) (upd (z66.2 15) ((z66.2 0 24)).toNatClampNeg x1) (upd (z66.2 16) ((z66.2 0 24)).toNatClampNeg x2) (z66.2 17) (z66.2 18) (z66.2 19) (z66.2 20) (z66.2 21) (z66.2 22) (LM 6) (LM 7) (LM 8)) [wx_Model ct aM (z66.2 0 0) (z66.2 0 4) (z66.2 0 6) (z66.2 0 7) (z66.2 0 8) (z66.2 0 9) (z66.2 0 24) (z66.2 0 27) (z66.2 0 29) (z66.2 0 31) (z66.2 0 32) (z66.2 0 33) (z66.2 0 34) (z66.2 0 35) (z66.2 1) (z66.2 2) (z66.2 3) (z66.2 4) (z66.2 5) (z66.2 9) (z66.2 10) (z66.2 11) (z66.2 12) (z66.2 13) (z66.2 14) (upd (z66.2 15) ((z66.2 0 24)).toNatClampNeg x1) (upd (z66.2 16) ((z66.2 0 24)).toNatClampNeg x2) (z66.2 17) (z66.2 18) (z66.2 19) (z66.2 20) (z66.2 21) (z66.2 22) (LM 6) (LM 7) (LM 8)] (f := (z66.2 16)) rfl rfl rfl rfl rfl dX10_laysSlides_94 ?_
    refine im_aload_n X 0 dX10_laysSlides_95 rfl rfl ?_
    refine im_cget X 0 0 (v := .ref (aM 17)) fl_X10_63 rfl rfl rfl dX10_laysSlides_96 ?_
    refine im_aload_n X 0 dX10_laysSlides_99 rfl rfl ?_
    refine im_cget X 0 0 (v := .int (z66.2 0 24)) fl_X10_263 rfl rfl rfl dX10_laysSlides_100 ?_
    refine im_iload_n X 3 dX10_laysSlides_103 rfl rfl ?_
    refine im_ciast X 0 17 0 (wx_Model ct aM (z66.2 0 0) (z66.2 0 4) (z66.2 0 6) (z66.2 0 7) (z66.2 0 8) (z66.2 0 9) (z66.2 0 24) (z66.2 0 27) (z66.2 0 29) (z66.2 0 31) (z66.2 0 32) (z66.2 0 33) (z66.2 0 34) (z66.2 0 35) (z66.2 1) (z66.2 2) (z66.2 3) (z66.2 4) (z66.2 5) (z66.2 9) (z66.2 10) (z66.2 11) (z66.2 12) (z66.2 13) (z66.2 14) (upd (z66.2 15) ((z66.2 0 24)).toNatClampNeg x1) (upd (z66.2 16) ((z66.2 0 24)).toNatClampNeg x2) (upd (z66.2 17) ((z66.2 0 24)).toNatClampNeg x3) (z66.2 18) (z66.2 19) (z66.2 20) (z66.2 21) (z66.2 22) (LM 6) (LM 7) (LM 8)) [wx_Model ct aM (z66.2 0 0) (z66.2 0 4) (z66.2 0 6) (z66.2 0 7) (z66.2 0 8) (z66.2 0 9) (z66.2 0 24) (z66.2 0 27) (z66.2 0 29) (z66.2 0 31) (z66.2 0 32) (z66.2 0 33) (z66.2 0 34) (z66.2 0 35) (z66.2 1) (z66.2 2) (z66.2 3) (z66.2 4) (z66.2 5) (z66.2 9) (z66.2 10) (z66.2 11) (z66.2 12) (z66.2 13) (z66.2 14) (upd (z66.2 15) ((z66.2 0 24)).toNatClampNeg x1) (upd (z66.2 16) ((z66.2 0 24)).toNatClampNeg x2) (upd (z66.2 17) ((z66.2 0 24)).toNatClampNeg x3) (z66.2 18) (z66.2 19) (z66.2 20) (z66.2 21) (z66.2 22) (LM 6) (LM 7) (LM 8)] (f := (z66.2 17)) rfl rfl rfl rfl rfl dX10_laysSlides_104 ?_
    refine im_aload_n X 0 dX10_laysSlides_105 rfl rfl ?_
    refine im_cget X 0 0 (v := .ref (aM 18)) fl_X10_66 rfl rfl rfl dX10_laysSlides_106 ?_
    refine im_aload_n X 0 dX10_laysSlides_109 rfl rfl ?_
    refine im_cget X 0 0 (v := .int (z66.2 0 24)) fl_X10_263 rfl rfl rfl dX10_laysSlides_110 ?_
    refine im_iload X 4 dX10_laysSlides_113 rfl ?_
    refine im_iconst X 1 dX10_laysSlides_115 (by decide) ?_
    refine im_icmp_ne (tgt := 123) X dX10_laysSlides_116 rfl ?_ ?_
    · refine im_iconst X 0 dX10_laysSlides_123 (by decide) ?_
      exact i_X10_laysSlides_124 X F aM (mr (mr (mr z66.2 15 (upd (z66.2 15) ((z66.2 0 24)).toNatClampNeg x1)) 16 (upd (z66.2 16) ((z66.2 0 24)).toNatClampNeg x2)) 17 (upd (z66.2 17) ((z66.2 0 24)).toNatClampNeg x3)) LM x1 x2 x3 x4 (z66.2 0 24) 0 _ hk45
    · refine im_iconst X 1 dX10_laysSlides_119 (by decide) ?_
      refine im_goto (tgt := 124) X dX10_laysSlides_120 rfl ?_
      exact i_X10_laysSlides_124 X F aM (mr (mr (mr z66.2 15 (upd (z66.2 15) ((z66.2 0 24)).toNatClampNeg x1)) 16 (upd (z66.2 16) ((z66.2 0 24)).toNatClampNeg x2)) 17 (upd (z66.2 17) ((z66.2 0 24)).toNatClampNeg x3)) LM x1 x2 x3 x4 (z66.2 0 24) 1 _ hk45
  · refine im_goto (tgt := 135) X dX10_laysSlides_72 rfl ?_
    refine im_iinc X 4 1 [1, 2, 3, 4, 0] [(0, .ref (aM 0)), (1, .int x1), (2, .int x2), (3, .int x3), (4, .int (x4 + 1))] dX10_laysSlides_135 (by decide) rfl (by decide) rfl ?_
    refine im_goto (tgt := 45) X dX10_laysSlides_138 rfl ?_
    exact hk45 z66.2 (x4 + 1)
noncomputable def f_X10_laysSlides_45 (F : Nat) (LM : MemL) (x1 : Int32) (x2 : Int32) (x3 : Int32) (k141 : Mem → Option (Mem)) : Nat → Mem → Int32 → Option (Mem)
  | 0, _, _ => none
  | n + 1, M, x4 =>
  (if 2 ≤ x4 then k141 M else (if x4 = 1 then f_X10_laysSlides_66 F M LM x1 x2 x3 x4 x1 x2 x3 1 (f_X10_laysSlides_45 F LM x1 x2 x3 k141 n) else f_X10_laysSlides_66 F M LM x1 x2 x3 x4 x1 x2 x3 0 (f_X10_laysSlides_45 F LM x1 x2 x3 k141 n)))
set_option maxRecDepth 100000 in
set_option maxHeartbeats 4000000 in
theorem i_X10_laysSlides_45 {p : Program} {l : Launch} {e : Env} {s : State} {m : MethodId} {args : Array Value} {below : List Frame} {meth : Method} {c : Code} {D : va_G} {ct : im_ct} {A : Nat → Prop} (X : im_X p (im_rm 7) s m args meth c D ct A RX10 cX10_laysSlides 5 none) (F : Nat) (aM : Nat → Nat) (LM : MemL) (x1 : Int32) (x2 : Int32) (x3 : Int32) (k141 : Mem → Option (Mem)) (hk141 : ∀ (M : Mem), Im p l e (im_rm 7) s m args below meth c D A 5 (QV D A (fun z : Mem => (cat [w_Model ct aM z LM]))) 141 [(0, .ref (aM 0)), (1, .int x1), (2, .int x2), (3, .int x3)] [] (cat [w_Model ct aM M LM]) (k141 M)) : ∀ (n : Nat) (M : Mem) (x4 : Int32), Im p l e (im_rm 7) s m args below meth c D A 5 (QV D A (fun z : Mem => (cat [w_Model ct aM z LM]))) 45 [(0, .ref (aM 0)), (1, .int x1), (2, .int x2), (3, .int x3), (4, .int x4)] [] (cat [w_Model ct aM M LM]) (f_X10_laysSlides_45 F LM x1 x2 x3 k141 n M x4) := by
  intro n
  induction n with
  | zero => intros; exact im_none
  | succ n ih =>
    intro M x4
    unfold f_X10_laysSlides_45
    refine im_iload X 4 dX10_laysSlides_45 rfl ?_
    refine im_iconst X 2 dX10_laysSlides_47 (by decide) ?_
    refine im_icmp_ge (tgt := 141) X dX10_laysSlides_48 rfl ?_ ?_
    · refine im_lv [0, 1, 2, 3] [(0, .ref (aM 0)), (1, .int x1), (2, .int x2), (3, .int x3)] rfl ?_
      exact hk141 M
    · refine im_aload_n X 0 dX10_laysSlides_51 rfl rfl ?_
      refine im_iload_n X 1 dX10_laysSlides_52 rfl rfl ?_
      refine im_iload_n X 2 dX10_laysSlides_53 rfl rfl ?_
      refine im_iload_n X 3 dX10_laysSlides_54 rfl rfl ?_
      refine im_iload X 4 dX10_laysSlides_55 rfl ?_
      refine im_iconst X 1 dX10_laysSlides_57 (by decide) ?_
      refine im_icmp_ne (tgt := 65) X dX10_laysSlides_58 rfl ?_ ?_
      · refine im_iconst X 0 dX10_laysSlides_65 (by decide) ?_
        exact i_X10_laysSlides_66 X F aM M LM x1 x2 x3 x4 x1 x2 x3 0 _ ih
      · refine im_iconst X 1 dX10_laysSlides_61 (by decide) ?_
        refine im_goto (tgt := 66) X dX10_laysSlides_62 rfl ?_
        exact i_X10_laysSlides_66 X F aM M LM x1 x2 x3 x4 x1 x2 x3 1 _ ih
noncomputable def f_X10_laysSlides_32 (F : Nat) (LM : MemL) (x1 : Int32) (x2 : Int32) (k147 : Mem → Option (Mem)) : Nat → Mem → Int32 → Option (Mem)
  | 0, _, _ => none
  | n + 1, M, x3 =>
  ck 0 226 ((if ((M 1) (0 : Int32).toNatClampNeg) ≤ x3 then k147 M else f_X10_laysSlides_45 F LM x1 x2 x3 (fun M_141 => f_X10_laysSlides_32 F LM x1 x2 k147 n M_141 (x3 + 1)) F M 0))
set_option maxRecDepth 100000 in
set_option maxHeartbeats 4000000 in
theorem i_X10_laysSlides_32 {p : Program} {l : Launch} {e : Env} {s : State} {m : MethodId} {args : Array Value} {below : List Frame} {meth : Method} {c : Code} {D : va_G} {ct : im_ct} {A : Nat → Prop} (X : im_X p (im_rm 7) s m args meth c D ct A RX10 cX10_laysSlides 5 none) (F : Nat) (aM : Nat → Nat) (LM : MemL) (x1 : Int32) (x2 : Int32) (k147 : Mem → Option (Mem)) (hk147 : ∀ (M : Mem), Im p l e (im_rm 7) s m args below meth c D A 5 (QV D A (fun z : Mem => (cat [w_Model ct aM z LM]))) 147 [(0, .ref (aM 0)), (1, .int x1), (2, .int x2)] [] (cat [w_Model ct aM M LM]) (k147 M)) : ∀ (n : Nat) (M : Mem) (x3 : Int32), Im p l e (im_rm 7) s m args below meth c D A 5 (QV D A (fun z : Mem => (cat [w_Model ct aM z LM]))) 32 [(0, .ref (aM 0)), (1, .int x1), (2, .int x2), (3, .int x3)] [] (cat [w_Model ct aM M LM]) (f_X10_laysSlides_32 F LM x1 x2 k147 n M x3) := by
  intro n
  induction n with
  | zero => intros; exact im_none
  | succ n ih =>
    intro M x3
    unfold f_X10_laysSlides_32
    refine im_iload_n X 3 dX10_laysSlides_32 rfl rfl ?_
    refine im_aload_n X 0 dX10_laysSlides_33 rfl rfl ?_
    refine im_cget X 0 0 (v := .ref (aM 1)) fl_X10_13 rfl rfl rfl dX10_laysSlides_34 ?_
    refine im_iconst X 0 dX10_laysSlides_37 (by decide) ?_
    refine im_ciald X 0 1 0 (f := (M 1)) rfl rfl rfl dX10_laysSlides_38 ?_
    refine im_icmp_ge (tgt := 147) X dX10_laysSlides_39 rfl ?_ ?_
    · refine im_lv [0, 1, 2] [(0, .ref (aM 0)), (1, .int x1), (2, .int x2)] rfl ?_
      exact hk147 M
    · refine im_iconst X 0 dX10_laysSlides_42 (by decide) ?_
      refine im_istore X [1, 2, 3, 4, 0] [(0, .ref (aM 0)), (1, .int x1), (2, .int x2), (3, .int x3), (4, .int 0)] dX10_laysSlides_43 (by decide) rfl ?_
      refine i_X10_laysSlides_45 X F aM LM x1 x2 x3 _ (fun M_141 => ?_) F M 0
      refine im_iinc X 3 1 [1, 2, 3, 0] [(0, .ref (aM 0)), (1, .int x1), (2, .int x2), (3, .int (x3 + 1))] dX10_laysSlides_141 (by decide) rfl (by decide) rfl ?_
      refine im_goto (tgt := 32) X dX10_laysSlides_144 rfl ?_
      exact ih M_141 (x3 + 1)
noncomputable def f_X10_laysSlides_20 (F : Nat) (LM : MemL) (x1 : Int32) (k153 : Mem → Option (Mem)) : Nat → Mem → Int32 → Option (Mem)
  | 0, _, _ => none
  | n + 1, M, x2 =>
  ck 1 226 ((if ((M 1) (1 : Int32).toNatClampNeg) ≤ x2 then k153 M else f_X10_laysSlides_32 F LM x1 x2 (fun M_147 => f_X10_laysSlides_20 F LM x1 k153 n M_147 (x2 + 1)) F M 0))
set_option maxRecDepth 100000 in
set_option maxHeartbeats 4000000 in
theorem i_X10_laysSlides_20 {p : Program} {l : Launch} {e : Env} {s : State} {m : MethodId} {args : Array Value} {below : List Frame} {meth : Method} {c : Code} {D : va_G} {ct : im_ct} {A : Nat → Prop} (X : im_X p (im_rm 7) s m args meth c D ct A RX10 cX10_laysSlides 5 none) (F : Nat) (aM : Nat → Nat) (LM : MemL) (x1 : Int32) (k153 : Mem → Option (Mem)) (hk153 : ∀ (M : Mem), Im p l e (im_rm 7) s m args below meth c D A 5 (QV D A (fun z : Mem => (cat [w_Model ct aM z LM]))) 153 [(0, .ref (aM 0)), (1, .int x1)] [] (cat [w_Model ct aM M LM]) (k153 M)) : ∀ (n : Nat) (M : Mem) (x2 : Int32), Im p l e (im_rm 7) s m args below meth c D A 5 (QV D A (fun z : Mem => (cat [w_Model ct aM z LM]))) 20 [(0, .ref (aM 0)), (1, .int x1), (2, .int x2)] [] (cat [w_Model ct aM M LM]) (f_X10_laysSlides_20 F LM x1 k153 n M x2) := by
  intro n
  induction n with
  | zero => intros; exact im_none
  | succ n ih =>
    intro M x2
    unfold f_X10_laysSlides_20
    refine im_iload_n X 2 dX10_laysSlides_20 rfl rfl ?_
    refine im_aload_n X 0 dX10_laysSlides_21 rfl rfl ?_
    refine im_cget X 0 0 (v := .ref (aM 1)) fl_X10_13 rfl rfl rfl dX10_laysSlides_22 ?_
    refine im_iconst X 1 dX10_laysSlides_25 (by decide) ?_
    refine im_ciald X 0 1 0 (f := (M 1)) rfl rfl rfl dX10_laysSlides_26 ?_
    refine im_icmp_ge (tgt := 153) X dX10_laysSlides_27 rfl ?_ ?_
    · refine im_lv [0, 1] [(0, .ref (aM 0)), (1, .int x1)] rfl ?_
      exact hk153 M
    · refine im_iconst X 0 dX10_laysSlides_30 (by decide) ?_
      refine im_istore_n X [1, 2, 3, 0] [(0, .ref (aM 0)), (1, .int x1), (2, .int x2), (3, .int 0)] dX10_laysSlides_31 rfl (by decide) rfl ?_
      refine i_X10_laysSlides_32 X F aM LM x1 x2 _ (fun M_147 => ?_) F M 0
      refine im_iinc X 2 1 [1, 2, 0] [(0, .ref (aM 0)), (1, .int x1), (2, .int (x2 + 1))] dX10_laysSlides_147 (by decide) rfl (by decide) rfl ?_
      refine im_goto (tgt := 20) X dX10_laysSlides_150 rfl ?_
      exact ih M_147 (x2 + 1)
noncomputable def f_X10_laysSlides_7 (F : Nat) (LM : MemL) (k159 : Mem → Option (Mem)) : Nat → Mem → Int32 → Option (Mem)
  | 0, _, _ => none
  | n + 1, M, x1 =>
  ck 56 226 ((if ((M 1) (56 : Int32).toNatClampNeg) < x1 then k159 M else f_X10_laysSlides_20 F LM x1 (fun M_153 => f_X10_laysSlides_7 F LM k159 n M_153 (x1 + 1)) F M 0))
set_option maxRecDepth 100000 in
set_option maxHeartbeats 4000000 in
theorem i_X10_laysSlides_7 {p : Program} {l : Launch} {e : Env} {s : State} {m : MethodId} {args : Array Value} {below : List Frame} {meth : Method} {c : Code} {D : va_G} {ct : im_ct} {A : Nat → Prop} (X : im_X p (im_rm 7) s m args meth c D ct A RX10 cX10_laysSlides 5 none) (F : Nat) (aM : Nat → Nat) (LM : MemL) (k159 : Mem → Option (Mem)) (hk159 : ∀ (M : Mem), Im p l e (im_rm 7) s m args below meth c D A 5 (QV D A (fun z : Mem => (cat [w_Model ct aM z LM]))) 159 [] [] (cat [w_Model ct aM M LM]) (k159 M)) : ∀ (n : Nat) (M : Mem) (x1 : Int32), Im p l e (im_rm 7) s m args below meth c D A 5 (QV D A (fun z : Mem => (cat [w_Model ct aM z LM]))) 7 [(0, .ref (aM 0)), (1, .int x1)] [] (cat [w_Model ct aM M LM]) (f_X10_laysSlides_7 F LM k159 n M x1) := by
  intro n
  induction n with
  | zero => intros; exact im_none
  | succ n ih =>
    intro M x1
    unfold f_X10_laysSlides_7
    refine im_iload_n X 1 dX10_laysSlides_7 rfl rfl ?_
    refine im_aload_n X 0 dX10_laysSlides_8 rfl rfl ?_
    refine im_cget X 0 0 (v := .ref (aM 1)) fl_X10_13 rfl rfl rfl dX10_laysSlides_9 ?_
    refine im_bipush X 56 dX10_laysSlides_12 (by decide) ?_
    refine im_ciald X 0 1 0 (f := (M 1)) rfl rfl rfl dX10_laysSlides_14 ?_
    refine im_icmp_gt (tgt := 159) X dX10_laysSlides_15 rfl ?_ ?_
    · refine im_lv [] [] rfl ?_
      exact hk159 M
    · refine im_iconst X 0 dX10_laysSlides_18 (by decide) ?_
      refine im_istore_n X [1, 2, 0] [(0, .ref (aM 0)), (1, .int x1), (2, .int 0)] dX10_laysSlides_19 rfl (by decide) rfl ?_
      refine i_X10_laysSlides_20 X F aM LM x1 _ (fun M_153 => ?_) F M 0
      refine im_iinc X 1 1 [1, 0] [(0, .ref (aM 0)), (1, .int (x1 + 1))] dX10_laysSlides_153 (by decide) rfl (by decide) rfl ?_
      refine im_goto (tgt := 7) X dX10_laysSlides_156 rfl ?_
      exact ih M_153 (x1 + 1)
noncomputable def f_X10_laysSlides (F : Nat) (M : Mem) (LM : MemL) : Option (Mem) :=
  f_X10_laysSlides_7 F LM (fun M_159 => (some M_159)) F (mr M 0 (fu (M 0) 24 0)) 0
set_option maxRecDepth 100000 in
set_option maxHeartbeats 4000000 in
theorem i_X10_laysSlides {p : Program} {l : Launch} {e : Env} {s : State} {m : MethodId} {args : Array Value} {below : List Frame} {meth : Method} {c : Code} {D : va_G} {ct : im_ct} {A : Nat → Prop} (X : im_X p (im_rm 7) s m args meth c D ct A RX10 cX10_laysSlides 5 none) (F : Nat) (aM : Nat → Nat) (M : Mem) (LM : MemL) : Im p l e (im_rm 7) s m args below meth c D A 5 (QV D A (fun z : Mem => (cat [w_Model ct aM z LM]))) 0 [(0, .ref (aM 0))] [] (cat [w_Model ct aM M LM]) (f_X10_laysSlides F M LM) := by
  unfold f_X10_laysSlides
  refine im_aload_n X 0 dX10_laysSlides_0 rfl rfl ?_
  refine im_iconst X 0 dX10_laysSlides_1 (by decide) ?_
  refine im_cput X 0 0 (wx_Model ct aM (M 0 0) (M 0 4) (M 0 6) (M 0 7) (M 0 8) (M 0 9) 0 (M 0 27) (M 0 29) (M 0 31) (M 0 32) (M 0 33) (M 0 34) (M 0 35) (M 1) (M 2) (M 3) (M 4) (M 5) (M 9) (M 10) (M 11) (M 12) (M 13) (M 14) (M 15) (M 16) (M 17) (M 18) (M 19) (M 20) (M 21) (M 22) (LM 6) (LM 7) (LM 8)) [wx_Model ct aM (M 0 0) (M 0 4) (M 0 6) (M 0 7) (M 0 8) (M 0 9) 0 (M 0 27) (M 0 29) (M 0 31) (M 0 32) (M 0 33) (M 0 34) (M 0 35) (M 1) (M 2) (M 3) (M 4) (M 5) (M 9) (M 10) (M 11) (M 12) (M 13) (M 14) (M 15) (M 16) (M 17) (M 18) (M 19) (M 20) (M 21) (M 22) (LM 6) (LM 7) (LM 8)] fl_X10_263 rfl rfl rfl rfl (Nat.le_of_ble_eq_true rfl) rfl rfl dX10_laysSlides_2 ?_
  refine im_iconst X 0 dX10_laysSlides_5 (by decide) ?_
  refine im_istore_n X [1, 0] [(0, .ref (aM 0)), (1, .int 0)] dX10_laysSlides_6 rfl (by decide) rfl ?_
  refine i_X10_laysSlides_7 X F aM LM  _ (fun M_159 => ?_) F (mr M 0 (fu (M 0) 24 0)) 0
  exact im_return X M_159 rfl dX10_laysSlides_159
theorem c_X10_laysSlides (l : Launch) (D : va_G) (ct : im_ct) (F : Nat) (aM : Nat → Nat) (M : Mem) (LM : MemL) : CMv l D ct yX10_laysSlides cX10_laysSlides 5 none 7 [.ref (aM 0)] (cat [w_Model ct aM M LM]) (f_X10_laysSlides F M LM) (fun z : Mem => (cat [w_Model ct aM z LM])) :=
  im_met (Qb := fun A => QV D A (fun z : Mem => (cat [w_Model ct aM z LM]))) (by decide +kernel) (Nat.le_of_ble_eq_true rfl) (fun p e s m args below meth c A X => i_X10_laysSlides X F aM M LM)

noncomputable def f_X10_slides (F : Nat) (M : Mem) (LM : MemL) : Option (Int32 × Mem) :=
  (f_X10_laysSlides F M LM).bind (fun z1 => (some ((z1 0 24), z1)))
set_option maxRecDepth 100000 in
set_option maxHeartbeats 4000000 in
theorem i_X10_slides {p : Program} {l : Launch} {e : Env} {s : State} {m : MethodId} {args : Array Value} {below : List Frame} {meth : Method} {c : Code} {D : va_G} {ct : im_ct} {A : Nat → Prop} (X : im_X p (im_rm 8) s m args meth c D ct A RX10 cX10_slides 1 (some .int)) (F : Nat) (aM : Nat → Nat) (M : Mem) (LM : MemL) : Im p l e (im_rm 8) s m args below meth c D A 1 (QI D A (fun z : Int32 × Mem => z.1) (fun z : Int32 × Mem => (cat [w_Model ct aM z.2 LM]))) 0 [(0, .ref (aM 0))] [] (cat [w_Model ct aM M LM]) (f_X10_slides F M LM) := by
  unfold f_X10_slides
  refine im_aload_n X 0 dX10_slides_0 rfl rfl ?_
  refine im_ccvV X [] [] [w_Model ct aM M LM] [w_Model ct aM M LM] [0] (fun z1 => [w_Model ct aM z1 LM]) 0 0 10 rfl rfl rfl cl_X10_270 (c_X10_laysSlides l D ct F aM M LM) rfl (by decide) (fun _ => lc fa_Model (rfl)) rfl ⟨by decide, by decide⟩ (Nat.le_of_ble_eq_true rfl) rfl dX10_slides_1 (fun z1 => ?_)
  refine im_ws (cat [w_Model ct aM z1 LM]) rfl ?_
  refine im_aload_n X 0 dX10_slides_4 rfl rfl ?_
  refine im_cget X 0 0 (v := .int (z1 0 24)) fl_X10_263 rfl rfl rfl dX10_slides_5 ?_
  exact im_ireturn X ((z1 0 24), z1) rfl rfl dX10_slides_8
theorem c_X10_slides (l : Launch) (D : va_G) (ct : im_ct) (F : Nat) (aM : Nat → Nat) (M : Mem) (LM : MemL) : CMi l D ct yX10_slides cX10_slides 1 (some .int) 8 [.ref (aM 0)] (cat [w_Model ct aM M LM]) (f_X10_slides F M LM) (fun z : Int32 × Mem => z.1) (fun z : Int32 × Mem => (cat [w_Model ct aM z.2 LM])) :=
  im_met (Qb := fun A => QI D A (fun z : Int32 × Mem => z.1) (fun z : Int32 × Mem => (cat [w_Model ct aM z.2 LM]))) (by decide +kernel) (Nat.le_of_ble_eq_true rfl) (fun p e s m args below meth c A X => i_X10_slides X F aM M LM)

noncomputable def f_X10_slideAt (F : Nat) (M : Mem) (LM : MemL) (x1 : Int32) (x2 : Int32) : Option (Int32 × Mem) :=
  (f_X10_laysSlides F M LM).bind (fun z1 => (f_X10_in F (x1).toInt64 0 (((z1 0 24) - 1)).toInt64).bind (fun z14 => (if z14 = 0 then (some ((-2), z1)) else (f_X10_in F (x2).toInt64 0 4).bind (fun z26 => (if z26 = 0 then (some ((-2), z1)) else (if x2 = 0 then ck x1 1300 ((some (((z1 15) x1.toNatClampNeg), z1))) else if x2 = 1 then ck x1 1300 ((some (((z1 16) x1.toNatClampNeg), z1))) else if x2 = 2 then ck x1 1300 ((some (((z1 17) x1.toNatClampNeg), z1))) else if x2 = 3 then ck x1 1300 ((if ((z1 18) x1.toNatClampNeg) = 0 then (some (0, z1)) else (some (1, z1)))) else ck x1 1300 (ck x1 1300 ((f_X10_changeOf F z1 LM ((z1 17) x1.toNatClampNeg) ((z1 18) x1.toNatClampNeg)).bind (fun z117 => (some (z117, z1)))))))))))
set_option maxRecDepth 100000 in
set_option maxHeartbeats 4000000 in
theorem i_X10_slideAt {p : Program} {l : Launch} {e : Env} {s : State} {m : MethodId} {args : Array Value} {below : List Frame} {meth : Method} {c : Code} {D : va_G} {ct : im_ct} {A : Nat → Prop} (X : im_X p (im_rm 8) s m args meth c D ct A RX10 cX10_slideAt 3 (some .int)) (F : Nat) (aM : Nat → Nat) (M : Mem) (LM : MemL) (x1 : Int32) (x2 : Int32) : Im p l e (im_rm 8) s m args below meth c D A 3 (QI D A (fun z : Int32 × Mem => z.1) (fun z : Int32 × Mem => (cat [w_Model ct aM z.2 LM]))) 0 [(0, .ref (aM 0)), (1, .int x1), (2, .int x2)] [] (cat [w_Model ct aM M LM]) (f_X10_slideAt F M LM x1 x2) := by
  unfold f_X10_slideAt
  refine im_aload_n X 0 dX10_slideAt_0 rfl rfl ?_
  refine im_ccvV X [] [] [w_Model ct aM M LM] [w_Model ct aM M LM] [0] (fun z1 => [w_Model ct aM z1 LM]) 0 0 10 rfl rfl rfl cl_X10_270 (c_X10_laysSlides l D ct F aM M LM) rfl (by decide) (fun _ => lc fa_Model (rfl)) rfl ⟨by decide, by decide⟩ (Nat.le_of_ble_eq_true rfl) rfl dX10_slideAt_1 (fun z1 => ?_)
  refine im_ws (cat [w_Model ct aM z1 LM]) rfl ?_
  refine im_iload_n X 1 dX10_slideAt_4 rfl rfl ?_
  refine im_i2l X dX10_slideAt_5 ?_
  refine im_lconst X 0 dX10_slideAt_6 (by decide) ?_
  refine im_aload_n X 0 dX10_slideAt_7 rfl rfl ?_
  refine im_cget X 0 0 (v := .int (z1 0 24)) fl_X10_263 rfl rfl rfl dX10_slideAt_8 ?_
  refine im_iconst X 1 dX10_slideAt_11 (by decide) ?_
  refine im_isub X dX10_slideAt_12 ?_
  refine im_i2l X dX10_slideAt_13 ?_
  refine im_cciS X [.long (x1).toInt64, .long 0, .long (((z1 0 24) - 1)).toInt64] [] [w_Model ct aM z1 LM] [] [] (fun z14 => []) cl_X10_86 (c_X10_in l D ct F (x1).toInt64 0 (((z1 0 24) - 1)).toInt64) rfl (by decide) (fun _ => rfl) rfl ⟨by decide, by decide⟩ (Nat.le_of_ble_eq_true rfl) rfl dX10_slideAt_14 (fun z14 => ?_)
  refine im_ws (cat [w_Model ct aM z1 LM]) rfl ?_
  refine im_if_eq (tgt := 32) X dX10_slideAt_17 rfl ?_ ?_
  · refine im_bipush X (-2) dX10_slideAt_32 (by decide) ?_
    exact im_ireturn X ((-2), z1) rfl rfl dX10_slideAt_34
  · refine im_iload_n X 2 dX10_slideAt_20 rfl rfl ?_
    refine im_i2l X dX10_slideAt_21 ?_
    refine im_lconst X 0 dX10_slideAt_22 (by decide) ?_
    refine im_ldc2 X kc_X10_130 dX10_slideAt_23 ?_
    refine im_cciS X [.long (x2).toInt64, .long 0, .long 4] [] [w_Model ct aM z1 LM] [] [] (fun z26 => []) cl_X10_86 (c_X10_in l D ct F (x2).toInt64 0 4) rfl (by decide) (fun _ => rfl) rfl ⟨by decide, by decide⟩ (Nat.le_of_ble_eq_true rfl) rfl dX10_slideAt_26 (fun z26 => ?_)
    refine im_ws (cat [w_Model ct aM z1 LM]) rfl ?_
    refine im_if_ne (tgt := 35) X dX10_slideAt_29 rfl ?_ ?_
    · refine im_iload_n X 2 dX10_slideAt_35 rfl rfl ?_
      refine im_ite (fun q0 => ?_) (fun q0 => ?_)
      · refine im_tabIn (tgt := 68) X dX10_slideAt_36 (by rw [q0]; decide) (by rw [q0]; decide) (by rw [q0]; rfl) rfl ?_
        refine im_aload_n X 0 dX10_slideAt_68 rfl rfl ?_
        refine im_cget X 0 0 (v := .ref (aM 15)) fl_X10_57 rfl rfl rfl dX10_slideAt_69 ?_
        refine im_iload_n X 1 dX10_slideAt_72 rfl rfl ?_
        refine im_ciald X 0 15 0 (f := (z1 15)) rfl rfl rfl dX10_slideAt_73 ?_
        exact im_ireturn X (((z1 15) x1.toNatClampNeg), z1) rfl rfl dX10_slideAt_74
      · refine im_ite (fun q1 => ?_) (fun q1 => ?_)
        · refine im_tabIn (tgt := 75) X dX10_slideAt_36 (by rw [q1]; decide) (by rw [q1]; decide) (by rw [q1]; rfl) rfl ?_
          refine im_aload_n X 0 dX10_slideAt_75 rfl rfl ?_
          refine im_cget X 0 0 (v := .ref (aM 16)) fl_X10_60 rfl rfl rfl dX10_slideAt_76 ?_
          refine im_iload_n X 1 dX10_slideAt_79 rfl rfl ?_
          refine im_ciald X 0 16 0 (f := (z1 16)) rfl rfl rfl dX10_slideAt_80 ?_
          exact im_ireturn X (((z1 16) x1.toNatClampNeg), z1) rfl rfl dX10_slideAt_81
        · refine im_ite (fun q2 => ?_) (fun q2 => ?_)
          · refine im_tabIn (tgt := 82) X dX10_slideAt_36 (by rw [q2]; decide) (by rw [q2]; decide) (by rw [q2]; rfl) rfl ?_
            refine im_aload_n X 0 dX10_slideAt_82 rfl rfl ?_
            refine im_cget X 0 0 (v := .ref (aM 17)) fl_X10_63 rfl rfl rfl dX10_slideAt_83 ?_
            refine im_iload_n X 1 dX10_slideAt_86 rfl rfl ?_
            refine im_ciald X 0 17 0 (f := (z1 17)) rfl rfl rfl dX10_slideAt_87 ?_
            exact im_ireturn X (((z1 17) x1.toNatClampNeg), z1) rfl rfl dX10_slideAt_88
          · refine im_ite (fun q3 => ?_) (fun q3 => ?_)
            · refine im_tabIn (tgt := 89) X dX10_slideAt_36 (by rw [q3]; decide) (by rw [q3]; decide) (by rw [q3]; rfl) rfl ?_
              refine im_aload_n X 0 dX10_slideAt_89 rfl rfl ?_
              refine im_cget X 0 0 (v := .ref (aM 18)) fl_X10_66 rfl rfl rfl dX10_slideAt_90 ?_
              refine im_iload_n X 1 dX10_slideAt_93 rfl rfl ?_
              refine im_czald X 0 18 3 (f := (z1 18)) rfl rfl rfl dX10_slideAt_94 ?_
              refine im_if_eq (tgt := 102) X dX10_slideAt_95 rfl ?_ ?_
              · refine im_iconst X 0 dX10_slideAt_102 (by decide) ?_
                exact im_ireturn X (0, z1) rfl rfl dX10_slideAt_103
              · refine im_iconst X 1 dX10_slideAt_98 (by decide) ?_
                refine im_goto (tgt := 103) X dX10_slideAt_99 rfl ?_
                exact im_ireturn X (1, z1) rfl rfl dX10_slideAt_103
            · refine im_tabOut (tgt := 104) X dX10_slideAt_36 (by have h0 := i32_ne q0 (by decide : (0 : Int32).toInt = 0); have h1 := i32_ne q1 (by decide : (1 : Int32).toInt = 1); have h2 := i32_ne q2 (by decide : (2 : Int32).toInt = 2); have h3 := i32_ne q3 (by decide : (3 : Int32).toInt = 3); omega) rfl ?_
              refine im_aload_n X 0 dX10_slideAt_104 rfl rfl ?_
              refine im_aload_n X 0 dX10_slideAt_105 rfl rfl ?_
              refine im_cget X 0 0 (v := .ref (aM 17)) fl_X10_63 rfl rfl rfl dX10_slideAt_106 ?_
              refine im_iload_n X 1 dX10_slideAt_109 rfl rfl ?_
              refine im_ciald X 0 17 0 (f := (z1 17)) rfl rfl rfl dX10_slideAt_110 ?_
              refine im_aload_n X 0 dX10_slideAt_111 rfl rfl ?_
              refine im_cget X 0 0 (v := .ref (aM 18)) fl_X10_66 rfl rfl rfl dX10_slideAt_112 ?_
              refine im_iload_n X 1 dX10_slideAt_115 rfl rfl ?_
              refine im_czald X 0 18 3 (f := (z1 18)) rfl rfl rfl dX10_slideAt_116 ?_
              refine im_cciV X [.int ((z1 17) x1.toNatClampNeg), .int ((z1 18) x1.toNatClampNeg)] [] [w_Model ct aM z1 LM] [w_Model ct aM z1 LM] [0] (fun z117 => [w_Model ct aM z1 LM]) 0 0 10 rfl rfl rfl cl_X10_186 (c_X10_changeOf l D ct F aM z1 LM ((z1 17) x1.toNatClampNeg) ((z1 18) x1.toNatClampNeg)) rfl (by decide) (fun _ => lc rfl (rfl)) rfl ⟨by decide, by decide⟩ (Nat.le_of_ble_eq_true rfl) rfl dX10_slideAt_117 (fun z117 => ?_)
              refine im_ws (cat [w_Model ct aM z1 LM]) rfl ?_
              exact im_ireturn X (z117, z1) rfl rfl dX10_slideAt_120
    · refine im_bipush X (-2) dX10_slideAt_32 (by decide) ?_
      exact im_ireturn X ((-2), z1) rfl rfl dX10_slideAt_34
theorem c_X10_slideAt (l : Launch) (D : va_G) (ct : im_ct) (F : Nat) (aM : Nat → Nat) (M : Mem) (LM : MemL) (x1 : Int32) (x2 : Int32) : CMi l D ct yX10_slideAt cX10_slideAt 3 (some .int) 8 [.ref (aM 0), .int x1, .int x2] (cat [w_Model ct aM M LM]) (f_X10_slideAt F M LM x1 x2) (fun z : Int32 × Mem => z.1) (fun z : Int32 × Mem => (cat [w_Model ct aM z.2 LM])) :=
  im_met (Qb := fun A => QI D A (fun z : Int32 × Mem => z.1) (fun z : Int32 × Mem => (cat [w_Model ct aM z.2 LM]))) (by decide +kernel) (Nat.le_of_ble_eq_true rfl) (fun p e s m args below meth c A X => i_X10_slideAt X F aM M LM x1 x2)

noncomputable def f_X10_times_8 (F : Nat) (M : Mem) (LM : MemL) (k33 : Int32 → Option (Int32 × Mem)) : Nat → Int32 → Int32 → Option (Int32 × Mem)
  | 0, _, _ => none
  | n + 1, x1, x2 =>
  (if (M 0 24) ≤ x2 then k33 x1 else ck x2 1300 (f_X10_times_8 F M LM k33 n (x1 ||| (1 <<< (((M 15) x2.toNatClampNeg) &&& 31))) (x2 + 1)))
set_option maxRecDepth 100000 in
set_option maxHeartbeats 4000000 in
theorem i_X10_times_8 {p : Program} {l : Launch} {e : Env} {s : State} {m : MethodId} {args : Array Value} {below : List Frame} {meth : Method} {c : Code} {D : va_G} {ct : im_ct} {A : Nat → Prop} (X : im_X p (im_rm 8) s m args meth c D ct A RX10 cX10_times 3 (some .int)) (F : Nat) (aM : Nat → Nat) (M : Mem) (LM : MemL) (k33 : Int32 → Option (Int32 × Mem)) (hk33 : ∀ (x1 : Int32), Im p l e (im_rm 8) s m args below meth c D A 3 (QI D A (fun z : Int32 × Mem => z.1) (fun z : Int32 × Mem => (cat [w_Model ct aM z.2 LM]))) 33 [(1, .int x1)] [] (cat [w_Model ct aM M LM]) (k33 x1)) : ∀ (n : Nat) (x1 : Int32) (x2 : Int32), Im p l e (im_rm 8) s m args below meth c D A 3 (QI D A (fun z : Int32 × Mem => z.1) (fun z : Int32 × Mem => (cat [w_Model ct aM z.2 LM]))) 8 [(0, .ref (aM 0)), (1, .int x1), (2, .int x2)] [] (cat [w_Model ct aM M LM]) (f_X10_times_8 F M LM k33 n x1 x2) := by
  intro n
  induction n with
  | zero => intros; exact im_none
  | succ n ih =>
    intro x1 x2
    unfold f_X10_times_8
    refine im_iload_n X 2 dX10_times_8 rfl rfl ?_
    refine im_aload_n X 0 dX10_times_9 rfl rfl ?_
    refine im_cget X 0 0 (v := .int (M 0 24)) fl_X10_263 rfl rfl rfl dX10_times_10 ?_
    refine im_icmp_ge (tgt := 33) X dX10_times_13 rfl ?_ ?_
    · refine im_lv [1] [(1, .int x1)] rfl ?_
      exact hk33 x1
    · refine im_iload_n X 1 dX10_times_16 rfl rfl ?_
      refine im_iconst X 1 dX10_times_17 (by decide) ?_
      refine im_aload_n X 0 dX10_times_18 rfl rfl ?_
      refine im_cget X 0 0 (v := .ref (aM 15)) fl_X10_57 rfl rfl rfl dX10_times_19 ?_
      refine im_iload_n X 2 dX10_times_22 rfl rfl ?_
      refine im_ciald X 0 15 0 (f := (M 15)) rfl rfl rfl dX10_times_23 ?_
      refine im_ishl X dX10_times_24 ?_
      refine im_ior X dX10_times_25 ?_
      refine im_istore_n X [1, 0, 2] [(0, .ref (aM 0)), (1, .int (x1 ||| (1 <<< (((M 15) x2.toNatClampNeg) &&& 31)))), (2, .int x2)] dX10_times_26 rfl (by decide) rfl ?_
      refine im_iinc X 2 1 [1, 2, 0] [(0, .ref (aM 0)), (1, .int (x1 ||| (1 <<< (((M 15) x2.toNatClampNeg) &&& 31)))), (2, .int (x2 + 1))] dX10_times_27 (by decide) rfl (by decide) rfl ?_
      refine im_goto (tgt := 8) X dX10_times_30 rfl ?_
      exact ih (x1 ||| (1 <<< (((M 15) x2.toNatClampNeg) &&& 31))) (x2 + 1)
noncomputable def f_X10_times (F : Nat) (M : Mem) (LM : MemL) : Option (Int32 × Mem) :=
  (f_X10_laysSlides F M LM).bind (fun z1 => f_X10_times_8 F z1 LM (fun x1_33 => (some (x1_33, z1))) F 0 0)
set_option maxRecDepth 100000 in
set_option maxHeartbeats 4000000 in
theorem i_X10_times {p : Program} {l : Launch} {e : Env} {s : State} {m : MethodId} {args : Array Value} {below : List Frame} {meth : Method} {c : Code} {D : va_G} {ct : im_ct} {A : Nat → Prop} (X : im_X p (im_rm 8) s m args meth c D ct A RX10 cX10_times 3 (some .int)) (F : Nat) (aM : Nat → Nat) (M : Mem) (LM : MemL) : Im p l e (im_rm 8) s m args below meth c D A 3 (QI D A (fun z : Int32 × Mem => z.1) (fun z : Int32 × Mem => (cat [w_Model ct aM z.2 LM]))) 0 [(0, .ref (aM 0))] [] (cat [w_Model ct aM M LM]) (f_X10_times F M LM) := by
  unfold f_X10_times
  refine im_aload_n X 0 dX10_times_0 rfl rfl ?_
  refine im_ccvV X [] [] [w_Model ct aM M LM] [w_Model ct aM M LM] [0] (fun z1 => [w_Model ct aM z1 LM]) 0 0 10 rfl rfl rfl cl_X10_270 (c_X10_laysSlides l D ct F aM M LM) rfl (by decide) (fun _ => lc fa_Model (rfl)) rfl ⟨by decide, by decide⟩ (Nat.le_of_ble_eq_true rfl) rfl dX10_times_1 (fun z1 => ?_)
  refine im_ws (cat [w_Model ct aM z1 LM]) rfl ?_
  refine im_iconst X 0 dX10_times_4 (by decide) ?_
  refine im_istore_n X [1, 0] [(0, .ref (aM 0)), (1, .int 0)] dX10_times_5 rfl (by decide) rfl ?_
  refine im_iconst X 0 dX10_times_6 (by decide) ?_
  refine im_istore_n X [1, 2, 0] [(0, .ref (aM 0)), (1, .int 0), (2, .int 0)] dX10_times_7 rfl (by decide) rfl ?_
  refine i_X10_times_8 X F aM z1 LM  _ (fun x1_33 => ?_) F 0 0
  refine im_iload_n X 0 dX10_times_33 rfl rfl ?_
  exact im_ireturn X (x1_33, z1) rfl rfl dX10_times_34
theorem c_X10_times (l : Launch) (D : va_G) (ct : im_ct) (F : Nat) (aM : Nat → Nat) (M : Mem) (LM : MemL) : CMi l D ct yX10_times cX10_times 3 (some .int) 8 [.ref (aM 0)] (cat [w_Model ct aM M LM]) (f_X10_times F M LM) (fun z : Int32 × Mem => z.1) (fun z : Int32 × Mem => (cat [w_Model ct aM z.2 LM])) :=
  im_met (Qb := fun A => QI D A (fun z : Int32 × Mem => z.1) (fun z : Int32 × Mem => (cat [w_Model ct aM z.2 LM]))) (by decide +kernel) (Nat.le_of_ble_eq_true rfl) (fun p e s m args below meth c A X => i_X10_times X F aM M LM)

noncomputable def f_X10_moreBy_50 (F : Nat) (M : Mem) (LM : MemL) (x1 : Int32) (x4 : Int32) (s0 : Int32) : Option (Int32) :=
  ck x1 1300 ((if ((M 17) x1.toNatClampNeg) = x4 then (some (-1)) else (if s0 = x4 then (some 1) else (some 0))))
set_option maxRecDepth 100000 in
set_option maxHeartbeats 4000000 in
theorem i_X10_moreBy_50 {p : Program} {l : Launch} {e : Env} {s : State} {m : MethodId} {args : Array Value} {below : List Frame} {meth : Method} {c : Code} {D : va_G} {ct : im_ct} {A : Nat → Prop} (X : im_X p (im_rm 0) s m args meth c D ct A RX10 cX10_moreBy 6 (some .int)) (F : Nat) (aM : Nat → Nat) (M : Mem) (LM : MemL) (x1 : Int32) (x4 : Int32) (s0 : Int32) : Im p l e (im_rm 0) s m args below meth c D A 6 (QI D A (fun z : Int32 => z) (fun z : Int32 => (cat [w_Model ct aM M LM]))) 50 [(0, .ref (aM 0)), (1, .int x1), (4, .int x4)] [.int s0] (cat [w_Model ct aM M LM]) (f_X10_moreBy_50 F M LM x1 x4 s0) := by
  unfold f_X10_moreBy_50
  refine im_istore X [1, 2, 3, 0] [(0, .ref (aM 0)), (1, .int x1), (4, .int x4), (5, .int s0)] dX10_moreBy_50 (by decide) rfl ?_
  refine im_aload_n X 0 dX10_moreBy_52 rfl rfl ?_
  refine im_cget X 0 0 (v := .ref (aM 17)) fl_X10_63 rfl rfl rfl dX10_moreBy_53 ?_
  refine im_iload_n X 1 dX10_moreBy_56 rfl rfl ?_
  refine im_ciald X 0 17 0 (f := (M 17)) rfl rfl rfl dX10_moreBy_57 ?_
  refine im_iload X 2 dX10_moreBy_58 rfl ?_
  refine im_icmp_ne (tgt := 67) X dX10_moreBy_60 rfl ?_ ?_
  · refine im_iload X 3 dX10_moreBy_67 rfl ?_
    refine im_iload X 2 dX10_moreBy_69 rfl ?_
    refine im_icmp_ne (tgt := 78) X dX10_moreBy_71 rfl ?_ ?_
    · refine im_iconst X 0 dX10_moreBy_78 (by decide) ?_
      exact im_ireturn X 0 rfl rfl dX10_moreBy_79
    · refine im_iconst X 1 dX10_moreBy_74 (by decide) ?_
      refine im_goto (tgt := 79) X dX10_moreBy_75 rfl ?_
      exact im_ireturn X 1 rfl rfl dX10_moreBy_79
  · refine im_iconst X (-1) dX10_moreBy_63 (by decide) ?_
    refine im_goto (tgt := 79) X dX10_moreBy_64 rfl ?_
    exact im_ireturn X (-1) rfl rfl dX10_moreBy_79
noncomputable def f_X10_moreBy (F : Nat) (M : Mem) (LM : MemL) (x1 : Int32) (x2 : Int32) (x3 : Int32) (x4 : Int32) : Option (Int32) :=
  ck x1 1300 ((if x2 < ((M 15) x1.toNatClampNeg) then (some 0) else ck x1 1300 ((if ((M 16) x1.toNatClampNeg) = x3 then ck x1 1300 ((if ((M 18) x1.toNatClampNeg) = 0 then ck x1 1300 (f_X10_moreBy_50 F M LM x1 x4 (((M 17) x1.toNatClampNeg) - 1)) else ck x1 1300 (f_X10_moreBy_50 F M LM x1 x4 (((M 17) x1.toNatClampNeg) + 1)))) else (some 0)))))
set_option maxRecDepth 100000 in
set_option maxHeartbeats 4000000 in
theorem i_X10_moreBy {p : Program} {l : Launch} {e : Env} {s : State} {m : MethodId} {args : Array Value} {below : List Frame} {meth : Method} {c : Code} {D : va_G} {ct : im_ct} {A : Nat → Prop} (X : im_X p (im_rm 0) s m args meth c D ct A RX10 cX10_moreBy 6 (some .int)) (F : Nat) (aM : Nat → Nat) (M : Mem) (LM : MemL) (x1 : Int32) (x2 : Int32) (x3 : Int32) (x4 : Int32) : Im p l e (im_rm 0) s m args below meth c D A 6 (QI D A (fun z : Int32 => z) (fun z : Int32 => (cat [w_Model ct aM M LM]))) 0 [(0, .ref (aM 0)), (1, .int x1), (2, .int x2), (3, .int x3), (4, .int x4)] [] (cat [w_Model ct aM M LM]) (f_X10_moreBy F M LM x1 x2 x3 x4) := by
  unfold f_X10_moreBy
  refine im_aload_n X 0 dX10_moreBy_0 rfl rfl ?_
  refine im_cget X 0 0 (v := .ref (aM 15)) fl_X10_57 rfl rfl rfl dX10_moreBy_1 ?_
  refine im_iload_n X 1 dX10_moreBy_4 rfl rfl ?_
  refine im_ciald X 0 15 0 (f := (M 15)) rfl rfl rfl dX10_moreBy_5 ?_
  refine im_iload_n X 2 dX10_moreBy_6 rfl rfl ?_
  refine im_icmp_gt (tgt := 20) X dX10_moreBy_7 rfl ?_ ?_
  · refine im_iconst X 0 dX10_moreBy_20 (by decide) ?_
    exact im_ireturn X 0 rfl rfl dX10_moreBy_21
  · refine im_aload_n X 0 dX10_moreBy_10 rfl rfl ?_
    refine im_cget X 0 0 (v := .ref (aM 16)) fl_X10_60 rfl rfl rfl dX10_moreBy_11 ?_
    refine im_iload_n X 1 dX10_moreBy_14 rfl rfl ?_
    refine im_ciald X 0 16 0 (f := (M 16)) rfl rfl rfl dX10_moreBy_15 ?_
    refine im_iload_n X 3 dX10_moreBy_16 rfl rfl ?_
    refine im_icmp_eq (tgt := 22) X dX10_moreBy_17 rfl ?_ ?_
    · refine im_aload_n X 0 dX10_moreBy_22 rfl rfl ?_
      refine im_cget X 0 0 (v := .ref (aM 18)) fl_X10_66 rfl rfl rfl dX10_moreBy_23 ?_
      refine im_iload_n X 1 dX10_moreBy_26 rfl rfl ?_
      refine im_czald X 0 18 3 (f := (M 18)) rfl rfl rfl dX10_moreBy_27 ?_
      refine im_if_eq (tgt := 42) X dX10_moreBy_28 rfl ?_ ?_
      · refine im_aload_n X 0 dX10_moreBy_42 rfl rfl ?_
        refine im_cget X 0 0 (v := .ref (aM 17)) fl_X10_63 rfl rfl rfl dX10_moreBy_43 ?_
        refine im_iload_n X 1 dX10_moreBy_46 rfl rfl ?_
        refine im_ciald X 0 17 0 (f := (M 17)) rfl rfl rfl dX10_moreBy_47 ?_
        refine im_iconst X 1 dX10_moreBy_48 (by decide) ?_
        refine im_isub X dX10_moreBy_49 ?_
        refine im_lv [0, 1, 4] [(0, .ref (aM 0)), (1, .int x1), (4, .int x4)] rfl ?_
        exact i_X10_moreBy_50 X F aM M LM x1 x4 (((M 17) x1.toNatClampNeg) - 1) 
      · refine im_aload_n X 0 dX10_moreBy_31 rfl rfl ?_
        refine im_cget X 0 0 (v := .ref (aM 17)) fl_X10_63 rfl rfl rfl dX10_moreBy_32 ?_
        refine im_iload_n X 1 dX10_moreBy_35 rfl rfl ?_
        refine im_ciald X 0 17 0 (f := (M 17)) rfl rfl rfl dX10_moreBy_36 ?_
        refine im_iconst X 1 dX10_moreBy_37 (by decide) ?_
        refine im_iadd X dX10_moreBy_38 ?_
        refine im_goto (tgt := 50) X dX10_moreBy_39 rfl ?_
        refine im_lv [0, 1, 4] [(0, .ref (aM 0)), (1, .int x1), (4, .int x4)] rfl ?_
        exact i_X10_moreBy_50 X F aM M LM x1 x4 (((M 17) x1.toNatClampNeg) + 1) 
    · refine im_iconst X 0 dX10_moreBy_20 (by decide) ?_
      exact im_ireturn X 0 rfl rfl dX10_moreBy_21
theorem c_X10_moreBy (l : Launch) (D : va_G) (ct : im_ct) (F : Nat) (aM : Nat → Nat) (M : Mem) (LM : MemL) (x1 : Int32) (x2 : Int32) (x3 : Int32) (x4 : Int32) : CMi l D ct yX10_moreBy cX10_moreBy 6 (some .int) 0 [.ref (aM 0), .int x1, .int x2, .int x3, .int x4] (cat [w_Model ct aM M LM]) (f_X10_moreBy F M LM x1 x2 x3 x4) (fun z : Int32 => z) (fun z : Int32 => (cat [w_Model ct aM M LM])) :=
  im_met (Qb := fun A => QI D A (fun z : Int32 => z) (fun z : Int32 => (cat [w_Model ct aM M LM]))) (by decide +kernel) (Nat.le_of_ble_eq_true rfl) (fun p e s m args below meth c A X => i_X10_moreBy X F aM M LM x1 x2 x3 x4)

