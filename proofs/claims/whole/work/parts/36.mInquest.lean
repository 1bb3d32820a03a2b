noncomputable def f_X2_isStrained (F : Nat) (N : Mem) (x1 : Int32) : Option (Int32) :=
  ck x1 600 ((if ((N 2) x1.toNatClampNeg) < 0 then (some 1) else ck x1 600 ((if ((N 3) x1.toNatClampNeg) ≤ 99 then (some 0) else (some 1)))))
set_option maxRecDepth 100000 in
set_option maxHeartbeats 4000000 in
theorem i_X2_isStrained {p : Program} {l : Launch} {e : Env} {s : State} {m : MethodId} {args : Array Value} {below : List Frame} {meth : Method} {c : Code} {D : va_G} {ct : im_ct} {A : Nat → Prop} (X : im_X p (im_rm 0) s m args meth c D ct A RX2 cX2_isStrained 2 (some .boolean)) (F : Nat) (aN aNE : Nat → Nat) (N : Mem) (x1 : Int32) : Im p l e (im_rm 0) s m args below meth c D A 2 (QI D A (fun z : Int32 => z) (fun z : Int32 => (cat [w_Inquest ct aN aNE N]))) 0 [(0, .ref (aN 0)), (1, .int x1)] [] (cat [w_Inquest ct aN aNE N]) (f_X2_isStrained F N x1) := by
  unfold f_X2_isStrained
  refine im_aload_n X 0 dX2_isStrained_0 rfl rfl ?_
  refine im_cget X 0 0 (v := .ref (aN 2)) fl_X2_15 rfl rfl rfl dX2_isStrained_1 ?_
  refine im_iload_n X 1 dX2_isStrained_4 rfl rfl ?_
  refine im_ciald X 0 2 0 (f := (N 2)) rfl rfl rfl dX2_isStrained_5 ?_
  refine im_if_lt (tgt := 20) X dX2_isStrained_6 rfl ?_ ?_
  · refine im_iconst X 1 dX2_isStrained_20 (by decide) ?_
    refine im_goto (tgt := 25) X dX2_isStrained_21 rfl ?_
    exact im_zreturn X 1 rfl rfl rfl dX2_isStrained_25
  · refine im_aload_n X 0 dX2_isStrained_9 rfl rfl ?_
    refine im_cget X 0 0 (v := .ref (aN 3)) fl_X2_18 rfl rfl rfl dX2_isStrained_10 ?_
    refine im_iload_n X 1 dX2_isStrained_13 rfl rfl ?_
    refine im_ciald X 0 3 0 (f := (N 3)) rfl rfl rfl dX2_isStrained_14 ?_
    refine im_bipush X 99 dX2_isStrained_15 (by decide) ?_
    refine im_icmp_le (tgt := 24) X dX2_isStrained_17 rfl ?_ ?_
    · refine im_iconst X 0 dX2_isStrained_24 (by decide) ?_
      exact im_zreturn X 0 rfl rfl rfl dX2_isStrained_25
    · refine im_iconst X 1 dX2_isStrained_20 (by decide) ?_
      refine im_goto (tgt := 25) X dX2_isStrained_21 rfl ?_
      exact im_zreturn X 1 rfl rfl rfl dX2_isStrained_25
theorem c_X2_isStrained (l : Launch) (D : va_G) (ct : im_ct) (F : Nat) (aN aNE : Nat → Nat) (N : Mem) (x1 : Int32) : CMi l D ct yX2_isStrained cX2_isStrained 2 (some .boolean) 0 [.ref (aN 0), .int x1] (cat [w_Inquest ct aN aNE N]) (f_X2_isStrained F N x1) (fun z : Int32 => z) (fun z : Int32 => (cat [w_Inquest ct aN aNE N])) :=
  im_met (Qb := fun A => QI D A (fun z : Int32 => z) (fun z : Int32 => (cat [w_Inquest ct aN aNE N]))) (by decide +kernel) (Nat.le_of_ble_eq_true rfl) (fun p e s m args below meth c A X => i_X2_isStrained X F aN aNE N x1)

noncomputable def f_X2_layExtremes_138 (F : Nat) (N : Mem) (C : Mem) (x2 : Int32) (x3 : Int32) (x4 : Int32) (x5 : Int32) (s1 : Int32) (s2 : Int32) (k50 : Mem → Int32 → Option (Mem)) : Option (Mem) :=
  ck s1 600 (ck x2 25 ((f_X2_isStrained F (mr N 3 (upd (N 3) s1.toNatClampNeg s2)) x5).bind (fun z149 => (if z149 = 0 then ck x2 25 (k50 (mr (mr N 3 (upd (N 3) s1.toNatClampNeg s2)) 4 (upd (N 4) x2.toNatClampNeg (((N 4) x2.toNatClampNeg) + 0))) (x5 + 1)) else ck x2 25 (k50 (mr (mr N 3 (upd (N 3) s1.toNatClampNeg s2)) 4 (upd (N 4) x2.toNatClampNeg (((N 4) x2.toNatClampNeg) + 1))) (x5 + 1))))))
set_option maxRecDepth 100000 in
set_option maxHeartbeats 4000000 in
theorem i_X2_layExtremes_138 {p : Program} {l : Launch} {e : Env} {s : State} {m : MethodId} {args : Array Value} {below : List Frame} {meth : Method} {c : Code} {D : va_G} {ct : im_ct} {A : Nat → Prop} (X : im_X p (im_rm 1) s m args meth c D ct A RX2 cX2_layExtremes 6 none) (F : Nat) (aN aNE aC : Nat → Nat) (N : Mem) (C : Mem) (x2 : Int32) (x3 : Int32) (x4 : Int32) (x5 : Int32) (s1 : Int32) (s2 : Int32) (k50 : Mem → Int32 → Option (Mem)) (hk50 : ∀ (N : Mem) (x5 : Int32), Im p l e (im_rm 1) s m args below meth c D A 6 (QV D A (fun z : Mem => (cat [w_Inquest ct aN aNE z, w_Cloth ct aC C]))) 50 [(0, .ref (aN 0)), (1, .ref (aC 0)), (2, .int x2), (3, .int x3), (4, .int x4), (5, .int x5)] [] (cat [w_Inquest ct aN aNE N, w_Cloth ct aC C]) (k50 N x5)) : Im p l e (im_rm 1) s m args below meth c D A 6 (QV D A (fun z : Mem => (cat [w_Inquest ct aN aNE z, w_Cloth ct aC C]))) 138 [(0, .ref (aN 0)), (1, .ref (aC 0)), (2, .int x2), (3, .int x3), (4, .int x4), (5, .int x5)] [.int s2, .int s1, .ref (aN 3)] (cat [w_Inquest ct aN aNE N, w_Cloth ct aC C]) (f_X2_layExtremes_138 F N C x2 x3 x4 x5 s1 s2 k50) := by
  unfold f_X2_layExtremes_138
  refine im_ciast X 0 3 0 (wx_Inquest ct aN aNE (N 0 10) (N 0 11) (N 0 12) (N 0 13) (N 1) (N 2) (upd (N 3) s1.toNatClampNeg s2) (N 4) (N 5) (N 6) (N 7) (N 8) (N 9)) [wx_Inquest ct aN aNE (N 0 10) (N 0 11) (N 0 12) (N 0 13) (N 1) (N 2) (upd (N 3) s1.toNatClampNeg s2) (N 4) (N 5) (N 6) (N 7) (N 8) (N 9), w_Cloth ct aC C] (f := (N 3)) rfl rfl rfl rfl rfl dX2_layExtremes_138 ?_
  refine im_aload_n X 0 dX2_layExtremes_139 rfl rfl ?_
  refine im_cget X 0 0 (v := .ref (aN 4)) fl_X2_21 rfl rfl rfl dX2_layExtremes_140 ?_
  refine im_iload_n X 2 dX2_layExtremes_143 rfl rfl ?_
  refine im_dup2_11 X rfl rfl dX2_layExtremes_144 ?_
  refine im_ciald X 0 4 0 (f := (N 4)) rfl rfl rfl dX2_layExtremes_145 ?_
  refine im_aload_n X 0 dX2_layExtremes_146 rfl rfl ?_
  refine im_iload X 5 dX2_layExtremes_147 rfl ?_
  refine im_cciV X [.int x5] [.int ((N 4) x2.toNatClampNeg), .int x2, .ref (aN 4)] [wx_Inquest ct aN aNE (N 0 10) (N 0 11) (N 0 12) (N 0 13) (N 1) (N 2) (upd (N 3) s1.toNatClampNeg s2) (N 4) (N 5) (N 6) (N 7) (N 8) (N 9), w_Cloth ct aC C] [w_Inquest ct aN aNE (mr N 3 (upd (N 3) s1.toNatClampNeg s2))] [0] (fun z149 => [w_Inquest ct aN aNE (mr N 3 (upd (N 3) s1.toNatClampNeg s2))]) 0 0 2 rfl rfl rfl cl_X2_110 (c_X2_isStrained l D ct F aN aNE (mr N 3 (upd (N 3) s1.toNatClampNeg s2)) x5) rfl (by decide) (fun _ => lc rfl (rfl)) rfl ⟨by decide, by decide⟩ (Nat.le_of_ble_eq_true rfl) rfl dX2_layExtremes_149 (fun z149 => ?_)
  refine im_ws (cat [wx_Inquest ct aN aNE (N 0 10) (N 0 11) (N 0 12) (N 0 13) (N 1) (N 2) (upd (N 3) s1.toNatClampNeg s2) (N 4) (N 5) (N 6) (N 7) (N 8) (N 9), w_Cloth ct aC C]) rfl ?_
  refine im_if_eq (tgt := 159) X dX2_layExtremes_152 rfl ?_ ?_
  · refine im_iconst X 0 dX2_layExtremes_159 (by decide) ?_
    refine im_iadd X dX2_layExtremes_160 ?_
    refine im_ciast X 0 4 0 (wx_Inquest ct aN aNE (N 0 10) (N 0 11) (N 0 12) (N 0 13) (N 1) (N 2) (upd (N 3) s1.toNatClampNeg s2) (upd (N 4) x2.toNatClampNeg (((N 4) x2.toNatClampNeg) + 0)) (N 5) (N 6) (N 7) (N 8) (N 9)) [wx_Inquest ct aN aNE (N 0 10) (N 0 11) (N 0 12) (N 0 13) (N 1) (N 2) (upd (N 3) s1.toNatClampNeg s2) (upd (N 4) x2.toNatClampNeg (((N 4) x2.toNatClampNeg) + 0)) (N 5) (N 6) (N 7) (N 8) (N 9), w_Cloth ct aC C] (f := (N 4)) rfl rfl rfl rfl rfl dX2_layExtremes_161 ?_
    refine im_iinc X 5 1 [1, 2, 3, 4, 5, 0] [(0, .ref (aN 0)), (1, .ref (aC 0)), (2, .int x2), (3, .int x3), (4, .int x4), (5, .int (x5 + 1))] dX2_layExtremes_162 (by decide) rfl (by decide) rfl ?_
    refine im_goto (tgt := 50) X dX2_layExtremes_165 rfl ?_
    exact hk50 (mr (mr N 3 (upd (N 3) s1.toNatClampNeg s2)) 4 (upd (N 4) x2.toNatClampNeg (((N 4) x2.toNatClampNeg) + 0))) (x5 + 1)
  · refine im_iconst X 1 dX2_layExtremes_155 (by decide) ?_
    refine im_goto (tgt := 160) X dX2_layExtremes_156 rfl ?_
    refine im_iadd X dX2_layExtremes_160 ?_
    refine im_ciast X 0 4 0 (wx_Inquest ct aN aNE (N 0 10) (N 0 11) (N 0 12) (N 0 13) (N 1) (N 2) (upd (N 3) s1.toNatClampNeg s2) (upd (N 4) x2.toNatClampNeg (((N 4) x2.toNatClampNeg) + 1)) (N 5) (N 6) (N 7) (N 8) (N 9)) [wx_Inquest ct aN aNE (N 0 10) (N 0 11) (N 0 12) (N 0 13) (N 1) (N 2) (upd (N 3) s1.toNatClampNeg s2) (upd (N 4) x2.toNatClampNeg (((N 4) x2.toNatClampNeg) + 1)) (N 5) (N 6) (N 7) (N 8) (N 9), w_Cloth ct aC C] (f := (N 4)) rfl rfl rfl rfl rfl dX2_layExtremes_161 ?_
    refine im_iinc X 5 1 [1, 2, 3, 4, 5, 0] [(0, .ref (aN 0)), (1, .ref (aC 0)), (2, .int x2), (3, .int x3), (4, .int x4), (5, .int (x5 + 1))] dX2_layExtremes_162 (by decide) rfl (by decide) rfl ?_
    refine im_goto (tgt := 50) X dX2_layExtremes_165 rfl ?_
    exact hk50 (mr (mr N 3 (upd (N 3) s1.toNatClampNeg s2)) 4 (upd (N 4) x2.toNatClampNeg (((N 4) x2.toNatClampNeg) + 1))) (x5 + 1)
noncomputable def f_X2_layExtremes_97 (F : Nat) (N : Mem) (C : Mem) (x2 : Int32) (x3 : Int32) (x4 : Int32) (x5 : Int32) (s1 : Int32) (s2 : Int32) (k50 : Mem → Int32 → Option (Mem)) : Option (Mem) :=
  ck s1 600 ((if x3 = 0 then ck x5 600 (ck (x5 + 24) 600 (f_X2_layExtremes_138 F (mr N 2 (upd (N 2) s1.toNatClampNeg s2)) C x2 x3 x4 x5 x5 (if ((N 1) x5.toNatClampNeg) < ((N 3) ((x5 + 24)).toNatClampNeg) then ((N 3) ((x5 + 24)).toNatClampNeg) else ((N 1) x5.toNatClampNeg)) k50)) else ck x5 600 (f_X2_layExtremes_138 F (mr N 2 (upd (N 2) s1.toNatClampNeg s2)) C x2 x3 x4 x5 x5 ((N 1) x5.toNatClampNeg) k50)))
set_option maxRecDepth 100000 in
set_option maxHeartbeats 4000000 in
theorem i_X2_layExtremes_97 {p : Program} {l : Launch} {e : Env} {s : State} {m : MethodId} {args : Array Value} {below : List Frame} {meth : Method} {c : Code} {D : va_G} {ct : im_ct} {A : Nat → Prop} (X : im_X p (im_rm 1) s m args meth c D ct A RX2 cX2_layExtremes 6 none) (F : Nat) (aN aNE aC : Nat → Nat) (N : Mem) (C : Mem) (x2 : Int32) (x3 : Int32) (x4 : Int32) (x5 : Int32) (s1 : Int32) (s2 : Int32) (k50 : Mem → Int32 → Option (Mem)) (hk50 : ∀ (N : Mem) (x5 : Int32), Im p l e (im_rm 1) s m args below meth c D A 6 (QV D A (fun z : Mem => (cat [w_Inquest ct aN aNE z, w_Cloth ct aC C]))) 50 [(0, .ref (aN 0)), (1, .ref (aC 0)), (2, .int x2), (3, .int x3), (4, .int x4), (5, .int x5)] [] (cat [w_Inquest ct aN aNE N, w_Cloth ct aC C]) (k50 N x5)) : Im p l e (im_rm 1) s m args below meth c D A 6 (QV D A (fun z : Mem => (cat [w_Inquest ct aN aNE z, w_Cloth ct aC C]))) 97 [(0, .ref (aN 0)), (1, .ref (aC 0)), (2, .int x2), (3, .int x3), (4, .int x4), (5, .int x5)] [.int s2, .int s1, .ref (aN 2)] (cat [w_Inquest ct aN aNE N, w_Cloth ct aC C]) (f_X2_layExtremes_97 F N C x2 x3 x4 x5 s1 s2 k50) := by
  unfold f_X2_layExtremes_97
  refine im_ciast X 0 2 0 (wx_Inquest ct aN aNE (N 0 10) (N 0 11) (N 0 12) (N 0 13) (N 1) (upd (N 2) s1.toNatClampNeg s2) (N 3) (N 4) (N 5) (N 6) (N 7) (N 8) (N 9)) [wx_Inquest ct aN aNE (N 0 10) (N 0 11) (N 0 12) (N 0 13) (N 1) (upd (N 2) s1.toNatClampNeg s2) (N 3) (N 4) (N 5) (N 6) (N 7) (N 8) (N 9), w_Cloth ct aC C] (f := (N 2)) rfl rfl rfl rfl rfl dX2_layExtremes_97 ?_
  refine im_aload_n X 0 dX2_layExtremes_98 rfl rfl ?_
  refine im_cget X 0 0 (v := .ref (aN 3)) fl_X2_18 rfl rfl rfl dX2_layExtremes_99 ?_
  refine im_iload X 5 dX2_layExtremes_102 rfl ?_
  refine im_iload_n X 3 dX2_layExtremes_104 rfl rfl ?_
  refine im_if_eq (tgt := 118) X dX2_layExtremes_105 rfl ?_ ?_
  · refine im_aload_n X 0 dX2_layExtremes_118 rfl rfl ?_
    refine im_cget X 0 0 (v := .ref (aN 1)) fl_X2_11 rfl rfl rfl dX2_layExtremes_119 ?_
    refine im_iload X 5 dX2_layExtremes_122 rfl ?_
    refine im_ciald X 0 1 0 (f := (N 1)) rfl rfl rfl dX2_layExtremes_124 ?_
    refine im_aload_n X 0 dX2_layExtremes_125 rfl rfl ?_
    refine im_cget X 0 0 (v := .ref (aN 3)) fl_X2_18 rfl rfl rfl dX2_layExtremes_126 ?_
    refine im_iload X 5 dX2_layExtremes_129 rfl ?_
    refine im_bipush X 24 dX2_layExtremes_131 (by decide) ?_
    refine im_iadd X dX2_layExtremes_133 ?_
    refine im_ciald X 0 3 0 (f := (N 3)) rfl rfl rfl dX2_layExtremes_134 ?_
    refine im_mmax X mt1_X2_107 mt2_max mt3 mt4_max ⟨by decide, Nat.le_of_ble_eq_true rfl⟩ dX2_layExtremes_135 ?_
    exact i_X2_layExtremes_138 X F aN aNE aC (mr N 2 (upd (N 2) s1.toNatClampNeg s2)) C x2 x3 x4 x5 x5 (if ((N 1) x5.toNatClampNeg) < ((N 3) ((x5 + 24)).toNatClampNeg) then ((N 3) ((x5 + 24)).toNatClampNeg) else ((N 1) x5.toNatClampNeg)) _ hk50
  · refine im_aload_n X 0 dX2_layExtremes_108 rfl rfl ?_
    refine im_cget X 0 0 (v := .ref (aN 1)) fl_X2_11 rfl rfl rfl dX2_layExtremes_109 ?_
    refine im_iload X 5 dX2_layExtremes_112 rfl ?_
    refine im_ciald X 0 1 0 (f := (N 1)) rfl rfl rfl dX2_layExtremes_114 ?_
    refine im_goto (tgt := 138) X dX2_layExtremes_115 rfl ?_
    exact i_X2_layExtremes_138 X F aN aNE aC (mr N 2 (upd (N 2) s1.toNatClampNeg s2)) C x2 x3 x4 x5 x5 ((N 1) x5.toNatClampNeg) _ hk50
noncomputable def f_X2_layExtremes_50 (F : Nat) (C : Mem) (x2 : Int32) (x3 : Int32) (x4 : Int32) (k168 : Mem → Option (Mem)) : Nat → Mem → Int32 → Option (Mem)
  | 0, _, _ => none
  | n + 1, N, x5 =>
  (if x4 ≤ x5 then k168 N else (if x3 = 0 then ck x5 600 (ck (x5 + 24) 600 (f_X2_layExtremes_97 F N C x2 x3 x4 x5 x5 (if ((N 2) ((x5 + 24)).toNatClampNeg) < ((N 1) x5.toNatClampNeg) then ((N 2) ((x5 + 24)).toNatClampNeg) else ((N 1) x5.toNatClampNeg)) (f_X2_layExtremes_50 F C x2 x3 x4 k168 n))) else ck x5 600 (f_X2_layExtremes_97 F N C x2 x3 x4 x5 x5 ((N 1) x5.toNatClampNeg) (f_X2_layExtremes_50 F C x2 x3 x4 k168 n))))
set_option maxRecDepth 100000 in
set_option maxHeartbeats 4000000 in
theorem i_X2_layExtremes_50 {p : Program} {l : Launch} {e : Env} {s : State} {m : MethodId} {args : Array Value} {below : List Frame} {meth : Method} {c : Code} {D : va_G} {ct : im_ct} {A : Nat → Prop} (X : im_X p (im_rm 1) s m args meth c D ct A RX2 cX2_layExtremes 6 none) (F : Nat) (aN aNE aC : Nat → Nat) (C : Mem) (x2 : Int32) (x3 : Int32) (x4 : Int32) (k168 : Mem → Option (Mem)) (hk168 : ∀ (N : Mem), Im p l e (im_rm 1) s m args below meth c D A 6 (QV D A (fun z : Mem => (cat [w_Inquest ct aN aNE z, w_Cloth ct aC C]))) 168 [(0, .ref (aN 0)), (1, .ref (aC 0)), (2, .int x2)] [] (cat [w_Inquest ct aN aNE N, w_Cloth ct aC C]) (k168 N)) : ∀ (n : Nat) (N : Mem) (x5 : Int32), Im p l e (im_rm 1) s m args below meth c D A 6 (QV D A (fun z : Mem => (cat [w_Inquest ct aN aNE z, w_Cloth ct aC C]))) 50 [(0, .ref (aN 0)), (1, .ref (aC 0)), (2, .int x2), (3, .int x3), (4, .int x4), (5, .int x5)] [] (cat [w_Inquest ct aN aNE N, w_Cloth ct aC C]) (f_X2_layExtremes_50 F C x2 x3 x4 k168 n N x5) := by
  intro n
  induction n with
  | zero => intros; exact im_none
  | succ n ih =>
    intro N x5
    unfold f_X2_layExtremes_50
    refine im_iload X 5 dX2_layExtremes_50 rfl ?_
    refine im_iload X 4 dX2_layExtremes_52 rfl ?_
    refine im_icmp_ge (tgt := 168) X dX2_layExtremes_54 rfl ?_ ?_
    · refine im_lv [0, 1, 2] [(0, .ref (aN 0)), (1, .ref (aC 0)), (2, .int x2)] rfl ?_
      exact hk168 N
    · refine im_aload_n X 0 dX2_layExtremes_57 rfl rfl ?_
      refine im_cget X 0 0 (v := .ref (aN 2)) fl_X2_15 rfl rfl rfl dX2_layExtremes_58 ?_
      refine im_iload X 5 dX2_layExtremes_61 rfl ?_
      refine im_iload_n X 3 dX2_layExtremes_63 rfl rfl ?_
      refine im_if_eq (tgt := 77) X dX2_layExtremes_64 rfl ?_ ?_
      · refine im_aload_n X 0 dX2_layExtremes_77 rfl rfl ?_
        refine im_cget X 0 0 (v := .ref (aN 1)) fl_X2_11 rfl rfl rfl dX2_layExtremes_78 ?_
        refine im_iload X 5 dX2_layExtremes_81 rfl ?_
        refine im_ciald X 0 1 0 (f := (N 1)) rfl rfl rfl dX2_layExtremes_83 ?_
        refine im_aload_n X 0 dX2_layExtremes_84 rfl rfl ?_
        refine im_cget X 0 0 (v := .ref (aN 2)) fl_X2_15 rfl rfl rfl dX2_layExtremes_85 ?_
        refine im_iload X 5 dX2_layExtremes_88 rfl ?_
        refine im_bipush X 24 dX2_layExtremes_90 (by decide) ?_
        refine im_iadd X dX2_layExtremes_92 ?_
        refine im_ciald X 0 2 0 (f := (N 2)) rfl rfl rfl dX2_layExtremes_93 ?_
        refine im_mmin X mt1_X2_101 mt2_min mt3 mt4_min ⟨by decide, Nat.le_of_ble_eq_true rfl⟩ dX2_layExtremes_94 ?_
        exact i_X2_layExtremes_97 X F aN aNE aC N C x2 x3 x4 x5 x5 (if ((N 2) ((x5 + 24)).toNatClampNeg) < ((N 1) x5.toNatClampNeg) then ((N 2) ((x5 + 24)).toNatClampNeg) else ((N 1) x5.toNatClampNeg)) _ ih
      · refine im_aload_n X 0 dX2_layExtremes_67 rfl rfl ?_
        refine im_cget X 0 0 (v := .ref (aN 1)) fl_X2_11 rfl rfl rfl dX2_layExtremes_68 ?_
        refine im_iload X 5 dX2_layExtremes_71 rfl ?_
        refine im_ciald X 0 1 0 (f := (N 1)) rfl rfl rfl dX2_layExtremes_73 ?_
        refine im_goto (tgt := 97) X dX2_layExtremes_74 rfl ?_
        exact i_X2_layExtremes_97 X F aN aNE aC N C x2 x3 x4 x5 x5 ((N 1) x5.toNatClampNeg) _ ih
noncomputable def f_X2_layExtremes_29 (F : Nat) (N : Mem) (C : Mem) (x2 : Int32) (s0 : Int32) (k5 : Mem → Int32 → Option (Mem)) : Option (Mem) :=
  f_X2_layExtremes_50 F C x2 s0 ((x2 * 24) + ((C 0 7) * 6)) (fun N_168 => k5 N_168 (x2 + (-1))) F N (x2 * 24)
set_option maxRecDepth 100000 in
set_option maxHeartbeats 4000000 in
theorem i_X2_layExtremes_29 {p : Program} {l : Launch} {e : Env} {s : State} {m : MethodId} {args : Array Value} {below : List Frame} {meth : Method} {c : Code} {D : va_G} {ct : im_ct} {A : Nat → Prop} (X : im_X p (im_rm 1) s m args meth c D ct A RX2 cX2_layExtremes 6 none) (F : Nat) (aN aNE aC : Nat → Nat) (N : Mem) (C : Mem) (x2 : Int32) (s0 : Int32) (k5 : Mem → Int32 → Option (Mem)) (hk5 : ∀ (N : Mem) (x2 : Int32), Im p l e (im_rm 1) s m args below meth c D A 6 (QV D A (fun z : Mem => (cat [w_Inquest ct aN aNE z, w_Cloth ct aC C]))) 5 [(0, .ref (aN 0)), (1, .ref (aC 0)), (2, .int x2)] [] (cat [w_Inquest ct aN aNE N, w_Cloth ct aC C]) (k5 N x2)) : Im p l e (im_rm 1) s m args below meth c D A 6 (QV D A (fun z : Mem => (cat [w_Inquest ct aN aNE z, w_Cloth ct aC C]))) 29 [(0, .ref (aN 0)), (1, .ref (aC 0)), (2, .int x2)] [.int s0] (cat [w_Inquest ct aN aNE N, w_Cloth ct aC C]) (f_X2_layExtremes_29 F N C x2 s0 k5) := by
  unfold f_X2_layExtremes_29
  refine im_istore_n X [1, 2, 3, 0] [(0, .ref (aN 0)), (1, .ref (aC 0)), (2, .int x2), (3, .int s0)] dX2_layExtremes_29 rfl (by decide) rfl ?_
  refine im_iload_n X 2 dX2_layExtremes_30 rfl rfl ?_
  refine im_bipush X 24 dX2_layExtremes_31 (by decide) ?_
  refine im_imul X dX2_layExtremes_33 ?_
  refine im_aload_n X 1 dX2_layExtremes_34 rfl rfl ?_
  refine im_cget X 1 0 (v := .int (C 0 7)) fl_X2_98 rfl rfl rfl dX2_layExtremes_35 ?_
  refine im_bipush X 6 dX2_layExtremes_38 (by decide) ?_
  refine im_imul X dX2_layExtremes_40 ?_
  refine im_iadd X dX2_layExtremes_41 ?_
  refine im_istore X [1, 2, 3, 4, 0] [(0, .ref (aN 0)), (1, .ref (aC 0)), (2, .int x2), (3, .int s0), (4, .int ((x2 * 24) + ((C 0 7) * 6)))] dX2_layExtremes_42 (by decide) rfl ?_
  refine im_iload_n X 2 dX2_layExtremes_44 rfl rfl ?_
  refine im_bipush X 24 dX2_layExtremes_45 (by decide) ?_
  refine im_imul X dX2_layExtremes_47 ?_
  refine im_istore X [1, 2, 3, 4, 5, 0] [(0, .ref (aN 0)), (1, .ref (aC 0)), (2, .int x2), (3, .int s0), (4, .int ((x2 * 24) + ((C 0 7) * 6))), (5, .int (x2 * 24))] dX2_layExtremes_48 (by decide) rfl ?_
  refine i_X2_layExtremes_50 X F aN aNE aC C x2 s0 ((x2 * 24) + ((C 0 7) * 6)) _ (fun N_168 => ?_) F N (x2 * 24)
  refine im_iinc X 2 (-1) [1, 2, 0] [(0, .ref (aN 0)), (1, .ref (aC 0)), (2, .int (x2 + (-1)))] dX2_layExtremes_168 (by decide) rfl (by decide) rfl ?_
  refine im_goto (tgt := 5) X dX2_layExtremes_171 rfl ?_
  exact hk5 N_168 (x2 + (-1))
noncomputable def f_X2_layExtremes_5 (F : Nat) (C : Mem) (k174 : Mem → Option (Mem)) : Nat → Mem → Int32 → Option (Mem)
  | 0, _, _ => none
  | n + 1, N, x2 =>
  (if x2 < 0 then k174 N else ck x2 25 ((if x2 = (C 0 8) then f_X2_layExtremes_29 F (mr N 4 (upd (N 4) x2.toNatClampNeg 0)) C x2 1 (f_X2_layExtremes_5 F C k174 n) else f_X2_layExtremes_29 F (mr N 4 (upd (N 4) x2.toNatClampNeg 0)) C x2 0 (f_X2_layExtremes_5 F C k174 n))))
set_option maxRecDepth 100000 in
set_option maxHeartbeats 4000000 in
theorem i_X2_layExtremes_5 {p : Program} {l : Launch} {e : Env} {s : State} {m : MethodId} {args : Array Value} {below : List Frame} {meth : Method} {c : Code} {D : va_G} {ct : im_ct} {A : Nat → Prop} (X : im_X p (im_rm 1) s m args meth c D ct A RX2 cX2_layExtremes 6 none) (F : Nat) (aN aNE aC : Nat → Nat) (C : Mem) (k174 : Mem → Option (Mem)) (hk174 : ∀ (N : Mem), Im p l e (im_rm 1) s m args below meth c D A 6 (QV D A (fun z : Mem => (cat [w_Inquest ct aN aNE z, w_Cloth ct aC C]))) 174 [] [] (cat [w_Inquest ct aN aNE N, w_Cloth ct aC C]) (k174 N)) : ∀ (n : Nat) (N : Mem) (x2 : Int32), Im p l e (im_rm 1) s m args below meth c D A 6 (QV D A (fun z : Mem => (cat [w_Inquest ct aN aNE z, w_Cloth ct aC C]))) 5 [(0, .ref (aN 0)), (1, .ref (aC 0)), (2, .int x2)] [] (cat [w_Inquest ct aN aNE N, w_Cloth ct aC C]) (f_X2_layExtremes_5 F C k174 n N x2) := by
  intro n
  induction n with
  | zero => intros; exact im_none
  | succ n ih =>
    intro N x2
    unfold f_X2_layExtremes_5
    refine im_iload_n X 2 dX2_layExtremes_5 rfl rfl ?_
    refine im_if_lt (tgt := 174) X dX2_layExtremes_6 rfl ?_ ?_
    · refine im_lv [] [] rfl ?_
      exact hk174 N
    · refine im_aload_n X 0 dX2_layExtremes_9 rfl rfl ?_
      refine im_cget X 0 0 (v := .ref (aN 4)) fl_X2_21 rfl rfl rfl dX2_layExtremes_10 ?_
      refine im_iload_n X 2 dX2_layExtremes_13 rfl rfl ?_
      refine im_iconst X 0 dX2_layExtremes_14 (by decide) ?_
      refine im_ciast X 0 4 0 (wx_Inquest ct aN aNE (N 0 10) (N 0 11) (N 0 12) (N 0 13) (N 1) (N 2) (N 3) (upd (N 4) x2.toNatClampNeg 0) (N 5) (N 6) (N 7) (N 8) (N 9)) [wx_Inquest ct aN aNE (N 0 10) (N 0 11) (N 0 12) (N 0 13) (N 1) (N 2) (N 3) (upd (N 4) x2.toNatClampNeg 0) (N 5) (N 6) (N 7) (N 8) (N 9), w_Cloth ct aC C] (f := (N 4)) rfl rfl rfl rfl rfl dX2_layExtremes_15 ?_
      refine im_iload_n X 2 dX2_layExtremes_16 rfl rfl ?_
      refine im_aload_n X 1 dX2_layExtremes_17 rfl rfl ?_
      refine im_cget X 1 0 (v := .int (C 0 8)) fl_X2_61 rfl rfl rfl dX2_layExtremes_18 ?_
      refine im_icmp_ne (tgt := 28) X dX2_layExtremes_21 rfl ?_ ?_
      · refine im_iconst X 0 dX2_layExtremes_28 (by decide) ?_
        exact i_X2_layExtremes_29 X F aN aNE aC (mr N 4 (upd (N 4) x2.toNatClampNeg 0)) C x2 0 _ ih
      · refine im_iconst X 1 dX2_layExtremes_24 (by decide) ?_
        refine im_goto (tgt := 29) X dX2_layExtremes_25 rfl ?_
        exact i_X2_layExtremes_29 X F aN aNE aC (mr N 4 (upd (N 4) x2.toNatClampNeg 0)) C x2 1 _ ih
noncomputable def f_X2_layExtremes (F : Nat) (N : Mem) (C : Mem) : Option (Mem) :=
  f_X2_layExtremes_5 F C (fun N_174 => (some N_174)) F N (C 0 8)
set_option maxRecDepth 100000 in
set_option maxHeartbeats 4000000 in
theorem i_X2_layExtremes {p : Program} {l : Launch} {e : Env} {s : State} {m : MethodId} {args : Array Value} {below : List Frame} {meth : Method} {c : Code} {D : va_G} {ct : im_ct} {A : Nat → Prop} (X : im_X p (im_rm 1) s m args meth c D ct A RX2 cX2_layExtremes 6 none) (F : Nat) (aN aNE aC : Nat → Nat) (N : Mem) (C : Mem) : Im p l e (im_rm 1) s m args below meth c D A 6 (QV D A (fun z : Mem => (cat [w_Inquest ct aN aNE z, w_Cloth ct aC C]))) 0 [(0, .ref (aN 0)), (1, .ref (aC 0))] [] (cat [w_Inquest ct aN aNE N, w_Cloth ct aC C]) (f_X2_layExtremes F N C) := by
  unfold f_X2_layExtremes
  refine im_aload_n X 1 dX2_layExtremes_0 rfl rfl ?_
  refine im_cget X 1 0 (v := .int (C 0 8)) fl_X2_61 rfl rfl rfl dX2_layExtremes_1 ?_
  refine im_istore_n X [1, 2, 0] [(0, .ref (aN 0)), (1, .ref (aC 0)), (2, .int (C 0 8))] dX2_layExtremes_4 rfl (by decide) rfl ?_
  refine i_X2_layExtremes_5 X F aN aNE aC C  _ (fun N_174 => ?_) F N (C 0 8)
  exact im_return X N_174 rfl dX2_layExtremes_174
theorem c_X2_layExtremes (l : Launch) (D : va_G) (ct : im_ct) (F : Nat) (aN aNE aC : Nat → Nat) (N : Mem) (C : Mem) : CMv l D ct yX2_layExtremes cX2_layExtremes 6 none 1 [.ref (aN 0), .ref (aC 0)] (cat [w_Inquest ct aN aNE N, w_Cloth ct aC C]) (f_X2_layExtremes F N C) (fun z : Mem => (cat [w_Inquest ct aN aNE z, w_Cloth ct aC C])) :=
  im_met (Qb := fun A => QV D A (fun z : Mem => (cat [w_Inquest ct aN aNE z, w_Cloth ct aC C]))) (by decide +kernel) (Nat.le_of_ble_eq_true rfl) (fun p e s m args below meth c A X => i_X2_layExtremes X F aN aNE aC N C)

noncomputable def f_X2_isSound_19 (F : Nat) (N : Mem) (C : Mem) (x3 : Int32) (k47 : Option (Int32)) (k55 : Option (Int32)) : Nat → Int32 → Option (Int32)
  | 0, _ => none
  | n + 1, x4 =>
  (if x3 ≤ x4 then k55 else ck x4 600 ((if ((N 1) x4.toNatClampNeg) < 0 then k47 else ck x4 600 ((if ((N 1) x4.toNatClampNeg) ≤ 99 then f_X2_isSound_19 F N C x3 k47 k55 n (x4 + 1) else k47)))))
set_option maxRecDepth 100000 in
set_option maxHeartbeats 4000000 in
theorem i_X2_isSound_19 {p : Program} {l : Launch} {e : Env} {s : State} {m : MethodId} {args : Array Value} {below : List Frame} {meth : Method} {c : Code} {D : va_G} {ct : im_ct} {A : Nat → Prop} (X : im_X p (im_rm 0) s m args meth c D ct A RX2 cX2_isSound 5 (some .boolean)) (F : Nat) (aN aNE aC : Nat → Nat) (N : Mem) (C : Mem) (x3 : Int32) (k47 : Option (Int32)) (hk47 : Im p l e (im_rm 0) s m args below meth c D A 5 (QI D A (fun z : Int32 => z) (fun z : Int32 => (cat [w_Inquest ct aN aNE N, w_Cloth ct aC C]))) 47 [] [] (cat [w_Inquest ct aN aNE N, w_Cloth ct aC C]) (k47)) (k55 : Option (Int32)) (hk55 : Im p l e (im_rm 0) s m args below meth c D A 5 (QI D A (fun z : Int32 => z) (fun z : Int32 => (cat [w_Inquest ct aN aNE N, w_Cloth ct aC C]))) 55 [] [] (cat [w_Inquest ct aN aNE N, w_Cloth ct aC C]) (k55)) : ∀ (n : Nat) (x4 : Int32), Im p l e (im_rm 0) s m args below meth c D A 5 (QI D A (fun z : Int32 => z) (fun z : Int32 => (cat [w_Inquest ct aN aNE N, w_Cloth ct aC C]))) 19 [(0, .ref (aN 0)), (3, .int x3), (4, .int x4)] [] (cat [w_Inquest ct aN aNE N, w_Cloth ct aC C]) (f_X2_isSound_19 F N C x3 k47 k55 n x4) := by
  intro n
  induction n with
  | zero => intros; exact im_none
  | succ n ih =>
    intro x4
    unfold f_X2_isSound_19
    refine im_iload X 2 dX2_isSound_19 rfl ?_
    refine im_iload_n X 1 dX2_isSound_21 rfl rfl ?_
    refine im_icmp_ge (tgt := 55) X dX2_isSound_22 rfl ?_ ?_
    · refine im_lv [] [] rfl ?_
      exact hk55
    · refine im_aload_n X 0 dX2_isSound_25 rfl rfl ?_
      refine im_cget X 0 0 (v := .ref (aN 1)) fl_X2_11 rfl rfl rfl dX2_isSound_26 ?_
      refine im_iload X 2 dX2_isSound_29 rfl ?_
      refine im_ciald X 0 1 0 (f := (N 1)) rfl rfl rfl dX2_isSound_31 ?_
      refine im_if_lt (tgt := 47) X dX2_isSound_32 rfl ?_ ?_
      · refine im_lv [] [] rfl ?_
        exact hk47
      · refine im_aload_n X 0 dX2_isSound_35 rfl rfl ?_
        refine im_cget X 0 0 (v := .ref (aN 1)) fl_X2_11 rfl rfl rfl dX2_isSound_36 ?_
        refine im_iload X 2 dX2_isSound_39 rfl ?_
        refine im_ciald X 0 1 0 (f := (N 1)) rfl rfl rfl dX2_isSound_41 ?_
        refine im_bipush X 99 dX2_isSound_42 (by decide) ?_
        refine im_icmp_le (tgt := 49) X dX2_isSound_44 rfl ?_ ?_
        · refine im_iinc X 2 1 [1, 2, 0] [(0, .ref (aN 0)), (3, .int x3), (4, .int (x4 + 1))] dX2_isSound_49 (by decide) rfl (by decide) rfl ?_
          refine im_goto (tgt := 19) X dX2_isSound_52 rfl ?_
          exact ih (x4 + 1)
        · refine im_lv [] [] rfl ?_
          exact hk47
noncomputable def f_X2_isSound (F : Nat) (N : Mem) (C : Mem) (x2 : Int32) : Option (Int32) :=
  f_X2_isSound_19 F N C ((x2 * 24) + ((C 0 7) * 6)) ((some 0)) ((some 1)) F (x2 * 24)
set_option maxRecDepth 100000 in
set_option maxHeartbeats 4000000 in
theorem i_X2_isSound {p : Program} {l : Launch} {e : Env} {s : State} {m : MethodId} {args : Array Value} {below : List Frame} {meth : Method} {c : Code} {D : va_G} {ct : im_ct} {A : Nat → Prop} (X : im_X p (im_rm 0) s m args meth c D ct A RX2 cX2_isSound 5 (some .boolean)) (F : Nat) (aN aNE aC : Nat → Nat) (N : Mem) (C : Mem) (x2 : Int32) : Im p l e (im_rm 0) s m args below meth c D A 5 (QI D A (fun z : Int32 => z) (fun z : Int32 => (cat [w_Inquest ct aN aNE N, w_Cloth ct aC C]))) 0 [(0, .ref (aN 0)), (1, .ref (aC 0)), (2, .int x2)] [] (cat [w_Inquest ct aN aNE N, w_Cloth ct aC C]) (f_X2_isSound F N C x2) := by
  unfold f_X2_isSound
  refine im_iload_n X 2 dX2_isSound_0 rfl rfl ?_
  refine im_bipush X 24 dX2_isSound_1 (by decide) ?_
  refine im_imul X dX2_isSound_3 ?_
  refine im_aload_n X 1 dX2_isSound_4 rfl rfl ?_
  refine im_cget X 1 0 (v := .int (C 0 7)) fl_X2_98 rfl rfl rfl dX2_isSound_5 ?_
  refine im_bipush X 6 dX2_isSound_8 (by decide) ?_
  refine im_imul X dX2_isSound_10 ?_
  refine im_iadd X dX2_isSound_11 ?_
  refine im_istore_n X [1, 2, 3, 0] [(0, .ref (aN 0)), (1, .ref (aC 0)), (2, .int x2), (3, .int ((x2 * 24) + ((C 0 7) * 6)))] dX2_isSound_12 rfl (by decide) rfl ?_
  refine im_iload_n X 2 dX2_isSound_13 rfl rfl ?_
  refine im_bipush X 24 dX2_isSound_14 (by decide) ?_
  refine im_imul X dX2_isSound_16 ?_
  refine im_istore X [1, 2, 3, 4, 0] [(0, .ref (aN 0)), (1, .ref (aC 0)), (2, .int x2), (3, .int ((x2 * 24) + ((C 0 7) * 6))), (4, .int (x2 * 24))] dX2_isSound_17 (by decide) rfl ?_
  refine im_lv [0, 3, 4] [(0, .ref (aN 0)), (3, .int ((x2 * 24) + ((C 0 7) * 6))), (4, .int (x2 * 24))] rfl ?_
  refine i_X2_isSound_19 X F aN aNE aC N C ((x2 * 24) + ((C 0 7) * 6)) _ ?_ _ ?_ F (x2 * 24)
  · refine im_iconst X 0 dX2_isSound_47 (by decide) ?_
    exact im_zreturn X 0 rfl rfl rfl dX2_isSound_48
  · refine im_iconst X 1 dX2_isSound_55 (by decide) ?_
    exact im_zreturn X 1 rfl rfl rfl dX2_isSound_56
theorem c_X2_isSound (l : Launch) (D : va_G) (ct : im_ct) (F : Nat) (aN aNE aC : Nat → Nat) (N : Mem) (C : Mem) (x2 : Int32) : CMi l D ct yX2_isSound cX2_isSound 5 (some .boolean) 0 [.ref (aN 0), .ref (aC 0), .int x2] (cat [w_Inquest ct aN aNE N, w_Cloth ct aC C]) (f_X2_isSound F N C x2) (fun z : Int32 => z) (fun z : Int32 => (cat [w_Inquest ct aN aNE N, w_Cloth ct aC C])) :=
  im_met (Qb := fun A => QI D A (fun z : Int32 => z) (fun z : Int32 => (cat [w_Inquest ct aN aNE N, w_Cloth ct aC C]))) (by decide +kernel) (Nat.le_of_ble_eq_true rfl) (fun p e s m args below meth c A X => i_X2_isSound X F aN aNE aC N C x2)

noncomputable def f_X2_findSound_5 (F : Nat) (C : Mem) (k43 : Mem → Option (Mem)) : Nat → Mem → Option (Mem)
  | 0, _ => none
  | n + 1, N =>
  (if (C 0 8) ≤ (N 0 10) then k43 N else (f_X2_isSound F N C ((N 0 10) + 1)).bind (fun z24 => (if z24 = 0 then k43 N else f_X2_findSound_5 F C k43 n (mr N 0 (fu (N 0) 10 ((N 0 10) + 1))))))
set_option maxRecDepth 100000 in
set_option maxHeartbeats 4000000 in
theorem i_X2_findSound_5 {p : Program} {l : Launch} {e : Env} {s : State} {m : MethodId} {args : Array Value} {below : List Frame} {meth : Method} {c : Code} {D : va_G} {ct : im_ct} {A : Nat → Prop} (X : im_X p (im_rm 1) s m args meth c D ct A RX2 cX2_findSound 2 none) (F : Nat) (aN aNE aC : Nat → Nat) (C : Mem) (k43 : Mem → Option (Mem)) (hk43 : ∀ (N : Mem), Im p l e (im_rm 1) s m args below meth c D A 2 (QV D A (fun z : Mem => (cat [w_Inquest ct aN aNE z, w_Cloth ct aC C]))) 43 [] [] (cat [w_Inquest ct aN aNE N, w_Cloth ct aC C]) (k43 N)) : ∀ (n : Nat) (N : Mem), Im p l e (im_rm 1) s m args below meth c D A 2 (QV D A (fun z : Mem => (cat [w_Inquest ct aN aNE z, w_Cloth ct aC C]))) 5 [(0, .ref (aN 0)), (1, .ref (aC 0))] [] (cat [w_Inquest ct aN aNE N, w_Cloth ct aC C]) (f_X2_findSound_5 F C k43 n N) := by
  intro n
  induction n with
  | zero => intros; exact im_none
  | succ n ih =>
    intro N
    unfold f_X2_findSound_5
    refine im_aload_n X 0 dX2_findSound_5 rfl rfl ?_
    refine im_cget X 0 0 (v := .int (N 0 10)) fl_X2_114 rfl rfl rfl dX2_findSound_6 ?_
    refine im_aload_n X 1 dX2_findSound_9 rfl rfl ?_
    refine im_cget X 1 0 (v := .int (C 0 8)) fl_X2_61 rfl rfl rfl dX2_findSound_10 ?_
    refine im_icmp_ge (tgt := 43) X dX2_findSound_13 rfl ?_ ?_
    · refine im_lv [] [] rfl ?_
      exact hk43 N
    · refine im_aload_n X 0 dX2_findSound_16 rfl rfl ?_
      refine im_aload_n X 1 dX2_findSound_17 rfl rfl ?_
      refine im_aload_n X 0 dX2_findSound_18 rfl rfl ?_
      refine im_cget X 0 0 (v := .int (N 0 10)) fl_X2_114 rfl rfl rfl dX2_findSound_19 ?_
      refine im_iconst X 1 dX2_findSound_22 (by decide) ?_
      refine im_iadd X dX2_findSound_23 ?_
      refine im_cciV X [.ref (aC 0), .int ((N 0 10) + 1)] [] [w_Inquest ct aN aNE N, w_Cloth ct aC C] [w_Inquest ct aN aNE N, w_Cloth ct aC C] [0, 1] (fun z24 => [w_Inquest ct aN aNE N, w_Cloth ct aC C]) 0 0 2 rfl rfl rfl cl_X2_117 (c_X2_isSound l D ct F aN aNE aC N C ((N 0 10) + 1)) rfl (by decide) (fun _ => lc rfl (lc rfl (rfl))) rfl ⟨by decide, by decide⟩ (Nat.le_of_ble_eq_true rfl) rfl dX2_findSound_24 (fun z24 => ?_)
      refine im_ws (cat [w_Inquest ct aN aNE N, w_Cloth ct aC C]) rfl ?_
      refine im_if_eq (tgt := 43) X dX2_findSound_27 rfl ?_ ?_
      · refine im_lv [] [] rfl ?_
        exact hk43 N
      · refine im_aload_n X 0 dX2_findSound_30 rfl rfl ?_
        refine im_dup X rfl dX2_findSound_31 ?_
        refine im_cget X 0 0 (v := .int (N 0 10)) fl_X2_114 rfl rfl rfl dX2_findSound_32 ?_
        refine im_iconst X 1 dX2_findSound_35 (by decide) ?_
        refine im_iadd X dX2_findSound_36 ?_
        refine im_cput X 0 0 (wx_Inquest ct aN aNE ((N 0 10) + 1) (N 0 11) (N 0 12) (N 0 13) (N 1) (N 2) (N 3) (N 4) (N 5) (N 6) (N 7) (N 8) (N 9)) [wx_Inquest ct aN aNE ((N 0 10) + 1) (N 0 11) (N 0 12) (N 0 13) (N 1) (N 2) (N 3) (N 4) (N 5) (N 6) (N 7) (N 8) (N 9), w_Cloth ct aC C] fl_X2_114 rfl rfl rfl rfl (Nat.le_of_ble_eq_true rfl) rfl rfl dX2_findSound_37 ?_
        refine im_goto (tgt := 5) X dX2_findSound_40 rfl ?_
        exact ih (mr N 0 (fu (N 0) 10 ((N 0 10) + 1)))
noncomputable def f_X2_findSound (F : Nat) (N : Mem) (C : Mem) : Option (Mem) :=
  f_X2_findSound_5 F C (fun N_43 => (some N_43)) F (mr N 0 (fu (N 0) 10 0))
set_option maxRecDepth 100000 in
set_option maxHeartbeats 4000000 in
theorem i_X2_findSound {p : Program} {l : Launch} {e : Env} {s : State} {m : MethodId} {args : Array Value} {below : List Frame} {meth : Method} {c : Code} {D : va_G} {ct : im_ct} {A : Nat → Prop} (X : im_X p (im_rm 1) s m args meth c D ct A RX2 cX2_findSound 2 none) (F : Nat) (aN aNE aC : Nat → Nat) (N : Mem) (C : Mem) : Im p l e (im_rm 1) s m args below meth c D A 2 (QV D A (fun z : Mem => (cat [w_Inquest ct aN aNE z, w_Cloth ct aC C]))) 0 [(0, .ref (aN 0)), (1, .ref (aC 0))] [] (cat [w_Inquest ct aN aNE N, w_Cloth ct aC C]) (f_X2_findSound F N C) := by
  unfold f_X2_findSound
  refine im_aload_n X 0 dX2_findSound_0 rfl rfl ?_
  refine im_iconst X 0 dX2_findSound_1 (by decide) ?_
  refine im_cput X 0 0 (wx_Inquest ct aN aNE 0 (N 0 11) (N 0 12) (N 0 13) (N 1) (N 2) (N 3) (N 4) (N 5) (N 6) (N 7) (N 8) (N 9)) [wx_Inquest ct aN aNE 0 (N 0 11) (N 0 12) (N 0 13) (N 1) (N 2) (N 3) (N 4) (N 5) (N 6) (N 7) (N 8) (N 9), w_Cloth ct aC C] fl_X2_114 rfl rfl rfl rfl (Nat.le_of_ble_eq_true rfl) rfl rfl dX2_findSound_2 ?_
  refine i_X2_findSound_5 X F aN aNE aC C  _ (fun N_43 => ?_) F (mr N 0 (fu (N 0) 10 0))
  exact im_return X N_43 rfl dX2_findSound_43
theorem c_X2_findSound (l : Launch) (D : va_G) (ct : im_ct) (F : Nat) (aN aNE aC : Nat → Nat) (N : Mem) (C : Mem) : CMv l D ct yX2_findSound cX2_findSound 2 none 1 [.ref (aN 0), .ref (aC 0)] (cat [w_Inquest ct aN aNE N, w_Cloth ct aC C]) (f_X2_findSound F N C) (fun z : Mem => (cat [w_Inquest ct aN aNE z, w_Cloth ct aC C])) :=
  im_met (Qb := fun A => QV D A (fun z : Mem => (cat [w_Inquest ct aN aNE z, w_Cloth ct aC C]))) (by decide +kernel) (Nat.le_of_ble_eq_true rfl) (fun p e s m args below meth c A X => i_X2_findSound X F aN aNE aC N C)

noncomputable def f_X2_sightCell (F : Nat) (C : Mem) (x2 : Int32) : Option (Int32) :=
  ck ((x2 * 4) + 1) 48 (ck ((x2 * 4) + 2) 48 ((some ((((C 6) (((x2 * 4) + 1)).toNatClampNeg) * 6) + ((C 6) (((x2 * 4) + 2)).toNatClampNeg)))))
set_option maxRecDepth 100000 in
set_option maxHeartbeats 4000000 in
theorem i_X2_sightCell {p : Program} {l : Launch} {e : Env} {s : State} {m : MethodId} {args : Array Value} {below : List Frame} {meth : Method} {c : Code} {D : va_G} {ct : im_ct} {A : Nat → Prop} (X : im_X p (im_rm 0) s m args meth c D ct A RX2 cX2_sightCell 4 (some .int)) (F : Nat) (aN aNE aC : Nat → Nat) (C : Mem) (x2 : Int32) : Im p l e (im_rm 0) s m args below meth c D A 4 (QI D A (fun z : Int32 => z) (fun z : Int32 => (cat [w_Cloth ct aC C]))) 0 [(0, .ref (aN 0)), (1, .ref (aC 0)), (2, .int x2)] [] (cat [w_Cloth ct aC C]) (f_X2_sightCell F C x2) := by
  unfold f_X2_sightCell
  refine im_iload_n X 2 dX2_sightCell_0 rfl rfl ?_
  refine im_iconst X 4 dX2_sightCell_1 (by decide) ?_
  refine im_imul X dX2_sightCell_2 ?_
  refine im_istore_n X [1, 2, 3, 0] [(0, .ref (aN 0)), (1, .ref (aC 0)), (2, .int x2), (3, .int (x2 * 4))] dX2_sightCell_3 rfl (by decide) rfl ?_
  refine im_aload_n X 1 dX2_sightCell_4 rfl rfl ?_
  refine im_cget X 0 0 (v := .ref (aC 6)) fl_X2_91 rfl rfl rfl dX2_sightCell_5 ?_
  refine im_iload_n X 3 dX2_sightCell_8 rfl rfl ?_
  refine im_iconst X 1 dX2_sightCell_9 (by decide) ?_
  refine im_iadd X dX2_sightCell_10 ?_
  refine im_ciald X 0 6 0 (f := (C 6)) rfl rfl rfl dX2_sightCell_11 ?_
  refine im_bipush X 6 dX2_sightCell_12 (by decide) ?_
  refine im_imul X dX2_sightCell_14 ?_
  refine im_aload_n X 1 dX2_sightCell_15 rfl rfl ?_
  refine im_cget X 0 0 (v := .ref (aC 6)) fl_X2_91 rfl rfl rfl dX2_sightCell_16 ?_
  refine im_iload_n X 3 dX2_sightCell_19 rfl rfl ?_
  refine im_iconst X 2 dX2_sightCell_20 (by decide) ?_
  refine im_iadd X dX2_sightCell_21 ?_
  refine im_ciald X 0 6 0 (f := (C 6)) rfl rfl rfl dX2_sightCell_22 ?_
  refine im_iadd X dX2_sightCell_23 ?_
  exact im_ireturn X ((((C 6) (((x2 * 4) + 1)).toNatClampNeg) * 6) + ((C 6) (((x2 * 4) + 2)).toNatClampNeg)) rfl rfl dX2_sightCell_24
theorem c_X2_sightCell (l : Launch) (D : va_G) (ct : im_ct) (F : Nat) (aN aNE aC : Nat → Nat) (C : Mem) (x2 : Int32) : CMi l D ct yX2_sightCell cX2_sightCell 4 (some .int) 0 [.ref (aN 0), .ref (aC 0), .int x2] (cat [w_Cloth ct aC C]) (f_X2_sightCell F C x2) (fun z : Int32 => z) (fun z : Int32 => (cat [w_Cloth ct aC C])) :=
  im_met (Qb := fun A => QI D A (fun z : Int32 => z) (fun z : Int32 => (cat [w_Cloth ct aC C]))) (by decide +kernel) (Nat.le_of_ble_eq_true rfl) (fun p e s m args below meth c A X => i_X2_sightCell X F aN aNE aC C x2)

noncomputable def f_X2_layOut_30 (F : Nat) (C : Mem) (k135 : Mem → Mem → Option (Mem × Mem)) : Nat → Mem → Mem → Int32 → Option (Mem × Mem)
  | 0, _, _, _ => none
  | n + 1, N, NE, x2 =>
  (if (C 0 8) < x2 then k135 N NE else cp ((x2 - 1) * 24) (x2 * 24) 24 600 600 ((f_X0_describeLogged F C NE (x2 - 1)).bind (fun z69 => (if z69.1 = 0 then f_X2_layOut_30 F C k135 n (mr N 1 (va_cpy (N 1) (N 1) (((x2 - 1) * 24)).toNatClampNeg ((x2 * 24)).toNatClampNeg (24 : Int32).toNatClampNeg)) z69.2 (x2 + 1) else ck ((x2 * 24) + (z69.2 0 0)) 600 (ck ((x2 * 24) + (z69.2 0 0)) 600 (ck ((x2 * 24) + (z69.2 0 2)) 600 (ck ((x2 * 24) + (z69.2 0 2)) 600 (f_X2_layOut_30 F C k135 n (mr N 1 (upd (upd (va_cpy (N 1) (N 1) (((x2 - 1) * 24)).toNatClampNeg ((x2 * 24)).toNatClampNeg (24 : Int32).toNatClampNeg) (((x2 * 24) + (z69.2 0 0))).toNatClampNeg (((va_cpy (N 1) (N 1) (((x2 - 1) * 24)).toNatClampNeg ((x2 * 24)).toNatClampNeg (24 : Int32).toNatClampNeg) (((x2 * 24) + (z69.2 0 0))).toNatClampNeg) + (z69.2 0 1))) (((x2 * 24) + (z69.2 0 2))).toNatClampNeg (((upd (va_cpy (N 1) (N 1) (((x2 - 1) * 24)).toNatClampNeg ((x2 * 24)).toNatClampNeg (24 : Int32).toNatClampNeg) (((x2 * 24) + (z69.2 0 0))).toNatClampNeg (((va_cpy (N 1) (N 1) (((x2 - 1) * 24)).toNatClampNeg ((x2 * 24)).toNatClampNeg (24 : Int32).toNatClampNeg) (((x2 * 24) + (z69.2 0 0))).toNatClampNeg) + (z69.2 0 1))) (((x2 * 24) + (z69.2 0 2))).toNatClampNeg) + (z69.2 0 3)))) z69.2 (x2 + 1)))))))))
set_option maxRecDepth 100000 in
set_option maxHeartbeats 4000000 in
theorem i_X2_layOut_30 {p : Program} {l : Launch} {e : Env} {s : State} {m : MethodId} {args : Array Value} {below : List Frame} {meth : Method} {c : Code} {D : va_G} {ct : im_ct} {A : Nat → Prop} (X : im_X p (im_rm 3) s m args meth c D ct A RX2 cX2_layOut 4 none) (F : Nat) (aN aNE aC : Nat → Nat) (C : Mem) (k135 : Mem → Mem → Option (Mem × Mem)) (hk135 : ∀ (N : Mem) (NE : Mem), Im p l e (im_rm 3) s m args below meth c D A 4 (QV D A (fun z : Mem × Mem => (cat [w_Inquest ct aN aNE z.1, w_Effect ct aNE z.2, w_Cloth ct aC C]))) 135 [(0, .ref (aN 0)), (1, .ref (aC 0))] [] (cat [w_Inquest ct aN aNE N, w_Effect ct aNE NE, w_Cloth ct aC C]) (k135 N NE)) : ∀ (n : Nat) (N : Mem) (NE : Mem) (x2 : Int32), Im p l e (im_rm 3) s m args below meth c D A 4 (QV D A (fun z : Mem × Mem => (cat [w_Inquest ct aN aNE z.1, w_Effect ct aNE z.2, w_Cloth ct aC C]))) 30 [(0, .ref (aN 0)), (1, .ref (aC 0)), (2, .int x2)] [] (cat [w_Inquest ct aN aNE N, w_Effect ct aNE NE, w_Cloth ct aC C]) (f_X2_layOut_30 F C k135 n N NE x2) := by
  intro n
  induction n with
  | zero => intros; exact im_none
  | succ n ih =>
    intro N NE x2
    unfold f_X2_layOut_30
    refine im_iload_n X 2 dX2_layOut_30 rfl rfl ?_
    refine im_aload_n X 1 dX2_layOut_31 rfl rfl ?_
    refine im_cget X 2 0 (v := .int (C 0 8)) fl_X2_61 rfl rfl rfl dX2_layOut_32 ?_
    refine im_icmp_gt (tgt := 135) X dX2_layOut_35 rfl ?_ ?_
    · refine im_lv [0, 1] [(0, .ref (aN 0)), (1, .ref (aC 0))] rfl ?_
      exact hk135 N NE
    · refine im_aload_n X 0 dX2_layOut_38 rfl rfl ?_
      refine im_cget X 0 0 (v := .ref (aN 1)) fl_X2_11 rfl rfl rfl dX2_layOut_39 ?_
      refine im_iload_n X 2 dX2_layOut_42 rfl rfl ?_
      refine im_iconst X 1 dX2_layOut_43 (by decide) ?_
      refine im_isub X dX2_layOut_44 ?_
      refine im_bipush X 24 dX2_layOut_45 (by decide) ?_
      refine im_imul X dX2_layOut_47 ?_
      refine im_aload_n X 0 dX2_layOut_48 rfl rfl ?_
      refine im_cget X 0 0 (v := .ref (aN 1)) fl_X2_11 rfl rfl rfl dX2_layOut_49 ?_
      refine im_iload_n X 2 dX2_layOut_52 rfl rfl ?_
      refine im_bipush X 24 dX2_layOut_53 (by decide) ?_
      refine im_imul X dX2_layOut_55 ?_
      refine im_bipush X 24 dX2_layOut_56 (by decide) ?_
      refine im_ccopyi X 0 1 0 1 0 (wx_Inquest ct aN aNE (N 0 10) (N 0 11) (N 0 12) (N 0 13) (va_cpy (N 1) (N 1) (((x2 - 1) * 24)).toNatClampNeg ((x2 * 24)).toNatClampNeg (24 : Int32).toNatClampNeg) (N 2) (N 3) (N 4) (N 5) (N 6) (N 7) (N 8) (N 9)) [wx_Inquest ct aN aNE (N 0 10) (N 0 11) (N 0 12) (N 0 13) (va_cpy (N 1) (N 1) (((x2 - 1) * 24)).toNatClampNeg ((x2 * 24)).toNatClampNeg (24 : Int32).toNatClampNeg) (N 2) (N 3) (N 4) (N 5) (N 6) (N 7) (N 8) (N 9), w_Effect ct aNE NE, w_Cloth ct aC C] (f := (N 1)) (g := (N 1)) ac1_X2_55 ac2 ac3 ac4 rfl rfl rfl rfl rfl ⟨by decide, by decide⟩ rfl rfl dX2_layOut_58 ?_
      refine im_aload_n X 1 dX2_layOut_61 rfl rfl ?_
      refine im_aload_n X 0 dX2_layOut_62 rfl rfl ?_
      refine im_cget X 0 0 (v := .ref (aNE 0)) fl_X2_42 rfl rfl rfl dX2_layOut_63 ?_
      refine im_iload_n X 2 dX2_layOut_66 rfl rfl ?_
      refine im_iconst X 1 dX2_layOut_67 (by decide) ?_
      refine im_isub X dX2_layOut_68 ?_
      refine im_cciV X [.ref (aNE 0), .int (x2 - 1)] [] [wx_Inquest ct aN aNE (N 0 10) (N 0 11) (N 0 12) (N 0 13) (va_cpy (N 1) (N 1) (((x2 - 1) * 24)).toNatClampNeg ((x2 * 24)).toNatClampNeg (24 : Int32).toNatClampNeg) (N 2) (N 3) (N 4) (N 5) (N 6) (N 7) (N 8) (N 9), w_Effect ct aNE NE, w_Cloth ct aC C] [w_Cloth ct aC C, w_Effect ct aNE NE] [2, 1] (fun z69 => [w_Cloth ct aC C, w_Effect ct aNE z69.2]) 2 0 0 rfl rfl rfl cl_X2_65 (c_X0_describeLogged l D ct F aC aNE C NE (x2 - 1)) rfl (by decide) (fun _ => lc rfl (lc fa_Effect (rfl))) rfl ⟨by decide, by decide⟩ (Nat.le_of_ble_eq_true rfl) rfl dX2_layOut_69 (fun z69 => ?_)
      refine im_ws (cat [wx_Inquest ct aN aNE (N 0 10) (N 0 11) (N 0 12) (N 0 13) (va_cpy (N 1) (N 1) (((x2 - 1) * 24)).toNatClampNeg ((x2 * 24)).toNatClampNeg (24 : Int32).toNatClampNeg) (N 2) (N 3) (N 4) (N 5) (N 6) (N 7) (N 8) (N 9), w_Effect ct aNE z69.2, w_Cloth ct aC C]) rfl ?_
      refine im_if_eq (tgt := 129) X dX2_layOut_72 rfl ?_ ?_
      · refine im_iinc X 2 1 [1, 2, 0] [(0, .ref (aN 0)), (1, .ref (aC 0)), (2, .int (x2 + 1))] dX2_layOut_129 (by decide) rfl (by decide) rfl ?_
        refine im_goto (tgt := 30) X dX2_layOut_132 rfl ?_
        exact ih (mr N 1 (va_cpy (N 1) (N 1) (((x2 - 1) * 24)).toNatClampNeg ((x2 * 24)).toNatClampNeg (24 : Int32).toNatClampNeg)) z69.2 (x2 + 1)
      · refine im_aload_n X 0 dX2_layOut_75 rfl rfl ?_
        refine im_cget X 0 0 (v := .ref (aN 1)) fl_X2_11 rfl rfl rfl dX2_layOut_76 ?_
        refine im_iload_n X 2 dX2_layOut_79 rfl rfl ?_
        refine im_bipush X 24 dX2_layOut_80 (by decide) ?_
        refine im_imul X dX2_layOut_82 ?_
        refine im_aload_n X 0 dX2_layOut_83 rfl rfl ?_
        refine im_cget X 0 0 (v := .ref (aNE 0)) fl_X2_42 rfl rfl rfl dX2_layOut_84 ?_
        refine im_cget X 1 0 (v := .int (z69.2 0 0)) fl_X2_69 rfl rfl rfl dX2_layOut_87 ?_
        refine im_iadd X dX2_layOut_90 ?_
        refine im_dup2_11 X rfl rfl dX2_layOut_91 ?_
        refine im_ciald X 0 1 0 (f := (va_cpy (N 1) (N 1) (((x2 - 1) * 24)).toNatClampNeg ((x2 * 24)).toNatClampNeg (24 : Int32).toNatClampNeg)) rfl rfl rfl dX2_layOut_92 ?_
        refine im_aload_n X 0 dX2_layOut_93 rfl rfl ?_
        refine im_cget X 0 0 (v := .ref (aNE 0)) fl_X2_42 rfl rfl rfl dX2_layOut_94 ?_
        refine im_cget X 1 0 (v := .int (z69.2 0 1)) fl_X2_72 rfl rfl rfl dX2_layOut_97 ?_
        refine im_iadd X dX2_layOut_100 ?_
        refine im_ciast X 0 1 0 (wx_Inquest ct aN aNE (N 0 10) (N 0 11) (N 0 12) (N 0 13) (upd (va_cpy (N 1) (N 1) (((x2 - 1) * 24)).toNatClampNeg ((x2 * 24)).toNatClampNeg (24 : Int32).toNatClampNeg) (((x2 * 24) + (z69.2 0 0))).toNatClampNeg (((va_cpy (N 1) (N 1) (((x2 - 1) * 24)).toNatClampNeg ((x2 * 24)).toNatClampNeg (24 : Int32).toNatClampNeg) (((x2 * 24) + (z69.2 0 0))).toNatClampNeg) + (z69.2 0 1))) (N 2) (N 3) (N 4) (N 5) (N 6) (N 7) (N 8) (N 9)) [wx_Inquest ct aN aNE (N 0 10) (N 0 11) (N 0 12) (N 0 13) (upd (va_cpy (N 1) (N 1) (((x2 - 1) * 24)).toNatClampNeg ((x2 * 24)).toNatClampNeg (24 : Int32).toNatClampNeg) (((x2 * 24) + (z69.2 0 0))).toNatClampNeg (((va_cpy (N 1) (N 1) (((x2 - 1) * 24)).toNatClampNeg ((x2 * 24)).toNatClampNeg (24 : Int32).toNatClampNeg) (((x2 * 24) + (z69.2 0 0))).toNatClampNeg) + (z69.2 0 1))) (N 2) (N 3) (N 4) (N 5) (N 6) (N 7) (N 8) (N 9), w_Effect ct aNE z69.2, w_Cloth ct aC C] (f := (va_cpy (N 1) (N 1) (((x2 - 1) * 24)).toNatClampNeg ((x2 * 24)).toNatClampNeg (24 : Int32).toNatClampNeg)) rfl rfl rfl rfl rfl dX2_layOut_101 ?_
        refine im_aload_n X 0 dX2_layOut_102 rfl rfl ?_
        refine im_cget X 0 0 (v := .ref (aN 1)) fl_X2_11 rfl rfl rfl dX2_layOut_103 ?_
        refine im_iload_n X 2 dX2_layOut_106 rfl rfl ?_
        refine im_bipush X 24 dX2_layOut_107 (by decide) ?_
        refine im_imul X dX2_layOut_109 ?_
        refine im_aload_n X 0 dX2_layOut_110 rfl rfl ?_
        refine im_cget X 0 0 (v := .ref (aNE 0)) fl_X2_42 rfl rfl rfl dX2_layOut_111 ?_
        refine im_cget X 1 0 (v := .int (z69.2 0 2)) fl_X2_75 rfl rfl rfl dX2_layOut_114 ?_
        refine im_iadd X dX2_layOut_117 ?_
        refine im_dup2_11 X rfl rfl dX2_layOut_118 ?_
        refine im_ciald X 0 1 0 (f := (upd (va_cpy (N 1) (N 1) (((x2 - 1) * 24)).toNatClampNeg ((x2 * 24)).toNatClampNeg (24 : Int32).toNatClampNeg) (((x2 * 24) + (z69.2 0 0))).toNatClampNeg (((va_cpy (N 1) (N 1) (((x2 - 1) * 24)).toNatClampNeg ((x2 * 24)).toNatClampNeg (24 : Int32).toNatClampNeg) (((x2 * 24) + (z69.2 0 0))).toNatClampNeg) + (z69.2 0 1)))) rfl rfl rfl dX2_layOut_119 ?_
        refine im_aload_n X 0 dX2_layOut_120 rfl rfl ?_
        refine im_cget X 0 0 (v := .ref (aNE 0)) fl_X2_42 rfl rfl rfl dX2_layOut_121 ?_
        refine im_cget X 1 0 (v := .int (z69.2 0 3)) fl_X2_78 rfl rfl rfl dX2_layOut_124 ?_
        refine im_iadd X dX2_layOut_127 ?_
        refine im_ciast X 0 1 0 (wx_Inquest ct aN aNE (N 0 10) (N 0 11) (N 0 12) (N 0 13) (upd (upd (va_cpy (N 1) (N 1) (((x2 - 1) * 24)).toNatClampNeg ((x2 * 24)).toNatClampNeg (24 : Int32).toNatClampNeg) (((x2 * 24) + (z69.2 0 0))).toNatClampNeg (((va_cpy (N 1) (N 1) (((x2 - 1) * 24)).toNatClampNeg ((x2 * 24)).toNatClampNeg (24 : Int32).toNatClampNeg) (((x2 * 24) + (z69.2 0 0))).toNatClampNeg) + (z69.2 0 1))) (((x2 * 24) + (z69.2 0 2))).toNatClampNeg (((upd (va_cpy (N 1) (N 1) (((x2 - 1) * 24)).toNatClampNeg ((x2 * 24)).toNatClampNeg (24 : Int32).toNatClampNeg) (((x2 * 24) + (z69.2 0 0))).toNatClampNeg (((va_cpy (N 1) (N 1) (((x2 - 1) * 24)).toNatClampNeg ((x2 * 24)).toNatClampNeg (24 : Int32).toNatClampNeg) (((x2 * 24) + (z69.2 0 0))).toNatClampNeg) + (z69.2 0 1))) (((x2 * 24) + (z69.2 0 2))).toNatClampNeg) + (z69.2 0 3))) (N 2) (N 3) (N 4) (N 5) (N 6) (N 7) (N 8) (N 9)) [wx_Inquest ct aN aNE (N 0 10) (N 0 11) (N 0 12) (N 0 13) (upd (upd (va_cpy (N 1) (N 1) (((x2 - 1) * 24)).toNatClampNeg ((x2 * 24)).toNatClampNeg (24 : Int32).toNatClampNeg) (((x2 * 24) + (z69.2 0 0))).toNatClampNeg (((va_cpy (N 1) (N 1) (((x2 - 1) * 24)).toNatClampNeg ((x2 * 24)).toNatClampNeg (24 : Int32).toNatClampNeg) (((x2 * 24) + (z69.2 0 0))).toNatClampNeg) + (z69.2 0 1))) (((x2 * 24) + (z69.2 0 2))).toNatClampNeg (((upd (va_cpy (N 1) (N 1) (((x2 - 1) * 24)).toNatClampNeg ((x2 * 24)).toNatClampNeg (24 : Int32).toNatClampNeg) (((x2 * 24) + (z69.2 0 0))).toNatClampNeg (((va_cpy (N 1) (N 1) (((x2 - 1) * 24)).toNatClampNeg ((x2 * 24)).toNatClampNeg (24 : Int32).toNatClampNeg) (((x2 * 24) + (z69.2 0 0))).toNatClampNeg) + (z69.2 0 1))) (((x2 * 24) + (z69.2 0 2))).toNatClampNeg) + (z69.2 0 3))) (N 2) (N 3) (N 4) (N 5) (N 6) (N 7) (N 8) (N 9), w_Effect ct aNE z69.2, w_Cloth ct aC C] (f := (upd (va_cpy (N 1) (N 1) (((x2 - 1) * 24)).toNatClampNeg ((x2 * 24)).toNatClampNeg (24 : Int32).toNatClampNeg) (((x2 * 24) + (z69.2 0 0))).toNatClampNeg (((va_cpy (N 1) (N 1) (((x2 - 1) * 24)).toNatClampNeg ((x2 * 24)).toNatClampNeg (24 : Int32).toNatClampNeg) (((x2 * 24) + (z69.2 0 0))).toNatClampNeg) + (z69.2 0 1)))) rfl rfl rfl rfl rfl dX2_layOut_128 ?_
        refine im_iinc X 2 1 [1, 2, 0] [(0, .ref (aN 0)), (1, .ref (aC 0)), (2, .int (x2 + 1))] dX2_layOut_129 (by decide) rfl (by decide) rfl ?_
        refine im_goto (tgt := 30) X dX2_layOut_132 rfl ?_
        exact ih (mr N 1 (upd (upd (va_cpy (N 1) (N 1) (((x2 - 1) * 24)).toNatClampNeg ((x2 * 24)).toNatClampNeg (24 : Int32).toNatClampNeg) (((x2 * 24) + (z69.2 0 0))).toNatClampNeg (((va_cpy (N 1) (N 1) (((x2 - 1) * 24)).toNatClampNeg ((x2 * 24)).toNatClampNeg (24 : Int32).toNatClampNeg) (((x2 * 24) + (z69.2 0 0))).toNatClampNeg) + (z69.2 0 1))) (((x2 * 24) + (z69.2 0 2))).toNatClampNeg (((upd (va_cpy (N 1) (N 1) (((x2 - 1) * 24)).toNatClampNeg ((x2 * 24)).toNatClampNeg (24 : Int32).toNatClampNeg) (((x2 * 24) + (z69.2 0 0))).toNatClampNeg (((va_cpy (N 1) (N 1) (((x2 - 1) * 24)).toNatClampNeg ((x2 * 24)).toNatClampNeg (24 : Int32).toNatClampNeg) (((x2 * 24) + (z69.2 0 0))).toNatClampNeg) + (z69.2 0 1))) (((x2 * 24) + (z69.2 0 2))).toNatClampNeg) + (z69.2 0 3)))) z69.2 (x2 + 1)
noncomputable def f_X2_layOut_147 (F : Nat) (NE : Mem) (C : Mem) (k201 : Mem → Option (Mem × Mem)) : Nat → Mem → Int32 → Option (Mem × Mem)
  | 0, _, _ => none
  | n + 1, N, x2 =>
  (if (C 0 9) ≤ x2 then k201 N else ck ((x2 * 4) + 3) 48 (ck (x2 * 4) 48 ((f_X2_sightCell F C x2).bind (fun z188 => ck ((((C 6) ((x2 * 4)).toNatClampNeg) * 24) + z188) 600 (ck x2 12 (f_X2_layOut_147 F NE C k201 n (mr N 5 (upd (N 5) x2.toNatClampNeg (((C 6) (((x2 * 4) + 3)).toNatClampNeg) - ((N 1) (((((C 6) ((x2 * 4)).toNatClampNeg) * 24) + z188)).toNatClampNeg)))) (x2 + 1)))))))
set_option maxRecDepth 100000 in
set_option maxHeartbeats 4000000 in
theorem i_X2_layOut_147 {p : Program} {l : Launch} {e : Env} {s : State} {m : MethodId} {args : Array Value} {below : List Frame} {meth : Method} {c : Code} {D : va_G} {ct : im_ct} {A : Nat → Prop} (X : im_X p (im_rm 3) s m args meth c D ct A RX2 cX2_layOut 4 none) (F : Nat) (aN aNE aC : Nat → Nat) (NE : Mem) (C : Mem) (k201 : Mem → Option (Mem × Mem)) (hk201 : ∀ (N : Mem), Im p l e (im_rm 3) s m args below meth c D A 4 (QV D A (fun z : Mem × Mem => (cat [w_Inquest ct aN aNE z.1, w_Effect ct aNE z.2, w_Cloth ct aC C]))) 201 [] [] (cat [w_Inquest ct aN aNE N, w_Effect ct aNE NE, w_Cloth ct aC C]) (k201 N)) : ∀ (n : Nat) (N : Mem) (x2 : Int32), Im p l e (im_rm 3) s m args below meth c D A 4 (QV D A (fun z : Mem × Mem => (cat [w_Inquest ct aN aNE z.1, w_Effect ct aNE z.2, w_Cloth ct aC C]))) 147 [(0, .ref (aN 0)), (1, .ref (aC 0)), (2, .int x2)] [] (cat [w_Inquest ct aN aNE N, w_Effect ct aNE NE, w_Cloth ct aC C]) (f_X2_layOut_147 F NE C k201 n N x2) := by
  intro n
  induction n with
  | zero => intros; exact im_none
  | succ n ih =>
    intro N x2
    unfold f_X2_layOut_147
    refine im_iload_n X 2 dX2_layOut_147 rfl rfl ?_
    refine im_aload_n X 1 dX2_layOut_148 rfl rfl ?_
    refine im_cget X 2 0 (v := .int (C 0 9)) fl_X2_88 rfl rfl rfl dX2_layOut_149 ?_
    refine im_icmp_ge (tgt := 201) X dX2_layOut_152 rfl ?_ ?_
    · refine im_lv [] [] rfl ?_
      exact hk201 N
    · refine im_iload_n X 2 dX2_layOut_155 rfl rfl ?_
      refine im_iconst X 4 dX2_layOut_156 (by decide) ?_
      refine im_imul X dX2_layOut_157 ?_
      refine im_istore_n X [1, 2, 3, 0] [(0, .ref (aN 0)), (1, .ref (aC 0)), (2, .int x2), (3, .int (x2 * 4))] dX2_layOut_158 rfl (by decide) rfl ?_
      refine im_aload_n X 0 dX2_layOut_159 rfl rfl ?_
      refine im_cget X 0 0 (v := .ref (aN 5)) fl_X2_24 rfl rfl rfl dX2_layOut_160 ?_
      refine im_iload_n X 2 dX2_layOut_163 rfl rfl ?_
      refine im_aload_n X 1 dX2_layOut_164 rfl rfl ?_
      refine im_cget X 2 0 (v := .ref (aC 6)) fl_X2_91 rfl rfl rfl dX2_layOut_165 ?_
      refine im_iload_n X 3 dX2_layOut_168 rfl rfl ?_
      refine im_iconst X 3 dX2_layOut_169 (by decide) ?_
      refine im_iadd X dX2_layOut_170 ?_
      refine im_ciald X 2 6 0 (f := (C 6)) rfl rfl rfl dX2_layOut_171 ?_
      refine im_aload_n X 0 dX2_layOut_172 rfl rfl ?_
      refine im_cget X 0 0 (v := .ref (aN 1)) fl_X2_11 rfl rfl rfl dX2_layOut_173 ?_
      refine im_aload_n X 1 dX2_layOut_176 rfl rfl ?_
      refine im_cget X 2 0 (v := .ref (aC 6)) fl_X2_91 rfl rfl rfl dX2_layOut_177 ?_
      refine im_iload_n X 3 dX2_layOut_180 rfl rfl ?_
      refine im_ciald X 2 6 0 (f := (C 6)) rfl rfl rfl dX2_layOut_181 ?_
      refine im_bipush X 24 dX2_layOut_182 (by decide) ?_
      refine im_imul X dX2_layOut_184 ?_
      refine im_aload_n X 0 dX2_layOut_185 rfl rfl ?_
      refine im_aload_n X 1 dX2_layOut_186 rfl rfl ?_
      refine im_iload_n X 2 dX2_layOut_187 rfl rfl ?_
      refine im_cciV X [.ref (aC 0), .int x2] [.int (((C 6) ((x2 * 4)).toNatClampNeg) * 24), .ref (aN 1), .int ((C 6) (((x2 * 4) + 3)).toNatClampNeg), .int x2, .ref (aN 5)] [w_Inquest ct aN aNE N, w_Effect ct aNE NE, w_Cloth ct aC C] [w_Cloth ct aC C] [2] (fun z188 => [w_Cloth ct aC C]) 0 0 2 rfl rfl rfl cl_X2_94 (c_X2_sightCell l D ct F aN aNE aC C x2) rfl (by decide) (fun _ => lc rfl (rfl)) rfl ⟨by decide, by decide⟩ (Nat.le_of_ble_eq_true rfl) rfl dX2_layOut_188 (fun z188 => ?_)
      refine im_ws (cat [w_Inquest ct aN aNE N, w_Effect ct aNE NE, w_Cloth ct aC C]) rfl ?_
      refine im_iadd X dX2_layOut_191 ?_
      refine im_ciald X 0 1 0 (f := (N 1)) rfl rfl rfl dX2_layOut_192 ?_
      refine im_isub X dX2_layOut_193 ?_
      refine im_ciast X 0 5 0 (wx_Inquest ct aN aNE (N 0 10) (N 0 11) (N 0 12) (N 0 13) (N 1) (N 2) (N 3) (N 4) (upd (N 5) x2.toNatClampNeg (((C 6) (((x2 * 4) + 3)).toNatClampNeg) - ((N 1) (((((C 6) ((x2 * 4)).toNatClampNeg) * 24) + z188)).toNatClampNeg))) (N 6) (N 7) (N 8) (N 9)) [wx_Inquest ct aN aNE (N 0 10) (N 0 11) (N 0 12) (N 0 13) (N 1) (N 2) (N 3) (N 4) (upd (N 5) x2.toNatClampNeg (((C 6) (((x2 * 4) + 3)).toNatClampNeg) - ((N 1) (((((C 6) ((x2 * 4)).toNatClampNeg) * 24) + z188)).toNatClampNeg))) (N 6) (N 7) (N 8) (N 9), w_Effect ct aNE NE, w_Cloth ct aC C] (f := (N 5)) rfl rfl rfl rfl rfl dX2_layOut_194 ?_
      refine im_iinc X 2 1 [1, 2, 0, 3] [(0, .ref (aN 0)), (1, .ref (aC 0)), (2, .int (x2 + 1)), (3, .int (x2 * 4))] dX2_layOut_195 (by decide) rfl (by decide) rfl ?_
      refine im_goto (tgt := 147) X dX2_layOut_198 rfl ?_
      refine im_lv [0, 1, 2] [(0, .ref (aN 0)), (1, .ref (aC 0)), (2, .int (x2 + 1))] rfl ?_
      exact ih (mr N 5 (upd (N 5) x2.toNatClampNeg (((C 6) (((x2 * 4) + 3)).toNatClampNeg) - ((N 1) (((((C 6) ((x2 * 4)).toNatClampNeg) * 24) + z188)).toNatClampNeg)))) (x2 + 1)
noncomputable def f_X2_layOut (F : Nat) (N : Mem) (NE : Mem) (C : Mem) : Option (Mem × Mem) :=
  (if (N 0 12) = 0 then cp 0 0 24 24 600 (f_X2_layOut_30 F C (fun N_135 NE_135 => (f_X2_layExtremes F N_135 C).bind (fun z137 => (f_X2_findSound F z137 C).bind (fun z142 => f_X2_layOut_147 F NE_135 C (fun N_201 => (some (N_201, NE_135))) F z142 0))) F (mr (mr N 0 (fu (N 0) 12 1)) 1 (va_cpy (C 4) (N 1) (0 : Int32).toNatClampNeg (0 : Int32).toNatClampNeg (24 : Int32).toNatClampNeg)) NE 1) else (some (N, NE)))
set_option maxRecDepth 100000 in
set_option maxHeartbeats 4000000 in
theorem i_X2_layOut {p : Program} {l : Launch} {e : Env} {s : State} {m : MethodId} {args : Array Value} {below : List Frame} {meth : Method} {c : Code} {D : va_G} {ct : im_ct} {A : Nat → Prop} (X : im_X p (im_rm 3) s m args meth c D ct A RX2 cX2_layOut 4 none) (F : Nat) (aN aNE aC : Nat → Nat) (N : Mem) (NE : Mem) (C : Mem) : Im p l e (im_rm 3) s m args below meth c D A 4 (QV D A (fun z : Mem × Mem => (cat [w_Inquest ct aN aNE z.1, w_Effect ct aNE z.2, w_Cloth ct aC C]))) 0 [(0, .ref (aN 0)), (1, .ref (aC 0))] [] (cat [w_Inquest ct aN aNE N, w_Effect ct aNE NE, w_Cloth ct aC C]) (f_X2_layOut F N NE C) := by
  unfold f_X2_layOut
  refine im_aload_n X 0 dX2_layOut_0 rfl rfl ?_
  refine im_cget X 0 0 (v := .int (N 0 12)) fl_X2_46 rfl rfl rfl dX2_layOut_1 ?_
  refine im_if_eq (tgt := 8) X dX2_layOut_4 rfl ?_ ?_
  · refine im_aload_n X 0 dX2_layOut_8 rfl rfl ?_
    refine im_iconst X 1 dX2_layOut_9 (by decide) ?_
    refine im_cput X 0 0 (wx_Inquest ct aN aNE (N 0 10) (N 0 11) 1 (N 0 13) (N 1) (N 2) (N 3) (N 4) (N 5) (N 6) (N 7) (N 8) (N 9)) [wx_Inquest ct aN aNE (N 0 10) (N 0 11) 1 (N 0 13) (N 1) (N 2) (N 3) (N 4) (N 5) (N 6) (N 7) (N 8) (N 9), w_Effect ct aNE NE, w_Cloth ct aC C] fl_X2_46 rfl rfl rfl rfl (Nat.le_of_ble_eq_true rfl) rfl rfl dX2_layOut_10 ?_
    refine im_aload_n X 1 dX2_layOut_13 rfl rfl ?_
    refine im_cget X 2 0 (v := .ref (aC 4)) fl_X2_50 rfl rfl rfl dX2_layOut_14 ?_
    refine im_iconst X 0 dX2_layOut_17 (by decide) ?_
    refine im_aload_n X 0 dX2_layOut_18 rfl rfl ?_
    refine im_cget X 0 0 (v := .ref (aN 1)) fl_X2_11 rfl rfl rfl dX2_layOut_19 ?_
    refine im_iconst X 0 dX2_layOut_22 (by decide) ?_
    refine im_bipush X 24 dX2_layOut_23 (by decide) ?_
    refine im_ccopyi X 2 4 0 1 0 (wx_Inquest ct aN aNE (N 0 10) (N 0 11) 1 (N 0 13) (va_cpy (C 4) (N 1) (0 : Int32).toNatClampNeg (0 : Int32).toNatClampNeg (24 : Int32).toNatClampNeg) (N 2) (N 3) (N 4) (N 5) (N 6) (N 7) (N 8) (N 9)) [wx_Inquest ct aN aNE (N 0 10) (N 0 11) 1 (N 0 13) (va_cpy (C 4) (N 1) (0 : Int32).toNatClampNeg (0 : Int32).toNatClampNeg (24 : Int32).toNatClampNeg) (N 2) (N 3) (N 4) (N 5) (N 6) (N 7) (N 8) (N 9), w_Effect ct aNE NE, w_Cloth ct aC C] (f := (C 4)) (g := (N 1)) ac1_X2_55 ac2 ac3 ac4 rfl rfl rfl rfl rfl ⟨by decide, by decide⟩ rfl rfl dX2_layOut_25 ?_
    refine im_iconst X 1 dX2_layOut_28 (by decide) ?_
    refine im_istore_n X [1, 2, 0] [(0, .ref (aN 0)), (1, .ref (aC 0)), (2, .int 1)] dX2_layOut_29 rfl (by decide) rfl ?_
    refine i_X2_layOut_30 X F aN aNE aC C  _ (fun N_135 NE_135 => ?_) F (mr (mr N 0 (fu (N 0) 12 1)) 1 (va_cpy (C 4) (N 1) (0 : Int32).toNatClampNeg (0 : Int32).toNatClampNeg (24 : Int32).toNatClampNeg)) NE 1
    refine im_aload_n X 0 dX2_layOut_135 rfl rfl ?_
    refine im_aload_n X 1 dX2_layOut_136 rfl rfl ?_
    refine im_ccvV X [.ref (aC 0)] [] [w_Inquest ct aN aNE N_135, w_Effect ct aNE NE_135, w_Cloth ct aC C] [w_Inquest ct aN aNE N_135, w_Cloth ct aC C] [0, 2] (fun z137 => [w_Inquest ct aN aNE z137, w_Cloth ct aC C]) 0 0 2 rfl rfl rfl cl_X2_81 (c_X2_layExtremes l D ct F aN aNE aC N_135 C) rfl (by decide) (fun _ => lc fa_Inquest (lc rfl (rfl))) rfl ⟨by decide, by decide⟩ (Nat.le_of_ble_eq_true rfl) rfl dX2_layOut_137 (fun z137 => ?_)
    refine im_ws (cat [w_Inquest ct aN aNE z137, w_Effect ct aNE NE_135, w_Cloth ct aC C]) rfl ?_
    refine im_aload_n X 0 dX2_layOut_140 rfl rfl ?_
    refine im_aload_n X 1 dX2_layOut_141 rfl rfl ?_
    refine im_ccvV X [.ref (aC 0)] [] [w_Inquest ct aN aNE z137, w_Effect ct aNE NE_135, w_Cloth ct aC C] [w_Inquest ct aN aNE z137, w_Cloth ct aC C] [0, 2] (fun z142 => [w_Inquest ct aN aNE z142, w_Cloth ct aC C]) 0 0 2 rfl rfl rfl cl_X2_85 (c_X2_findSound l D ct F aN aNE aC z137 C) rfl (by decide) (fun _ => lc fa_Inquest (lc rfl (rfl))) rfl ⟨by decide, by decide⟩ (Nat.le_of_ble_eq_true rfl) rfl dX2_layOut_142 (fun z142 => ?_)
    refine im_ws (cat [w_Inquest ct aN aNE z142, w_Effect ct aNE NE_135, w_Cloth ct aC C]) rfl ?_
    refine im_iconst X 0 dX2_layOut_145 (by decide) ?_
    refine im_istore_n X [1, 2, 0] [(0, .ref (aN 0)), (1, .ref (aC 0)), (2, .int 0)] dX2_layOut_146 rfl (by decide) rfl ?_
    refine i_X2_layOut_147 X F aN aNE aC NE_135 C  _ (fun N_201 => ?_) F z142 0
    exact im_return X (N_201, NE_135) rfl dX2_layOut_201
  · exact im_return X (N, NE) rfl dX2_layOut_7
theorem c_X2_layOut (l : Launch) (D : va_G) (ct : im_ct) (F : Nat) (aN aNE aC : Nat → Nat) (N : Mem) (NE : Mem) (C : Mem) : CMv l D ct yX2_layOut cX2_layOut 4 none 3 [.ref (aN 0), .ref (aC 0)] (cat [w_Inquest ct aN aNE N, w_Effect ct aNE NE, w_Cloth ct aC C]) (f_X2_layOut F N NE C) (fun z : Mem × Mem => (cat [w_Inquest ct aN aNE z.1, w_Effect ct aNE z.2, w_Cloth ct aC C])) :=
  im_met (Qb := fun A => QV D A (fun z : Mem × Mem => (cat [w_Inquest ct aN aNE z.1, w_Effect ct aNE z.2, w_Cloth ct aC C]))) (by decide +kernel) (Nat.le_of_ble_eq_true rfl) (fun p e s m args below meth c A X => i_X2_layOut X F aN aNE aC N NE C)

noncomputable def f_X2_cellsApart_9 (F : Nat) (N : Mem) (NE : Mem) (C : Mem) (k52 : Int32 → Option (Int32 × Mem × Mem)) : Nat → Int32 → Int32 → Option (Int32 × Mem × Mem)
  | 0, _, _ => none
  | n + 1, x2, x3 =>
  (if 24 ≤ x3 then k52 x2 else ck x3 24 (ck (((C 0 8) * 24) + x3) 600 ((if ((C 3) x3.toNatClampNeg) = ((N 1) ((((C 0 8) * 24) + x3)).toNatClampNeg) then f_X2_cellsApart_9 F N NE C k52 n (x2 + 0) (x3 + 1) else f_X2_cellsApart_9 F N NE C k52 n (x2 + 1) (x3 + 1)))))
set_option maxRecDepth 100000 in
set_option maxHeartbeats 4000000 in
theorem i_X2_cellsApart_9 {p : Program} {l : Launch} {e : Env} {s : State} {m : MethodId} {args : Array Value} {below : List Frame} {meth : Method} {c : Code} {D : va_G} {ct : im_ct} {A : Nat → Prop} (X : im_X p (im_rm 4) s m args meth c D ct A RX2 cX2_cellsApart 4 (some .int)) (F : Nat) (aN aNE aC : Nat → Nat) (N : Mem) (NE : Mem) (C : Mem) (k52 : Int32 → Option (Int32 × Mem × Mem)) (hk52 : ∀ (x2 : Int32), Im p l e (im_rm 4) s m args below meth c D A 4 (QI D A (fun z : Int32 × Mem × Mem => z.1) (fun z : Int32 × Mem × Mem => (cat [w_Inquest ct aN aNE z.2.1, w_Effect ct aNE z.2.2, w_Cloth ct aC C]))) 52 [(2, .int x2)] [] (cat [w_Inquest ct aN aNE N, w_Effect ct aNE NE, w_Cloth ct aC C]) (k52 x2)) : ∀ (n : Nat) (x2 : Int32) (x3 : Int32), Im p l e (im_rm 4) s m args below meth c D A 4 (QI D A (fun z : Int32 × Mem × Mem => z.1) (fun z : Int32 × Mem × Mem => (cat [w_Inquest ct aN aNE z.2.1, w_Effect ct aNE z.2.2, w_Cloth ct aC C]))) 9 [(0, .ref (aN 0)), (1, .ref (aC 0)), (2, .int x2), (3, .int x3)] [] (cat [w_Inquest ct aN aNE N, w_Effect ct aNE NE, w_Cloth ct aC C]) (f_X2_cellsApart_9 F N NE C k52 n x2 x3) := by
  intro n
  induction n with
  | zero => intros; exact im_none
  | succ n ih =>
    intro x2 x3
    unfold f_X2_cellsApart_9
    refine im_iload_n X 3 dX2_cellsApart_9 rfl rfl ?_
    refine im_bipush X 24 dX2_cellsApart_10 (by decide) ?_
    refine im_icmp_ge (tgt := 52) X dX2_cellsApart_12 rfl ?_ ?_
    · refine im_lv [2] [(2, .int x2)] rfl ?_
      exact hk52 x2
    · refine im_iload_n X 2 dX2_cellsApart_15 rfl rfl ?_
      refine im_aload_n X 1 dX2_cellsApart_16 rfl rfl ?_
      refine im_cget X 2 0 (v := .ref (aC 3)) fl_X2_124 rfl rfl rfl dX2_cellsApart_17 ?_
      refine im_iload_n X 3 dX2_cellsApart_20 rfl rfl ?_
      refine im_ciald X 2 3 0 (f := (C 3)) rfl rfl rfl dX2_cellsApart_21 ?_
      refine im_aload_n X 0 dX2_cellsApart_22 rfl rfl ?_
      refine im_cget X 0 0 (v := .ref (aN 1)) fl_X2_11 rfl rfl rfl dX2_cellsApart_23 ?_
      refine im_aload_n X 1 dX2_cellsApart_26 rfl rfl ?_
      refine im_cget X 2 0 (v := .int (C 0 8)) fl_X2_61 rfl rfl rfl dX2_cellsApart_27 ?_
      refine im_bipush X 24 dX2_cellsApart_30 (by decide) ?_
      refine im_imul X dX2_cellsApart_32 ?_
      refine im_iload_n X 3 dX2_cellsApart_33 rfl rfl ?_
      refine im_iadd X dX2_cellsApart_34 ?_
      refine im_ciald X 0 1 0 (f := (N 1)) rfl rfl rfl dX2_cellsApart_35 ?_
      refine im_icmp_eq (tgt := 43) X dX2_cellsApart_36 rfl ?_ ?_
      · refine im_iconst X 0 dX2_cellsApart_43 (by decide) ?_
        refine im_iadd X dX2_cellsApart_44 ?_
        refine im_istore_n X [1, 2, 0, 3] [(0, .ref (aN 0)), (1, .ref (aC 0)), (2, .int (x2 + 0)), (3, .int x3)] dX2_cellsApart_45 rfl (by decide) rfl ?_
        refine im_iinc X 3 1 [1, 2, 3, 0] [(0, .ref (aN 0)), (1, .ref (aC 0)), (2, .int (x2 + 0)), (3, .int (x3 + 1))] dX2_cellsApart_46 (by decide) rfl (by decide) rfl ?_
        refine im_goto (tgt := 9) X dX2_cellsApart_49 rfl ?_
        exact ih (x2 + 0) (x3 + 1)
      · refine im_iconst X 1 dX2_cellsApart_39 (by decide) ?_
        refine im_goto (tgt := 44) X dX2_cellsApart_40 rfl ?_
        refine im_iadd X dX2_cellsApart_44 ?_
        refine im_istore_n X [1, 2, 0, 3] [(0, .ref (aN 0)), (1, .ref (aC 0)), (2, .int (x2 + 1)), (3, .int x3)] dX2_cellsApart_45 rfl (by decide) rfl ?_
        refine im_iinc X 3 1 [1, 2, 3, 0] [(0, .ref (aN 0)), (1, .ref (aC 0)), (2, .int (x2 + 1)), (3, .int (x3 + 1))] dX2_cellsApart_46 (by decide) rfl (by decide) rfl ?_
        refine im_goto (tgt := 9) X dX2_cellsApart_49 rfl ?_
        exact ih (x2 + 1) (x3 + 1)
noncomputable def f_X2_cellsApart (F : Nat) (N : Mem) (NE : Mem) (C : Mem) : Option (Int32 × Mem × Mem) :=
  (f_X2_layOut F N NE C).bind (fun z2 => f_X2_cellsApart_9 F z2.1 z2.2 C (fun x2_52 => (some (x2_52, z2.1, z2.2))) F 0 0)
set_option maxRecDepth 100000 in
set_option maxHeartbeats 4000000 in
theorem i_X2_cellsApart {p : Program} {l : Launch} {e : Env} {s : State} {m : MethodId} {args : Array Value} {below : List Frame} {meth : Method} {c : Code} {D : va_G} {ct : im_ct} {A : Nat → Prop} (X : im_X p (im_rm 4) s m args meth c D ct A RX2 cX2_cellsApart 4 (some .int)) (F : Nat) (aN aNE aC : Nat → Nat) (N : Mem) (NE : Mem) (C : Mem) : Im p l e (im_rm 4) s m args below meth c D A 4 (QI D A (fun z : Int32 × Mem × Mem => z.1) (fun z : Int32 × Mem × Mem => (cat [w_Inquest ct aN aNE z.2.1, w_Effect ct aNE z.2.2, w_Cloth ct aC C]))) 0 [(0, .ref (aN 0)), (1, .ref (aC 0))] [] (cat [w_Inquest ct aN aNE N, w_Effect ct aNE NE, w_Cloth ct aC C]) (f_X2_cellsApart F N NE C) := by
  unfold f_X2_cellsApart
  refine im_aload_n X 0 dX2_cellsApart_0 rfl rfl ?_
  refine im_aload_n X 1 dX2_cellsApart_1 rfl rfl ?_
  refine im_ccvV X [.ref (aC 0)] [] [w_Inquest ct aN aNE N, w_Effect ct aNE NE, w_Cloth ct aC C] [w_Inquest ct aN aNE N, w_Effect ct aNE NE, w_Cloth ct aC C] [0, 1, 2] (fun z2 => [w_Inquest ct aN aNE z2.1, w_Effect ct aNE z2.2, w_Cloth ct aC C]) 0 0 2 rfl rfl rfl cl_X2_121 (c_X2_layOut l D ct F aN aNE aC N NE C) rfl (by decide) (fun _ => lc fa_Inquest (lc fa_Effect (lc rfl (rfl)))) rfl ⟨by decide, by decide⟩ (Nat.le_of_ble_eq_true rfl) rfl dX2_cellsApart_2 (fun z2 => ?_)
  refine im_ws (cat [w_Inquest ct aN aNE z2.1, w_Effect ct aNE z2.2, w_Cloth ct aC C]) rfl ?_
  refine im_iconst X 0 dX2_cellsApart_5 (by decide) ?_
  refine im_istore_n X [1, 2, 0] [(0, .ref (aN 0)), (1, .ref (aC 0)), (2, .int 0)] dX2_cellsApart_6 rfl (by decide) rfl ?_
  refine im_iconst X 0 dX2_cellsApart_7 (by decide) ?_
  refine im_istore_n X [1, 2, 3, 0] [(0, .ref (aN 0)), (1, .ref (aC 0)), (2, .int 0), (3, .int 0)] dX2_cellsApart_8 rfl (by decide) rfl ?_
  refine i_X2_cellsApart_9 X F aN aNE aC z2.1 z2.2 C  _ (fun x2_52 => ?_) F 0 0
  refine im_iload_n X 0 dX2_cellsApart_52 rfl rfl ?_
  exact im_ireturn X (x2_52, z2.1, z2.2) rfl rfl dX2_cellsApart_53
theorem c_X2_cellsApart (l : Launch) (D : va_G) (ct : im_ct) (F : Nat) (aN aNE aC : Nat → Nat) (N : Mem) (NE : Mem) (C : Mem) : CMi l D ct yX2_cellsApart cX2_cellsApart 4 (some .int) 4 [.ref (aN 0), .ref (aC 0)] (cat [w_Inquest ct aN aNE N, w_Effect ct aNE NE, w_Cloth ct aC C]) (f_X2_cellsApart F N NE C) (fun z : Int32 × Mem × Mem => z.1) (fun z : Int32 × Mem × Mem => (cat [w_Inquest ct aN aNE z.2.1, w_Effect ct aNE z.2.2, w_Cloth ct aC C])) :=
  im_met (Qb := fun A => QI D A (fun z : Int32 × Mem × Mem => z.1) (fun z : Int32 × Mem × Mem => (cat [w_Inquest ct aN aNE z.2.1, w_Effect ct aNE z.2.2, w_Cloth ct aC C]))) (by decide +kernel) (Nat.le_of_ble_eq_true rfl) (fun p e s m args below meth c A X => i_X2_cellsApart X F aN aNE aC N NE C)

noncomputable def f_X2_firstWrong_7 (F : Nat) (N : Mem) (NE : Mem) (C : Mem) (k24 : Int32 → Option (Int32 × Mem × Mem)) (k32 : Option (Int32 × Mem × Mem)) : Nat → Int32 → Option (Int32 × Mem × Mem)
  | 0, _ => none
  | n + 1, x2 =>
  (if (C 0 9) ≤ x2 then k32 else ck x2 12 ((if ((N 5) x2.toNatClampNeg) = 0 then f_X2_firstWrong_7 F N NE C k24 k32 n (x2 + 1) else k24 x2)))
set_option maxRecDepth 100000 in
set_option maxHeartbeats 4000000 in
theorem i_X2_firstWrong_7 {p : Program} {l : Launch} {e : Env} {s : State} {m : MethodId} {args : Array Value} {below : List Frame} {meth : Method} {c : Code} {D : va_G} {ct : im_ct} {A : Nat → Prop} (X : im_X p (im_rm 4) s m args meth c D ct A RX2 cX2_firstWrong 3 (some .int)) (F : Nat) (aN aNE aC : Nat → Nat) (N : Mem) (NE : Mem) (C : Mem) (k24 : Int32 → Option (Int32 × Mem × Mem)) (hk24 : ∀ (x2 : Int32), Im p l e (im_rm 4) s m args below meth c D A 3 (QI D A (fun z : Int32 × Mem × Mem => z.1) (fun z : Int32 × Mem × Mem => (cat [w_Inquest ct aN aNE z.2.1, w_Effect ct aNE z.2.2, w_Cloth ct aC C]))) 24 [(2, .int x2)] [] (cat [w_Inquest ct aN aNE N, w_Effect ct aNE NE, w_Cloth ct aC C]) (k24 x2)) (k32 : Option (Int32 × Mem × Mem)) (hk32 : Im p l e (im_rm 4) s m args below meth c D A 3 (QI D A (fun z : Int32 × Mem × Mem => z.1) (fun z : Int32 × Mem × Mem => (cat [w_Inquest ct aN aNE z.2.1, w_Effect ct aNE z.2.2, w_Cloth ct aC C]))) 32 [] [] (cat [w_Inquest ct aN aNE N, w_Effect ct aNE NE, w_Cloth ct aC C]) (k32)) : ∀ (n : Nat) (x2 : Int32), Im p l e (im_rm 4) s m args below meth c D A 3 (QI D A (fun z : Int32 × Mem × Mem => z.1) (fun z : Int32 × Mem × Mem => (cat [w_Inquest ct aN aNE z.2.1, w_Effect ct aNE z.2.2, w_Cloth ct aC C]))) 7 [(0, .ref (aN 0)), (1, .ref (aC 0)), (2, .int x2)] [] (cat [w_Inquest ct aN aNE N, w_Effect ct aNE NE, w_Cloth ct aC C]) (f_X2_firstWrong_7 F N NE C k24 k32 n x2) := by
  intro n
  induction n with
  | zero => intros; exact im_none
  | succ n ih =>
    intro x2
    unfold f_X2_firstWrong_7
    refine im_iload_n X 2 dX2_firstWrong_7 rfl rfl ?_
    refine im_aload_n X 1 dX2_firstWrong_8 rfl rfl ?_
    refine im_cget X 2 0 (v := .int (C 0 9)) fl_X2_88 rfl rfl rfl dX2_firstWrong_9 ?_
    refine im_icmp_ge (tgt := 32) X dX2_firstWrong_12 rfl ?_ ?_
    · refine im_lv [] [] rfl ?_
      exact hk32
    · refine im_aload_n X 0 dX2_firstWrong_15 rfl rfl ?_
      refine im_cget X 0 0 (v := .ref (aN 5)) fl_X2_24 rfl rfl rfl dX2_firstWrong_16 ?_
      refine im_iload_n X 2 dX2_firstWrong_19 rfl rfl ?_
      refine im_ciald X 0 5 0 (f := (N 5)) rfl rfl rfl dX2_firstWrong_20 ?_
      refine im_if_eq (tgt := 26) X dX2_firstWrong_21 rfl ?_ ?_
      · refine im_iinc X 2 1 [1, 2, 0] [(0, .ref (aN 0)), (1, .ref (aC 0)), (2, .int (x2 + 1))] dX2_firstWrong_26 (by decide) rfl (by decide) rfl ?_
        refine im_goto (tgt := 7) X dX2_firstWrong_29 rfl ?_
        exact ih (x2 + 1)
      · refine im_lv [2] [(2, .int x2)] rfl ?_
        exact hk24 x2
noncomputable def f_X2_firstWrong (F : Nat) (N : Mem) (NE : Mem) (C : Mem) : Option (Int32 × Mem × Mem) :=
  (f_X2_layOut F N NE C).bind (fun z2 => f_X2_firstWrong_7 F z2.1 z2.2 C (fun x2_24 => (some (x2_24, z2.1, z2.2))) ((some ((-2), z2.1, z2.2))) F 0)
set_option maxRecDepth 100000 in
set_option maxHeartbeats 4000000 in
theorem i_X2_firstWrong {p : Program} {l : Launch} {e : Env} {s : State} {m : MethodId} {args : Array Value} {below : List Frame} {meth : Method} {c : Code} {D : va_G} {ct : im_ct} {A : Nat → Prop} (X : im_X p (im_rm 4) s m args meth c D ct A RX2 cX2_firstWrong 3 (some .int)) (F : Nat) (aN aNE aC : Nat → Nat) (N : Mem) (NE : Mem) (C : Mem) : Im p l e (im_rm 4) s m args below meth c D A 3 (QI D A (fun z : Int32 × Mem × Mem => z.1) (fun z : Int32 × Mem × Mem => (cat [w_Inquest ct aN aNE z.2.1, w_Effect ct aNE z.2.2, w_Cloth ct aC C]))) 0 [(0, .ref (aN 0)), (1, .ref (aC 0))] [] (cat [w_Inquest ct aN aNE N, w_Effect ct aNE NE, w_Cloth ct aC C]) (f_X2_firstWrong F N NE C) := by
  unfold f_X2_firstWrong
  refine im_aload_n X 0 dX2_firstWrong_0 rfl rfl ?_
  refine im_aload_n X 1 dX2_firstWrong_1 rfl rfl ?_
  refine im_ccvV X [.ref (aC 0)] [] [w_Inquest ct aN aNE N, w_Effect ct aNE NE, w_Cloth ct aC C] [w_Inquest ct aN aNE N, w_Effect ct aNE NE, w_Cloth ct aC C] [0, 1, 2] (fun z2 => [w_Inquest ct aN aNE z2.1, w_Effect ct aNE z2.2, w_Cloth ct aC C]) 0 0 2 rfl rfl rfl cl_X2_121 (c_X2_layOut l D ct F aN aNE aC N NE C) rfl (by decide) (fun _ => lc fa_Inquest (lc fa_Effect (lc rfl (rfl)))) rfl ⟨by decide, by decide⟩ (Nat.le_of_ble_eq_true rfl) rfl dX2_firstWrong_2 (fun z2 => ?_)
  refine im_ws (cat [w_Inquest ct aN aNE z2.1, w_Effect ct aNE z2.2, w_Cloth ct aC C]) rfl ?_
  refine im_iconst X 0 dX2_firstWrong_5 (by decide) ?_
  refine im_istore_n X [1, 2, 0] [(0, .ref (aN 0)), (1, .ref (aC 0)), (2, .int 0)] dX2_firstWrong_6 rfl (by decide) rfl ?_
  refine i_X2_firstWrong_7 X F aN aNE aC z2.1 z2.2 C  _ (fun x2_24 => ?_) _ ?_ F 0
  · refine im_iload_n X 0 dX2_firstWrong_24 rfl rfl ?_
    exact im_ireturn X (x2_24, z2.1, z2.2) rfl rfl dX2_firstWrong_25
  · refine im_bipush X (-2) dX2_firstWrong_32 (by decide) ?_
    exact im_ireturn X ((-2), z2.1, z2.2) rfl rfl dX2_firstWrong_34
theorem c_X2_firstWrong (l : Launch) (D : va_G) (ct : im_ct) (F : Nat) (aN aNE aC : Nat → Nat) (N : Mem) (NE : Mem) (C : Mem) : CMi l D ct yX2_firstWrong cX2_firstWrong 3 (some .int) 4 [.ref (aN 0), .ref (aC 0)] (cat [w_Inquest ct aN aNE N, w_Effect ct aNE NE, w_Cloth ct aC C]) (f_X2_firstWrong F N NE C) (fun z : Int32 × Mem × Mem => z.1) (fun z : Int32 × Mem × Mem => (cat [w_Inquest ct aN aNE z.2.1, w_Effect ct aNE z.2.2, w_Cloth ct aC C])) :=
  im_met (Qb := fun A => QI D A (fun z : Int32 × Mem × Mem => z.1) (fun z : Int32 × Mem × Mem => (cat [w_Inquest ct aN aNE z.2.1, w_Effect ct aNE z.2.2, w_Cloth ct aC C]))) (by decide +kernel) (Nat.le_of_ble_eq_true rfl) (fun p e s m args below meth c A X => i_X2_firstWrong X F aN aNE aC N NE C)

noncomputable def f_X2_sumBehind_22 (F : Nat) (N : Mem) (NE : Mem) (C : Mem) (x2 : Int32) (x4 : Int32) (k66 : Int32 → Option (Int32 × Mem × Mem)) : Nat → Int32 → Int32 → Option (Int32 × Mem × Mem)
  | 0, _, _ => none
  | n + 1, x3, x5 =>
  (if (C 0 6) ≤ x5 then k66 x3 else ck (((x2 * 24) + (x4 * 6)) + x5) 600 (ck x5 6 (f_X2_sumBehind_22 F N NE C x2 x4 k66 n (x3 + (((N 1) ((((x2 * 24) + (x4 * 6)) + x5)).toNatClampNeg) * ((C 2) x5.toNatClampNeg))) (x5 + 1))))
set_option maxRecDepth 100000 in
set_option maxHeartbeats 4000000 in
theorem i_X2_sumBehind_22 {p : Program} {l : Launch} {e : Env} {s : State} {m : MethodId} {args : Array Value} {below : List Frame} {meth : Method} {c : Code} {D : va_G} {ct : im_ct} {A : Nat → Prop} (X : im_X p (im_rm 4) s m args meth c D ct A RX2 cX2_sumBehind 6 (some .int)) (F : Nat) (aN aNE aC : Nat → Nat) (N : Mem) (NE : Mem) (C : Mem) (x2 : Int32) (x4 : Int32) (k66 : Int32 → Option (Int32 × Mem × Mem)) (hk66 : ∀ (x3 : Int32), Im p l e (im_rm 4) s m args below meth c D A 6 (QI D A (fun z : Int32 × Mem × Mem => z.1) (fun z : Int32 × Mem × Mem => (cat [w_Inquest ct aN aNE z.2.1, w_Effect ct aNE z.2.2, w_Cloth ct aC C]))) 66 [(0, .ref (aN 0)), (1, .ref (aC 0)), (2, .int x2), (3, .int x3), (4, .int x4)] [] (cat [w_Inquest ct aN aNE N, w_Effect ct aNE NE, w_Cloth ct aC C]) (k66 x3)) : ∀ (n : Nat) (x3 : Int32) (x5 : Int32), Im p l e (im_rm 4) s m args below meth c D A 6 (QI D A (fun z : Int32 × Mem × Mem => z.1) (fun z : Int32 × Mem × Mem => (cat [w_Inquest ct aN aNE z.2.1, w_Effect ct aNE z.2.2, w_Cloth ct aC C]))) 22 [(0, .ref (aN 0)), (1, .ref (aC 0)), (2, .int x2), (3, .int x3), (4, .int x4), (5, .int x5)] [] (cat [w_Inquest ct aN aNE N, w_Effect ct aNE NE, w_Cloth ct aC C]) (f_X2_sumBehind_22 F N NE C x2 x4 k66 n x3 x5) := by
  intro n
  induction n with
  | zero => intros; exact im_none
  | succ n ih =>
    intro x3 x5
    unfold f_X2_sumBehind_22
    refine im_iload X 5 dX2_sumBehind_22 rfl ?_
    refine im_aload_n X 1 dX2_sumBehind_24 rfl rfl ?_
    refine im_cget X 2 0 (v := .int (C 0 6)) fl_X2_126 rfl rfl rfl dX2_sumBehind_25 ?_
    refine im_icmp_ge (tgt := 66) X dX2_sumBehind_28 rfl ?_ ?_
    · refine im_lv [0, 1, 2, 3, 4] [(0, .ref (aN 0)), (1, .ref (aC 0)), (2, .int x2), (3, .int x3), (4, .int x4)] rfl ?_
      exact hk66 x3
    · refine im_iload_n X 3 dX2_sumBehind_31 rfl rfl ?_
      refine im_aload_n X 0 dX2_sumBehind_32 rfl rfl ?_
      refine im_cget X 0 0 (v := .ref (aN 1)) fl_X2_11 rfl rfl rfl dX2_sumBehind_33 ?_
      refine im_iload_n X 2 dX2_sumBehind_36 rfl rfl ?_
      refine im_bipush X 24 dX2_sumBehind_37 (by decide) ?_
      refine im_imul X dX2_sumBehind_39 ?_
      refine im_iload X 4 dX2_sumBehind_40 rfl ?_
      refine im_bipush X 6 dX2_sumBehind_42 (by decide) ?_
      refine im_imul X dX2_sumBehind_44 ?_
      refine im_iadd X dX2_sumBehind_45 ?_
      refine im_iload X 5 dX2_sumBehind_46 rfl ?_
      refine im_iadd X dX2_sumBehind_48 ?_
      refine im_ciald X 0 1 0 (f := (N 1)) rfl rfl rfl dX2_sumBehind_49 ?_
      refine im_aload_n X 1 dX2_sumBehind_50 rfl rfl ?_
      refine im_cget X 2 0 (v := .ref (aC 2)) fl_X2_129 rfl rfl rfl dX2_sumBehind_51 ?_
      refine im_iload X 5 dX2_sumBehind_54 rfl ?_
      refine im_ciald X 2 2 0 (f := (C 2)) rfl rfl rfl dX2_sumBehind_56 ?_
      refine im_imul X dX2_sumBehind_57 ?_
      refine im_iadd X dX2_sumBehind_58 ?_
      refine im_istore_n X [1, 2, 3, 0, 4, 5] [(0, .ref (aN 0)), (1, .ref (aC 0)), (2, .int x2), (3, .int (x3 + (((N 1) ((((x2 * 24) + (x4 * 6)) + x5)).toNatClampNeg) * ((C 2) x5.toNatClampNeg)))), (4, .int x4), (5, .int x5)] dX2_sumBehind_59 rfl (by decide) rfl ?_
      refine im_iinc X 5 1 [1, 2, 3, 4, 5, 0] [(0, .ref (aN 0)), (1, .ref (aC 0)), (2, .int x2), (3, .int (x3 + (((N 1) ((((x2 * 24) + (x4 * 6)) + x5)).toNatClampNeg) * ((C 2) x5.toNatClampNeg)))), (4, .int x4), (5, .int (x5 + 1))] dX2_sumBehind_60 (by decide) rfl (by decide) rfl ?_
      refine im_goto (tgt := 22) X dX2_sumBehind_63 rfl ?_
      exact ih (x3 + (((N 1) ((((x2 * 24) + (x4 * 6)) + x5)).toNatClampNeg) * ((C 2) x5.toNatClampNeg))) (x5 + 1)
noncomputable def f_X2_sumBehind_10 (F : Nat) (N : Mem) (NE : Mem) (C : Mem) (x2 : Int32) (k72 : Int32 → Option (Int32 × Mem × Mem)) : Nat → Int32 → Int32 → Option (Int32 × Mem × Mem)
  | 0, _, _ => none
  | n + 1, x3, x4 =>
  (if (C 0 7) ≤ x4 then k72 x3 else f_X2_sumBehind_22 F N NE C x2 x4 (fun x3_66 => f_X2_sumBehind_10 F N NE C x2 k72 n x3_66 (x4 + 1)) F x3 0)
set_option maxRecDepth 100000 in
set_option maxHeartbeats 4000000 in
theorem i_X2_sumBehind_10 {p : Program} {l : Launch} {e : Env} {s : State} {m : MethodId} {args : Array Value} {below : List Frame} {meth : Method} {c : Code} {D : va_G} {ct : im_ct} {A : Nat → Prop} (X : im_X p (im_rm 4) s m args meth c D ct A RX2 cX2_sumBehind 6 (some .int)) (F : Nat) (aN aNE aC : Nat → Nat) (N : Mem) (NE : Mem) (C : Mem) (x2 : Int32) (k72 : Int32 → Option (Int32 × Mem × Mem)) (hk72 : ∀ (x3 : Int32), Im p l e (im_rm 4) s m args below meth c D A 6 (QI D A (fun z : Int32 × Mem × Mem => z.1) (fun z : Int32 × Mem × Mem => (cat [w_Inquest ct aN aNE z.2.1, w_Effect ct aNE z.2.2, w_Cloth ct aC C]))) 72 [(3, .int x3)] [] (cat [w_Inquest ct aN aNE N, w_Effect ct aNE NE, w_Cloth ct aC C]) (k72 x3)) : ∀ (n : Nat) (x3 : Int32) (x4 : Int32), Im p l e (im_rm 4) s m args below meth c D A 6 (QI D A (fun z : Int32 × Mem × Mem => z.1) (fun z : Int32 × Mem × Mem => (cat [w_Inquest ct aN aNE z.2.1, w_Effect ct aNE z.2.2, w_Cloth ct aC C]))) 10 [(0, .ref (aN 0)), (1, .ref (aC 0)), (2, .int x2), (3, .int x3), (4, .int x4)] [] (cat [w_Inquest ct aN aNE N, w_Effect ct aNE NE, w_Cloth ct aC C]) (f_X2_sumBehind_10 F N NE C x2 k72 n x3 x4) := by
  intro n
  induction n with
  | zero => intros; exact im_none
  | succ n ih =>
    intro x3 x4
    unfold f_X2_sumBehind_10
    refine im_iload X 4 dX2_sumBehind_10 rfl ?_
    refine im_aload_n X 1 dX2_sumBehind_12 rfl rfl ?_
    refine im_cget X 2 0 (v := .int (C 0 7)) fl_X2_98 rfl rfl rfl dX2_sumBehind_13 ?_
    refine im_icmp_ge (tgt := 72) X dX2_sumBehind_16 rfl ?_ ?_
    · refine im_lv [3] [(3, .int x3)] rfl ?_
      exact hk72 x3
    · refine im_iconst X 0 dX2_sumBehind_19 (by decide) ?_
      refine im_istore X [1, 2, 3, 4, 5, 0] [(0, .ref (aN 0)), (1, .ref (aC 0)), (2, .int x2), (3, .int x3), (4, .int x4), (5, .int 0)] dX2_sumBehind_20 (by decide) rfl ?_
      refine i_X2_sumBehind_22 X F aN aNE aC N NE C x2 x4 _ (fun x3_66 => ?_) F x3 0
      refine im_iinc X 4 1 [1, 2, 3, 4, 0] [(0, .ref (aN 0)), (1, .ref (aC 0)), (2, .int x2), (3, .int x3_66), (4, .int (x4 + 1))] dX2_sumBehind_66 (by decide) rfl (by decide) rfl ?_
      refine im_goto (tgt := 10) X dX2_sumBehind_69 rfl ?_
      exact ih x3_66 (x4 + 1)
noncomputable def f_X2_sumBehind (F : Nat) (N : Mem) (NE : Mem) (C : Mem) (x2 : Int32) : Option (Int32 × Mem × Mem) :=
  (f_X2_layOut F N NE C).bind (fun z2 => f_X2_sumBehind_10 F z2.1 z2.2 C x2 (fun x3_72 => (some (x3_72, z2.1, z2.2))) F 0 0)
set_option maxRecDepth 100000 in
set_option maxHeartbeats 4000000 in
theorem i_X2_sumBehind {p : Program} {l : Launch} {e : Env} {s : State} {m : MethodId} {args : Array Value} {below : List Frame} {meth : Method} {c : Code} {D : va_G} {ct : im_ct} {A : Nat → Prop} (X : im_X p (im_rm 4) s m args meth c D ct A RX2 cX2_sumBehind 6 (some .int)) (F : Nat) (aN aNE aC : Nat → Nat) (N : Mem) (NE : Mem) (C : Mem) (x2 : Int32) : Im p l e (im_rm 4) s m args below meth c D A 6 (QI D A (fun z : Int32 × Mem × Mem => z.1) (fun z : Int32 × Mem × Mem => (cat [w_Inquest ct aN aNE z.2.1, w_Effect ct aNE z.2.2, w_Cloth ct aC C]))) 0 [(0, .ref (aN 0)), (1, .ref (aC 0)), (2, .int x2)] [] (cat [w_Inquest ct aN aNE N, w_Effect ct aNE NE, w_Cloth ct aC C]) (f_X2_sumBehind F N NE C x2) := by
  unfold f_X2_sumBehind
  refine im_aload_n X 0 dX2_sumBehind_0 rfl rfl ?_
  refine im_aload_n X 1 dX2_sumBehind_1 rfl rfl ?_
  refine im_ccvV X [.ref (aC 0)] [] [w_Inquest ct aN aNE N, w_Effect ct aNE NE, w_Cloth ct aC C] [w_Inquest ct aN aNE N, w_Effect ct aNE NE, w_Cloth ct aC C] [0, 1, 2] (fun z2 => [w_Inquest ct aN aNE z2.1, w_Effect ct aNE z2.2, w_Cloth ct aC C]) 0 0 2 rfl rfl rfl cl_X2_121 (c_X2_layOut l D ct F aN aNE aC N NE C) rfl (by decide) (fun _ => lc fa_Inquest (lc fa_Effect (lc rfl (rfl)))) rfl ⟨by decide, by decide⟩ (Nat.le_of_ble_eq_true rfl) rfl dX2_sumBehind_2 (fun z2 => ?_)
  refine im_ws (cat [w_Inquest ct aN aNE z2.1, w_Effect ct aNE z2.2, w_Cloth ct aC C]) rfl ?_
  refine im_iconst X 0 dX2_sumBehind_5 (by decide) ?_
  refine im_istore_n X [1, 2, 3, 0] [(0, .ref (aN 0)), (1, .ref (aC 0)), (2, .int x2), (3, .int 0)] dX2_sumBehind_6 rfl (by decide) rfl ?_
  refine im_iconst X 0 dX2_sumBehind_7 (by decide) ?_
  refine im_istore X [1, 2, 3, 4, 0] [(0, .ref (aN 0)), (1, .ref (aC 0)), (2, .int x2), (3, .int 0), (4, .int 0)] dX2_sumBehind_8 (by decide) rfl ?_
  refine i_X2_sumBehind_10 X F aN aNE aC z2.1 z2.2 C x2 _ (fun x3_72 => ?_) F 0 0
  refine im_iload_n X 0 dX2_sumBehind_72 rfl rfl ?_
  exact im_ireturn X (x3_72, z2.1, z2.2) rfl rfl dX2_sumBehind_73
theorem c_X2_sumBehind (l : Launch) (D : va_G) (ct : im_ct) (F : Nat) (aN aNE aC : Nat → Nat) (N : Mem) (NE : Mem) (C : Mem) (x2 : Int32) : CMi l D ct yX2_sumBehind cX2_sumBehind 6 (some .int) 4 [.ref (aN 0), .ref (aC 0), .int x2] (cat [w_Inquest ct aN aNE N, w_Effect ct aNE NE, w_Cloth ct aC C]) (f_X2_sumBehind F N NE C x2) (fun z : Int32 × Mem × Mem => z.1) (fun z : Int32 × Mem × Mem => (cat [w_Inquest ct aN aNE z.2.1, w_Effect ct aNE z.2.2, w_Cloth ct aC C])) :=
  im_met (Qb := fun A => QI D A (fun z : Int32 × Mem × Mem => z.1) (fun z : Int32 × Mem × Mem => (cat [w_Inquest ct aN aNE z.2.1, w_Effect ct aNE z.2.2, w_Cloth ct aC C]))) (by decide +kernel) (Nat.le_of_ble_eq_true rfl) (fun p e s m args below meth c A X => i_X2_sumBehind X F aN aNE aC N NE C x2)

noncomputable def f_X2_fits (F : Nat) (N : Mem) (x1 : Int32) (x2 : Int32) : Option (Int32) :=
  ck x1 600 ((if (((N 2) x1.toNatClampNeg) + x2) < 0 then (some 0) else ck x1 600 ((if 99 < (((N 3) x1.toNatClampNeg) + x2) then (some 0) else (some 1)))))
set_option maxRecDepth 100000 in
set_option maxHeartbeats 4000000 in
theorem i_X2_fits {p : Program} {l : Launch} {e : Env} {s : State} {m : MethodId} {args : Array Value} {below : List Frame} {meth : Method} {c : Code} {D : va_G} {ct : im_ct} {A : Nat → Prop} (X : im_X p (im_rm 0) s m args meth c D ct A RX2 cX2_fits 3 (some .boolean)) (F : Nat) (aN aNE : Nat → Nat) (N : Mem) (x1 : Int32) (x2 : Int32) : Im p l e (im_rm 0) s m args below meth c D A 3 (QI D A (fun z : Int32 => z) (fun z : Int32 => (cat [w_Inquest ct aN aNE N]))) 0 [(0, .ref (aN 0)), (1, .int x1), (2, .int x2)] [] (cat [w_Inquest ct aN aNE N]) (f_X2_fits F N x1 x2) := by
  unfold f_X2_fits
  refine im_aload_n X 0 dX2_fits_0 rfl rfl ?_
  refine im_cget X 0 0 (v := .ref (aN 2)) fl_X2_15 rfl rfl rfl dX2_fits_1 ?_
  refine im_iload_n X 1 dX2_fits_4 rfl rfl ?_
  refine im_ciald X 0 2 0 (f := (N 2)) rfl rfl rfl dX2_fits_5 ?_
  refine im_iload_n X 2 dX2_fits_6 rfl rfl ?_
  refine im_iadd X dX2_fits_7 ?_
  refine im_if_lt (tgt := 28) X dX2_fits_8 rfl ?_ ?_
  · refine im_iconst X 0 dX2_fits_28 (by decide) ?_
    exact im_zreturn X 0 rfl rfl rfl dX2_fits_29
  · refine im_aload_n X 0 dX2_fits_11 rfl rfl ?_
    refine im_cget X 0 0 (v := .ref (aN 3)) fl_X2_18 rfl rfl rfl dX2_fits_12 ?_
    refine im_iload_n X 1 dX2_fits_15 rfl rfl ?_
    refine im_ciald X 0 3 0 (f := (N 3)) rfl rfl rfl dX2_fits_16 ?_
    refine im_iload_n X 2 dX2_fits_17 rfl rfl ?_
    refine im_iadd X dX2_fits_18 ?_
    refine im_bipush X 99 dX2_fits_19 (by decide) ?_
    refine im_icmp_gt (tgt := 28) X dX2_fits_21 rfl ?_ ?_
    · refine im_iconst X 0 dX2_fits_28 (by decide) ?_
      exact im_zreturn X 0 rfl rfl rfl dX2_fits_29
    · refine im_iconst X 1 dX2_fits_24 (by decide) ?_
      refine im_goto (tgt := 29) X dX2_fits_25 rfl ?_
      exact im_zreturn X 1 rfl rfl rfl dX2_fits_29
theorem c_X2_fits (l : Launch) (D : va_G) (ct : im_ct) (F : Nat) (aN aNE : Nat → Nat) (N : Mem) (x1 : Int32) (x2 : Int32) : CMi l D ct yX2_fits cX2_fits 3 (some .boolean) 0 [.ref (aN 0), .int x1, .int x2] (cat [w_Inquest ct aN aNE N]) (f_X2_fits F N x1 x2) (fun z : Int32 => z) (fun z : Int32 => (cat [w_Inquest ct aN aNE N])) :=
  im_met (Qb := fun A => QI D A (fun z : Int32 => z) (fun z : Int32 => (cat [w_Inquest ct aN aNE N]))) (by decide +kernel) (Nat.le_of_ble_eq_true rfl) (fun p e s m args below meth c A X => i_X2_fits X F aN aNE N x1 x2)

noncomputable def f_X2_staysInBounds_68 (F : Nat) (N : Mem) (NE : Mem) (x2 : Int32) (x3 : Int32) (s0 : Int32) (s1 : Int32) : Option (Int32) :=
  (if (s0 - s1) = 0 then (f_X1_changeOf F NE (NE 0 0)).bind (fun z89 => (f_X2_fits F N x2 z89).bind (fun z92 => (if z92 = 0 then (some 0) else (f_X1_changeOf F NE (NE 0 2)).bind (fun z111 => (f_X2_fits F N x3 z111).bind (fun z114 => (if z114 = 0 then (some 0) else (some 1))))))) else (some 0))
set_option maxRecDepth 100000 in
set_option maxHeartbeats 4000000 in
theorem i_X2_staysInBounds_68 {p : Program} {l : Launch} {e : Env} {s : State} {m : MethodId} {args : Array Value} {below : List Frame} {meth : Method} {c : Code} {D : va_G} {ct : im_ct} {A : Nat → Prop} (X : im_X p (im_rm 1) s m args meth c D ct A RX2 cX2_staysInBounds 5 (some .boolean)) (F : Nat) (aN aNE : Nat → Nat) (N : Mem) (NE : Mem) (x2 : Int32) (x3 : Int32) (s0 : Int32) (s1 : Int32) : Im p l e (im_rm 1) s m args below meth c D A 5 (QI D A (fun z : Int32 => z) (fun z : Int32 => (cat [w_Inquest ct aN aNE N, w_Effect ct aNE NE]))) 68 [(0, .ref (aN 0)), (2, .int x2), (3, .int x3)] [.int s1, .int s0] (cat [w_Inquest ct aN aNE N, w_Effect ct aNE NE]) (f_X2_staysInBounds_68 F N NE x2 x3 s0 s1) := by
  unfold f_X2_staysInBounds_68
  refine im_isub X dX2_staysInBounds_68 ?_
  refine im_istore X [1, 2, 3, 0] [(0, .ref (aN 0)), (2, .int x2), (3, .int x3), (4, .int (s0 - s1))] dX2_staysInBounds_69 (by decide) rfl ?_
  refine im_iload X 3 dX2_staysInBounds_71 rfl ?_
  refine im_if_ne (tgt := 124) X dX2_staysInBounds_73 rfl ?_ ?_
  · refine im_iconst X 0 dX2_staysInBounds_124 (by decide) ?_
    exact im_zreturn X 0 rfl rfl rfl dX2_staysInBounds_125
  · refine im_aload_n X 0 dX2_staysInBounds_76 rfl rfl ?_
    refine im_iload_n X 1 dX2_staysInBounds_77 rfl rfl ?_
    refine im_aload_n X 0 dX2_staysInBounds_78 rfl rfl ?_
    refine im_cget X 0 0 (v := .ref (aNE 0)) fl_X2_42 rfl rfl rfl dX2_staysInBounds_79 ?_
    refine im_aload_n X 0 dX2_staysInBounds_82 rfl rfl ?_
    refine im_cget X 0 0 (v := .ref (aNE 0)) fl_X2_42 rfl rfl rfl dX2_staysInBounds_83 ?_
    refine im_cget X 1 0 (v := .int (NE 0 0)) fl_X2_69 rfl rfl rfl dX2_staysInBounds_86 ?_
    refine im_cciV X [.int (NE 0 0)] [.int x2, .ref (aN 0)] [w_Inquest ct aN aNE N, w_Effect ct aNE NE] [w_Effect ct aNE NE] [1] (fun z89 => [w_Effect ct aNE NE]) 1 0 1 rfl rfl rfl cl_X2_132 (c_X1_changeOf l D ct F aNE NE (NE 0 0)) rfl (by decide) (fun _ => lc rfl (rfl)) rfl ⟨by decide, by decide⟩ (Nat.le_of_ble_eq_true rfl) rfl dX2_staysInBounds_89 (fun z89 => ?_)
    refine im_ws (cat [w_Inquest ct aN aNE N, w_Effect ct aNE NE]) rfl ?_
    refine im_cciV X [.int x2, .int z89] [] [w_Inquest ct aN aNE N, w_Effect ct aNE NE] [w_Inquest ct aN aNE N] [0] (fun z92 => [w_Inquest ct aN aNE N]) 0 0 2 rfl rfl rfl cl_X2_139 (c_X2_fits l D ct F aN aNE N x2 z89) rfl (by decide) (fun _ => lc rfl (rfl)) rfl ⟨by decide, by decide⟩ (Nat.le_of_ble_eq_true rfl) rfl dX2_staysInBounds_92 (fun z92 => ?_)
    refine im_ws (cat [w_Inquest ct aN aNE N, w_Effect ct aNE NE]) rfl ?_
    refine im_if_eq (tgt := 124) X dX2_staysInBounds_95 rfl ?_ ?_
    · refine im_iconst X 0 dX2_staysInBounds_124 (by decide) ?_
      exact im_zreturn X 0 rfl rfl rfl dX2_staysInBounds_125
    · refine im_aload_n X 0 dX2_staysInBounds_98 rfl rfl ?_
      refine im_iload_n X 2 dX2_staysInBounds_99 rfl rfl ?_
      refine im_aload_n X 0 dX2_staysInBounds_100 rfl rfl ?_
      refine im_cget X 0 0 (v := .ref (aNE 0)) fl_X2_42 rfl rfl rfl dX2_staysInBounds_101 ?_
      refine im_aload_n X 0 dX2_staysInBounds_104 rfl rfl ?_
      refine im_cget X 0 0 (v := .ref (aNE 0)) fl_X2_42 rfl rfl rfl dX2_staysInBounds_105 ?_
      refine im_cget X 1 0 (v := .int (NE 0 2)) fl_X2_75 rfl rfl rfl dX2_staysInBounds_108 ?_
      refine im_cciV X [.int (NE 0 2)] [.int x3, .ref (aN 0)] [w_Inquest ct aN aNE N, w_Effect ct aNE NE] [w_Effect ct aNE NE] [1] (fun z111 => [w_Effect ct aNE NE]) 1 0 1 rfl rfl rfl cl_X2_132 (c_X1_changeOf l D ct F aNE NE (NE 0 2)) rfl (by decide) (fun _ => lc rfl (rfl)) rfl ⟨by decide, by decide⟩ (Nat.le_of_ble_eq_true rfl) rfl dX2_staysInBounds_111 (fun z111 => ?_)
      refine im_ws (cat [w_Inquest ct aN aNE N, w_Effect ct aNE NE]) rfl ?_
      refine im_cciV X [.int x3, .int z111] [] [w_Inquest ct aN aNE N, w_Effect ct aNE NE] [w_Inquest ct aN aNE N] [0] (fun z114 => [w_Inquest ct aN aNE N]) 0 0 2 rfl rfl rfl cl_X2_139 (c_X2_fits l D ct F aN aNE N x3 z111) rfl (by decide) (fun _ => lc rfl (rfl)) rfl ⟨by decide, by decide⟩ (Nat.le_of_ble_eq_true rfl) rfl dX2_staysInBounds_114 (fun z114 => ?_)
      refine im_ws (cat [w_Inquest ct aN aNE N, w_Effect ct aNE NE]) rfl ?_
      refine im_if_eq (tgt := 124) X dX2_staysInBounds_117 rfl ?_ ?_
      · refine im_iconst X 0 dX2_staysInBounds_124 (by decide) ?_
        exact im_zreturn X 0 rfl rfl rfl dX2_staysInBounds_125
      · refine im_iconst X 1 dX2_staysInBounds_120 (by decide) ?_
        refine im_goto (tgt := 125) X dX2_staysInBounds_121 rfl ?_
        exact im_zreturn X 1 rfl rfl rfl dX2_staysInBounds_125
noncomputable def f_X2_staysInBounds_45 (F : Nat) (N : Mem) (NE : Mem) (x2 : Int32) (x3 : Int32) (s0 : Int32) (s1 : Int32) : Option (Int32) :=
  (if x3 = x2 then f_X2_staysInBounds_68 F N NE x2 x3 (s0 - s1) 0 else (f_X2_isStrained F N x3).bind (fun z57 => (if z57 = 0 then f_X2_staysInBounds_68 F N NE x2 x3 (s0 - s1) 0 else f_X2_staysInBounds_68 F N NE x2 x3 (s0 - s1) 1)))
set_option maxRecDepth 100000 in
set_option maxHeartbeats 4000000 in
theorem i_X2_staysInBounds_45 {p : Program} {l : Launch} {e : Env} {s : State} {m : MethodId} {args : Array Value} {below : List Frame} {meth : Method} {c : Code} {D : va_G} {ct : im_ct} {A : Nat → Prop} (X : im_X p (im_rm 1) s m args meth c D ct A RX2 cX2_staysInBounds 5 (some .boolean)) (F : Nat) (aN aNE : Nat → Nat) (N : Mem) (NE : Mem) (x2 : Int32) (x3 : Int32) (s0 : Int32) (s1 : Int32) : Im p l e (im_rm 1) s m args below meth c D A 5 (QI D A (fun z : Int32 => z) (fun z : Int32 => (cat [w_Inquest ct aN aNE N, w_Effect ct aNE NE]))) 45 [(0, .ref (aN 0)), (2, .int x2), (3, .int x3)] [.int s1, .int s0] (cat [w_Inquest ct aN aNE N, w_Effect ct aNE NE]) (f_X2_staysInBounds_45 F N NE x2 x3 s0 s1) := by
  unfold f_X2_staysInBounds_45
  refine im_isub X dX2_staysInBounds_45 ?_
  refine im_istore X [1, 2, 3, 0] [(0, .ref (aN 0)), (2, .int x2), (3, .int x3), (4, .int (s0 - s1))] dX2_staysInBounds_46 (by decide) rfl ?_
  refine im_iload X 3 dX2_staysInBounds_48 rfl ?_
  refine im_iload_n X 2 dX2_staysInBounds_50 rfl rfl ?_
  refine im_iload_n X 1 dX2_staysInBounds_51 rfl rfl ?_
  refine im_icmp_eq (tgt := 67) X dX2_staysInBounds_52 rfl ?_ ?_
  · refine im_iconst X 0 dX2_staysInBounds_67 (by decide) ?_
    refine im_lv [0, 1, 2] [(0, .ref (aN 0)), (2, .int x2), (3, .int x3)] rfl ?_
    exact i_X2_staysInBounds_68 X F aN aNE N NE x2 x3 (s0 - s1) 0 
  · refine im_aload_n X 0 dX2_staysInBounds_55 rfl rfl ?_
    refine im_iload_n X 2 dX2_staysInBounds_56 rfl rfl ?_
    refine im_cciV X [.int x3] [.int (s0 - s1)] [w_Inquest ct aN aNE N, w_Effect ct aNE NE] [w_Inquest ct aN aNE N] [0] (fun z57 => [w_Inquest ct aN aNE N]) 0 0 2 rfl rfl rfl cl_X2_110 (c_X2_isStrained l D ct F aN aNE N x3) rfl (by decide) (fun _ => lc rfl (rfl)) rfl ⟨by decide, by decide⟩ (Nat.le_of_ble_eq_true rfl) rfl dX2_staysInBounds_57 (fun z57 => ?_)
    refine im_ws (cat [w_Inquest ct aN aNE N, w_Effect ct aNE NE]) rfl ?_
    refine im_if_eq (tgt := 67) X dX2_staysInBounds_60 rfl ?_ ?_
    · refine im_iconst X 0 dX2_staysInBounds_67 (by decide) ?_
      refine im_lv [0, 1, 2] [(0, .ref (aN 0)), (2, .int x2), (3, .int x3)] rfl ?_
      exact i_X2_staysInBounds_68 X F aN aNE N NE x2 x3 (s0 - s1) 0 
    · refine im_iconst X 1 dX2_staysInBounds_63 (by decide) ?_
      refine im_goto (tgt := 68) X dX2_staysInBounds_64 rfl ?_
      refine im_lv [0, 1, 2] [(0, .ref (aN 0)), (2, .int x2), (3, .int x3)] rfl ?_
      exact i_X2_staysInBounds_68 X F aN aNE N NE x2 x3 (s0 - s1) 1 
noncomputable def f_X2_staysInBounds (F : Nat) (N : Mem) (NE : Mem) (x1 : Int32) : Option (Int32) :=
  ck x1 25 ((f_X2_isStrained F N ((x1 * 24) + (NE 0 0))).bind (fun z34 => (if z34 = 0 then f_X2_staysInBounds_45 F N NE ((x1 * 24) + (NE 0 0)) ((x1 * 24) + (NE 0 2)) ((N 4) x1.toNatClampNeg) 0 else f_X2_staysInBounds_45 F N NE ((x1 * 24) + (NE 0 0)) ((x1 * 24) + (NE 0 2)) ((N 4) x1.toNatClampNeg) 1)))
set_option maxRecDepth 100000 in
set_option maxHeartbeats 4000000 in
theorem i_X2_staysInBounds {p : Program} {l : Launch} {e : Env} {s : State} {m : MethodId} {args : Array Value} {below : List Frame} {meth : Method} {c : Code} {D : va_G} {ct : im_ct} {A : Nat → Prop} (X : im_X p (im_rm 1) s m args meth c D ct A RX2 cX2_staysInBounds 5 (some .boolean)) (F : Nat) (aN aNE : Nat → Nat) (N : Mem) (NE : Mem) (x1 : Int32) : Im p l e (im_rm 1) s m args below meth c D A 5 (QI D A (fun z : Int32 => z) (fun z : Int32 => (cat [w_Inquest ct aN aNE N, w_Effect ct aNE NE]))) 0 [(0, .ref (aN 0)), (1, .int x1)] [] (cat [w_Inquest ct aN aNE N, w_Effect ct aNE NE]) (f_X2_staysInBounds F N NE x1) := by
  unfold f_X2_staysInBounds
  refine im_iload_n X 1 dX2_staysInBounds_0 rfl rfl ?_
  refine im_bipush X 24 dX2_staysInBounds_1 (by decide) ?_
  refine im_imul X dX2_staysInBounds_3 ?_
  refine im_aload_n X 0 dX2_staysInBounds_4 rfl rfl ?_
  refine im_cget X 0 0 (v := .ref (aNE 0)) fl_X2_42 rfl rfl rfl dX2_staysInBounds_5 ?_
  refine im_cget X 1 0 (v := .int (NE 0 0)) fl_X2_69 rfl rfl rfl dX2_staysInBounds_8 ?_
  refine im_iadd X dX2_staysInBounds_11 ?_
  refine im_istore_n X [1, 2, 0] [(0, .ref (aN 0)), (1, .int x1), (2, .int ((x1 * 24) + (NE 0 0)))] dX2_staysInBounds_12 rfl (by decide) rfl ?_
  refine im_iload_n X 1 dX2_staysInBounds_13 rfl rfl ?_
  refine im_bipush X 24 dX2_staysInBounds_14 (by decide) ?_
  refine im_imul X dX2_staysInBounds_16 ?_
  refine im_aload_n X 0 dX2_staysInBounds_17 rfl rfl ?_
  refine im_cget X 0 0 (v := .ref (aNE 0)) fl_X2_42 rfl rfl rfl dX2_staysInBounds_18 ?_
  refine im_cget X 1 0 (v := .int (NE 0 2)) fl_X2_75 rfl rfl rfl dX2_staysInBounds_21 ?_
  refine im_iadd X dX2_staysInBounds_24 ?_
  refine im_istore_n X [1, 2, 3, 0] [(0, .ref (aN 0)), (1, .int x1), (2, .int ((x1 * 24) + (NE 0 0))), (3, .int ((x1 * 24) + (NE 0 2)))] dX2_staysInBounds_25 rfl (by decide) rfl ?_
  refine im_aload_n X 0 dX2_staysInBounds_26 rfl rfl ?_
  refine im_cget X 0 0 (v := .ref (aN 4)) fl_X2_21 rfl rfl rfl dX2_staysInBounds_27 ?_
  refine im_iload_n X 1 dX2_staysInBounds_30 rfl rfl ?_
  refine im_ciald X 0 4 0 (f := (N 4)) rfl rfl rfl dX2_staysInBounds_31 ?_
  refine im_aload_n X 0 dX2_staysInBounds_32 rfl rfl ?_
  refine im_iload_n X 2 dX2_staysInBounds_33 rfl rfl ?_
  refine im_cciV X [.int ((x1 * 24) + (NE 0 0))] [.int ((N 4) x1.toNatClampNeg)] [w_Inquest ct aN aNE N, w_Effect ct aNE NE] [w_Inquest ct aN aNE N] [0] (fun z34 => [w_Inquest ct aN aNE N]) 0 0 2 rfl rfl rfl cl_X2_110 (c_X2_isStrained l D ct F aN aNE N ((x1 * 24) + (NE 0 0))) rfl (by decide) (fun _ => lc rfl (rfl)) rfl ⟨by decide, by decide⟩ (Nat.le_of_ble_eq_true rfl) rfl dX2_staysInBounds_34 (fun z34 => ?_)
  refine im_ws (cat [w_Inquest ct aN aNE N, w_Effect ct aNE NE]) rfl ?_
  refine im_if_eq (tgt := 44) X dX2_staysInBounds_37 rfl ?_ ?_
  · refine im_iconst X 0 dX2_staysInBounds_44 (by decide) ?_
    refine im_lv [0, 2, 3] [(0, .ref (aN 0)), (2, .int ((x1 * 24) + (NE 0 0))), (3, .int ((x1 * 24) + (NE 0 2)))] rfl ?_
    exact i_X2_staysInBounds_45 X F aN aNE N NE ((x1 * 24) + (NE 0 0)) ((x1 * 24) + (NE 0 2)) ((N 4) x1.toNatClampNeg) 0 
  · refine im_iconst X 1 dX2_staysInBounds_40 (by decide) ?_
    refine im_goto (tgt := 45) X dX2_staysInBounds_41 rfl ?_
    refine im_lv [0, 2, 3] [(0, .ref (aN 0)), (2, .int ((x1 * 24) + (NE 0 0))), (3, .int ((x1 * 24) + (NE 0 2)))] rfl ?_
    exact i_X2_staysInBounds_45 X F aN aNE N NE ((x1 * 24) + (NE 0 0)) ((x1 * 24) + (NE 0 2)) ((N 4) x1.toNatClampNeg) 1 
theorem c_X2_staysInBounds (l : Launch) (D : va_G) (ct : im_ct) (F : Nat) (aN aNE : Nat → Nat) (N : Mem) (NE : Mem) (x1 : Int32) : CMi l D ct yX2_staysInBounds cX2_staysInBounds 5 (some .boolean) 1 [.ref (aN 0), .int x1] (cat [w_Inquest ct aN aNE N, w_Effect ct aNE NE]) (f_X2_staysInBounds F N NE x1) (fun z : Int32 => z) (fun z : Int32 => (cat [w_Inquest ct aN aNE N, w_Effect ct aNE NE])) :=
  im_met (Qb := fun A => QI D A (fun z : Int32 => z) (fun z : Int32 => (cat [w_Inquest ct aN aNE N, w_Effect ct aNE NE]))) (by decide +kernel) (Nat.le_of_ble_eq_true rfl) (fun p e s m args below meth c A X => i_X2_staysInBounds X F aN aNE N NE x1)

noncomputable def f_X2_explains_57 (F : Nat) (N : Mem) (NE : Mem) (C : Mem) (x2 : Int32) (x3 : Int32) (s0 : Int32) (s1 : Int32) (k2 : Int32 → Option (Int32)) (k60 : Option (Int32)) : Option (Int32) :=
  (if s0 = s1 then k2 (x3 + 1) else k60)
set_option maxRecDepth 100000 in
set_option maxHeartbeats 4000000 in
theorem i_X2_explains_57 {p : Program} {l : Launch} {e : Env} {s : State} {m : MethodId} {args : Array Value} {below : List Frame} {meth : Method} {c : Code} {D : va_G} {ct : im_ct} {A : Nat → Prop} (X : im_X p (im_rm 2) s m args meth c D ct A RX2 cX2_explains 5 (some .boolean)) (F : Nat) (aN aNE aC : Nat → Nat) (N : Mem) (NE : Mem) (C : Mem) (x2 : Int32) (x3 : Int32) (s0 : Int32) (s1 : Int32) (k2 : Int32 → Option (Int32)) (hk2 : ∀ (x3 : Int32), Im p l e (im_rm 2) s m args below meth c D A 5 (QI D A (fun z : Int32 => z) (fun z : Int32 => (cat [w_Inquest ct aN aNE N, w_Effect ct aNE NE, w_Cloth ct aC C]))) 2 [(0, .ref (aN 0)), (1, .ref (aC 0)), (2, .int x2), (3, .int x3)] [] (cat [w_Inquest ct aN aNE N, w_Effect ct aNE NE, w_Cloth ct aC C]) (k2 x3)) (k60 : Option (Int32)) (hk60 : Im p l e (im_rm 2) s m args below meth c D A 5 (QI D A (fun z : Int32 => z) (fun z : Int32 => (cat [w_Inquest ct aN aNE N, w_Effect ct aNE NE, w_Cloth ct aC C]))) 60 [] [] (cat [w_Inquest ct aN aNE N, w_Effect ct aNE NE, w_Cloth ct aC C]) (k60)) : Im p l e (im_rm 2) s m args below meth c D A 5 (QI D A (fun z : Int32 => z) (fun z : Int32 => (cat [w_Inquest ct aN aNE N, w_Effect ct aNE NE, w_Cloth ct aC C]))) 57 [(0, .ref (aN 0)), (1, .ref (aC 0)), (2, .int x2), (3, .int x3)] [.int s1, .int s0] (cat [w_Inquest ct aN aNE N, w_Effect ct aNE NE, w_Cloth ct aC C]) (f_X2_explains_57 F N NE C x2 x3 s0 s1 k2 k60) := by
  unfold f_X2_explains_57
  refine im_icmp_eq (tgt := 62) X dX2_explains_57 rfl ?_ ?_
  · refine im_iinc X 3 1 [1, 2, 3, 0] [(0, .ref (aN 0)), (1, .ref (aC 0)), (2, .int x2), (3, .int (x3 + 1))] dX2_explains_62 (by decide) rfl (by decide) rfl ?_
    refine im_goto (tgt := 2) X dX2_explains_65 rfl ?_
    exact hk2 (x3 + 1)
  · refine im_lv [] [] rfl ?_
    exact hk60
noncomputable def f_X2_explains_27 (F : Nat) (N : Mem) (NE : Mem) (C : Mem) (x2 : Int32) (x3 : Int32) (s0 : Int32) (k2 : Int32 → Option (Int32)) (k60 : Option (Int32)) : Option (Int32) :=
  ck x3 12 ((if s0 = 0 then f_X2_explains_57 F N NE C x2 x3 ((N 5) x3.toNatClampNeg) 0 k2 k60 else (f_X2_sightCell F C x3).bind (fun z47 => (f_X1_changeOf F NE z47).bind (fun z50 => f_X2_explains_57 F N NE C x2 x3 ((N 5) x3.toNatClampNeg) z50 k2 k60))))
set_option maxRecDepth 100000 in
set_option maxHeartbeats 4000000 in
theorem i_X2_explains_27 {p : Program} {l : Launch} {e : Env} {s : State} {m : MethodId} {args : Array Value} {below : List Frame} {meth : Method} {c : Code} {D : va_G} {ct : im_ct} {A : Nat → Prop} (X : im_X p (im_rm 2) s m args meth c D ct A RX2 cX2_explains 5 (some .boolean)) (F : Nat) (aN aNE aC : Nat → Nat) (N : Mem) (NE : Mem) (C : Mem) (x2 : Int32) (x3 : Int32) (s0 : Int32) (k2 : Int32 → Option (Int32)) (hk2 : ∀ (x3 : Int32), Im p l e (im_rm 2) s m args below meth c D A 5 (QI D A (fun z : Int32 => z) (fun z : Int32 => (cat [w_Inquest ct aN aNE N, w_Effect ct aNE NE, w_Cloth ct aC C]))) 2 [(0, .ref (aN 0)), (1, .ref (aC 0)), (2, .int x2), (3, .int x3)] [] (cat [w_Inquest ct aN aNE N, w_Effect ct aNE NE, w_Cloth ct aC C]) (k2 x3)) (k60 : Option (Int32)) (hk60 : Im p l e (im_rm 2) s m args below meth c D A 5 (QI D A (fun z : Int32 => z) (fun z : Int32 => (cat [w_Inquest ct aN aNE N, w_Effect ct aNE NE, w_Cloth ct aC C]))) 60 [] [] (cat [w_Inquest ct aN aNE N, w_Effect ct aNE NE, w_Cloth ct aC C]) (k60)) : Im p l e (im_rm 2) s m args below meth c D A 5 (QI D A (fun z : Int32 => z) (fun z : Int32 => (cat [w_Inquest ct aN aNE N, w_Effect ct aNE NE, w_Cloth ct aC C]))) 27 [(0, .ref (aN 0)), (1, .ref (aC 0)), (2, .int x2), (3, .int x3)] [.int s0] (cat [w_Inquest ct aN aNE N, w_Effect ct aNE NE, w_Cloth ct aC C]) (f_X2_explains_27 F N NE C x2 x3 s0 k2 k60) := by
  unfold f_X2_explains_27
  refine im_istore X [1, 2, 3, 4, 0] [(0, .ref (aN 0)), (1, .ref (aC 0)), (2, .int x2), (3, .int x3), (4, .int s0)] dX2_explains_27 (by decide) rfl ?_
  refine im_aload_n X 0 dX2_explains_29 rfl rfl ?_
  refine im_cget X 0 0 (v := .ref (aN 5)) fl_X2_24 rfl rfl rfl dX2_explains_30 ?_
  refine im_iload_n X 3 dX2_explains_33 rfl rfl ?_
  refine im_ciald X 0 5 0 (f := (N 5)) rfl rfl rfl dX2_explains_34 ?_
  refine im_iload X 4 dX2_explains_35 rfl ?_
  refine im_if_eq (tgt := 56) X dX2_explains_37 rfl ?_ ?_
  · refine im_iconst X 0 dX2_explains_56 (by decide) ?_
    refine im_lv [0, 1, 2, 3] [(0, .ref (aN 0)), (1, .ref (aC 0)), (2, .int x2), (3, .int x3)] rfl ?_
    exact i_X2_explains_57 X F aN aNE aC N NE C x2 x3 ((N 5) x3.toNatClampNeg) 0 _ hk2 _ hk60
  · refine im_aload_n X 0 dX2_explains_40 rfl rfl ?_
    refine im_cget X 0 0 (v := .ref (aNE 0)) fl_X2_42 rfl rfl rfl dX2_explains_41 ?_
    refine im_aload_n X 0 dX2_explains_44 rfl rfl ?_
    refine im_aload_n X 1 dX2_explains_45 rfl rfl ?_
    refine im_iload_n X 3 dX2_explains_46 rfl rfl ?_
    refine im_cciV X [.ref (aC 0), .int x3] [.ref (aNE 0), .int ((N 5) x3.toNatClampNeg)] [w_Inquest ct aN aNE N, w_Effect ct aNE NE, w_Cloth ct aC C] [w_Cloth ct aC C] [2] (fun z47 => [w_Cloth ct aC C]) 0 0 2 rfl rfl rfl cl_X2_94 (c_X2_sightCell l D ct F aN aNE aC C x3) rfl (by decide) (fun _ => lc rfl (rfl)) rfl ⟨by decide, by decide⟩ (Nat.le_of_ble_eq_true rfl) rfl dX2_explains_47 (fun z47 => ?_)
    refine im_ws (cat [w_Inquest ct aN aNE N, w_Effect ct aNE NE, w_Cloth ct aC C]) rfl ?_
    refine im_cciV X [.int z47] [.int ((N 5) x3.toNatClampNeg)] [w_Inquest ct aN aNE N, w_Effect ct aNE NE, w_Cloth ct aC C] [w_Effect ct aNE NE] [1] (fun z50 => [w_Effect ct aNE NE]) 1 0 1 rfl rfl rfl cl_X2_132 (c_X1_changeOf l D ct F aNE NE z47) rfl (by decide) (fun _ => lc rfl (rfl)) rfl ⟨by decide, by decide⟩ (Nat.le_of_ble_eq_true rfl) rfl dX2_explains_50 (fun z50 => ?_)
    refine im_ws (cat [w_Inquest ct aN aNE N, w_Effect ct aNE NE, w_Cloth ct aC C]) rfl ?_
    refine im_goto (tgt := 57) X dX2_explains_53 rfl ?_
    refine im_lv [0, 1, 2, 3] [(0, .ref (aN 0)), (1, .ref (aC 0)), (2, .int x2), (3, .int x3)] rfl ?_
    exact i_X2_explains_57 X F aN aNE aC N NE C x2 x3 ((N 5) x3.toNatClampNeg) z50 _ hk2 _ hk60
noncomputable def f_X2_explains_2 (F : Nat) (N : Mem) (NE : Mem) (C : Mem) (x2 : Int32) (k60 : Option (Int32)) (k68 : Option (Int32)) : Nat → Int32 → Option (Int32)
  | 0, _ => none
  | n + 1, x3 =>
  (if (C 0 9) ≤ x3 then k68 else ck (x3 * 4) 48 ((if ((C 6) ((x3 * 4)).toNatClampNeg) < x2 then f_X2_explains_27 F N NE C x2 x3 0 (f_X2_explains_2 F N NE C x2 k60 k68 n) k60 else f_X2_explains_27 F N NE C x2 x3 1 (f_X2_explains_2 F N NE C x2 k60 k68 n) k60)))
set_option maxRecDepth 100000 in
set_option maxHeartbeats 4000000 in
theorem i_X2_explains_2 {p : Program} {l : Launch} {e : Env} {s : State} {m : MethodId} {args : Array Value} {below : List Frame} {meth : Method} {c : Code} {D : va_G} {ct : im_ct} {A : Nat → Prop} (X : im_X p (im_rm 2) s m args meth c D ct A RX2 cX2_explains 5 (some .boolean)) (F : Nat) (aN aNE aC : Nat → Nat) (N : Mem) (NE : Mem) (C : Mem) (x2 : Int32) (k60 : Option (Int32)) (hk60 : Im p l e (im_rm 2) s m args below meth c D A 5 (QI D A (fun z : Int32 => z) (fun z : Int32 => (cat [w_Inquest ct aN aNE N, w_Effect ct aNE NE, w_Cloth ct aC C]))) 60 [] [] (cat [w_Inquest ct aN aNE N, w_Effect ct aNE NE, w_Cloth ct aC C]) (k60)) (k68 : Option (Int32)) (hk68 : Im p l e (im_rm 2) s m args below meth c D A 5 (QI D A (fun z : Int32 => z) (fun z : Int32 => (cat [w_Inquest ct aN aNE N, w_Effect ct aNE NE, w_Cloth ct aC C]))) 68 [(0, .ref (aN 0)), (2, .int x2)] [] (cat [w_Inquest ct aN aNE N, w_Effect ct aNE NE, w_Cloth ct aC C]) (k68)) : ∀ (n : Nat) (x3 : Int32), Im p l e (im_rm 2) s m args below meth c D A 5 (QI D A (fun z : Int32 => z) (fun z : Int32 => (cat [w_Inquest ct aN aNE N, w_Effect ct aNE NE, w_Cloth ct aC C]))) 2 [(0, .ref (aN 0)), (1, .ref (aC 0)), (2, .int x2), (3, .int x3)] [] (cat [w_Inquest ct aN aNE N, w_Effect ct aNE NE, w_Cloth ct aC C]) (f_X2_explains_2 F N NE C x2 k60 k68 n x3) := by
  intro n
  induction n with
  | zero => intros; exact im_none
  | succ n ih =>
    intro x3
    unfold f_X2_explains_2
    refine im_iload_n X 3 dX2_explains_2 rfl rfl ?_
    refine im_aload_n X 1 dX2_explains_3 rfl rfl ?_
    refine im_cget X 2 0 (v := .int (C 0 9)) fl_X2_88 rfl rfl rfl dX2_explains_4 ?_
    refine im_icmp_ge (tgt := 68) X dX2_explains_7 rfl ?_ ?_
    · refine im_lv [0, 2] [(0, .ref (aN 0)), (2, .int x2)] rfl ?_
      exact hk68
    · refine im_aload_n X 1 dX2_explains_10 rfl rfl ?_
      refine im_cget X 2 0 (v := .ref (aC 6)) fl_X2_91 rfl rfl rfl dX2_explains_11 ?_
      refine im_iload_n X 3 dX2_explains_14 rfl rfl ?_
      refine im_iconst X 4 dX2_explains_15 (by decide) ?_
      refine im_imul X dX2_explains_16 ?_
      refine im_ciald X 2 6 0 (f := (C 6)) rfl rfl rfl dX2_explains_17 ?_
      refine im_iload_n X 2 dX2_explains_18 rfl rfl ?_
      refine im_icmp_lt (tgt := 26) X dX2_explains_19 rfl ?_ ?_
      · refine im_iconst X 0 dX2_explains_26 (by decide) ?_
        exact i_X2_explains_27 X F aN aNE aC N NE C x2 x3 0 _ ih _ hk60
      · refine im_iconst X 1 dX2_explains_22 (by decide) ?_
        refine im_goto (tgt := 27) X dX2_explains_23 rfl ?_
        exact i_X2_explains_27 X F aN aNE aC N NE C x2 x3 1 _ ih _ hk60
noncomputable def f_X2_explains (F : Nat) (N : Mem) (NE : Mem) (C : Mem) (x2 : Int32) : Option (Int32) :=
  f_X2_explains_2 F N NE C x2 ((some 0)) ((f_X2_staysInBounds F N NE x2).bind (fun z70 => (cb z70 (some z70)))) F 0
set_option maxRecDepth 100000 in
set_option maxHeartbeats 4000000 in
theorem i_X2_explains {p : Program} {l : Launch} {e : Env} {s : State} {m : MethodId} {args : Array Value} {below : List Frame} {meth : Method} {c : Code} {D : va_G} {ct : im_ct} {A : Nat → Prop} (X : im_X p (im_rm 2) s m args meth c D ct A RX2 cX2_explains 5 (some .boolean)) (F : Nat) (aN aNE aC : Nat → Nat) (N : Mem) (NE : Mem) (C : Mem) (x2 : Int32) : Im p l e (im_rm 2) s m args below meth c D A 5 (QI D A (fun z : Int32 => z) (fun z : Int32 => (cat [w_Inquest ct aN aNE N, w_Effect ct aNE NE, w_Cloth ct aC C]))) 0 [(0, .ref (aN 0)), (1, .ref (aC 0)), (2, .int x2)] [] (cat [w_Inquest ct aN aNE N, w_Effect ct aNE NE, w_Cloth ct aC C]) (f_X2_explains F N NE C x2) := by
  unfold f_X2_explains
  refine im_iconst X 0 dX2_explains_0 (by decide) ?_
  refine im_istore_n X [1, 2, 3, 0] [(0, .ref (aN 0)), (1, .ref (aC 0)), (2, .int x2), (3, .int 0)] dX2_explains_1 rfl (by decide) rfl ?_
  refine i_X2_explains_2 X F aN aNE aC N NE C x2 _ ?_ _ ?_ F 0
  · refine im_iconst X 0 dX2_explains_60 (by decide) ?_
    exact im_zreturn X 0 rfl rfl rfl dX2_explains_61
  · refine im_aload_n X 0 dX2_explains_68 rfl rfl ?_
    refine im_iload_n X 1 dX2_explains_69 rfl rfl ?_
    refine im_cciV X [.int x2] [] [w_Inquest ct aN aNE N, w_Effect ct aNE NE, w_Cloth ct aC C] [w_Inquest ct aN aNE N, w_Effect ct aNE NE] [0, 1] (fun z70 => [w_Inquest ct aN aNE N, w_Effect ct aNE NE]) 0 0 2 rfl rfl rfl cl_X2_136 (c_X2_staysInBounds l D ct F aN aNE N NE x2) rfl (by decide) (fun _ => lc rfl (lc rfl (rfl))) rfl ⟨by decide, by decide⟩ (Nat.le_of_ble_eq_true rfl) rfl dX2_explains_70 (fun z70 => ?_)
    refine im_ws (cat [w_Inquest ct aN aNE N, w_Effect ct aNE NE, w_Cloth ct aC C]) rfl ?_
    exact im_zreturnc X z70 rfl rfl dX2_explains_73
theorem c_X2_explains (l : Launch) (D : va_G) (ct : im_ct) (F : Nat) (aN aNE aC : Nat → Nat) (N : Mem) (NE : Mem) (C : Mem) (x2 : Int32) : CMi l D ct yX2_explains cX2_explains 5 (some .boolean) 2 [.ref (aN 0), .ref (aC 0), .int x2] (cat [w_Inquest ct aN aNE N, w_Effect ct aNE NE, w_Cloth ct aC C]) (f_X2_explains F N NE C x2) (fun z : Int32 => z) (fun z : Int32 => (cat [w_Inquest ct aN aNE N, w_Effect ct aNE NE, w_Cloth ct aC C])) :=
  im_met (Qb := fun A => QI D A (fun z : Int32 => z) (fun z : Int32 => (cat [w_Inquest ct aN aNE N, w_Effect ct aNE NE, w_Cloth ct aC C]))) (by decide +kernel) (Nat.le_of_ble_eq_true rfl) (fun p e s m args below meth c A X => i_X2_explains X F aN aNE aC N NE C x2)

noncomputable def f_X2_trySlide_61 (F : Nat) (N : Mem) (NE : Mem) (C : Mem) (s1 : Int32) (s2 : Int32) (s3 : Int32) : Option (Mem × Mem) :=
  ck s1 1000 ((some ((mr (mr N 6 (upd (N 6) s1.toNatClampNeg (s2 + s3))) 0 (fu (N 0) 11 ((N 0 11) + 1))), NE)))
set_option maxRecDepth 100000 in
set_option maxHeartbeats 4000000 in
theorem i_X2_trySlide_61 {p : Program} {l : Launch} {e : Env} {s : State} {m : MethodId} {args : Array Value} {below : List Frame} {meth : Method} {c : Code} {D : va_G} {ct : im_ct} {A : Nat → Prop} (X : im_X p (im_rm 3) s m args meth c D ct A RX2 cX2_trySlide 6 none) (F : Nat) (aN aNE aC : Nat → Nat) (N : Mem) (NE : Mem) (C : Mem) (s1 : Int32) (s2 : Int32) (s3 : Int32) : Im p l e (im_rm 3) s m args below meth c D A 6 (QV D A (fun z : Mem × Mem => (cat [w_Inquest ct aN aNE z.1, w_Effect ct aNE z.2, w_Cloth ct aC C]))) 61 [(0, .ref (aN 0))] [.int s3, .int s2, .int s1, .ref (aN 6)] (cat [w_Inquest ct aN aNE N, w_Effect ct aNE NE, w_Cloth ct aC C]) (f_X2_trySlide_61 F N NE C s1 s2 s3) := by
  unfold f_X2_trySlide_61
  refine im_iadd X dX2_trySlide_61 ?_
  refine im_ciast X 0 6 0 (wx_Inquest ct aN aNE (N 0 10) (N 0 11) (N 0 12) (N 0 13) (N 1) (N 2) (N 3) (N 4) (N 5) (upd (N 6) s1.toNatClampNeg (s2 + s3)) (N 7) (N 8) (N 9)) [wx_Inquest ct aN aNE (N 0 10) (N 0 11) (N 0 12) (N 0 13) (N 1) (N 2) (N 3) (N 4) (N 5) (upd (N 6) s1.toNatClampNeg (s2 + s3)) (N 7) (N 8) (N 9), w_Effect ct aNE NE, w_Cloth ct aC C] (f := (N 6)) rfl rfl rfl rfl rfl dX2_trySlide_62 ?_
  refine im_aload_n X 0 dX2_trySlide_63 rfl rfl ?_
  refine im_dup X rfl dX2_trySlide_64 ?_
  refine im_cget X 0 0 (v := .int (N 0 11)) fl_X2_146 rfl rfl rfl dX2_trySlide_65 ?_
  refine im_iconst X 1 dX2_trySlide_68 (by decide) ?_
  refine im_iadd X dX2_trySlide_69 ?_
  refine im_cput X 0 0 (wx_Inquest ct aN aNE (N 0 10) ((N 0 11) + 1) (N 0 12) (N 0 13) (N 1) (N 2) (N 3) (N 4) (N 5) (upd (N 6) s1.toNatClampNeg (s2 + s3)) (N 7) (N 8) (N 9)) [wx_Inquest ct aN aNE (N 0 10) ((N 0 11) + 1) (N 0 12) (N 0 13) (N 1) (N 2) (N 3) (N 4) (N 5) (upd (N 6) s1.toNatClampNeg (s2 + s3)) (N 7) (N 8) (N 9), w_Effect ct aNE NE, w_Cloth ct aC C] fl_X2_146 rfl rfl rfl rfl (Nat.le_of_ble_eq_true rfl) rfl rfl dX2_trySlide_70 ?_
  exact im_return X ((mr (mr N 6 (upd (N 6) s1.toNatClampNeg (s2 + s3))) 0 (fu (N 0) 11 ((N 0 11) + 1))), NE) rfl dX2_trySlide_73
noncomputable def f_X2_trySlide (F : Nat) (N : Mem) (NE : Mem) (C : Mem) (x2 : Int32) (x3 : Int32) (x4 : Int32) (x5 : Int32) : Option (Mem × Mem) :=
  (if x5 = 0 then (some (N, NE)) else (if (N 0 11) < 1000 then (f_X1_tellSlide F NE x3 x4).bind (fun z23 => (f_X2_explains F N z23 C x2).bind (fun z29 => (if z29 = 0 then (some (N, z23)) else (if x4 = 0 then f_X2_trySlide_61 F N z23 C (N 0 11) (((x2 * 24) + x3) * 2) 0 else f_X2_trySlide_61 F N z23 C (N 0 11) (((x2 * 24) + x3) * 2) 1)))) else (some (N, NE))))
set_option maxRecDepth 100000 in
set_option maxHeartbeats 4000000 in
theorem i_X2_trySlide {p : Program} {l : Launch} {e : Env} {s : State} {m : MethodId} {args : Array Value} {below : List Frame} {meth : Method} {c : Code} {D : va_G} {ct : im_ct} {A : Nat → Prop} (X : im_X p (im_rm 3) s m args meth c D ct A RX2 cX2_trySlide 6 none) (F : Nat) (aN aNE aC : Nat → Nat) (N : Mem) (NE : Mem) (C : Mem) (x2 : Int32) (x3 : Int32) (x4 : Int32) (x5 : Int32) : Im p l e (im_rm 3) s m args below meth c D A 6 (QV D A (fun z : Mem × Mem => (cat [w_Inquest ct aN aNE z.1, w_Effect ct aNE z.2, w_Cloth ct aC C]))) 0 [(0, .ref (aN 0)), (1, .ref (aC 0)), (2, .int x2), (3, .int x3), (4, .int x4), (5, .int x5)] [] (cat [w_Inquest ct aN aNE N, w_Effect ct aNE NE, w_Cloth ct aC C]) (f_X2_trySlide F N NE C x2 x3 x4 x5) := by
  unfold f_X2_trySlide
  refine im_iload X 5 dX2_trySlide_0 rfl ?_
  refine im_if_eq (tgt := 15) X dX2_trySlide_2 rfl ?_ ?_
  · exact im_return X (N, NE) rfl dX2_trySlide_15
  · refine im_aload_n X 0 dX2_trySlide_5 rfl rfl ?_
    refine im_cget X 0 0 (v := .int (N 0 11)) fl_X2_146 rfl rfl rfl dX2_trySlide_6 ?_
    refine im_sipush X 1000 dX2_trySlide_9 (by decide) ?_
    refine im_icmp_lt (tgt := 16) X dX2_trySlide_12 rfl ?_ ?_
    · refine im_aload_n X 0 dX2_trySlide_16 rfl rfl ?_
      refine im_cget X 0 0 (v := .ref (aNE 0)) fl_X2_42 rfl rfl rfl dX2_trySlide_17 ?_
      refine im_iload_n X 3 dX2_trySlide_20 rfl rfl ?_
      refine im_iload X 4 dX2_trySlide_21 rfl ?_
      refine im_ccvV X [.int x3, .int x4] [] [w_Inquest ct aN aNE N, w_Effect ct aNE NE, w_Cloth ct aC C] [w_Effect ct aNE NE] [1] (fun z23 => [w_Effect ct aNE z23]) 1 0 1 rfl rfl rfl cl_X2_153 (c_X1_tellSlide l D ct F aNE NE x3 x4) rfl (by decide) (fun _ => lc fa_Effect (rfl)) rfl ⟨by decide, by decide⟩ (Nat.le_of_ble_eq_true rfl) rfl dX2_trySlide_23 (fun z23 => ?_)
      refine im_ws (cat [w_Inquest ct aN aNE N, w_Effect ct aNE z23, w_Cloth ct aC C]) rfl ?_
      refine im_aload_n X 0 dX2_trySlide_26 rfl rfl ?_
      refine im_aload_n X 1 dX2_trySlide_27 rfl rfl ?_
      refine im_iload_n X 2 dX2_trySlide_28 rfl rfl ?_
      refine im_cciV X [.ref (aC 0), .int x2] [] [w_Inquest ct aN aNE N, w_Effect ct aNE z23, w_Cloth ct aC C] [w_Inquest ct aN aNE N, w_Effect ct aNE z23, w_Cloth ct aC C] [0, 1, 2] (fun z29 => [w_Inquest ct aN aNE N, w_Effect ct aNE z23, w_Cloth ct aC C]) 0 0 2 rfl rfl rfl cl_X2_157 (c_X2_explains l D ct F aN aNE aC N z23 C x2) rfl (by decide) (fun _ => lc rfl (lc rfl (lc rfl (rfl)))) rfl ⟨by decide, by decide⟩ (Nat.le_of_ble_eq_true rfl) rfl dX2_trySlide_29 (fun z29 => ?_)
      refine im_ws (cat [w_Inquest ct aN aNE N, w_Effect ct aNE z23, w_Cloth ct aC C]) rfl ?_
      refine im_if_eq (tgt := 73) X dX2_trySlide_32 rfl ?_ ?_
      · exact im_return X (N, z23) rfl dX2_trySlide_73
      · refine im_aload_n X 0 dX2_trySlide_35 rfl rfl ?_
        refine im_cget X 0 0 (v := .ref (aN 6)) fl_X2_27 rfl rfl rfl dX2_trySlide_36 ?_
        refine im_aload_n X 0 dX2_trySlide_39 rfl rfl ?_
        refine im_cget X 0 0 (v := .int (N 0 11)) fl_X2_146 rfl rfl rfl dX2_trySlide_40 ?_
        refine im_iload_n X 2 dX2_trySlide_43 rfl rfl ?_
        refine im_bipush X 24 dX2_trySlide_44 (by decide) ?_
        refine im_imul X dX2_trySlide_46 ?_
        refine im_iload_n X 3 dX2_trySlide_47 rfl rfl ?_
        refine im_iadd X dX2_trySlide_48 ?_
        refine im_iconst X 2 dX2_trySlide_49 (by decide) ?_
        refine im_imul X dX2_trySlide_50 ?_
        refine im_iload X 4 dX2_trySlide_51 rfl ?_
        refine im_if_eq (tgt := 60) X dX2_trySlide_53 rfl ?_ ?_
        · refine im_iconst X 0 dX2_trySlide_60 (by decide) ?_
          refine im_lv [0] [(0, .ref (aN 0))] rfl ?_
          exact i_X2_trySlide_61 X F aN aNE aC N z23 C (N 0 11) (((x2 * 24) + x3) * 2) 0 
        · refine im_iconst X 1 dX2_trySlide_56 (by decide) ?_
          refine im_goto (tgt := 61) X dX2_trySlide_57 rfl ?_
          refine im_lv [0] [(0, .ref (aN 0))] rfl ?_
          exact i_X2_trySlide_61 X F aN aNE aC N z23 C (N 0 11) (((x2 * 24) + x3) * 2) 1 
    · exact im_return X (N, NE) rfl dX2_trySlide_15
theorem c_X2_trySlide (l : Launch) (D : va_G) (ct : im_ct) (F : Nat) (aN aNE aC : Nat → Nat) (N : Mem) (NE : Mem) (C : Mem) (x2 : Int32) (x3 : Int32) (x4 : Int32) (x5 : Int32) : CMv l D ct yX2_trySlide cX2_trySlide 6 none 3 [.ref (aN 0), .ref (aC 0), .int x2, .int x3, .int x4, .int x5] (cat [w_Inquest ct aN aNE N, w_Effect ct aNE NE, w_Cloth ct aC C]) (f_X2_trySlide F N NE C x2 x3 x4 x5) (fun z : Mem × Mem => (cat [w_Inquest ct aN aNE z.1, w_Effect ct aNE z.2, w_Cloth ct aC C])) :=
  im_met (Qb := fun A => QV D A (fun z : Mem × Mem => (cat [w_Inquest ct aN aNE z.1, w_Effect ct aNE z.2, w_Cloth ct aC C]))) (by decide +kernel) (Nat.le_of_ble_eq_true rfl) (fun p e s m args below meth c A X => i_X2_trySlide X F aN aNE aC N NE C x2 x3 x4 x5)

noncomputable def f_X2_findSlides_106 (F : Nat) (N : Mem) (NE : Mem) (C : Mem) (x2 : Int32) (x3 : Int32) (x4 : Int32) (s2 : Int32) (s3 : Int32) (s4 : Int32) (s5 : Int32) (k46 : Mem → Mem → Int32 → Option (Mem × Mem)) : Option (Mem × Mem) :=
  (f_X2_trySlide F N NE C s2 s3 s4 s5).bind (fun z106 => k46 z106.1 z106.2 (x4 + 1))
set_option maxRecDepth 100000 in
set_option maxHeartbeats 4000000 in
theorem i_X2_findSlides_106 {p : Program} {l : Launch} {e : Env} {s : State} {m : MethodId} {args : Array Value} {below : List Frame} {meth : Method} {c : Code} {D : va_G} {ct : im_ct} {A : Nat → Prop} (X : im_X p (im_rm 4) s m args meth c D ct A RX2 cX2_findSlides 5 none) (F : Nat) (aN aNE aC : Nat → Nat) (N : Mem) (NE : Mem) (C : Mem) (x2 : Int32) (x3 : Int32) (x4 : Int32) (s2 : Int32) (s3 : Int32) (s4 : Int32) (s5 : Int32) (k46 : Mem → Mem → Int32 → Option (Mem × Mem)) (hk46 : ∀ (N : Mem) (NE : Mem) (x4 : Int32), Im p l e (im_rm 4) s m args below meth c D A 5 (QV D A (fun z : Mem × Mem => (cat [w_Inquest ct aN aNE z.1, w_Effect ct aNE z.2, w_Cloth ct aC C]))) 46 [(0, .ref (aN 0)), (1, .ref (aC 0)), (2, .int x2), (3, .int x3), (4, .int x4)] [] (cat [w_Inquest ct aN aNE N, w_Effect ct aNE NE, w_Cloth ct aC C]) (k46 N NE x4)) : Im p l e (im_rm 4) s m args below meth c D A 5 (QV D A (fun z : Mem × Mem => (cat [w_Inquest ct aN aNE z.1, w_Effect ct aNE z.2, w_Cloth ct aC C]))) 106 [(0, .ref (aN 0)), (1, .ref (aC 0)), (2, .int x2), (3, .int x3), (4, .int x4)] [.int s5, .int s4, .int s3, .int s2, .ref (aC 0), .ref (aN 0)] (cat [w_Inquest ct aN aNE N, w_Effect ct aNE NE, w_Cloth ct aC C]) (f_X2_findSlides_106 F N NE C x2 x3 x4 s2 s3 s4 s5 k46) := by
  unfold f_X2_findSlides_106
  refine im_ccvV X [.ref (aC 0), .int s2, .int s3, .int s4, .int s5] [] [w_Inquest ct aN aNE N, w_Effect ct aNE NE, w_Cloth ct aC C] [w_Inquest ct aN aNE N, w_Effect ct aNE NE, w_Cloth ct aC C] [0, 1, 2] (fun z106 => [w_Inquest ct aN aNE z106.1, w_Effect ct aNE z106.2, w_Cloth ct aC C]) 0 0 2 rfl rfl rfl cl_X2_149 (c_X2_trySlide l D ct F aN aNE aC N NE C s2 s3 s4 s5) rfl (by decide) (fun _ => lc fa_Inquest (lc fa_Effect (lc rfl (rfl)))) rfl ⟨by decide, by decide⟩ (Nat.le_of_ble_eq_true rfl) rfl dX2_findSlides_106 (fun z106 => ?_)
  refine im_ws (cat [w_Inquest ct aN aNE z106.1, w_Effect ct aNE z106.2, w_Cloth ct aC C]) rfl ?_
  refine im_iinc X 4 1 [1, 2, 3, 4, 0] [(0, .ref (aN 0)), (1, .ref (aC 0)), (2, .int x2), (3, .int x3), (4, .int (x4 + 1))] dX2_findSlides_109 (by decide) rfl (by decide) rfl ?_
  refine im_goto (tgt := 46) X dX2_findSlides_112 rfl ?_
  exact hk46 z106.1 z106.2 (x4 + 1)
noncomputable def f_X2_findSlides_76 (F : Nat) (N : Mem) (NE : Mem) (C : Mem) (x2 : Int32) (x3 : Int32) (x4 : Int32) (s2 : Int32) (s3 : Int32) (s4 : Int32) (s5 : Int32) (k46 : Mem → Mem → Int32 → Option (Mem × Mem)) : Option (Mem × Mem) :=
  (f_X2_trySlide F N NE C s2 s3 s4 s5).bind (fun z76 => (if (C 0 6) ≤ (x4 + 1) then f_X2_findSlides_106 F z76.1 z76.2 C x2 x3 x4 x2 ((x3 * 6) + x4) 1 0 k46 else f_X2_findSlides_106 F z76.1 z76.2 C x2 x3 x4 x2 ((x3 * 6) + x4) 1 1 k46))
set_option maxRecDepth 100000 in
set_option maxHeartbeats 4000000 in
theorem i_X2_findSlides_76 {p : Program} {l : Launch} {e : Env} {s : State} {m : MethodId} {args : Array Value} {below : List Frame} {meth : Method} {c : Code} {D : va_G} {ct : im_ct} {A : Nat → Prop} (X : im_X p (im_rm 4) s m args meth c D ct A RX2 cX2_findSlides 5 none) (F : Nat) (aN aNE aC : Nat → Nat) (N : Mem) (NE : Mem) (C : Mem) (x2 : Int32) (x3 : Int32) (x4 : Int32) (s2 : Int32) (s3 : Int32) (s4 : Int32) (s5 : Int32) (k46 : Mem → Mem → Int32 → Option (Mem × Mem)) (hk46 : ∀ (N : Mem) (NE : Mem) (x4 : Int32), Im p l e (im_rm 4) s m args below meth c D A 5 (QV D A (fun z : Mem × Mem => (cat [w_Inquest ct aN aNE z.1, w_Effect ct aNE z.2, w_Cloth ct aC C]))) 46 [(0, .ref (aN 0)), (1, .ref (aC 0)), (2, .int x2), (3, .int x3), (4, .int x4)] [] (cat [w_Inquest ct aN aNE N, w_Effect ct aNE NE, w_Cloth ct aC C]) (k46 N NE x4)) : Im p l e (im_rm 4) s m args below meth c D A 5 (QV D A (fun z : Mem × Mem => (cat [w_Inquest ct aN aNE z.1, w_Effect ct aNE z.2, w_Cloth ct aC C]))) 76 [(0, .ref (aN 0)), (1, .ref (aC 0)), (2, .int x2), (3, .int x3), (4, .int x4)] [.int s5, .int s4, .int s3, .int s2, .ref (aC 0), .ref (aN 0)] (cat [w_Inquest ct aN aNE N, w_Effect ct aNE NE, w_Cloth ct aC C]) (f_X2_findSlides_76 F N NE C x2 x3 x4 s2 s3 s4 s5 k46) := by
  unfold f_X2_findSlides_76
  refine im_ccvV X [.ref (aC 0), .int s2, .int s3, .int s4, .int s5] [] [w_Inquest ct aN aNE N, w_Effect ct aNE NE, w_Cloth ct aC C] [w_Inquest ct aN aNE N, w_Effect ct aNE NE, w_Cloth ct aC C] [0, 1, 2] (fun z76 => [w_Inquest ct aN aNE z76.1, w_Effect ct aNE z76.2, w_Cloth ct aC C]) 0 0 2 rfl rfl rfl cl_X2_149 (c_X2_trySlide l D ct F aN aNE aC N NE C s2 s3 s4 s5) rfl (by decide) (fun _ => lc fa_Inquest (lc fa_Effect (lc rfl (rfl)))) rfl ⟨by decide, by decide⟩ (Nat.le_of_ble_eq_true rfl) rfl dX2_findSlides_76 (fun z76 => ?_)
  refine im_ws (cat [w_Inquest ct aN aNE z76.1, w_Effect ct aNE z76.2, w_Cloth ct aC C]) rfl ?_
  refine im_aload_n X 0 dX2_findSlides_79 rfl rfl ?_
  refine im_aload_n X 1 dX2_findSlides_80 rfl rfl ?_
  refine im_iload_n X 2 dX2_findSlides_81 rfl rfl ?_
  refine im_iload_n X 3 dX2_findSlides_82 rfl rfl ?_
  refine im_bipush X 6 dX2_findSlides_83 (by decide) ?_
  refine im_imul X dX2_findSlides_85 ?_
  refine im_iload X 4 dX2_findSlides_86 rfl ?_
  refine im_iadd X dX2_findSlides_88 ?_
  refine im_iconst X 1 dX2_findSlides_89 (by decide) ?_
  refine im_iload X 4 dX2_findSlides_90 rfl ?_
  refine im_iconst X 1 dX2_findSlides_92 (by decide) ?_
  refine im_iadd X dX2_findSlides_93 ?_
  refine im_aload_n X 1 dX2_findSlides_94 rfl rfl ?_
  refine im_cget X 2 0 (v := .int (C 0 6)) fl_X2_126 rfl rfl rfl dX2_findSlides_95 ?_
  refine im_icmp_ge (tgt := 105) X dX2_findSlides_98 rfl ?_ ?_
  · refine im_iconst X 0 dX2_findSlides_105 (by decide) ?_
    exact i_X2_findSlides_106 X F aN aNE aC z76.1 z76.2 C x2 x3 x4 x2 ((x3 * 6) + x4) 1 0 _ hk46
  · refine im_iconst X 1 dX2_findSlides_101 (by decide) ?_
    refine im_goto (tgt := 106) X dX2_findSlides_102 rfl ?_
    exact i_X2_findSlides_106 X F aN aNE aC z76.1 z76.2 C x2 x3 x4 x2 ((x3 * 6) + x4) 1 1 _ hk46
noncomputable def f_X2_findSlides_46 (F : Nat) (C : Mem) (x2 : Int32) (x3 : Int32) (k115 : Mem → Mem → Option (Mem × Mem)) : Nat → Mem → Mem → Int32 → Option (Mem × Mem)
  | 0, _, _, _ => none
  | n + 1, N, NE, x4 =>
  (if (C 0 6) ≤ x4 then k115 N NE else (if x4 ≤ 0 then f_X2_findSlides_76 F N NE C x2 x3 x4 x2 ((x3 * 6) + x4) 0 0 (f_X2_findSlides_46 F C x2 x3 k115 n) else f_X2_findSlides_76 F N NE C x2 x3 x4 x2 ((x3 * 6) + x4) 0 1 (f_X2_findSlides_46 F C x2 x3 k115 n)))
set_option maxRecDepth 100000 in
set_option maxHeartbeats 4000000 in
theorem i_X2_findSlides_46 {p : Program} {l : Launch} {e : Env} {s : State} {m : MethodId} {args : Array Value} {below : List Frame} {meth : Method} {c : Code} {D : va_G} {ct : im_ct} {A : Nat → Prop} (X : im_X p (im_rm 4) s m args meth c D ct A RX2 cX2_findSlides 5 none) (F : Nat) (aN aNE aC : Nat → Nat) (C : Mem) (x2 : Int32) (x3 : Int32) (k115 : Mem → Mem → Option (Mem × Mem)) (hk115 : ∀ (N : Mem) (NE : Mem), Im p l e (im_rm 4) s m args below meth c D A 5 (QV D A (fun z : Mem × Mem => (cat [w_Inquest ct aN aNE z.1, w_Effect ct aNE z.2, w_Cloth ct aC C]))) 115 [(0, .ref (aN 0)), (1, .ref (aC 0)), (2, .int x2), (3, .int x3)] [] (cat [w_Inquest ct aN aNE N, w_Effect ct aNE NE, w_Cloth ct aC C]) (k115 N NE)) : ∀ (n : Nat) (N : Mem) (NE : Mem) (x4 : Int32), Im p l e (im_rm 4) s m args below meth c D A 5 (QV D A (fun z : Mem × Mem => (cat [w_Inquest ct aN aNE z.1, w_Effect ct aNE z.2, w_Cloth ct aC C]))) 46 [(0, .ref (aN 0)), (1, .ref (aC 0)), (2, .int x2), (3, .int x3), (4, .int x4)] [] (cat [w_Inquest ct aN aNE N, w_Effect ct aNE NE, w_Cloth ct aC C]) (f_X2_findSlides_46 F C x2 x3 k115 n N NE x4) := by
  intro n
  induction n with
  | zero => intros; exact im_none
  | succ n ih =>
    intro N NE x4
    unfold f_X2_findSlides_46
    refine im_iload X 4 dX2_findSlides_46 rfl ?_
    refine im_aload_n X 1 dX2_findSlides_48 rfl rfl ?_
    refine im_cget X 2 0 (v := .int (C 0 6)) fl_X2_126 rfl rfl rfl dX2_findSlides_49 ?_
    refine im_icmp_ge (tgt := 115) X dX2_findSlides_52 rfl ?_ ?_
    · refine im_lv [0, 1, 2, 3] [(0, .ref (aN 0)), (1, .ref (aC 0)), (2, .int x2), (3, .int x3)] rfl ?_
      exact hk115 N NE
    · refine im_aload_n X 0 dX2_findSlides_55 rfl rfl ?_
      refine im_aload_n X 1 dX2_findSlides_56 rfl rfl ?_
      refine im_iload_n X 2 dX2_findSlides_57 rfl rfl ?_
      refine im_iload_n X 3 dX2_findSlides_58 rfl rfl ?_
      refine im_bipush X 6 dX2_findSlides_59 (by decide) ?_
      refine im_imul X dX2_findSlides_61 ?_
      refine im_iload X 4 dX2_findSlides_62 rfl ?_
      refine im_iadd X dX2_findSlides_64 ?_
      refine im_iconst X 0 dX2_findSlides_65 (by decide) ?_
      refine im_iload X 4 dX2_findSlides_66 rfl ?_
      refine im_if_le (tgt := 75) X dX2_findSlides_68 rfl ?_ ?_
      · refine im_iconst X 0 dX2_findSlides_75 (by decide) ?_
        exact i_X2_findSlides_76 X F aN aNE aC N NE C x2 x3 x4 x2 ((x3 * 6) + x4) 0 0 _ ih
      · refine im_iconst X 1 dX2_findSlides_71 (by decide) ?_
        refine im_goto (tgt := 76) X dX2_findSlides_72 rfl ?_
        exact i_X2_findSlides_76 X F aN aNE aC N NE C x2 x3 x4 x2 ((x3 * 6) + x4) 0 1 _ ih
noncomputable def f_X2_findSlides_35 (F : Nat) (C : Mem) (x2 : Int32) (k121 : Mem → Mem → Option (Mem × Mem)) : Nat → Mem → Mem → Int32 → Option (Mem × Mem)
  | 0, _, _, _ => none
  | n + 1, N, NE, x3 =>
  (if (C 0 7) ≤ x3 then k121 N NE else f_X2_findSlides_46 F C x2 x3 (fun N_115 NE_115 => f_X2_findSlides_35 F C x2 k121 n N_115 NE_115 (x3 + 1)) F N NE 0)
set_option maxRecDepth 100000 in
set_option maxHeartbeats 4000000 in
theorem i_X2_findSlides_35 {p : Program} {l : Launch} {e : Env} {s : State} {m : MethodId} {args : Array Value} {below : List Frame} {meth : Method} {c : Code} {D : va_G} {ct : im_ct} {A : Nat → Prop} (X : im_X p (im_rm 4) s m args meth c D ct A RX2 cX2_findSlides 5 none) (F : Nat) (aN aNE aC : Nat → Nat) (C : Mem) (x2 : Int32) (k121 : Mem → Mem → Option (Mem × Mem)) (hk121 : ∀ (N : Mem) (NE : Mem), Im p l e (im_rm 4) s m args below meth c D A 5 (QV D A (fun z : Mem × Mem => (cat [w_Inquest ct aN aNE z.1, w_Effect ct aNE z.2, w_Cloth ct aC C]))) 121 [(0, .ref (aN 0)), (1, .ref (aC 0)), (2, .int x2)] [] (cat [w_Inquest ct aN aNE N, w_Effect ct aNE NE, w_Cloth ct aC C]) (k121 N NE)) : ∀ (n : Nat) (N : Mem) (NE : Mem) (x3 : Int32), Im p l e (im_rm 4) s m args below meth c D A 5 (QV D A (fun z : Mem × Mem => (cat [w_Inquest ct aN aNE z.1, w_Effect ct aNE z.2, w_Cloth ct aC C]))) 35 [(0, .ref (aN 0)), (1, .ref (aC 0)), (2, .int x2), (3, .int x3)] [] (cat [w_Inquest ct aN aNE N, w_Effect ct aNE NE, w_Cloth ct aC C]) (f_X2_findSlides_35 F C x2 k121 n N NE x3) := by
  intro n
  induction n with
  | zero => intros; exact im_none
  | succ n ih =>
    intro N NE x3
    unfold f_X2_findSlides_35
    refine im_iload_n X 3 dX2_findSlides_35 rfl rfl ?_
    refine im_aload_n X 1 dX2_findSlides_36 rfl rfl ?_
    refine im_cget X 2 0 (v := .int (C 0 7)) fl_X2_98 rfl rfl rfl dX2_findSlides_37 ?_
    refine im_icmp_ge (tgt := 121) X dX2_findSlides_40 rfl ?_ ?_
    · refine im_lv [0, 1, 2] [(0, .ref (aN 0)), (1, .ref (aC 0)), (2, .int x2)] rfl ?_
      exact hk121 N NE
    · refine im_iconst X 0 dX2_findSlides_43 (by decide) ?_
      refine im_istore X [1, 2, 3, 4, 0] [(0, .ref (aN 0)), (1, .ref (aC 0)), (2, .int x2), (3, .int x3), (4, .int 0)] dX2_findSlides_44 (by decide) rfl ?_
      refine i_X2_findSlides_46 X F aN aNE aC C x2 x3 _ (fun N_115 NE_115 => ?_) F N NE 0
      refine im_iinc X 3 1 [1, 2, 3, 0] [(0, .ref (aN 0)), (1, .ref (aC 0)), (2, .int x2), (3, .int (x3 + 1))] dX2_findSlides_115 (by decide) rfl (by decide) rfl ?_
      refine im_goto (tgt := 35) X dX2_findSlides_118 rfl ?_
      exact ih N_115 NE_115 (x3 + 1)
noncomputable def f_X2_findSlides_25 (F : Nat) (C : Mem) (k127 : Mem → Mem → Option (Mem × Mem)) : Nat → Mem → Mem → Int32 → Option (Mem × Mem)
  | 0, _, _, _ => none
  | n + 1, N, NE, x2 =>
  (if (N 0 10) < x2 then k127 N NE else f_X2_findSlides_35 F C x2 (fun N_121 NE_121 => f_X2_findSlides_25 F C k127 n N_121 NE_121 (x2 + 1)) F N NE 0)
set_option maxRecDepth 100000 in
set_option maxHeartbeats 4000000 in
theorem i_X2_findSlides_25 {p : Program} {l : Launch} {e : Env} {s : State} {m : MethodId} {args : Array Value} {below : List Frame} {meth : Method} {c : Code} {D : va_G} {ct : im_ct} {A : Nat → Prop} (X : im_X p (im_rm 4) s m args meth c D ct A RX2 cX2_findSlides 5 none) (F : Nat) (aN aNE aC : Nat → Nat) (C : Mem) (k127 : Mem → Mem → Option (Mem × Mem)) (hk127 : ∀ (N : Mem) (NE : Mem), Im p l e (im_rm 4) s m args below meth c D A 5 (QV D A (fun z : Mem × Mem => (cat [w_Inquest ct aN aNE z.1, w_Effect ct aNE z.2, w_Cloth ct aC C]))) 127 [] [] (cat [w_Inquest ct aN aNE N, w_Effect ct aNE NE, w_Cloth ct aC C]) (k127 N NE)) : ∀ (n : Nat) (N : Mem) (NE : Mem) (x2 : Int32), Im p l e (im_rm 4) s m args below meth c D A 5 (QV D A (fun z : Mem × Mem => (cat [w_Inquest ct aN aNE z.1, w_Effect ct aNE z.2, w_Cloth ct aC C]))) 25 [(0, .ref (aN 0)), (1, .ref (aC 0)), (2, .int x2)] [] (cat [w_Inquest ct aN aNE N, w_Effect ct aNE NE, w_Cloth ct aC C]) (f_X2_findSlides_25 F C k127 n N NE x2) := by
  intro n
  induction n with
  | zero => intros; exact im_none
  | succ n ih =>
    intro N NE x2
    unfold f_X2_findSlides_25
    refine im_iload_n X 2 dX2_findSlides_25 rfl rfl ?_
    refine im_aload_n X 0 dX2_findSlides_26 rfl rfl ?_
    refine im_cget X 0 0 (v := .int (N 0 10)) fl_X2_114 rfl rfl rfl dX2_findSlides_27 ?_
    refine im_icmp_gt (tgt := 127) X dX2_findSlides_30 rfl ?_ ?_
    · refine im_lv [] [] rfl ?_
      exact hk127 N NE
    · refine im_iconst X 0 dX2_findSlides_33 (by decide) ?_
      refine im_istore_n X [1, 2, 3, 0] [(0, .ref (aN 0)), (1, .ref (aC 0)), (2, .int x2), (3, .int 0)] dX2_findSlides_34 rfl (by decide) rfl ?_
      refine i_X2_findSlides_35 X F aN aNE aC C x2 _ (fun N_121 NE_121 => ?_) F N NE 0
      refine im_iinc X 2 1 [1, 2, 0] [(0, .ref (aN 0)), (1, .ref (aC 0)), (2, .int (x2 + 1))] dX2_findSlides_121 (by decide) rfl (by decide) rfl ?_
      refine im_goto (tgt := 25) X dX2_findSlides_124 rfl ?_
      exact ih N_121 NE_121 (x2 + 1)
noncomputable def f_X2_findSlides (F : Nat) (N : Mem) (NE : Mem) (C : Mem) : Option (Mem × Mem) :=
  (f_X2_layOut F N NE C).bind (fun z2 => (if (z2.1 0 13) = 0 then f_X2_findSlides_25 F C (fun N_127 NE_127 => (some (N_127, NE_127))) F (mr z2.1 0 (fu (fu (z2.1 0) 13 1) 11 0)) z2.2 0 else (some (z2.1, z2.2))))
set_option maxRecDepth 100000 in
set_option maxHeartbeats 4000000 in
theorem i_X2_findSlides {p : Program} {l : Launch} {e : Env} {s : State} {m : MethodId} {args : Array Value} {below : List Frame} {meth : Method} {c : Code} {D : va_G} {ct : im_ct} {A : Nat → Prop} (X : im_X p (im_rm 4) s m args meth c D ct A RX2 cX2_findSlides 5 none) (F : Nat) (aN aNE aC : Nat → Nat) (N : Mem) (NE : Mem) (C : Mem) : Im p l e (im_rm 4) s m args below meth c D A 5 (QV D A (fun z : Mem × Mem => (cat [w_Inquest ct aN aNE z.1, w_Effect ct aNE z.2, w_Cloth ct aC C]))) 0 [(0, .ref (aN 0)), (1, .ref (aC 0))] [] (cat [w_Inquest ct aN aNE N, w_Effect ct aNE NE, w_Cloth ct aC C]) (f_X2_findSlides F N NE C) := by
  unfold f_X2_findSlides
  refine im_aload_n X 0 dX2_findSlides_0 rfl rfl ?_
  refine im_aload_n X 1 dX2_findSlides_1 rfl rfl ?_
  refine im_ccvV X [.ref (aC 0)] [] [w_Inquest ct aN aNE N, w_Effect ct aNE NE, w_Cloth ct aC C] [w_Inquest ct aN aNE N, w_Effect ct aNE NE, w_Cloth ct aC C] [0, 1, 2] (fun z2 => [w_Inquest ct aN aNE z2.1, w_Effect ct aNE z2.2, w_Cloth ct aC C]) 0 0 2 rfl rfl rfl cl_X2_121 (c_X2_layOut l D ct F aN aNE aC N NE C) rfl (by decide) (fun _ => lc fa_Inquest (lc fa_Effect (lc rfl (rfl)))) rfl ⟨by decide, by decide⟩ (Nat.le_of_ble_eq_true rfl) rfl dX2_findSlides_2 (fun z2 => ?_)
  refine im_ws (cat [w_Inquest ct aN aNE z2.1, w_Effect ct aNE z2.2, w_Cloth ct aC C]) rfl ?_
  refine im_aload_n X 0 dX2_findSlides_5 rfl rfl ?_
  refine im_cget X 0 0 (v := .int (z2.1 0 13)) fl_X2_143 rfl rfl rfl dX2_findSlides_6 ?_
  refine im_if_eq (tgt := 13) X dX2_findSlides_9 rfl ?_ ?_
  · refine im_aload_n X 0 dX2_findSlides_13 rfl rfl ?_
    refine im_iconst X 1 dX2_findSlides_14 (by decide) ?_
    refine im_cput X 0 0 (wx_Inquest ct aN aNE (z2.1 0 10) (z2.1 0 11) (z2.1 0 12) 1 (z2.1 1) (z2.1 2) (z2.1 3) (z2.1 4) (z2.1 5) (z2.1 6) (z2.1 7) (z2.1 8) (z2.1 9)) [wx_Inquest ct aN aNE (z2.1 0 10) (z2.1 0 11) (z2.1 0 12) 1 (z2.1 1) (z2.1 2) (z2.1 3) (z2.1 4) (z2.1 5) (z2.1 6) (z2.1 7) (z2.1 8) (z2.1 9), w_Effect ct aNE z2.2, w_Cloth ct aC C] fl_X2_143 rfl rfl rfl rfl (Nat.le_of_ble_eq_true rfl) rfl rfl dX2_findSlides_15 ?_
    refine im_aload_n X 0 dX2_findSlides_18 rfl rfl ?_
    refine im_iconst X 0 dX2_findSlides_19 (by decide) ?_
    refine im_cput X 0 0 (wx_Inquest ct aN aNE (z2.1 0 10) 0 (z2.1 0 12) 1 (z2.1 1) (z2.1 2) (z2.1 3) (z2.1 4) (z2.1 5) (z2.1 6) (z2.1 7) (z2.1 8) (z2.1 9)) [wx_Inquest ct aN aNE (z2.1 0 10) 0 (z2.1 0 12) 1 (z2.1 1) (z2.1 2) (z2.1 3) (z2.1 4) (z2.1 5) (z2.1 6) (z2.1 7) (z2.1 8) (z2.1 9), w_Effect ct aNE z2.2, w_Cloth ct aC C] fl_X2_146 rfl rfl rfl rfl (Nat.le_of_ble_eq_true rfl) rfl rfl dX2_findSlides_20 ?_
    refine im_iconst X 0 dX2_findSlides_23 (by decide) ?_
    refine im_istore_n X [1, 2, 0] [(0, .ref (aN 0)), (1, .ref (aC 0)), (2, .int 0)] dX2_findSlides_24 rfl (by decide) rfl ?_
    refine i_X2_findSlides_25 X F aN aNE aC C  _ (fun N_127 NE_127 => ?_) F (mr z2.1 0 (fu (fu (z2.1 0) 13 1) 11 0)) z2.2 0
    exact im_return X (N_127, NE_127) rfl dX2_findSlides_127
  · exact im_return X (z2.1, z2.2) rfl dX2_findSlides_12
theorem c_X2_findSlides (l : Launch) (D : va_G) (ct : im_ct) (F : Nat) (aN aNE aC : Nat → Nat) (N : Mem) (NE : Mem) (C : Mem) : CMv l D ct yX2_findSlides cX2_findSlides 5 none 4 [.ref (aN 0), .ref (aC 0)] (cat [w_Inquest ct aN aNE N, w_Effect ct aNE NE, w_Cloth ct aC C]) (f_X2_findSlides F N NE C) (fun z : Mem × Mem => (cat [w_Inquest ct aN aNE z.1, w_Effect ct aNE z.2, w_Cloth ct aC C])) :=
  im_met (Qb := fun A => QV D A (fun z : Mem × Mem => (cat [w_Inquest ct aN aNE z.1, w_Effect ct aNE z.2, w_Cloth ct aC C]))) (by decide +kernel) (Nat.le_of_ble_eq_true rfl) (fun p e s m args below meth c A X => i_X2_findSlides X F aN aNE aC N NE C)

noncomputable def f_X2_slideCell (F : Nat) (N : Mem) (x1 : Int32) : Option (Int32) :=
  ck x1 1000 (dv 2 (dv 24 ((some ((((N 6) x1.toNatClampNeg) / 2) - (((N 6) x1.toNatClampNeg) / 2) / 24 * 24)))))
set_option maxRecDepth 100000 in
set_option maxHeartbeats 4000000 in
theorem i_X2_slideCell {p : Program} {l : Launch} {e : Env} {s : State} {m : MethodId} {args : Array Value} {below : List Frame} {meth : Method} {c : Code} {D : va_G} {ct : im_ct} {A : Nat → Prop} (X : im_X p (im_rm 0) s m args meth c D ct A RX2 cX2_slideCell 2 (some .int)) (F : Nat) (aN aNE : Nat → Nat) (N : Mem) (x1 : Int32) : Im p l e (im_rm 0) s m args below meth c D A 2 (QI D A (fun z : Int32 => z) (fun z : Int32 => (cat [w_Inquest ct aN aNE N]))) 0 [(0, .ref (aN 0)), (1, .int x1)] [] (cat [w_Inquest ct aN aNE N]) (f_X2_slideCell F N x1) := by
  unfold f_X2_slideCell
  refine im_aload_n X 0 dX2_slideCell_0 rfl rfl ?_
  refine im_cget X 0 0 (v := .ref (aN 6)) fl_X2_27 rfl rfl rfl dX2_slideCell_1 ?_
  refine im_iload_n X 1 dX2_slideCell_4 rfl rfl ?_
  refine im_ciald X 0 6 0 (f := (N 6)) rfl rfl rfl dX2_slideCell_5 ?_
  refine im_iconst X 2 dX2_slideCell_6 (by decide) ?_
  refine im_idiv X dX2_slideCell_7 ?_
  refine im_bipush X 24 dX2_slideCell_8 (by decide) ?_
  refine im_irem X dX2_slideCell_10 ?_
  exact im_ireturn X ((((N 6) x1.toNatClampNeg) / 2) - (((N 6) x1.toNatClampNeg) / 2) / 24 * 24) rfl rfl dX2_slideCell_11
theorem c_X2_slideCell (l : Launch) (D : va_G) (ct : im_ct) (F : Nat) (aN aNE : Nat → Nat) (N : Mem) (x1 : Int32) : CMi l D ct yX2_slideCell cX2_slideCell 2 (some .int) 0 [.ref (aN 0), .int x1] (cat [w_Inquest ct aN aNE N]) (f_X2_slideCell F N x1) (fun z : Int32 => z) (fun z : Int32 => (cat [w_Inquest ct aN aNE N])) :=
  im_met (Qb := fun A => QI D A (fun z : Int32 => z) (fun z : Int32 => (cat [w_Inquest ct aN aNE N]))) (by decide +kernel) (Nat.le_of_ble_eq_true rfl) (fun p e s m args below meth c A X => i_X2_slideCell X F aN aNE N x1)

noncomputable def f_X2_slidesUp (F : Nat) (N : Mem) (x1 : Int32) : Option (Int32) :=
  ck x1 1000 (dv 2 ((if (((N 6) x1.toNatClampNeg) - ((N 6) x1.toNatClampNeg) / 2 * 2) = 1 then (some 1) else (some 0))))
set_option maxRecDepth 100000 in
set_option maxHeartbeats 4000000 in
theorem i_X2_slidesUp {p : Program} {l : Launch} {e : Env} {s : State} {m : MethodId} {args : Array Value} {below : List Frame} {meth : Method} {c : Code} {D : va_G} {ct : im_ct} {A : Nat → Prop} (X : im_X p (im_rm 0) s m args meth c D ct A RX2 cX2_slidesUp 2 (some .boolean)) (F : Nat) (aN aNE : Nat → Nat) (N : Mem) (x1 : Int32) : Im p l e (im_rm 0) s m args below meth c D A 2 (QI D A (fun z : Int32 => z) (fun z : Int32 => (cat [w_Inquest ct aN aNE N]))) 0 [(0, .ref (aN 0)), (1, .int x1)] [] (cat [w_Inquest ct aN aNE N]) (f_X2_slidesUp F N x1) := by
  unfold f_X2_slidesUp
  refine im_aload_n X 0 dX2_slidesUp_0 rfl rfl ?_
  refine im_cget X 0 0 (v := .ref (aN 6)) fl_X2_27 rfl rfl rfl dX2_slidesUp_1 ?_
  refine im_iload_n X 1 dX2_slidesUp_4 rfl rfl ?_
  refine im_ciald X 0 6 0 (f := (N 6)) rfl rfl rfl dX2_slidesUp_5 ?_
  refine im_iconst X 2 dX2_slidesUp_6 (by decide) ?_
  refine im_irem X dX2_slidesUp_7 ?_
  refine im_iconst X 1 dX2_slidesUp_8 (by decide) ?_
  refine im_icmp_ne (tgt := 16) X dX2_slidesUp_9 rfl ?_ ?_
  · refine im_iconst X 0 dX2_slidesUp_16 (by decide) ?_
    exact im_zreturn X 0 rfl rfl rfl dX2_slidesUp_17
  · refine im_iconst X 1 dX2_slidesUp_12 (by decide) ?_
    refine im_goto (tgt := 17) X dX2_slidesUp_13 rfl ?_
    exact im_zreturn X 1 rfl rfl rfl dX2_slidesUp_17
theorem c_X2_slidesUp (l : Launch) (D : va_G) (ct : im_ct) (F : Nat) (aN aNE : Nat → Nat) (N : Mem) (x1 : Int32) : CMi l D ct yX2_slidesUp cX2_slidesUp 2 (some .boolean) 0 [.ref (aN 0), .int x1] (cat [w_Inquest ct aN aNE N]) (f_X2_slidesUp F N x1) (fun z : Int32 => z) (fun z : Int32 => (cat [w_Inquest ct aN aNE N])) :=
  im_met (Qb := fun A => QI D A (fun z : Int32 => z) (fun z : Int32 => (cat [w_Inquest ct aN aNE N]))) (by decide +kernel) (Nat.le_of_ble_eq_true rfl) (fun p e s m args below meth c A X => i_X2_slidesUp X F aN aNE N x1)

noncomputable def f_X2_slideTime (F : Nat) (N : Mem) (x1 : Int32) : Option (Int32) :=
  ck x1 1000 (dv 48 ((some (((N 6) x1.toNatClampNeg) / 48))))
set_option maxRecDepth 100000 in
set_option maxHeartbeats 4000000 in
theorem i_X2_slideTime {p : Program} {l : Launch} {e : Env} {s : State} {m : MethodId} {args : Array Value} {below : List Frame} {meth : Method} {c : Code} {D : va_G} {ct : im_ct} {A : Nat → Prop} (X : im_X p (im_rm 0) s m args meth c D ct A RX2 cX2_slideTime 2 (some .int)) (F : Nat) (aN aNE : Nat → Nat) (N : Mem) (x1 : Int32) : Im p l e (im_rm 0) s m args below meth c D A 2 (QI D A (fun z : Int32 => z) (fun z : Int32 => (cat [w_Inquest ct aN aNE N]))) 0 [(0, .ref (aN 0)), (1, .int x1)] [] (cat [w_Inquest ct aN aNE N]) (f_X2_slideTime F N x1) := by
  unfold f_X2_slideTime
  refine im_aload_n X 0 dX2_slideTime_0 rfl rfl ?_
  refine im_cget X 0 0 (v := .ref (aN 6)) fl_X2_27 rfl rfl rfl dX2_slideTime_1 ?_
  refine im_iload_n X 1 dX2_slideTime_4 rfl rfl ?_
  refine im_ciald X 0 6 0 (f := (N 6)) rfl rfl rfl dX2_slideTime_5 ?_
  refine im_bipush X 48 dX2_slideTime_6 (by decide) ?_
  refine im_idiv X dX2_slideTime_8 ?_
  exact im_ireturn X (((N 6) x1.toNatClampNeg) / 48) rfl rfl dX2_slideTime_9
theorem c_X2_slideTime (l : Launch) (D : va_G) (ct : im_ct) (F : Nat) (aN aNE : Nat → Nat) (N : Mem) (x1 : Int32) : CMi l D ct yX2_slideTime cX2_slideTime 2 (some .int) 0 [.ref (aN 0), .int x1] (cat [w_Inquest ct aN aNE N]) (f_X2_slideTime F N x1) (fun z : Int32 => z) (fun z : Int32 => (cat [w_Inquest ct aN aNE N])) :=
  im_met (Qb := fun A => QI D A (fun z : Int32 => z) (fun z : Int32 => (cat [w_Inquest ct aN aNE N]))) (by decide +kernel) (Nat.le_of_ble_eq_true rfl) (fun p e s m args below meth c A X => i_X2_slideTime X F aN aNE N x1)

noncomputable def f_X2_tellSlide_93 (F : Nat) (N : Mem) (C : Mem) (x4 : Int32) (s0 : Int32) : Option (Int32) :=
  (f_X0_hasColumn F C s0).bind (fun z98 => (if z98 = 0 then (some 0) else ck s0 6 (ck x4 6 ((some (((C 2) s0.toNatClampNeg) - ((C 2) x4.toNatClampNeg)))))))
set_option maxRecDepth 100000 in
set_option maxHeartbeats 4000000 in
theorem i_X2_tellSlide_93 {p : Program} {l : Launch} {e : Env} {s : State} {m : MethodId} {args : Array Value} {below : List Frame} {meth : Method} {c : Code} {D : va_G} {ct : im_ct} {A : Nat → Prop} (X : im_X p (im_rm 1) s m args meth c D ct A RX2 cX2_tellSlide 7 (some .int)) (F : Nat) (aN aNE aC : Nat → Nat) (N : Mem) (C : Mem) (x4 : Int32) (s0 : Int32) : Im p l e (im_rm 1) s m args below meth c D A 7 (QI D A (fun z : Int32 => z) (fun z : Int32 => (cat [w_Inquest ct aN aNE N, w_Cloth ct aC C]))) 93 [(1, .ref (aC 0)), (4, .int x4)] [.int s0] (cat [w_Inquest ct aN aNE N, w_Cloth ct aC C]) (f_X2_tellSlide_93 F N C x4 s0) := by
  unfold f_X2_tellSlide_93
  refine im_istore X [1, 2, 0] [(1, .ref (aC 0)), (4, .int x4), (6, .int s0)] dX2_tellSlide_93 (by decide) rfl ?_
  refine im_aload_n X 0 dX2_tellSlide_95 rfl rfl ?_
  refine im_iload X 2 dX2_tellSlide_96 rfl ?_
  refine im_cciV X [.int s0] [] [w_Inquest ct aN aNE N, w_Cloth ct aC C] [w_Cloth ct aC C] [1] (fun z98 => [w_Cloth ct aC C]) 1 0 0 rfl rfl rfl cl_X2_169 (c_X0_hasColumn l D ct F aC C s0) rfl (by decide) (fun _ => lc rfl (rfl)) rfl ⟨by decide, by decide⟩ (Nat.le_of_ble_eq_true rfl) rfl dX2_tellSlide_98 (fun z98 => ?_)
  refine im_ws (cat [w_Inquest ct aN aNE N, w_Cloth ct aC C]) rfl ?_
  refine im_if_eq (tgt := 122) X dX2_tellSlide_101 rfl ?_ ?_
  · refine im_iconst X 0 dX2_tellSlide_122 (by decide) ?_
    exact im_ireturn X 0 rfl rfl dX2_tellSlide_123
  · refine im_aload_n X 0 dX2_tellSlide_104 rfl rfl ?_
    refine im_cget X 1 0 (v := .ref (aC 2)) fl_X2_129 rfl rfl rfl dX2_tellSlide_105 ?_
    refine im_iload X 2 dX2_tellSlide_108 rfl ?_
    refine im_ciald X 1 2 0 (f := (C 2)) rfl rfl rfl dX2_tellSlide_110 ?_
    refine im_aload_n X 0 dX2_tellSlide_111 rfl rfl ?_
    refine im_cget X 1 0 (v := .ref (aC 2)) fl_X2_129 rfl rfl rfl dX2_tellSlide_112 ?_
    refine im_iload X 1 dX2_tellSlide_115 rfl ?_
    refine im_ciald X 1 2 0 (f := (C 2)) rfl rfl rfl dX2_tellSlide_117 ?_
    refine im_isub X dX2_tellSlide_118 ?_
    refine im_goto (tgt := 123) X dX2_tellSlide_119 rfl ?_
    exact im_ireturn X (((C 2) s0.toNatClampNeg) - ((C 2) x4.toNatClampNeg)) rfl rfl dX2_tellSlide_123
noncomputable def f_X2_tellSlide (F : Nat) (N : Mem) (C : Mem) (x2 : Int32) (x3 : Int32) : Option (Int32) :=
  (f_X2_slideCell F N x2).bind (fun z2 => dv 6 ((f_X2_slidesUp F N x2).bind (fun z12 => (if x3 = 0 then (f_X2_slideTime F N x2).bind (fun z50 => (some z50)) else if x3 = 1 then (f_X2_slideCell F N x2).bind (fun z56 => dv 6 ((some (z56 / 6)))) else if x3 = 2 then (some (z2 - z2 / 6 * 6)) else if x3 = 3 then (if z12 = 0 then (some 0) else (some 1)) else (if z12 = 0 then f_X2_tellSlide_93 F N C (z2 - z2 / 6 * 6) ((z2 - z2 / 6 * 6) - 1) else f_X2_tellSlide_93 F N C (z2 - z2 / 6 * 6) ((z2 - z2 / 6 * 6) + 1))))))
set_option maxRecDepth 100000 in
set_option maxHeartbeats 4000000 in
theorem i_X2_tellSlide {p : Program} {l : Launch} {e : Env} {s : State} {m : MethodId} {args : Array Value} {below : List Frame} {meth : Method} {c : Code} {D : va_G} {ct : im_ct} {A : Nat → Prop} (X : im_X p (im_rm 1) s m args meth c D ct A RX2 cX2_tellSlide 7 (some .int)) (F : Nat) (aN aNE aC : Nat → Nat) (N : Mem) (C : Mem) (x2 : Int32) (x3 : Int32) : Im p l e (im_rm 1) s m args below meth c D A 7 (QI D A (fun z : Int32 => z) (fun z : Int32 => (cat [w_Inquest ct aN aNE N, w_Cloth ct aC C]))) 0 [(0, .ref (aN 0)), (1, .ref (aC 0)), (2, .int x2), (3, .int x3)] [] (cat [w_Inquest ct aN aNE N, w_Cloth ct aC C]) (f_X2_tellSlide F N C x2 x3) := by
  unfold f_X2_tellSlide
  refine im_aload_n X 0 dX2_tellSlide_0 rfl rfl ?_
  refine im_iload_n X 2 dX2_tellSlide_1 rfl rfl ?_
  refine im_cciV X [.int x2] [] [w_Inquest ct aN aNE N, w_Cloth ct aC C] [w_Inquest ct aN aNE N] [0] (fun z2 => [w_Inquest ct aN aNE N]) 0 0 2 rfl rfl rfl cl_X2_160 (c_X2_slideCell l D ct F aN aNE N x2) rfl (by decide) (fun _ => lc rfl (rfl)) rfl ⟨by decide, by decide⟩ (Nat.le_of_ble_eq_true rfl) rfl dX2_tellSlide_2 (fun z2 => ?_)
  refine im_ws (cat [w_Inquest ct aN aNE N, w_Cloth ct aC C]) rfl ?_
  refine im_bipush X 6 dX2_tellSlide_5 (by decide) ?_
  refine im_irem X dX2_tellSlide_7 ?_
  refine im_istore X [1, 2, 3, 4, 0] [(0, .ref (aN 0)), (1, .ref (aC 0)), (2, .int x2), (3, .int x3), (4, .int (z2 - z2 / 6 * 6))] dX2_tellSlide_8 (by decide) rfl ?_
  refine im_aload_n X 0 dX2_tellSlide_10 rfl rfl ?_
  refine im_iload_n X 2 dX2_tellSlide_11 rfl rfl ?_
  refine im_cciV X [.int x2] [] [w_Inquest ct aN aNE N, w_Cloth ct aC C] [w_Inquest ct aN aNE N] [0] (fun z12 => [w_Inquest ct aN aNE N]) 0 0 2 rfl rfl rfl cl_X2_163 (c_X2_slidesUp l D ct F aN aNE N x2) rfl (by decide) (fun _ => lc rfl (rfl)) rfl ⟨by decide, by decide⟩ (Nat.le_of_ble_eq_true rfl) rfl dX2_tellSlide_12 (fun z12 => ?_)
  refine im_ws (cat [w_Inquest ct aN aNE N, w_Cloth ct aC C]) rfl ?_
  refine im_istore X [1, 2, 3, 4, 5, 0] [(0, .ref (aN 0)), (1, .ref (aC 0)), (2, .int x2), (3, .int x3), (4, .int (z2 - z2 / 6 * 6)), (5, .int z12)] dX2_tellSlide_15 (by decide) rfl ?_
  refine im_iload_n X 3 dX2_tellSlide_17 rfl rfl ?_
  refine im_ite (fun q0 => ?_) (fun q0 => ?_)
  · refine im_tabIn (tgt := 48) X dX2_tellSlide_18 (by rw [q0]; decide) (by rw [q0]; decide) (by rw [q0]; rfl) rfl ?_
    refine im_aload_n X 0 dX2_tellSlide_48 rfl rfl ?_
    refine im_iload_n X 2 dX2_tellSlide_49 rfl rfl ?_
    refine im_cciV X [.int x2] [] [w_Inquest ct aN aNE N, w_Cloth ct aC C] [w_Inquest ct aN aNE N] [0] (fun z50 => [w_Inquest ct aN aNE N]) 0 0 2 rfl rfl rfl cl_X2_166 (c_X2_slideTime l D ct F aN aNE N x2) rfl (by decide) (fun _ => lc rfl (rfl)) rfl ⟨by decide, by decide⟩ (Nat.le_of_ble_eq_true rfl) rfl dX2_tellSlide_50 (fun z50 => ?_)
    refine im_ws (cat [w_Inquest ct aN aNE N, w_Cloth ct aC C]) rfl ?_
    exact im_ireturn X z50 rfl rfl dX2_tellSlide_53
  · refine im_ite (fun q1 => ?_) (fun q1 => ?_)
    · refine im_tabIn (tgt := 54) X dX2_tellSlide_18 (by rw [q1]; decide) (by rw [q1]; decide) (by rw [q1]; rfl) rfl ?_
      refine im_aload_n X 0 dX2_tellSlide_54 rfl rfl ?_
      refine im_iload_n X 2 dX2_tellSlide_55 rfl rfl ?_
      refine im_cciV X [.int x2] [] [w_Inquest ct aN aNE N, w_Cloth ct aC C] [w_Inquest ct aN aNE N] [0] (fun z56 => [w_Inquest ct aN aNE N]) 0 0 2 rfl rfl rfl cl_X2_160 (c_X2_slideCell l D ct F aN aNE N x2) rfl (by decide) (fun _ => lc rfl (rfl)) rfl ⟨by decide, by decide⟩ (Nat.le_of_ble_eq_true rfl) rfl dX2_tellSlide_56 (fun z56 => ?_)
      refine im_ws (cat [w_Inquest ct aN aNE N, w_Cloth ct aC C]) rfl ?_
      refine im_bipush X 6 dX2_tellSlide_59 (by decide) ?_
      refine im_idiv X dX2_tellSlide_61 ?_
      exact im_ireturn X (z56 / 6) rfl rfl dX2_tellSlide_62
    · refine im_ite (fun q2 => ?_) (fun q2 => ?_)
      · refine im_tabIn (tgt := 63) X dX2_tellSlide_18 (by rw [q2]; decide) (by rw [q2]; decide) (by rw [q2]; rfl) rfl ?_
        refine im_iload X 4 dX2_tellSlide_63 rfl ?_
        exact im_ireturn X (z2 - z2 / 6 * 6) rfl rfl dX2_tellSlide_65
      · refine im_ite (fun q3 => ?_) (fun q3 => ?_)
        · refine im_tabIn (tgt := 66) X dX2_tellSlide_18 (by rw [q3]; decide) (by rw [q3]; decide) (by rw [q3]; rfl) rfl ?_
          refine im_iload X 5 dX2_tellSlide_66 rfl ?_
          refine im_if_eq (tgt := 75) X dX2_tellSlide_68 rfl ?_ ?_
          · refine im_iconst X 0 dX2_tellSlide_75 (by decide) ?_
            exact im_ireturn X 0 rfl rfl dX2_tellSlide_76
          · refine im_iconst X 1 dX2_tellSlide_71 (by decide) ?_
            refine im_goto (tgt := 76) X dX2_tellSlide_72 rfl ?_
            exact im_ireturn X 1 rfl rfl dX2_tellSlide_76
        · refine im_tabOut (tgt := 77) X dX2_tellSlide_18 (by have h0 := i32_ne q0 (by decide : (0 : Int32).toInt = 0); have h1 := i32_ne q1 (by decide : (1 : Int32).toInt = 1); have h2 := i32_ne q2 (by decide : (2 : Int32).toInt = 2); have h3 := i32_ne q3 (by decide : (3 : Int32).toInt = 3); omega) rfl ?_
          refine im_iload X 5 dX2_tellSlide_77 rfl ?_
          refine im_if_eq (tgt := 89) X dX2_tellSlide_79 rfl ?_ ?_
          · refine im_iload X 4 dX2_tellSlide_89 rfl ?_
            refine im_iconst X 1 dX2_tellSlide_91 (by decide) ?_
            refine im_isub X dX2_tellSlide_92 ?_
            refine im_lv [1, 4] [(1, .ref (aC 0)), (4, .int (z2 - z2 / 6 * 6))] rfl ?_
            exact i_X2_tellSlide_93 X F aN aNE aC N C (z2 - z2 / 6 * 6) ((z2 - z2 / 6 * 6) - 1) 
          · refine im_iload X 4 dX2_tellSlide_82 rfl ?_
            refine im_iconst X 1 dX2_tellSlide_84 (by decide) ?_
            refine im_iadd X dX2_tellSlide_85 ?_
            refine im_goto (tgt := 93) X dX2_tellSlide_86 rfl ?_
            refine im_lv [1, 4] [(1, .ref (aC 0)), (4, .int (z2 - z2 / 6 * 6))] rfl ?_
            exact i_X2_tellSlide_93 X F aN aNE aC N C (z2 - z2 / 6 * 6) ((z2 - z2 / 6 * 6) + 1) 
theorem c_X2_tellSlide (l : Launch) (D : va_G) (ct : im_ct) (F : Nat) (aN aNE aC : Nat → Nat) (N : Mem) (C : Mem) (x2 : Int32) (x3 : Int32) : CMi l D ct yX2_tellSlide cX2_tellSlide 7 (some .int) 1 [.ref (aN 0), .ref (aC 0), .int x2, .int x3] (cat [w_Inquest ct aN aNE N, w_Cloth ct aC C]) (f_X2_tellSlide F N C x2 x3) (fun z : Int32 => z) (fun z : Int32 => (cat [w_Inquest ct aN aNE N, w_Cloth ct aC C])) :=
  im_met (Qb := fun A => QI D A (fun z : Int32 => z) (fun z : Int32 => (cat [w_Inquest ct aN aNE N, w_Cloth ct aC C]))) (by decide +kernel) (Nat.le_of_ble_eq_true rfl) (fun p e s m args below meth c A X => i_X2_tellSlide X F aN aNE aC N C x2 x3)

noncomputable def f_X2_explainsLeftOut (F : Nat) (N : Mem) (NE : Mem) (C : Mem) (x2 : Int32) : Option (Int32 × Mem) :=
  (if (N 0 10) < x2 then (some (0, NE)) else (f_X0_describeLogged F C NE x2).bind (fun z14 => (if z14.1 = 0 then (some (0, z14.2)) else (f_X1_reverse F z14.2).bind (fun z26 => (f_X2_explains F N z26 C (x2 + 1)).bind (fun z34 => (cb z34 (some (z34, z26))))))))
set_option maxRecDepth 100000 in
set_option maxHeartbeats 4000000 in
theorem i_X2_explainsLeftOut {p : Program} {l : Launch} {e : Env} {s : State} {m : MethodId} {args : Array Value} {below : List Frame} {meth : Method} {c : Code} {D : va_G} {ct : im_ct} {A : Nat → Prop} (X : im_X p (im_rm 3) s m args meth c D ct A RX2 cX2_explainsLeftOut 3 (some .boolean)) (F : Nat) (aN aNE aC : Nat → Nat) (N : Mem) (NE : Mem) (C : Mem) (x2 : Int32) : Im p l e (im_rm 3) s m args below meth c D A 3 (QI D A (fun z : Int32 × Mem => z.1) (fun z : Int32 × Mem => (cat [w_Inquest ct aN aNE N, w_Effect ct aNE z.2, w_Cloth ct aC C]))) 0 [(0, .ref (aN 0)), (1, .ref (aC 0)), (2, .int x2)] [] (cat [w_Inquest ct aN aNE N, w_Effect ct aNE NE, w_Cloth ct aC C]) (f_X2_explainsLeftOut F N NE C x2) := by
  unfold f_X2_explainsLeftOut
  refine im_iload_n X 2 dX2_explainsLeftOut_0 rfl rfl ?_
  refine im_aload_n X 0 dX2_explainsLeftOut_1 rfl rfl ?_
  refine im_cget X 0 0 (v := .int (N 0 10)) fl_X2_114 rfl rfl rfl dX2_explainsLeftOut_2 ?_
  refine im_icmp_gt (tgt := 20) X dX2_explainsLeftOut_5 rfl ?_ ?_
  · refine im_iconst X 0 dX2_explainsLeftOut_20 (by decide) ?_
    exact im_zreturn X (0, NE) rfl rfl rfl dX2_explainsLeftOut_21
  · refine im_aload_n X 1 dX2_explainsLeftOut_8 rfl rfl ?_
    refine im_aload_n X 0 dX2_explainsLeftOut_9 rfl rfl ?_
    refine im_cget X 0 0 (v := .ref (aNE 0)) fl_X2_42 rfl rfl rfl dX2_explainsLeftOut_10 ?_
    refine im_iload_n X 2 dX2_explainsLeftOut_13 rfl rfl ?_
    refine im_cciV X [.ref (aNE 0), .int x2] [] [w_Inquest ct aN aNE N, w_Effect ct aNE NE, w_Cloth ct aC C] [w_Cloth ct aC C, w_Effect ct aNE NE] [2, 1] (fun z14 => [w_Cloth ct aC C, w_Effect ct aNE z14.2]) 2 0 0 rfl rfl rfl cl_X2_65 (c_X0_describeLogged l D ct F aC aNE C NE x2) rfl (by decide) (fun _ => lc rfl (lc fa_Effect (rfl))) rfl ⟨by decide, by decide⟩ (Nat.le_of_ble_eq_true rfl) rfl dX2_explainsLeftOut_14 (fun z14 => ?_)
    refine im_ws (cat [w_Inquest ct aN aNE N, w_Effect ct aNE z14.2, w_Cloth ct aC C]) rfl ?_
    refine im_if_ne (tgt := 22) X dX2_explainsLeftOut_17 rfl ?_ ?_
    · refine im_aload_n X 0 dX2_explainsLeftOut_22 rfl rfl ?_
      refine im_cget X 0 0 (v := .ref (aNE 0)) fl_X2_42 rfl rfl rfl dX2_explainsLeftOut_23 ?_
      refine im_ccvV X [] [] [w_Inquest ct aN aNE N, w_Effect ct aNE z14.2, w_Cloth ct aC C] [w_Effect ct aNE z14.2] [1] (fun z26 => [w_Effect ct aNE z26]) 1 0 1 rfl rfl rfl cl_X2_176 (c_X1_reverse l D ct F aNE z14.2) rfl (by decide) (fun _ => lc fa_Effect (rfl)) rfl ⟨by decide, by decide⟩ (Nat.le_of_ble_eq_true rfl) rfl dX2_explainsLeftOut_26 (fun z26 => ?_)
      refine im_ws (cat [w_Inquest ct aN aNE N, w_Effect ct aNE z26, w_Cloth ct aC C]) rfl ?_
      refine im_aload_n X 0 dX2_explainsLeftOut_29 rfl rfl ?_
      refine im_aload_n X 1 dX2_explainsLeftOut_30 rfl rfl ?_
      refine im_iload_n X 2 dX2_explainsLeftOut_31 rfl rfl ?_
      refine im_iconst X 1 dX2_explainsLeftOut_32 (by decide) ?_
      refine im_iadd X dX2_explainsLeftOut_33 ?_
      refine im_cciV X [.ref (aC 0), .int (x2 + 1)] [] [w_Inquest ct aN aNE N, w_Effect ct aNE z26, w_Cloth ct aC C] [w_Inquest ct aN aNE N, w_Effect ct aNE z26, w_Cloth ct aC C] [0, 1, 2] (fun z34 => [w_Inquest ct aN aNE N, w_Effect ct aNE z26, w_Cloth ct aC C]) 0 0 2 rfl rfl rfl cl_X2_157 (c_X2_explains l D ct F aN aNE aC N z26 C (x2 + 1)) rfl (by decide) (fun _ => lc rfl (lc rfl (lc rfl (rfl)))) rfl ⟨by decide, by decide⟩ (Nat.le_of_ble_eq_true rfl) rfl dX2_explainsLeftOut_34 (fun z34 => ?_)
      refine im_ws (cat [w_Inquest ct aN aNE N, w_Effect ct aNE z26, w_Cloth ct aC C]) rfl ?_
      exact im_zreturnc X (z34, z26) rfl rfl dX2_explainsLeftOut_37
    · refine im_iconst X 0 dX2_explainsLeftOut_20 (by decide) ?_
      exact im_zreturn X (0, z14.2) rfl rfl rfl dX2_explainsLeftOut_21
theorem c_X2_explainsLeftOut (l : Launch) (D : va_G) (ct : im_ct) (F : Nat) (aN aNE aC : Nat → Nat) (N : Mem) (NE : Mem) (C : Mem) (x2 : Int32) : CMi l D ct yX2_explainsLeftOut cX2_explainsLeftOut 3 (some .boolean) 3 [.ref (aN 0), .ref (aC 0), .int x2] (cat [w_Inquest ct aN aNE N, w_Effect ct aNE NE, w_Cloth ct aC C]) (f_X2_explainsLeftOut F N NE C x2) (fun z : Int32 × Mem => z.1) (fun z : Int32 × Mem => (cat [w_Inquest ct aN aNE N, w_Effect ct aNE z.2, w_Cloth ct aC C])) :=
  im_met (Qb := fun A => QI D A (fun z : Int32 × Mem => z.1) (fun z : Int32 × Mem => (cat [w_Inquest ct aN aNE N, w_Effect ct aNE z.2, w_Cloth ct aC C]))) (by decide +kernel) (Nat.le_of_ble_eq_true rfl) (fun p e s m args below meth c A X => i_X2_explainsLeftOut X F aN aNE aC N NE C x2)

noncomputable def f_X2_countLeftOut_9 (F : Nat) (N : Mem) (C : Mem) (k40 : Mem → Int32 → Option (Int32 × Mem × Mem)) : Nat → Mem → Int32 → Int32 → Option (Int32 × Mem × Mem)
  | 0, _, _, _ => none
  | n + 1, NE, x2, x3 =>
  (if (C 0 8) ≤ x3 then k40 NE x2 else (f_X2_explainsLeftOut F N NE C x3).bind (fun z21 => (if z21.1 = 0 then f_X2_countLeftOut_9 F N C k40 n z21.2 (x2 + 0) (x3 + 1) else f_X2_countLeftOut_9 F N C k40 n z21.2 (x2 + 1) (x3 + 1))))
set_option maxRecDepth 100000 in
set_option maxHeartbeats 4000000 in
theorem i_X2_countLeftOut_9 {p : Program} {l : Launch} {e : Env} {s : State} {m : MethodId} {args : Array Value} {below : List Frame} {meth : Method} {c : Code} {D : va_G} {ct : im_ct} {A : Nat → Prop} (X : im_X p (im_rm 4) s m args meth c D ct A RX2 cX2_countLeftOut 4 (some .int)) (F : Nat) (aN aNE aC : Nat → Nat) (N : Mem) (C : Mem) (k40 : Mem → Int32 → Option (Int32 × Mem × Mem)) (hk40 : ∀ (NE : Mem) (x2 : Int32), Im p l e (im_rm 4) s m args below meth c D A 4 (QI D A (fun z : Int32 × Mem × Mem => z.1) (fun z : Int32 × Mem × Mem => (cat [w_Inquest ct aN aNE z.2.1, w_Effect ct aNE z.2.2, w_Cloth ct aC C]))) 40 [(2, .int x2)] [] (cat [w_Inquest ct aN aNE N, w_Effect ct aNE NE, w_Cloth ct aC C]) (k40 NE x2)) : ∀ (n : Nat) (NE : Mem) (x2 : Int32) (x3 : Int32), Im p l e (im_rm 4) s m args below meth c D A 4 (QI D A (fun z : Int32 × Mem × Mem => z.1) (fun z : Int32 × Mem × Mem => (cat [w_Inquest ct aN aNE z.2.1, w_Effect ct aNE z.2.2, w_Cloth ct aC C]))) 9 [(0, .ref (aN 0)), (1, .ref (aC 0)), (2, .int x2), (3, .int x3)] [] (cat [w_Inquest ct aN aNE N, w_Effect ct aNE NE, w_Cloth ct aC C]) (f_X2_countLeftOut_9 F N C k40 n NE x2 x3) := by
  intro n
  induction n with
  | zero => intros; exact im_none
  | succ n ih =>
    intro NE x2 x3
    unfold f_X2_countLeftOut_9
    refine im_iload_n X 3 dX2_countLeftOut_9 rfl rfl ?_
    refine im_aload_n X 1 dX2_countLeftOut_10 rfl rfl ?_
    refine im_cget X 2 0 (v := .int (C 0 8)) fl_X2_61 rfl rfl rfl dX2_countLeftOut_11 ?_
    refine im_icmp_ge (tgt := 40) X dX2_countLeftOut_14 rfl ?_ ?_
    · refine im_lv [2] [(2, .int x2)] rfl ?_
      exact hk40 NE x2
    · refine im_iload_n X 2 dX2_countLeftOut_17 rfl rfl ?_
      refine im_aload_n X 0 dX2_countLeftOut_18 rfl rfl ?_
      refine im_aload_n X 1 dX2_countLeftOut_19 rfl rfl ?_
      refine im_iload_n X 3 dX2_countLeftOut_20 rfl rfl ?_
      refine im_cciV X [.ref (aC 0), .int x3] [.int x2] [w_Inquest ct aN aNE N, w_Effect ct aNE NE, w_Cloth ct aC C] [w_Inquest ct aN aNE N, w_Effect ct aNE NE, w_Cloth ct aC C] [0, 1, 2] (fun z21 => [w_Inquest ct aN aNE N, w_Effect ct aNE z21.2, w_Cloth ct aC C]) 0 0 2 rfl rfl rfl cl_X2_179 (c_X2_explainsLeftOut l D ct F aN aNE aC N NE C x3) rfl (by decide) (fun _ => lc rfl (lc fa_Effect (lc rfl (rfl)))) rfl ⟨by decide, by decide⟩ (Nat.le_of_ble_eq_true rfl) rfl dX2_countLeftOut_21 (fun z21 => ?_)
      refine im_ws (cat [w_Inquest ct aN aNE N, w_Effect ct aNE z21.2, w_Cloth ct aC C]) rfl ?_
      refine im_if_eq (tgt := 31) X dX2_countLeftOut_24 rfl ?_ ?_
      · refine im_iconst X 0 dX2_countLeftOut_31 (by decide) ?_
        refine im_iadd X dX2_countLeftOut_32 ?_
        refine im_istore_n X [1, 2, 0, 3] [(0, .ref (aN 0)), (1, .ref (aC 0)), (2, .int (x2 + 0)), (3, .int x3)] dX2_countLeftOut_33 rfl (by decide) rfl ?_
        refine im_iinc X 3 1 [1, 2, 3, 0] [(0, .ref (aN 0)), (1, .ref (aC 0)), (2, .int (x2 + 0)), (3, .int (x3 + 1))] dX2_countLeftOut_34 (by decide) rfl (by decide) rfl ?_
        refine im_goto (tgt := 9) X dX2_countLeftOut_37 rfl ?_
        exact ih z21.2 (x2 + 0) (x3 + 1)
      · refine im_iconst X 1 dX2_countLeftOut_27 (by decide) ?_
        refine im_goto (tgt := 32) X dX2_countLeftOut_28 rfl ?_
        refine im_iadd X dX2_countLeftOut_32 ?_
        refine im_istore_n X [1, 2, 0, 3] [(0, .ref (aN 0)), (1, .ref (aC 0)), (2, .int (x2 + 1)), (3, .int x3)] dX2_countLeftOut_33 rfl (by decide) rfl ?_
        refine im_iinc X 3 1 [1, 2, 3, 0] [(0, .ref (aN 0)), (1, .ref (aC 0)), (2, .int (x2 + 1)), (3, .int (x3 + 1))] dX2_countLeftOut_34 (by decide) rfl (by decide) rfl ?_
        refine im_goto (tgt := 9) X dX2_countLeftOut_37 rfl ?_
        exact ih z21.2 (x2 + 1) (x3 + 1)
noncomputable def f_X2_countLeftOut (F : Nat) (N : Mem) (NE : Mem) (C : Mem) : Option (Int32 × Mem × Mem) :=
  (f_X2_layOut F N NE C).bind (fun z2 => f_X2_countLeftOut_9 F z2.1 C (fun NE_40 x2_40 => (some (x2_40, z2.1, NE_40))) F z2.2 0 0)
set_option maxRecDepth 100000 in
set_option maxHeartbeats 4000000 in
theorem i_X2_countLeftOut {p : Program} {l : Launch} {e : Env} {s : State} {m : MethodId} {args : Array Value} {below : List Frame} {meth : Method} {c : Code} {D : va_G} {ct : im_ct} {A : Nat → Prop} (X : im_X p (im_rm 4) s m args meth c D ct A RX2 cX2_countLeftOut 4 (some .int)) (F : Nat) (aN aNE aC : Nat → Nat) (N : Mem) (NE : Mem) (C : Mem) : Im p l e (im_rm 4) s m args below meth c D A 4 (QI D A (fun z : Int32 × Mem × Mem => z.1) (fun z : Int32 × Mem × Mem => (cat [w_Inquest ct aN aNE z.2.1, w_Effect ct aNE z.2.2, w_Cloth ct aC C]))) 0 [(0, .ref (aN 0)), (1, .ref (aC 0))] [] (cat [w_Inquest ct aN aNE N, w_Effect ct aNE NE, w_Cloth ct aC C]) (f_X2_countLeftOut F N NE C) := by
  unfold f_X2_countLeftOut
  refine im_aload_n X 0 dX2_countLeftOut_0 rfl rfl ?_
  refine im_aload_n X 1 dX2_countLeftOut_1 rfl rfl ?_
  refine im_ccvV X [.ref (aC 0)] [] [w_Inquest ct aN aNE N, w_Effect ct aNE NE, w_Cloth ct aC C] [w_Inquest ct aN aNE N, w_Effect ct aNE NE, w_Cloth ct aC C] [0, 1, 2] (fun z2 => [w_Inquest ct aN aNE z2.1, w_Effect ct aNE z2.2, w_Cloth ct aC C]) 0 0 2 rfl rfl rfl cl_X2_121 (c_X2_layOut l D ct F aN aNE aC N NE C) rfl (by decide) (fun _ => lc fa_Inquest (lc fa_Effect (lc rfl (rfl)))) rfl ⟨by decide, by decide⟩ (Nat.le_of_ble_eq_true rfl) rfl dX2_countLeftOut_2 (fun z2 => ?_)
  refine im_ws (cat [w_Inquest ct aN aNE z2.1, w_Effect ct aNE z2.2, w_Cloth ct aC C]) rfl ?_
  refine im_iconst X 0 dX2_countLeftOut_5 (by decide) ?_
  refine im_istore_n X [1, 2, 0] [(0, .ref (aN 0)), (1, .ref (aC 0)), (2, .int 0)] dX2_countLeftOut_6 rfl (by decide) rfl ?_
  refine im_iconst X 0 dX2_countLeftOut_7 (by decide) ?_
  refine im_istore_n X [1, 2, 3, 0] [(0, .ref (aN 0)), (1, .ref (aC 0)), (2, .int 0), (3, .int 0)] dX2_countLeftOut_8 rfl (by decide) rfl ?_
  refine i_X2_countLeftOut_9 X F aN aNE aC z2.1 C  _ (fun NE_40 x2_40 => ?_) F z2.2 0 0
  refine im_iload_n X 0 dX2_countLeftOut_40 rfl rfl ?_
  exact im_ireturn X (x2_40, z2.1, NE_40) rfl rfl dX2_countLeftOut_41
theorem c_X2_countLeftOut (l : Launch) (D : va_G) (ct : im_ct) (F : Nat) (aN aNE aC : Nat → Nat) (N : Mem) (NE : Mem) (C : Mem) : CMi l D ct yX2_countLeftOut cX2_countLeftOut 4 (some .int) 4 [.ref (aN 0), .ref (aC 0)] (cat [w_Inquest ct aN aNE N, w_Effect ct aNE NE, w_Cloth ct aC C]) (f_X2_countLeftOut F N NE C) (fun z : Int32 × Mem × Mem => z.1) (fun z : Int32 × Mem × Mem => (cat [w_Inquest ct aN aNE z.2.1, w_Effect ct aNE z.2.2, w_Cloth ct aC C])) :=
  im_met (Qb := fun A => QI D A (fun z : Int32 × Mem × Mem => z.1) (fun z : Int32 × Mem × Mem => (cat [w_Inquest ct aN aNE z.2.1, w_Effect ct aNE z.2.2, w_Cloth ct aC C]))) (by decide +kernel) (Nat.le_of_ble_eq_true rfl) (fun p e s m args below meth c A X => i_X2_countLeftOut X F aN aNE aC N NE C)

noncomputable def f_X2_findLeftOut_10 (F : Nat) (N : Mem) (C : Mem) (x2 : Int32) (k34 : Mem → Int32 → Option (Int32 × Mem × Mem)) (k46 : Mem → Option (Int32 × Mem × Mem)) : Nat → Mem → Int32 → Int32 → Option (Int32 × Mem × Mem)
  | 0, _, _, _ => none
  | n + 1, NE, x3, x4 =>
  (if (C 0 8) ≤ x4 then k46 NE else (f_X2_explainsLeftOut F N NE C x4).bind (fun z23 => (if z23.1 = 0 then f_X2_findLeftOut_10 F N C x2 k34 k46 n z23.2 x3 (x4 + 1) else (if x3 = x2 then k34 z23.2 x4 else f_X2_findLeftOut_10 F N C x2 k34 k46 n z23.2 (x3 + 1) (x4 + 1)))))
set_option maxRecDepth 100000 in
set_option maxHeartbeats 4000000 in
theorem i_X2_findLeftOut_10 {p : Program} {l : Launch} {e : Env} {s : State} {m : MethodId} {args : Array Value} {below : List Frame} {meth : Method} {c : Code} {D : va_G} {ct : im_ct} {A : Nat → Prop} (X : im_X p (im_rm 4) s m args meth c D ct A RX2 cX2_findLeftOut 5 (some .int)) (F : Nat) (aN aNE aC : Nat → Nat) (N : Mem) (C : Mem) (x2 : Int32) (k34 : Mem → Int32 → Option (Int32 × Mem × Mem)) (hk34 : ∀ (NE : Mem) (x4 : Int32), Im p l e (im_rm 4) s m args below meth c D A 5 (QI D A (fun z : Int32 × Mem × Mem => z.1) (fun z : Int32 × Mem × Mem => (cat [w_Inquest ct aN aNE z.2.1, w_Effect ct aNE z.2.2, w_Cloth ct aC C]))) 34 [(4, .int x4)] [] (cat [w_Inquest ct aN aNE N, w_Effect ct aNE NE, w_Cloth ct aC C]) (k34 NE x4)) (k46 : Mem → Option (Int32 × Mem × Mem)) (hk46 : ∀ (NE : Mem), Im p l e (im_rm 4) s m args below meth c D A 5 (QI D A (fun z : Int32 × Mem × Mem => z.1) (fun z : Int32 × Mem × Mem => (cat [w_Inquest ct aN aNE z.2.1, w_Effect ct aNE z.2.2, w_Cloth ct aC C]))) 46 [] [] (cat [w_Inquest ct aN aNE N, w_Effect ct aNE NE, w_Cloth ct aC C]) (k46 NE)) : ∀ (n : Nat) (NE : Mem) (x3 : Int32) (x4 : Int32), Im p l e (im_rm 4) s m args below meth c D A 5 (QI D A (fun z : Int32 × Mem × Mem => z.1) (fun z : Int32 × Mem × Mem => (cat [w_Inquest ct aN aNE z.2.1, w_Effect ct aNE z.2.2, w_Cloth ct aC C]))) 10 [(0, .ref (aN 0)), (1, .ref (aC 0)), (2, .int x2), (3, .int x3), (4, .int x4)] [] (cat [w_Inquest ct aN aNE N, w_Effect ct aNE NE, w_Cloth ct aC C]) (f_X2_findLeftOut_10 F N C x2 k34 k46 n NE x3 x4) := by
  intro n
  induction n with
  | zero => intros; exact im_none
  | succ n ih =>
    intro NE x3 x4
    unfold f_X2_findLeftOut_10
    refine im_iload X 4 dX2_findLeftOut_10 rfl ?_
    refine im_aload_n X 1 dX2_findLeftOut_12 rfl rfl ?_
    refine im_cget X 2 0 (v := .int (C 0 8)) fl_X2_61 rfl rfl rfl dX2_findLeftOut_13 ?_
    refine im_icmp_ge (tgt := 46) X dX2_findLeftOut_16 rfl ?_ ?_
    · refine im_lv [] [] rfl ?_
      exact hk46 NE
    · refine im_aload_n X 0 dX2_findLeftOut_19 rfl rfl ?_
      refine im_aload_n X 1 dX2_findLeftOut_20 rfl rfl ?_
      refine im_iload X 4 dX2_findLeftOut_21 rfl ?_
      refine im_cciV X [.ref (aC 0), .int x4] [] [w_Inquest ct aN aNE N, w_Effect ct aNE NE, w_Cloth ct aC C] [w_Inquest ct aN aNE N, w_Effect ct aNE NE, w_Cloth ct aC C] [0, 1, 2] (fun z23 => [w_Inquest ct aN aNE N, w_Effect ct aNE z23.2, w_Cloth ct aC C]) 0 0 2 rfl rfl rfl cl_X2_179 (c_X2_explainsLeftOut l D ct F aN aNE aC N NE C x4) rfl (by decide) (fun _ => lc rfl (lc fa_Effect (lc rfl (rfl)))) rfl ⟨by decide, by decide⟩ (Nat.le_of_ble_eq_true rfl) rfl dX2_findLeftOut_23 (fun z23 => ?_)
      refine im_ws (cat [w_Inquest ct aN aNE N, w_Effect ct aNE z23.2, w_Cloth ct aC C]) rfl ?_
      refine im_if_eq (tgt := 40) X dX2_findLeftOut_26 rfl ?_ ?_
      · refine im_iinc X 4 1 [1, 2, 3, 4, 0] [(0, .ref (aN 0)), (1, .ref (aC 0)), (2, .int x2), (3, .int x3), (4, .int (x4 + 1))] dX2_findLeftOut_40 (by decide) rfl (by decide) rfl ?_
        refine im_goto (tgt := 10) X dX2_findLeftOut_43 rfl ?_
        exact ih z23.2 x3 (x4 + 1)
      · refine im_iload_n X 3 dX2_findLeftOut_29 rfl rfl ?_
        refine im_iload_n X 2 dX2_findLeftOut_30 rfl rfl ?_
        refine im_icmp_ne (tgt := 37) X dX2_findLeftOut_31 rfl ?_ ?_
        · refine im_iinc X 3 1 [1, 2, 3, 0, 4] [(0, .ref (aN 0)), (1, .ref (aC 0)), (2, .int x2), (3, .int (x3 + 1)), (4, .int x4)] dX2_findLeftOut_37 (by decide) rfl (by decide) rfl ?_
          refine im_iinc X 4 1 [1, 2, 3, 4, 0] [(0, .ref (aN 0)), (1, .ref (aC 0)), (2, .int x2), (3, .int (x3 + 1)), (4, .int (x4 + 1))] dX2_findLeftOut_40 (by decide) rfl (by decide) rfl ?_
          refine im_goto (tgt := 10) X dX2_findLeftOut_43 rfl ?_
          exact ih z23.2 (x3 + 1) (x4 + 1)
        · refine im_lv [4] [(4, .int x4)] rfl ?_
          exact hk34 z23.2 x4
noncomputable def f_X2_findLeftOut (F : Nat) (N : Mem) (NE : Mem) (C : Mem) (x2 : Int32) : Option (Int32 × Mem × Mem) :=
  (f_X2_layOut F N NE C).bind (fun z2 => f_X2_findLeftOut_10 F z2.1 C x2 (fun NE_34 x4_34 => (some (x4_34, z2.1, NE_34))) (fun NE_46 => (some ((-2), z2.1, NE_46))) F z2.2 0 0)
set_option maxRecDepth 100000 in
set_option maxHeartbeats 4000000 in
theorem i_X2_findLeftOut {p : Program} {l : Launch} {e : Env} {s : State} {m : MethodId} {args : Array Value} {below : List Frame} {meth : Method} {c : Code} {D : va_G} {ct : im_ct} {A : Nat → Prop} (X : im_X p (im_rm 4) s m args meth c D ct A RX2 cX2_findLeftOut 5 (some .int)) (F : Nat) (aN aNE aC : Nat → Nat) (N : Mem) (NE : Mem) (C : Mem) (x2 : Int32) : Im p l e (im_rm 4) s m args below meth c D A 5 (QI D A (fun z : Int32 × Mem × Mem => z.1) (fun z : Int32 × Mem × Mem => (cat [w_Inquest ct aN aNE z.2.1, w_Effect ct aNE z.2.2, w_Cloth ct aC C]))) 0 [(0, .ref (aN 0)), (1, .ref (aC 0)), (2, .int x2)] [] (cat [w_Inquest ct aN aNE N, w_Effect ct aNE NE, w_Cloth ct aC C]) (f_X2_findLeftOut F N NE C x2) := by
  unfold f_X2_findLeftOut
  refine im_aload_n X 0 dX2_findLeftOut_0 rfl rfl ?_
  refine im_aload_n X 1 dX2_findLeftOut_1 rfl rfl ?_
  refine im_ccvV X [.ref (aC 0)] [] [w_Inquest ct aN aNE N, w_Effect ct aNE NE, w_Cloth ct aC C] [w_Inquest ct aN aNE N, w_Effect ct aNE NE, w_Cloth ct aC C] [0, 1, 2] (fun z2 => [w_Inquest ct aN aNE z2.1, w_Effect ct aNE z2.2, w_Cloth ct aC C]) 0 0 2 rfl rfl rfl cl_X2_121 (c_X2_layOut l D ct F aN aNE aC N NE C) rfl (by decide) (fun _ => lc fa_Inquest (lc fa_Effect (lc rfl (rfl)))) rfl ⟨by decide, by decide⟩ (Nat.le_of_ble_eq_true rfl) rfl dX2_findLeftOut_2 (fun z2 => ?_)
  refine im_ws (cat [w_Inquest ct aN aNE z2.1, w_Effect ct aNE z2.2, w_Cloth ct aC C]) rfl ?_
  refine im_iconst X 0 dX2_findLeftOut_5 (by decide) ?_
  refine im_istore_n X [1, 2, 3, 0] [(0, .ref (aN 0)), (1, .ref (aC 0)), (2, .int x2), (3, .int 0)] dX2_findLeftOut_6 rfl (by decide) rfl ?_
  refine im_iconst X 0 dX2_findLeftOut_7 (by decide) ?_
  refine im_istore X [1, 2, 3, 4, 0] [(0, .ref (aN 0)), (1, .ref (aC 0)), (2, .int x2), (3, .int 0), (4, .int 0)] dX2_findLeftOut_8 (by decide) rfl ?_
  refine i_X2_findLeftOut_10 X F aN aNE aC z2.1 C x2 _ (fun NE_34 x4_34 => ?_) _ (fun NE_46 => ?_) F z2.2 0 0
  · refine im_iload X 0 dX2_findLeftOut_34 rfl ?_
    exact im_ireturn X (x4_34, z2.1, NE_34) rfl rfl dX2_findLeftOut_36
  · refine im_bipush X (-2) dX2_findLeftOut_46 (by decide) ?_
    exact im_ireturn X ((-2), z2.1, NE_46) rfl rfl dX2_findLeftOut_48
theorem c_X2_findLeftOut (l : Launch) (D : va_G) (ct : im_ct) (F : Nat) (aN aNE aC : Nat → Nat) (N : Mem) (NE : Mem) (C : Mem) (x2 : Int32) : CMi l D ct yX2_findLeftOut cX2_findLeftOut 5 (some .int) 4 [.ref (aN 0), .ref (aC 0), .int x2] (cat [w_Inquest ct aN aNE N, w_Effect ct aNE NE, w_Cloth ct aC C]) (f_X2_findLeftOut F N NE C x2) (fun z : Int32 × Mem × Mem => z.1) (fun z : Int32 × Mem × Mem => (cat [w_Inquest ct aN aNE z.2.1, w_Effect ct aNE z.2.2, w_Cloth ct aC C])) :=
  im_met (Qb := fun A => QI D A (fun z : Int32 × Mem × Mem => z.1) (fun z : Int32 × Mem × Mem => (cat [w_Inquest ct aN aNE z.2.1, w_Effect ct aNE z.2.2, w_Cloth ct aC C]))) (by decide +kernel) (Nat.le_of_ble_eq_true rfl) (fun p e s m args below meth c A X => i_X2_findLeftOut X F aN aNE aC N NE C x2)

noncomputable def f_X2_slideTimes_4 (F : Nat) (N : Mem) (k28 : Int32 → Option (Int32)) : Nat → Int32 → Int32 → Option (Int32)
  | 0, _, _ => none
  | n + 1, x1, x2 =>
  (if (N 0 11) ≤ x2 then k28 x1 else (f_X2_slideTime F N x2).bind (fun z16 => f_X2_slideTimes_4 F N k28 n (x1 ||| (1 <<< (z16 &&& 31))) (x2 + 1)))
set_option maxRecDepth 100000 in
set_option maxHeartbeats 4000000 in
theorem i_X2_slideTimes_4 {p : Program} {l : Launch} {e : Env} {s : State} {m : MethodId} {args : Array Value} {below : List Frame} {meth : Method} {c : Code} {D : va_G} {ct : im_ct} {A : Nat → Prop} (X : im_X p (im_rm 1) s m args meth c D ct A RX2 cX2_slideTimes 3 (some .int)) (F : Nat) (aN aNE : Nat → Nat) (N : Mem) (k28 : Int32 → Option (Int32)) (hk28 : ∀ (x1 : Int32), Im p l e (im_rm 1) s m args below meth c D A 3 (QI D A (fun z : Int32 => z) (fun z : Int32 => (cat [w_Inquest ct aN aNE N]))) 28 [(1, .int x1)] [] (cat [w_Inquest ct aN aNE N]) (k28 x1)) : ∀ (n : Nat) (x1 : Int32) (x2 : Int32), Im p l e (im_rm 1) s m args below meth c D A 3 (QI D A (fun z : Int32 => z) (fun z : Int32 => (cat [w_Inquest ct aN aNE N]))) 4 [(0, .ref (aN 0)), (1, .int x1), (2, .int x2)] [] (cat [w_Inquest ct aN aNE N]) (f_X2_slideTimes_4 F N k28 n x1 x2) := by
  intro n
  induction n with
  | zero => intros; exact im_none
  | succ n ih =>
    intro x1 x2
    unfold f_X2_slideTimes_4
    refine im_iload_n X 2 dX2_slideTimes_4 rfl rfl ?_
    refine im_aload_n X 0 dX2_slideTimes_5 rfl rfl ?_
    refine im_cget X 0 0 (v := .int (N 0 11)) fl_X2_146 rfl rfl rfl dX2_slideTimes_6 ?_
    refine im_icmp_ge (tgt := 28) X dX2_slideTimes_9 rfl ?_ ?_
    · refine im_lv [1] [(1, .int x1)] rfl ?_
      exact hk28 x1
    · refine im_iload_n X 1 dX2_slideTimes_12 rfl rfl ?_
      refine im_iconst X 1 dX2_slideTimes_13 (by decide) ?_
      refine im_aload_n X 0 dX2_slideTimes_14 rfl rfl ?_
      refine im_iload_n X 2 dX2_slideTimes_15 rfl rfl ?_
      refine im_cciV X [.int x2] [.int 1, .int x1] [w_Inquest ct aN aNE N] [w_Inquest ct aN aNE N] [0] (fun z16 => [w_Inquest ct aN aNE N]) 0 0 2 rfl rfl rfl cl_X2_166 (c_X2_slideTime l D ct F aN aNE N x2) rfl (by decide) (fun _ => lc rfl (rfl)) rfl ⟨by decide, by decide⟩ (Nat.le_of_ble_eq_true rfl) rfl dX2_slideTimes_16 (fun z16 => ?_)
      refine im_ws (cat [w_Inquest ct aN aNE N]) rfl ?_
      refine im_ishl X dX2_slideTimes_19 ?_
      refine im_ior X dX2_slideTimes_20 ?_
      refine im_istore_n X [1, 0, 2] [(0, .ref (aN 0)), (1, .int (x1 ||| (1 <<< (z16 &&& 31)))), (2, .int x2)] dX2_slideTimes_21 rfl (by decide) rfl ?_
      refine im_iinc X 2 1 [1, 2, 0] [(0, .ref (aN 0)), (1, .int (x1 ||| (1 <<< (z16 &&& 31)))), (2, .int (x2 + 1))] dX2_slideTimes_22 (by decide) rfl (by decide) rfl ?_
      refine im_goto (tgt := 4) X dX2_slideTimes_25 rfl ?_
      exact ih (x1 ||| (1 <<< (z16 &&& 31))) (x2 + 1)
noncomputable def f_X2_slideTimes (F : Nat) (N : Mem) : Option (Int32) :=
  f_X2_slideTimes_4 F N (fun x1_28 => (some x1_28)) F 0 0
set_option maxRecDepth 100000 in
set_option maxHeartbeats 4000000 in
theorem i_X2_slideTimes {p : Program} {l : Launch} {e : Env} {s : State} {m : MethodId} {args : Array Value} {below : List Frame} {meth : Method} {c : Code} {D : va_G} {ct : im_ct} {A : Nat → Prop} (X : im_X p (im_rm 1) s m args meth c D ct A RX2 cX2_slideTimes 3 (some .int)) (F : Nat) (aN aNE : Nat → Nat) (N : Mem) : Im p l e (im_rm 1) s m args below meth c D A 3 (QI D A (fun z : Int32 => z) (fun z : Int32 => (cat [w_Inquest ct aN aNE N]))) 0 [(0, .ref (aN 0))] [] (cat [w_Inquest ct aN aNE N]) (f_X2_slideTimes F N) := by
  unfold f_X2_slideTimes
  refine im_iconst X 0 dX2_slideTimes_0 (by decide) ?_
  refine im_istore_n X [1, 0] [(0, .ref (aN 0)), (1, .int 0)] dX2_slideTimes_1 rfl (by decide) rfl ?_
  refine im_iconst X 0 dX2_slideTimes_2 (by decide) ?_
  refine im_istore_n X [1, 2, 0] [(0, .ref (aN 0)), (1, .int 0), (2, .int 0)] dX2_slideTimes_3 rfl (by decide) rfl ?_
  refine i_X2_slideTimes_4 X F aN aNE N  _ (fun x1_28 => ?_) F 0 0
  refine im_iload_n X 0 dX2_slideTimes_28 rfl rfl ?_
  exact im_ireturn X x1_28 rfl rfl dX2_slideTimes_29
theorem c_X2_slideTimes (l : Launch) (D : va_G) (ct : im_ct) (F : Nat) (aN aNE : Nat → Nat) (N : Mem) : CMi l D ct yX2_slideTimes cX2_slideTimes 3 (some .int) 1 [.ref (aN 0)] (cat [w_Inquest ct aN aNE N]) (f_X2_slideTimes F N) (fun z : Int32 => z) (fun z : Int32 => (cat [w_Inquest ct aN aNE N])) :=
  im_met (Qb := fun A => QI D A (fun z : Int32 => z) (fun z : Int32 => (cat [w_Inquest ct aN aNE N]))) (by decide +kernel) (Nat.le_of_ble_eq_true rfl) (fun p e s m args below meth c A X => i_X2_slideTimes X F aN aNE N)

noncomputable def f_X2_compareSights_13 (F : Nat) (C : Mem) (x2 : Int32) (x3 : Int32) (k119 : Mem → Option (Mem)) : Nat → Mem → Int32 → Option (Mem)
  | 0, _, _ => none
  | n + 1, N, x4 =>
  (if (C 0 6) ≤ x4 then k119 N else ck ((x3 * 6) + x4) 24 (ck ((x3 * 6) + x4) 24 (ck 3 4 ((if ((N 9) (3 : Int32).toNatClampNeg) ≤ (if (((N 0 11) - ((N 7) (((x3 * 6) + x4)).toNatClampNeg)) - ((N 8) (((x3 * 6) + x4)).toNatClampNeg)) < (if ((N 7) (((x3 * 6) + x4)).toNatClampNeg) < ((N 8) (((x3 * 6) + x4)).toNatClampNeg) then ((N 8) (((x3 * 6) + x4)).toNatClampNeg) else ((N 7) (((x3 * 6) + x4)).toNatClampNeg)) then (if ((N 7) (((x3 * 6) + x4)).toNatClampNeg) < ((N 8) (((x3 * 6) + x4)).toNatClampNeg) then ((N 8) (((x3 * 6) + x4)).toNatClampNeg) else ((N 7) (((x3 * 6) + x4)).toNatClampNeg)) else (((N 0 11) - ((N 7) (((x3 * 6) + x4)).toNatClampNeg)) - ((N 8) (((x3 * 6) + x4)).toNatClampNeg))) then f_X2_compareSights_13 F C x2 x3 k119 n N (x4 + 1) else ck 0 4 (ck 1 4 (ck 2 4 (ck 3 4 (f_X2_compareSights_13 F C x2 x3 k119 n (mr N 9 (upd (upd (upd (upd (N 9) (0 : Int32).toNatClampNeg x2) (1 : Int32).toNatClampNeg x3) (2 : Int32).toNatClampNeg x4) (3 : Int32).toNatClampNeg (if (((N 0 11) - ((N 7) (((x3 * 6) + x4)).toNatClampNeg)) - ((N 8) (((x3 * 6) + x4)).toNatClampNeg)) < (if ((N 7) (((x3 * 6) + x4)).toNatClampNeg) < ((N 8) (((x3 * 6) + x4)).toNatClampNeg) then ((N 8) (((x3 * 6) + x4)).toNatClampNeg) else ((N 7) (((x3 * 6) + x4)).toNatClampNeg)) then (if ((N 7) (((x3 * 6) + x4)).toNatClampNeg) < ((N 8) (((x3 * 6) + x4)).toNatClampNeg) then ((N 8) (((x3 * 6) + x4)).toNatClampNeg) else ((N 7) (((x3 * 6) + x4)).toNatClampNeg)) else (((N 0 11) - ((N 7) (((x3 * 6) + x4)).toNatClampNeg)) - ((N 8) (((x3 * 6) + x4)).toNatClampNeg))))) (x4 + 1))))))))))
set_option maxRecDepth 100000 in
set_option maxHeartbeats 4000000 in
theorem i_X2_compareSights_13 {p : Program} {l : Launch} {e : Env} {s : State} {m : MethodId} {args : Array Value} {below : List Frame} {meth : Method} {c : Code} {D : va_G} {ct : im_ct} {A : Nat → Prop} (X : im_X p (im_rm 1) s m args meth c D ct A RX2 cX2_compareSights 8 none) (F : Nat) (aN aNE aC : Nat → Nat) (C : Mem) (x2 : Int32) (x3 : Int32) (k119 : Mem → Option (Mem)) (hk119 : ∀ (N : Mem), Im p l e (im_rm 1) s m args below meth c D A 8 (QV D A (fun z : Mem => (cat [w_Inquest ct aN aNE z, w_Cloth ct aC C]))) 119 [(0, .ref (aN 0)), (1, .ref (aC 0)), (2, .int x2), (3, .int x3)] [] (cat [w_Inquest ct aN aNE N, w_Cloth ct aC C]) (k119 N)) : ∀ (n : Nat) (N : Mem) (x4 : Int32), Im p l e (im_rm 1) s m args below meth c D A 8 (QV D A (fun z : Mem => (cat [w_Inquest ct aN aNE z, w_Cloth ct aC C]))) 13 [(0, .ref (aN 0)), (1, .ref (aC 0)), (2, .int x2), (3, .int x3), (4, .int x4)] [] (cat [w_Inquest ct aN aNE N, w_Cloth ct aC C]) (f_X2_compareSights_13 F C x2 x3 k119 n N x4) := by
  intro n
  induction n with
  | zero => intros; exact im_none
  | succ n ih =>
    intro N x4
    unfold f_X2_compareSights_13
    refine im_iload X 4 dX2_compareSights_13 rfl ?_
    refine im_aload_n X 1 dX2_compareSights_15 rfl rfl ?_
    refine im_cget X 1 0 (v := .int (C 0 6)) fl_X2_126 rfl rfl rfl dX2_compareSights_16 ?_
    refine im_icmp_ge (tgt := 119) X dX2_compareSights_19 rfl ?_ ?_
    · refine im_lv [0, 1, 2, 3] [(0, .ref (aN 0)), (1, .ref (aC 0)), (2, .int x2), (3, .int x3)] rfl ?_
      exact hk119 N
    · refine im_aload_n X 0 dX2_compareSights_22 rfl rfl ?_
      refine im_cget X 0 0 (v := .ref (aN 7)) fl_X2_30 rfl rfl rfl dX2_compareSights_23 ?_
      refine im_iload_n X 3 dX2_compareSights_26 rfl rfl ?_
      refine im_bipush X 6 dX2_compareSights_27 (by decide) ?_
      refine im_imul X dX2_compareSights_29 ?_
      refine im_iload X 4 dX2_compareSights_30 rfl ?_
      refine im_iadd X dX2_compareSights_32 ?_
      refine im_ciald X 0 7 0 (f := (N 7)) rfl rfl rfl dX2_compareSights_33 ?_
      refine im_istore X [1, 2, 3, 4, 5, 0] [(0, .ref (aN 0)), (1, .ref (aC 0)), (2, .int x2), (3, .int x3), (4, .int x4), (5, .int ((N 7) (((x3 * 6) + x4)).toNatClampNeg))] dX2_compareSights_34 (by decide) rfl ?_
      refine im_aload_n X 0 dX2_compareSights_36 rfl rfl ?_
      refine im_cget X 0 0 (v := .ref (aN 8)) fl_X2_33 rfl rfl rfl dX2_compareSights_37 ?_
      refine im_iload_n X 3 dX2_compareSights_40 rfl rfl ?_
      refine im_bipush X 6 dX2_compareSights_41 (by decide) ?_
      refine im_imul X dX2_compareSights_43 ?_
      refine im_iload X 4 dX2_compareSights_44 rfl ?_
      refine im_iadd X dX2_compareSights_46 ?_
      refine im_ciald X 0 8 0 (f := (N 8)) rfl rfl rfl dX2_compareSights_47 ?_
      refine im_istore X [1, 2, 3, 4, 5, 6, 0] [(0, .ref (aN 0)), (1, .ref (aC 0)), (2, .int x2), (3, .int x3), (4, .int x4), (5, .int ((N 7) (((x3 * 6) + x4)).toNatClampNeg)), (6, .int ((N 8) (((x3 * 6) + x4)).toNatClampNeg))] dX2_compareSights_48 (by decide) rfl ?_
      refine im_aload_n X 0 dX2_compareSights_50 rfl rfl ?_
      refine im_cget X 0 0 (v := .int (N 0 11)) fl_X2_146 rfl rfl rfl dX2_compareSights_51 ?_
      refine im_iload X 5 dX2_compareSights_54 rfl ?_
      refine im_isub X dX2_compareSights_56 ?_
      refine im_iload X 6 dX2_compareSights_57 rfl ?_
      refine im_isub X dX2_compareSights_59 ?_
      refine im_iload X 5 dX2_compareSights_60 rfl ?_
      refine im_iload X 6 dX2_compareSights_62 rfl ?_
      refine im_mmax X mt1_X2_107 mt2_max mt3 mt4_max ⟨by decide, Nat.le_of_ble_eq_true rfl⟩ dX2_compareSights_64 ?_
      refine im_mmax X mt1_X2_107 mt2_max mt3 mt4_max ⟨by decide, Nat.le_of_ble_eq_true rfl⟩ dX2_compareSights_67 ?_
      refine im_istore X [1, 2, 3, 4, 5, 6, 7, 0] [(0, .ref (aN 0)), (1, .ref (aC 0)), (2, .int x2), (3, .int x3), (4, .int x4), (5, .int ((N 7) (((x3 * 6) + x4)).toNatClampNeg)), (6, .int ((N 8) (((x3 * 6) + x4)).toNatClampNeg)), (7, .int (if (((N 0 11) - ((N 7) (((x3 * 6) + x4)).toNatClampNeg)) - ((N 8) (((x3 * 6) + x4)).toNatClampNeg)) < (if ((N 7) (((x3 * 6) + x4)).toNatClampNeg) < ((N 8) (((x3 * 6) + x4)).toNatClampNeg) then ((N 8) (((x3 * 6) + x4)).toNatClampNeg) else ((N 7) (((x3 * 6) + x4)).toNatClampNeg)) then (if ((N 7) (((x3 * 6) + x4)).toNatClampNeg) < ((N 8) (((x3 * 6) + x4)).toNatClampNeg) then ((N 8) (((x3 * 6) + x4)).toNatClampNeg) else ((N 7) (((x3 * 6) + x4)).toNatClampNeg)) else (((N 0 11) - ((N 7) (((x3 * 6) + x4)).toNatClampNeg)) - ((N 8) (((x3 * 6) + x4)).toNatClampNeg))))] dX2_compareSights_70 (by decide) rfl ?_
      refine im_iload X 7 dX2_compareSights_72 rfl ?_
      refine im_aload_n X 0 dX2_compareSights_74 rfl rfl ?_
      refine im_cget X 0 0 (v := .ref (aN 9)) fl_X2_36 rfl rfl rfl dX2_compareSights_75 ?_
      refine im_iconst X 3 dX2_compareSights_78 (by decide) ?_
      refine im_ciald X 0 9 0 (f := (N 9)) rfl rfl rfl dX2_compareSights_79 ?_
      refine im_icmp_ge (tgt := 113) X dX2_compareSights_80 rfl ?_ ?_
      · refine im_iinc X 4 1 [1, 2, 3, 4, 0, 5, 6, 7] [(0, .ref (aN 0)), (1, .ref (aC 0)), (2, .int x2), (3, .int x3), (4, .int (x4 + 1)), (5, .int ((N 7) (((x3 * 6) + x4)).toNatClampNeg)), (6, .int ((N 8) (((x3 * 6) + x4)).toNatClampNeg)), (7, .int (if (((N 0 11) - ((N 7) (((x3 * 6) + x4)).toNatClampNeg)) - ((N 8) (((x3 * 6) + x4)).toNatClampNeg)) < (if ((N 7) (((x3 * 6) + x4)).toNatClampNeg) < ((N 8) (((x3 * 6) + x4)).toNatClampNeg) then ((N 8) (((x3 * 6) + x4)).toNatClampNeg) else ((N 7) (((x3 * 6) + x4)).toNatClampNeg)) then (if ((N 7) (((x3 * 6) + x4)).toNatClampNeg) < ((N 8) (((x3 * 6) + x4)).toNatClampNeg) then ((N 8) (((x3 * 6) + x4)).toNatClampNeg) else ((N 7) (((x3 * 6) + x4)).toNatClampNeg)) else (((N 0 11) - ((N 7) (((x3 * 6) + x4)).toNatClampNeg)) - ((N 8) (((x3 * 6) + x4)).toNatClampNeg))))] dX2_compareSights_113 (by decide) rfl (by decide) rfl ?_
        refine im_goto (tgt := 13) X dX2_compareSights_116 rfl ?_
        refine im_lv [0, 1, 2, 3, 4] [(0, .ref (aN 0)), (1, .ref (aC 0)), (2, .int x2), (3, .int x3), (4, .int (x4 + 1))] rfl ?_
        exact ih N (x4 + 1)
      · refine im_aload_n X 0 dX2_compareSights_83 rfl rfl ?_
        refine im_cget X 0 0 (v := .ref (aN 9)) fl_X2_36 rfl rfl rfl dX2_compareSights_84 ?_
        refine im_iconst X 0 dX2_compareSights_87 (by decide) ?_
        refine im_iload_n X 2 dX2_compareSights_88 rfl rfl ?_
        refine im_ciast X 0 9 0 (wx_Inquest ct aN aNE (N 0 10) (N 0 11) (N 0 12) (N 0 13) (N 1) (N 2) (N 3) (N 4) (N 5) (N 6) (N 7) (N 8) (upd (N 9) (0 : Int32).toNatClampNeg x2)) [wx_Inquest ct aN aNE (N 0 10) (N 0 11) (N 0 12) (N 0 13) (N 1) (N 2) (N 3) (N 4) (N 5) (N 6) (N 7) (N 8) (upd (N 9) (0 : Int32).toNatClampNeg x2), w_Cloth ct aC C] (f := (N 9)) rfl rfl rfl rfl rfl dX2_compareSights_89 ?_
        refine im_aload_n X 0 dX2_compareSights_90 rfl rfl ?_
        refine im_cget X 0 0 (v := .ref (aN 9)) fl_X2_36 rfl rfl rfl dX2_compareSights_91 ?_
        refine im_iconst X 1 dX2_compareSights_94 (by decide) ?_
        refine im_iload_n X 3 dX2_compareSights_95 rfl rfl ?_
        refine im_ciast X 0 9 0 (wx_Inquest ct aN aNE (N 0 10) (N 0 11) (N 0 12) (N 0 13) (N 1) (N 2) (N 3) (N 4) (N 5) (N 6) (N 7) (N 8) (upd (upd (N 9) (0 : Int32).toNatClampNeg x2) (1 : Int32).toNatClampNeg x3)) [wx_Inquest ct aN aNE (N 0 10) (N 0 11) (N 0 12) (N 0 13) (N 1) (N 2) (N 3) (N 4) (N 5) (N 6) (N 7) (N 8) (upd (upd (N 9) (0 : Int32).toNatClampNeg x2) (1 : Int32).toNatClampNeg x3), w_Cloth ct aC C] (f := (upd (N 9) (0 : Int32).toNatClampNeg x2)) rfl rfl rfl rfl rfl dX2_compareSights_96 ?_
        refine im_aload_n X 0 dX2_compareSights_97 rfl rfl ?_
        refine im_cget X 0 0 (v := .ref (aN 9)) fl_X2_36 rfl rfl rfl dX2_compareSights_98 ?_
        refine im_iconst X 2 dX2_compareSights_101 (by decide) ?_
        refine im_iload X 4 dX2_compareSights_102 rfl ?_
        refine im_ciast X 0 9 0 (wx_Inquest ct aN aNE (N 0 10) (N 0 11) (N 0 12) (N 0 13) (N 1) (N 2) (N 3) (N 4) (N 5) (N 6) (N 7) (N 8) (upd (upd (upd (N 9) (0 : Int32).toNatClampNeg x2) (1 : Int32).toNatClampNeg x3) (2 : Int32).toNatClampNeg x4)) [wx_Inquest ct aN aNE (N 0 10) (N 0 11) (N 0 12) (N 0 13) (N 1) (N 2) (N 3) (N 4) (N 5) (N 6) (N 7) (N 8) (upd (upd (upd (N 9) (0 : Int32).toNatClampNeg x2) (1 : Int32).toNatClampNeg x3) (2 : Int32).toNatClampNeg x4), w_Cloth ct aC C] (f := (upd (upd (N 9) (0 : Int32).toNatClampNeg x2) (1 : Int32).toNatClampNeg x3)) rfl rfl rfl rfl rfl dX2_compareSights_104 ?_
        refine im_aload_n X 0 dX2_compareSights_105 rfl rfl ?_
        refine im_cget X 0 0 (v := .ref (aN 9)) fl_X2_36 rfl rfl rfl dX2_compareSights_106 ?_
        refine im_iconst X 3 dX2_compareSights_109 (by decide) ?_
        refine im_iload X 7 dX2_compareSights_110 rfl ?_
        refine im_ciast X 0 9 0 (wx_Inquest ct aN aNE (N 0 10) (N 0 11) (N 0 12) (N 0 13) (N 1) (N 2) (N 3) (N 4) (N 5) (N 6) (N 7) (N 8) (upd (upd (upd (upd (N 9) (0 : Int32).toNatClampNeg x2) (1 : Int32).toNatClampNeg x3) (2 : Int32).toNatClampNeg x4) (3 : Int32).toNatClampNeg (if (((N 0 11) - ((N 7) (((x3 * 6) + x4)).toNatClampNeg)) - ((N 8) (((x3 * 6) + x4)).toNatClampNeg)) < (if ((N 7) (((x3 * 6) + x4)).toNatClampNeg) < ((N 8) (((x3 * 6) + x4)).toNatClampNeg) then ((N 8) (((x3 * 6) + x4)).toNatClampNeg) else ((N 7) (((x3 * 6) + x4)).toNatClampNeg)) then (if ((N 7) (((x3 * 6) + x4)).toNatClampNeg) < ((N 8) (((x3 * 6) + x4)).toNatClampNeg) then ((N 8) (((x3 * 6) + x4)).toNatClampNeg) else ((N 7) (((x3 * 6) + x4)).toNatClampNeg)) else (((N 0 11) - ((N 7) (((x3 * 6) + x4)).toNatClampNeg)) - ((N 8) (((x3 * 6) + x4)).toNatClampNeg))))) [wx_Inquest ct aN aNE (N 0 10) (N 0 11) (N 0 12) (N 0 13) (N 1) (N 2) (N 3) (N 4) (N 5) (N 6) (N 7) (N 8) (upd (upd (upd (upd (N 9) (0 : Int32).toNatClampNeg x2) (1 : Int32).toNatClampNeg x3) (2 : Int32).toNatClampNeg x4) (3 : Int32).toNatClampNeg (if (((N 0 11) - ((N 7) (((x3 * 6) + x4)).toNatClampNeg)) - ((N 8) (((x3 * 6) + x4)).toNatClampNeg)) < (if ((N 7) (((x3 * 6) + x4)).toNatClampNeg) < ((N 8) (((x3 * 6) + x4)).toNatClampNeg) then ((N 8) (((x3 * 6) + x4)).toNatClampNeg) else ((N 7) (((x3 * 6) + x4)).toNatClampNeg)) then (if ((N 7) (((x3 * 6) + x4)).toNatClampNeg) < ((N 8) (((x3 * 6) + x4)).toNatClampNeg) then ((N 8) (((x3 * 6) + x4)).toNatClampNeg) else ((N 7) (((x3 * 6) + x4)).toNatClampNeg)) else (((N 0 11) - ((N 7) (((x3 * 6) + x4)).toNatClampNeg)) - ((N 8) (((x3 * 6) + x4)).toNatClampNeg)))), w_Cloth ct aC C] (f := (upd (upd (upd (N 9) (0 : Int32).toNatClampNeg x2) (1 : Int32).toNatClampNeg x3) (2 : Int32).toNatClampNeg x4)) rfl rfl rfl rfl rfl dX2_compareSights_112 ?_
        refine im_iinc X 4 1 [1, 2, 3, 4, 0, 5, 6, 7] [(0, .ref (aN 0)), (1, .ref (aC 0)), (2, .int x2), (3, .int x3), (4, .int (x4 + 1)), (5, .int ((N 7) (((x3 * 6) + x4)).toNatClampNeg)), (6, .int ((N 8) (((x3 * 6) + x4)).toNatClampNeg)), (7, .int (if (((N 0 11) - ((N 7) (((x3 * 6) + x4)).toNatClampNeg)) - ((N 8) (((x3 * 6) + x4)).toNatClampNeg)) < (if ((N 7) (((x3 * 6) + x4)).toNatClampNeg) < ((N 8) (((x3 * 6) + x4)).toNatClampNeg) then ((N 8) (((x3 * 6) + x4)).toNatClampNeg) else ((N 7) (((x3 * 6) + x4)).toNatClampNeg)) then (if ((N 7) (((x3 * 6) + x4)).toNatClampNeg) < ((N 8) (((x3 * 6) + x4)).toNatClampNeg) then ((N 8) (((x3 * 6) + x4)).toNatClampNeg) else ((N 7) (((x3 * 6) + x4)).toNatClampNeg)) else (((N 0 11) - ((N 7) (((x3 * 6) + x4)).toNatClampNeg)) - ((N 8) (((x3 * 6) + x4)).toNatClampNeg))))] dX2_compareSights_113 (by decide) rfl (by decide) rfl ?_
        refine im_goto (tgt := 13) X dX2_compareSights_116 rfl ?_
        refine im_lv [0, 1, 2, 3, 4] [(0, .ref (aN 0)), (1, .ref (aC 0)), (2, .int x2), (3, .int x3), (4, .int (x4 + 1))] rfl ?_
        exact ih (mr N 9 (upd (upd (upd (upd (N 9) (0 : Int32).toNatClampNeg x2) (1 : Int32).toNatClampNeg x3) (2 : Int32).toNatClampNeg x4) (3 : Int32).toNatClampNeg (if (((N 0 11) - ((N 7) (((x3 * 6) + x4)).toNatClampNeg)) - ((N 8) (((x3 * 6) + x4)).toNatClampNeg)) < (if ((N 7) (((x3 * 6) + x4)).toNatClampNeg) < ((N 8) (((x3 * 6) + x4)).toNatClampNeg) then ((N 8) (((x3 * 6) + x4)).toNatClampNeg) else ((N 7) (((x3 * 6) + x4)).toNatClampNeg)) then (if ((N 7) (((x3 * 6) + x4)).toNatClampNeg) < ((N 8) (((x3 * 6) + x4)).toNatClampNeg) then ((N 8) (((x3 * 6) + x4)).toNatClampNeg) else ((N 7) (((x3 * 6) + x4)).toNatClampNeg)) else (((N 0 11) - ((N 7) (((x3 * 6) + x4)).toNatClampNeg)) - ((N 8) (((x3 * 6) + x4)).toNatClampNeg))))) (x4 + 1)
noncomputable def f_X2_compareSights_2 (F : Nat) (C : Mem) (x2 : Int32) (k125 : Mem → Option (Mem)) : Nat → Mem → Int32 → Option (Mem)
  | 0, _, _ => none
  | n + 1, N, x3 =>
  (if (C 0 7) ≤ x3 then k125 N else f_X2_compareSights_13 F C x2 x3 (fun N_119 => f_X2_compareSights_2 F C x2 k125 n N_119 (x3 + 1)) F N 0)
set_option maxRecDepth 100000 in
set_option maxHeartbeats 4000000 in
theorem i_X2_compareSights_2 {p : Program} {l : Launch} {e : Env} {s : State} {m : MethodId} {args : Array Value} {below : List Frame} {meth : Method} {c : Code} {D : va_G} {ct : im_ct} {A : Nat → Prop} (X : im_X p (im_rm 1) s m args meth c D ct A RX2 cX2_compareSights 8 none) (F : Nat) (aN aNE aC : Nat → Nat) (C : Mem) (x2 : Int32) (k125 : Mem → Option (Mem)) (hk125 : ∀ (N : Mem), Im p l e (im_rm 1) s m args below meth c D A 8 (QV D A (fun z : Mem => (cat [w_Inquest ct aN aNE z, w_Cloth ct aC C]))) 125 [] [] (cat [w_Inquest ct aN aNE N, w_Cloth ct aC C]) (k125 N)) : ∀ (n : Nat) (N : Mem) (x3 : Int32), Im p l e (im_rm 1) s m args below meth c D A 8 (QV D A (fun z : Mem => (cat [w_Inquest ct aN aNE z, w_Cloth ct aC C]))) 2 [(0, .ref (aN 0)), (1, .ref (aC 0)), (2, .int x2), (3, .int x3)] [] (cat [w_Inquest ct aN aNE N, w_Cloth ct aC C]) (f_X2_compareSights_2 F C x2 k125 n N x3) := by
  intro n
  induction n with
  | zero => intros; exact im_none
  | succ n ih =>
    intro N x3
    unfold f_X2_compareSights_2
    refine im_iload_n X 3 dX2_compareSights_2 rfl rfl ?_
    refine im_aload_n X 1 dX2_compareSights_3 rfl rfl ?_
    refine im_cget X 1 0 (v := .int (C 0 7)) fl_X2_98 rfl rfl rfl dX2_compareSights_4 ?_
    refine im_icmp_ge (tgt := 125) X dX2_compareSights_7 rfl ?_ ?_
    · refine im_lv [] [] rfl ?_
      exact hk125 N
    · refine im_iconst X 0 dX2_compareSights_10 (by decide) ?_
      refine im_istore X [1, 2, 3, 4, 0] [(0, .ref (aN 0)), (1, .ref (aC 0)), (2, .int x2), (3, .int x3), (4, .int 0)] dX2_compareSights_11 (by decide) rfl ?_
      refine i_X2_compareSights_13 X F aN aNE aC C x2 x3 _ (fun N_119 => ?_) F N 0
      refine im_iinc X 3 1 [1, 2, 3, 0] [(0, .ref (aN 0)), (1, .ref (aC 0)), (2, .int x2), (3, .int (x3 + 1))] dX2_compareSights_119 (by decide) rfl (by decide) rfl ?_
      refine im_goto (tgt := 2) X dX2_compareSights_122 rfl ?_
      exact ih N_119 (x3 + 1)
noncomputable def f_X2_compareSights (F : Nat) (N : Mem) (C : Mem) (x2 : Int32) : Option (Mem) :=
  f_X2_compareSights_2 F C x2 (fun N_125 => (some N_125)) F N 0
set_option maxRecDepth 100000 in
set_option maxHeartbeats 4000000 in
theorem i_X2_compareSights {p : Program} {l : Launch} {e : Env} {s : State} {m : MethodId} {args : Array Value} {below : List Frame} {meth : Method} {c : Code} {D : va_G} {ct : im_ct} {A : Nat → Prop} (X : im_X p (im_rm 1) s m args meth c D ct A RX2 cX2_compareSights 8 none) (F : Nat) (aN aNE aC : Nat → Nat) (N : Mem) (C : Mem) (x2 : Int32) : Im p l e (im_rm 1) s m args below meth c D A 8 (QV D A (fun z : Mem => (cat [w_Inquest ct aN aNE z, w_Cloth ct aC C]))) 0 [(0, .ref (aN 0)), (1, .ref (aC 0)), (2, .int x2)] [] (cat [w_Inquest ct aN aNE N, w_Cloth ct aC C]) (f_X2_compareSights F N C x2) := by
  unfold f_X2_compareSights
  refine im_iconst X 0 dX2_compareSights_0 (by decide) ?_
  refine im_istore_n X [1, 2, 3, 0] [(0, .ref (aN 0)), (1, .ref (aC 0)), (2, .int x2), (3, .int 0)] dX2_compareSights_1 rfl (by decide) rfl ?_
  refine i_X2_compareSights_2 X F aN aNE aC C x2 _ (fun N_125 => ?_) F N 0
  exact im_return X N_125 rfl dX2_compareSights_125
theorem c_X2_compareSights (l : Launch) (D : va_G) (ct : im_ct) (F : Nat) (aN aNE aC : Nat → Nat) (N : Mem) (C : Mem) (x2 : Int32) : CMv l D ct yX2_compareSights cX2_compareSights 8 none 1 [.ref (aN 0), .ref (aC 0), .int x2] (cat [w_Inquest ct aN aNE N, w_Cloth ct aC C]) (f_X2_compareSights F N C x2) (fun z : Mem => (cat [w_Inquest ct aN aNE z, w_Cloth ct aC C])) :=
  im_met (Qb := fun A => QV D A (fun z : Mem => (cat [w_Inquest ct aN aNE z, w_Cloth ct aC C]))) (by decide +kernel) (Nat.le_of_ble_eq_true rfl) (fun p e s m args below meth c A X => i_X2_compareSights X F aN aNE aC N C x2)

noncomputable def f_X2_findBestSight_2 (F : Nat) (NE : Mem) (C : Mem) (k28 : Mem → Option (Mem × Mem)) : Nat → Mem → Int32 → Option (Mem × Mem)
  | 0, _, _ => none
  | n + 1, N, x2 =>
  (if 24 ≤ x2 then k28 N else ck x2 24 (ck x2 24 (f_X2_findBestSight_2 F NE C k28 n (mr (mr N 7 (upd (N 7) x2.toNatClampNeg 0)) 8 (upd (N 8) x2.toNatClampNeg 0)) (x2 + 1))))
set_option maxRecDepth 100000 in
set_option maxHeartbeats 4000000 in
theorem i_X2_findBestSight_2 {p : Program} {l : Launch} {e : Env} {s : State} {m : MethodId} {args : Array Value} {below : List Frame} {meth : Method} {c : Code} {D : va_G} {ct : im_ct} {A : Nat → Prop} (X : im_X p (im_rm 2) s m args meth c D ct A RX2 cX2_findBestSight 4 none) (F : Nat) (aN aNE aC : Nat → Nat) (NE : Mem) (C : Mem) (k28 : Mem → Option (Mem × Mem)) (hk28 : ∀ (N : Mem), Im p l e (im_rm 2) s m args below meth c D A 4 (QV D A (fun z : Mem × Mem => (cat [w_Inquest ct aN aNE z.1, w_Effect ct aNE z.2, w_Cloth ct aC C]))) 28 [(0, .ref (aN 0)), (1, .ref (aC 0))] [] (cat [w_Inquest ct aN aNE N, w_Effect ct aNE NE, w_Cloth ct aC C]) (k28 N)) : ∀ (n : Nat) (N : Mem) (x2 : Int32), Im p l e (im_rm 2) s m args below meth c D A 4 (QV D A (fun z : Mem × Mem => (cat [w_Inquest ct aN aNE z.1, w_Effect ct aNE z.2, w_Cloth ct aC C]))) 2 [(0, .ref (aN 0)), (1, .ref (aC 0)), (2, .int x2)] [] (cat [w_Inquest ct aN aNE N, w_Effect ct aNE NE, w_Cloth ct aC C]) (f_X2_findBestSight_2 F NE C k28 n N x2) := by
  intro n
  induction n with
  | zero => intros; exact im_none
  | succ n ih =>
    intro N x2
    unfold f_X2_findBestSight_2
    refine im_iload_n X 2 dX2_findBestSight_2 rfl rfl ?_
    refine im_bipush X 24 dX2_findBestSight_3 (by decide) ?_
    refine im_icmp_ge (tgt := 28) X dX2_findBestSight_5 rfl ?_ ?_
    · refine im_lv [0, 1] [(0, .ref (aN 0)), (1, .ref (aC 0))] rfl ?_
      exact hk28 N
    · refine im_aload_n X 0 dX2_findBestSight_8 rfl rfl ?_
      refine im_cget X 0 0 (v := .ref (aN 7)) fl_X2_30 rfl rfl rfl dX2_findBestSight_9 ?_
      refine im_iload_n X 2 dX2_findBestSight_12 rfl rfl ?_
      refine im_iconst X 0 dX2_findBestSight_13 (by decide) ?_
      refine im_ciast X 0 7 0 (wx_Inquest ct aN aNE (N 0 10) (N 0 11) (N 0 12) (N 0 13) (N 1) (N 2) (N 3) (N 4) (N 5) (N 6) (upd (N 7) x2.toNatClampNeg 0) (N 8) (N 9)) [wx_Inquest ct aN aNE (N 0 10) (N 0 11) (N 0 12) (N 0 13) (N 1) (N 2) (N 3) (N 4) (N 5) (N 6) (upd (N 7) x2.toNatClampNeg 0) (N 8) (N 9), w_Effect ct aNE NE, w_Cloth ct aC C] (f := (N 7)) rfl rfl rfl rfl rfl dX2_findBestSight_14 ?_
      refine im_aload_n X 0 dX2_findBestSight_15 rfl rfl ?_
      refine im_cget X 0 0 (v := .ref (aN 8)) fl_X2_33 rfl rfl rfl dX2_findBestSight_16 ?_
      refine im_iload_n X 2 dX2_findBestSight_19 rfl rfl ?_
      refine im_iconst X 0 dX2_findBestSight_20 (by decide) ?_
      refine im_ciast X 0 8 0 (wx_Inquest ct aN aNE (N 0 10) (N 0 11) (N 0 12) (N 0 13) (N 1) (N 2) (N 3) (N 4) (N 5) (N 6) (upd (N 7) x2.toNatClampNeg 0) (upd (N 8) x2.toNatClampNeg 0) (N 9)) [wx_Inquest ct aN aNE (N 0 10) (N 0 11) (N 0 12) (N 0 13) (N 1) (N 2) (N 3) (N 4) (N 5) (N 6) (upd (N 7) x2.toNatClampNeg 0) (upd (N 8) x2.toNatClampNeg 0) (N 9), w_Effect ct aNE NE, w_Cloth ct aC C] (f := (N 8)) rfl rfl rfl rfl rfl dX2_findBestSight_21 ?_
      refine im_iinc X 2 1 [1, 2, 0] [(0, .ref (aN 0)), (1, .ref (aC 0)), (2, .int (x2 + 1))] dX2_findBestSight_22 (by decide) rfl (by decide) rfl ?_
      refine im_goto (tgt := 2) X dX2_findBestSight_25 rfl ?_
      exact ih (mr (mr N 7 (upd (N 7) x2.toNatClampNeg 0)) 8 (upd (N 8) x2.toNatClampNeg 0)) (x2 + 1)
noncomputable def f_X2_findBestSight_52 (F : Nat) (C : Mem) (x3 : Int32) (k122 : Mem → Mem → Int32 → Option (Mem × Mem)) : Nat → Mem → Mem → Int32 → Option (Mem × Mem)
  | 0, _, _, _ => none
  | n + 1, N, NE, x2 =>
  (if (N 0 11) ≤ x2 then k122 N NE x2 else (f_X2_slideTime F N x2).bind (fun z62 => (if z62 = x3 then (f_X2_slideCell F N x2).bind (fun z75 => ck z75 24 (ck z75 24 ((f_X2_slideCell F (mr N 7 (upd (N 7) z75.toNatClampNeg (((N 7) z75.toNatClampNeg) + 1))) x2).bind (fun z89 => (f_X2_slidesUp F (mr N 7 (upd (N 7) z75.toNatClampNeg (((N 7) z75.toNatClampNeg) + 1))) x2).bind (fun z94 => (f_X1_tellSlide F NE z89 z94).bind (fun z97 => ck (z97 0 2) 24 (ck (z97 0 2) 24 (f_X2_findBestSight_52 F C x3 k122 n (mr (mr N 7 (upd (N 7) z75.toNatClampNeg (((N 7) z75.toNatClampNeg) + 1))) 8 (upd (N 8) ((z97 0 2)).toNatClampNeg (((N 8) ((z97 0 2)).toNatClampNeg) + 1))) z97 (x2 + 1))))))))) else k122 N NE x2)))
set_option maxRecDepth 100000 in
set_option maxHeartbeats 4000000 in
theorem i_X2_findBestSight_52 {p : Program} {l : Launch} {e : Env} {s : State} {m : MethodId} {args : Array Value} {below : List Frame} {meth : Method} {c : Code} {D : va_G} {ct : im_ct} {A : Nat → Prop} (X : im_X p (im_rm 2) s m args meth c D ct A RX2 cX2_findBestSight 4 none) (F : Nat) (aN aNE aC : Nat → Nat) (C : Mem) (x3 : Int32) (k122 : Mem → Mem → Int32 → Option (Mem × Mem)) (hk122 : ∀ (N : Mem) (NE : Mem) (x2 : Int32), Im p l e (im_rm 2) s m args below meth c D A 4 (QV D A (fun z : Mem × Mem => (cat [w_Inquest ct aN aNE z.1, w_Effect ct aNE z.2, w_Cloth ct aC C]))) 122 [(0, .ref (aN 0)), (1, .ref (aC 0)), (2, .int x2), (3, .int x3)] [] (cat [w_Inquest ct aN aNE N, w_Effect ct aNE NE, w_Cloth ct aC C]) (k122 N NE x2)) : ∀ (n : Nat) (N : Mem) (NE : Mem) (x2 : Int32), Im p l e (im_rm 2) s m args below meth c D A 4 (QV D A (fun z : Mem × Mem => (cat [w_Inquest ct aN aNE z.1, w_Effect ct aNE z.2, w_Cloth ct aC C]))) 52 [(0, .ref (aN 0)), (1, .ref (aC 0)), (2, .int x2), (3, .int x3)] [] (cat [w_Inquest ct aN aNE N, w_Effect ct aNE NE, w_Cloth ct aC C]) (f_X2_findBestSight_52 F C x3 k122 n N NE x2) := by
  intro n
  induction n with
  | zero => intros; exact im_none
  | succ n ih =>
    intro N NE x2
    unfold f_X2_findBestSight_52
    refine im_iload_n X 2 dX2_findBestSight_52 rfl rfl ?_
    refine im_aload_n X 0 dX2_findBestSight_53 rfl rfl ?_
    refine im_cget X 0 0 (v := .int (N 0 11)) fl_X2_146 rfl rfl rfl dX2_findBestSight_54 ?_
    refine im_icmp_ge (tgt := 122) X dX2_findBestSight_57 rfl ?_ ?_
    · exact hk122 N NE x2
    · refine im_aload_n X 0 dX2_findBestSight_60 rfl rfl ?_
      refine im_iload_n X 2 dX2_findBestSight_61 rfl rfl ?_
      refine im_cciV X [.int x2] [] [w_Inquest ct aN aNE N, w_Effect ct aNE NE, w_Cloth ct aC C] [w_Inquest ct aN aNE N] [0] (fun z62 => [w_Inquest ct aN aNE N]) 0 0 2 rfl rfl rfl cl_X2_166 (c_X2_slideTime l D ct F aN aNE N x2) rfl (by decide) (fun _ => lc rfl (rfl)) rfl ⟨by decide, by decide⟩ (Nat.le_of_ble_eq_true rfl) rfl dX2_findBestSight_62 (fun z62 => ?_)
      refine im_ws (cat [w_Inquest ct aN aNE N, w_Effect ct aNE NE, w_Cloth ct aC C]) rfl ?_
      refine im_iload_n X 3 dX2_findBestSight_65 rfl rfl ?_
      refine im_icmp_ne (tgt := 122) X dX2_findBestSight_66 rfl ?_ ?_
      · exact hk122 N NE x2
      · refine im_aload_n X 0 dX2_findBestSight_69 rfl rfl ?_
        refine im_cget X 0 0 (v := .ref (aN 7)) fl_X2_30 rfl rfl rfl dX2_findBestSight_70 ?_
        refine im_aload_n X 0 dX2_findBestSight_73 rfl rfl ?_
        refine im_iload_n X 2 dX2_findBestSight_74 rfl rfl ?_
        refine im_cciV X [.int x2] [.ref (aN 7)] [w_Inquest ct aN aNE N, w_Effect ct aNE NE, w_Cloth ct aC C] [w_Inquest ct aN aNE N] [0] (fun z75 => [w_Inquest ct aN aNE N]) 0 0 2 rfl rfl rfl cl_X2_160 (c_X2_slideCell l D ct F aN aNE N x2) rfl (by decide) (fun _ => lc rfl (rfl)) rfl ⟨by decide, by decide⟩ (Nat.le_of_ble_eq_true rfl) rfl dX2_findBestSight_75 (fun z75 => ?_)
        refine im_ws (cat [w_Inquest ct aN aNE N, w_Effect ct aNE NE, w_Cloth ct aC C]) rfl ?_
        refine im_dup2_11 X rfl rfl dX2_findBestSight_78 ?_
        refine im_ciald X 0 7 0 (f := (N 7)) rfl rfl rfl dX2_findBestSight_79 ?_
        refine im_iconst X 1 dX2_findBestSight_80 (by decide) ?_
        refine im_iadd X dX2_findBestSight_81 ?_
        refine im_ciast X 0 7 0 (wx_Inquest ct aN aNE (N 0 10) (N 0 11) (N 0 12) (N 0 13) (N 1) (N 2) (N 3) (N 4) (N 5) (N 6) (upd (N 7) z75.toNatClampNeg (((N 7) z75.toNatClampNeg) + 1)) (N 8) (N 9)) [wx_Inquest ct aN aNE (N 0 10) (N 0 11) (N 0 12) (N 0 13) (N 1) (N 2) (N 3) (N 4) (N 5) (N 6) (upd (N 7) z75.toNatClampNeg (((N 7) z75.toNatClampNeg) + 1)) (N 8) (N 9), w_Effect ct aNE NE, w_Cloth ct aC C] (f := (N 7)) rfl rfl rfl rfl rfl dX2_findBestSight_82 ?_
        refine im_aload_n X 0 dX2_findBestSight_83 rfl rfl ?_
        refine im_cget X 0 0 (v := .ref (aNE 0)) fl_X2_42 rfl rfl rfl dX2_findBestSight_84 ?_
        refine im_aload_n X 0 dX2_findBestSight_87 rfl rfl ?_
        refine im_iload_n X 2 dX2_findBestSight_88 rfl rfl ?_
        refine im_cciV X [.int x2] [.ref (aNE 0)] [wx_Inquest ct aN aNE (N 0 10) (N 0 11) (N 0 12) (N 0 13) (N 1) (N 2) (N 3) (N 4) (N 5) (N 6) (upd (N 7) z75.toNatClampNeg (((N 7) z75.toNatClampNeg) + 1)) (N 8) (N 9), w_Effect ct aNE NE, w_Cloth ct aC C] [w_Inquest ct aN aNE (mr N 7 (upd (N 7) z75.toNatClampNeg (((N 7) z75.toNatClampNeg) + 1)))] [0] (fun z89 => [w_Inquest ct aN aNE (mr N 7 (upd (N 7) z75.toNatClampNeg (((N 7) z75.toNatClampNeg) + 1)))]) 0 0 2 rfl rfl rfl cl_X2_160 (c_X2_slideCell l D ct F aN aNE (mr N 7 (upd (N 7) z75.toNatClampNeg (((N 7) z75.toNatClampNeg) + 1))) x2) rfl (by decide) (fun _ => lc rfl (rfl)) rfl ⟨by decide, by decide⟩ (Nat.le_of_ble_eq_true rfl) rfl dX2_findBestSight_89 (fun z89 => ?_)
        refine im_ws (cat [wx_Inquest ct aN aNE (N 0 10) (N 0 11) (N 0 12) (N 0 13) (N 1) (N 2) (N 3) (N 4) (N 5) (N 6) (upd (N 7) z75.toNatClampNeg (((N 7) z75.toNatClampNeg) + 1)) (N 8) (N 9), w_Effect ct aNE NE, w_Cloth ct aC C]) rfl ?_
        refine im_aload_n X 0 dX2_findBestSight_92 rfl rfl ?_
        refine im_iload_n X 2 dX2_findBestSight_93 rfl rfl ?_
        refine im_cciV X [.int x2] [.int z89, .ref (aNE 0)] [wx_Inquest ct aN aNE (N 0 10) (N 0 11) (N 0 12) (N 0 13) (N 1) (N 2) (N 3) (N 4) (N 5) (N 6) (upd (N 7) z75.toNatClampNeg (((N 7) z75.toNatClampNeg) + 1)) (N 8) (N 9), w_Effect ct aNE NE, w_Cloth ct aC C] [w_Inquest ct aN aNE (mr N 7 (upd (N 7) z75.toNatClampNeg (((N 7) z75.toNatClampNeg) + 1)))] [0] (fun z94 => [w_Inquest ct aN aNE (mr N 7 (upd (N 7) z75.toNatClampNeg (((N 7) z75.toNatClampNeg) + 1)))]) 0 0 2 rfl rfl rfl cl_X2_163 (c_X2_slidesUp l D ct F aN aNE (mr N 7 (upd (N 7) z75.toNatClampNeg (((N 7) z75.toNatClampNeg) + 1))) x2) rfl (by decide) (fun _ => lc rfl (rfl)) rfl ⟨by decide, by decide⟩ (Nat.le_of_ble_eq_true rfl) rfl dX2_findBestSight_94 (fun z94 => ?_)
        refine im_ws (cat [wx_Inquest ct aN aNE (N 0 10) (N 0 11) (N 0 12) (N 0 13) (N 1) (N 2) (N 3) (N 4) (N 5) (N 6) (upd (N 7) z75.toNatClampNeg (((N 7) z75.toNatClampNeg) + 1)) (N 8) (N 9), w_Effect ct aNE NE, w_Cloth ct aC C]) rfl ?_
        refine im_ccvV X [.int z89, .int z94] [] [wx_Inquest ct aN aNE (N 0 10) (N 0 11) (N 0 12) (N 0 13) (N 1) (N 2) (N 3) (N 4) (N 5) (N 6) (upd (N 7) z75.toNatClampNeg (((N 7) z75.toNatClampNeg) + 1)) (N 8) (N 9), w_Effect ct aNE NE, w_Cloth ct aC C] [w_Effect ct aNE NE] [1] (fun z97 => [w_Effect ct aNE z97]) 1 0 1 rfl rfl rfl cl_X2_153 (c_X1_tellSlide l D ct F aNE NE z89 z94) rfl (by decide) (fun _ => lc fa_Effect (rfl)) rfl ⟨by decide, by decide⟩ (Nat.le_of_ble_eq_true rfl) rfl dX2_findBestSight_97 (fun z97 => ?_)
        refine im_ws (cat [wx_Inquest ct aN aNE (N 0 10) (N 0 11) (N 0 12) (N 0 13) (N 1) (N 2) (N 3) (N 4) (N 5) (N 6) (upd (N 7) z75.toNatClampNeg (((N 7) z75.toNatClampNeg) + 1)) (N 8) (N 9), w_Effect ct aNE z97, w_Cloth ct aC C]) rfl ?_
        refine im_aload_n X 0 dX2_findBestSight_100 rfl rfl ?_
        refine im_cget X 0 0 (v := .ref (aN 8)) fl_X2_33 rfl rfl rfl dX2_findBestSight_101 ?_
        refine im_aload_n X 0 dX2_findBestSight_104 rfl rfl ?_
        refine im_cget X 0 0 (v := .ref (aNE 0)) fl_X2_42 rfl rfl rfl dX2_findBestSight_105 ?_
        refine im_cget X 1 0 (v := .int (z97 0 2)) fl_X2_75 rfl rfl rfl dX2_findBestSight_108 ?_
        refine im_dup2_11 X rfl rfl dX2_findBestSight_111 ?_
        refine im_ciald X 0 8 0 (f := (N 8)) rfl rfl rfl dX2_findBestSight_112 ?_
        refine im_iconst X 1 dX2_findBestSight_113 (by decide) ?_
        refine im_iadd X dX2_findBestSight_114 ?_
        refine im_ciast X 0 8 0 (wx_Inquest ct aN aNE (N 0 10) (N 0 11) (N 0 12) (N 0 13) (N 1) (N 2) (N 3) (N 4) (N 5) (N 6) (upd (N 7) z75.toNatClampNeg (((N 7) z75.toNatClampNeg) + 1)) (upd (N 8) ((z97 0 2)).toNatClampNeg (((N 8) ((z97 0 2)).toNatClampNeg) + 1)) (N 9)) [wx_Inquest ct aN aNE (N 0 10) (N 0 11) (N 0 12) (N 0 13) (N 1) (N 2) (N 3) (N 4) (N 5) (N 6) (upd (N 7) z75.toNatClampNeg (((N 7) z75.toNatClampNeg) + 1)) (upd (N 8) ((z97 0 2)).toNatClampNeg (((N 8) ((z97 0 2)).toNatClampNeg) + 1)) (N 9), w_Effect ct aNE z97, w_Cloth ct aC C] (f := (N 8)) rfl rfl rfl rfl rfl dX2_findBestSight_115 ?_
        refine im_iinc X 2 1 [1, 2, 0, 3] [(0, .ref (aN 0)), (1, .ref (aC 0)), (2, .int (x2 + 1)), (3, .int x3)] dX2_findBestSight_116 (by decide) rfl (by decide) rfl ?_
        refine im_goto (tgt := 52) X dX2_findBestSight_119 rfl ?_
        exact ih (mr (mr N 7 (upd (N 7) z75.toNatClampNeg (((N 7) z75.toNatClampNeg) + 1))) 8 (upd (N 8) ((z97 0 2)).toNatClampNeg (((N 8) ((z97 0 2)).toNatClampNeg) + 1))) z97 (x2 + 1)
noncomputable def f_X2_findBestSight_122 (F : Nat) (N : Mem) (NE : Mem) (C : Mem) (x2 : Int32) (x3 : Int32) (k44 : Mem → Mem → Int32 → Int32 → Option (Mem × Mem)) : Option (Mem × Mem) :=
  (f_X2_compareSights F N C x3).bind (fun z125 => k44 z125 NE x2 (x3 + 1))
set_option maxRecDepth 100000 in
set_option maxHeartbeats 4000000 in
theorem i_X2_findBestSight_122 {p : Program} {l : Launch} {e : Env} {s : State} {m : MethodId} {args : Array Value} {below : List Frame} {meth : Method} {c : Code} {D : va_G} {ct : im_ct} {A : Nat → Prop} (X : im_X p (im_rm 2) s m args meth c D ct A RX2 cX2_findBestSight 4 none) (F : Nat) (aN aNE aC : Nat → Nat) (N : Mem) (NE : Mem) (C : Mem) (x2 : Int32) (x3 : Int32) (k44 : Mem → Mem → Int32 → Int32 → Option (Mem × Mem)) (hk44 : ∀ (N : Mem) (NE : Mem) (x2 : Int32) (x3 : Int32), Im p l e (im_rm 2) s m args below meth c D A 4 (QV D A (fun z : Mem × Mem => (cat [w_Inquest ct aN aNE z.1, w_Effect ct aNE z.2, w_Cloth ct aC C]))) 44 [(0, .ref (aN 0)), (1, .ref (aC 0)), (2, .int x2), (3, .int x3)] [] (cat [w_Inquest ct aN aNE N, w_Effect ct aNE NE, w_Cloth ct aC C]) (k44 N NE x2 x3)) : Im p l e (im_rm 2) s m args below meth c D A 4 (QV D A (fun z : Mem × Mem => (cat [w_Inquest ct aN aNE z.1, w_Effect ct aNE z.2, w_Cloth ct aC C]))) 122 [(0, .ref (aN 0)), (1, .ref (aC 0)), (2, .int x2), (3, .int x3)] [] (cat [w_Inquest ct aN aNE N, w_Effect ct aNE NE, w_Cloth ct aC C]) (f_X2_findBestSight_122 F N NE C x2 x3 k44) := by
  unfold f_X2_findBestSight_122
  refine im_aload_n X 0 dX2_findBestSight_122 rfl rfl ?_
  refine im_aload_n X 1 dX2_findBestSight_123 rfl rfl ?_
  refine im_iload_n X 3 dX2_findBestSight_124 rfl rfl ?_
  refine im_ccvV X [.ref (aC 0), .int x3] [] [w_Inquest ct aN aNE N, w_Effect ct aNE NE, w_Cloth ct aC C] [w_Inquest ct aN aNE N, w_Cloth ct aC C] [0, 2] (fun z125 => [w_Inquest ct aN aNE z125, w_Cloth ct aC C]) 0 0 2 rfl rfl rfl cl_X2_172 (c_X2_compareSights l D ct F aN aNE aC N C x3) rfl (by decide) (fun _ => lc fa_Inquest (lc rfl (rfl))) rfl ⟨by decide, by decide⟩ (Nat.le_of_ble_eq_true rfl) rfl dX2_findBestSight_125 (fun z125 => ?_)
  refine im_ws (cat [w_Inquest ct aN aNE z125, w_Effect ct aNE NE, w_Cloth ct aC C]) rfl ?_
  refine im_iinc X 3 1 [1, 2, 3, 0] [(0, .ref (aN 0)), (1, .ref (aC 0)), (2, .int x2), (3, .int (x3 + 1))] dX2_findBestSight_128 (by decide) rfl (by decide) rfl ?_
  refine im_goto (tgt := 44) X dX2_findBestSight_131 rfl ?_
  exact hk44 z125 NE x2 (x3 + 1)
noncomputable def f_X2_findBestSight_44 (F : Nat) (C : Mem) (k134 : Mem → Mem → Option (Mem × Mem)) : Nat → Mem → Mem → Int32 → Int32 → Option (Mem × Mem)
  | 0, _, _, _, _ => none
  | n + 1, N, NE, x2, x3 =>
  (if (C 0 8) < x3 then k134 N NE else f_X2_findBestSight_52 F C x3 (fun N_122 NE_122 x2_122 => f_X2_findBestSight_122 F N_122 NE_122 C x2_122 x3 (f_X2_findBestSight_44 F C k134 n)) F N NE x2)
set_option maxRecDepth 100000 in
set_option maxHeartbeats 4000000 in
theorem i_X2_findBestSight_44 {p : Program} {l : Launch} {e : Env} {s : State} {m : MethodId} {args : Array Value} {below : List Frame} {meth : Method} {c : Code} {D : va_G} {ct : im_ct} {A : Nat → Prop} (X : im_X p (im_rm 2) s m args meth c D ct A RX2 cX2_findBestSight 4 none) (F : Nat) (aN aNE aC : Nat → Nat) (C : Mem) (k134 : Mem → Mem → Option (Mem × Mem)) (hk134 : ∀ (N : Mem) (NE : Mem), Im p l e (im_rm 2) s m args below meth c D A 4 (QV D A (fun z : Mem × Mem => (cat [w_Inquest ct aN aNE z.1, w_Effect ct aNE z.2, w_Cloth ct aC C]))) 134 [] [] (cat [w_Inquest ct aN aNE N, w_Effect ct aNE NE, w_Cloth ct aC C]) (k134 N NE)) : ∀ (n : Nat) (N : Mem) (NE : Mem) (x2 : Int32) (x3 : Int32), Im p l e (im_rm 2) s m args below meth c D A 4 (QV D A (fun z : Mem × Mem => (cat [w_Inquest ct aN aNE z.1, w_Effect ct aNE z.2, w_Cloth ct aC C]))) 44 [(0, .ref (aN 0)), (1, .ref (aC 0)), (2, .int x2), (3, .int x3)] [] (cat [w_Inquest ct aN aNE N, w_Effect ct aNE NE, w_Cloth ct aC C]) (f_X2_findBestSight_44 F C k134 n N NE x2 x3) := by
  intro n
  induction n with
  | zero => intros; exact im_none
  | succ n ih =>
    intro N NE x2 x3
    unfold f_X2_findBestSight_44
    refine im_iload_n X 3 dX2_findBestSight_44 rfl rfl ?_
    refine im_aload_n X 1 dX2_findBestSight_45 rfl rfl ?_
    refine im_cget X 2 0 (v := .int (C 0 8)) fl_X2_61 rfl rfl rfl dX2_findBestSight_46 ?_
    refine im_icmp_gt (tgt := 134) X dX2_findBestSight_49 rfl ?_ ?_
    · refine im_lv [] [] rfl ?_
      exact hk134 N NE
    · refine i_X2_findBestSight_52 X F aN aNE aC C x3 _ (fun N_122 NE_122 x2_122 => ?_) F N NE x2
      exact i_X2_findBestSight_122 X F aN aNE aC N_122 NE_122 C x2_122 x3 _ ih
noncomputable def f_X2_findBestSight (F : Nat) (N : Mem) (NE : Mem) (C : Mem) : Option (Mem × Mem) :=
  f_X2_findBestSight_2 F NE C (fun N_28 => ck 3 4 (f_X2_findBestSight_44 F C (fun N_134 NE_134 => (some (N_134, NE_134))) F (mr N_28 9 (upd (N_28 9) (3 : Int32).toNatClampNeg ((N_28 0 11) + 1))) NE 0 0)) F N 0
set_option maxRecDepth 100000 in
set_option maxHeartbeats 4000000 in
theorem i_X2_findBestSight {p : Program} {l : Launch} {e : Env} {s : State} {m : MethodId} {args : Array Value} {below : List Frame} {meth : Method} {c : Code} {D : va_G} {ct : im_ct} {A : Nat → Prop} (X : im_X p (im_rm 2) s m args meth c D ct A RX2 cX2_findBestSight 4 none) (F : Nat) (aN aNE aC : Nat → Nat) (N : Mem) (NE : Mem) (C : Mem) : Im p l e (im_rm 2) s m args below meth c D A 4 (QV D A (fun z : Mem × Mem => (cat [w_Inquest ct aN aNE z.1, w_Effect ct aNE z.2, w_Cloth ct aC C]))) 0 [(0, .ref (aN 0)), (1, .ref (aC 0))] [] (cat [w_Inquest ct aN aNE N, w_Effect ct aNE NE, w_Cloth ct aC C]) (f_X2_findBestSight F N NE C) := by
  unfold f_X2_findBestSight
  refine im_iconst X 0 dX2_findBestSight_0 (by decide) ?_
  refine im_istore_n X [1, 2, 0] [(0, .ref (aN 0)), (1, .ref (aC 0)), (2, .int 0)] dX2_findBestSight_1 rfl (by decide) rfl ?_
  refine i_X2_findBestSight_2 X F aN aNE aC NE C  _ (fun N_28 => ?_) F N 0
  refine im_aload_n X 0 dX2_findBestSight_28 rfl rfl ?_
  refine im_cget X 0 0 (v := .ref (aN 9)) fl_X2_36 rfl rfl rfl dX2_findBestSight_29 ?_
  refine im_iconst X 3 dX2_findBestSight_32 (by decide) ?_
  refine im_aload_n X 0 dX2_findBestSight_33 rfl rfl ?_
  refine im_cget X 0 0 (v := .int (N_28 0 11)) fl_X2_146 rfl rfl rfl dX2_findBestSight_34 ?_
  refine im_iconst X 1 dX2_findBestSight_37 (by decide) ?_
  refine im_iadd X dX2_findBestSight_38 ?_
  refine im_ciast X 0 9 0 (wx_Inquest ct aN aNE (N_28 0 10) (N_28 0 11) (N_28 0 12) (N_28 0 13) (N_28 1) (N_28 2) (N_28 3) (N_28 4) (N_28 5) (N_28 6) (N_28 7) (N_28 8) (upd (N_28 9) (3 : Int32).toNatClampNeg ((N_28 0 11) + 1))) [wx_Inquest ct aN aNE (N_28 0 10) (N_28 0 11) (N_28 0 12) (N_28 0 13) (N_28 1) (N_28 2) (N_28 3) (N_28 4) (N_28 5) (N_28 6) (N_28 7) (N_28 8) (upd (N_28 9) (3 : Int32).toNatClampNeg ((N_28 0 11) + 1)), w_Effect ct aNE NE, w_Cloth ct aC C] (f := (N_28 9)) rfl rfl rfl rfl rfl dX2_findBestSight_39 ?_
  refine im_iconst X 0 dX2_findBestSight_40 (by decide) ?_
  refine im_istore_n X [1, 2, 0] [(0, .ref (aN 0)), (1, .ref (aC 0)), (2, .int 0)] dX2_findBestSight_41 rfl (by decide) rfl ?_
  refine im_iconst X 0 dX2_findBestSight_42 (by decide) ?_
  refine im_istore_n X [1, 2, 3, 0] [(0, .ref (aN 0)), (1, .ref (aC 0)), (2, .int 0), (3, .int 0)] dX2_findBestSight_43 rfl (by decide) rfl ?_
  refine i_X2_findBestSight_44 X F aN aNE aC C  _ (fun N_134 NE_134 => ?_) F (mr N_28 9 (upd (N_28 9) (3 : Int32).toNatClampNeg ((N_28 0 11) + 1))) NE 0 0
  exact im_return X (N_134, NE_134) rfl dX2_findBestSight_134
theorem c_X2_findBestSight (l : Launch) (D : va_G) (ct : im_ct) (F : Nat) (aN aNE aC : Nat → Nat) (N : Mem) (NE : Mem) (C : Mem) : CMv l D ct yX2_findBestSight cX2_findBestSight 4 none 2 [.ref (aN 0), .ref (aC 0)] (cat [w_Inquest ct aN aNE N, w_Effect ct aNE NE, w_Cloth ct aC C]) (f_X2_findBestSight F N NE C) (fun z : Mem × Mem => (cat [w_Inquest ct aN aNE z.1, w_Effect ct aNE z.2, w_Cloth ct aC C])) :=
  im_met (Qb := fun A => QV D A (fun z : Mem × Mem => (cat [w_Inquest ct aN aNE z.1, w_Effect ct aNE z.2, w_Cloth ct aC C]))) (by decide +kernel) (Nat.le_of_ble_eq_true rfl) (fun p e s m args below meth c A X => i_X2_findBestSight X F aN aNE aC N NE C)
