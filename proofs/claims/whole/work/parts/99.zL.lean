/-! PURE LAYER: text: what was seen -/
noncomputable def sT4 (F : Nat) (LM : MemL) (x : Int32) (M : Mem) (v : Int32) : Option Mem := ck (x + 3) 226 ((f_X10_needsClose F (mr M 2 (upd (M 2) ((x + 3)).toNatClampNeg v)) LM).bind (fun z114 => ck 177 226 (ck 177 226 ((some (mr z114 2 (upd (z114 2) (177 : Int32).toNatClampNeg (((z114 2) (177 : Int32).toNatClampNeg) + 1))))))))
noncomputable def sT3 (F : Nat) (LM : MemL) (x : Int32) (M : Mem) (v : Int32) : Option Mem := ck (x + 2) 226 ((f_X10_needsNumber F (mr M 2 (upd (M 2) ((x + 2)).toNatClampNeg v)) LM 0 99).bind (fun z109 => sT4 F LM x z109.2 z109.1))
noncomputable def sT2 (F : Nat) (LM : MemL) (x : Int32) (M : Mem) (v : Int32) : Option Mem := ck (x + 1) 226 (ck 0 226 ((f_X10_needsNumber F (mr M 2 (upd (M 2) ((x + 1)).toNatClampNeg v)) LM 0 (((upd (M 2) ((x + 1)).toNatClampNeg v) (0 : Int32).toNatClampNeg) - 1)).bind (fun z94 => sT3 F LM x z94.2 z94.1)))
noncomputable def sT1 (F : Nat) (LM : MemL) (x : Int32) (M : Mem) (v : Int32) : Option Mem := ck x 226 (ck 1 226 ((f_X10_needsNumber F (mr M 2 (upd (M 2) (x).toNatClampNeg v)) LM 0 (((upd (M 2) (x).toNatClampNeg v) (1 : Int32).toNatClampNeg) - 1)).bind (fun z73 => sT2 F LM x z73.2 z73.1)))
theorem w35_2 {M : Mem} (h : ¬ M 0 35 = -1) (r : Nat → Int32) : ¬ (mr M 2 r) 0 35 = -1 := by rw [mr_n _ _ (by decide)]; exact h
theorem sT4_x {F : Nat} {LM : MemL} {to : Nat} {M : Mem} (ht : to ≤ 222) (h : ¬ M 0 35 = -1) (v : Int32) : ∃ M', sT4 F LM (nI to) M v = some M' ∧ M' 0 35 = M 0 35 ∧ FrL M M' := by
  have e : nI to + 3 = nI (to + 3) := nI_add to 3
  unfold sT4
  rw [e, ck_n (by omega) (by decide), nI_clamp (by omega), g_nc_x (w35_2 h _), Option.bind_some, ck177, ck177]
  exact ⟨_, rfl, by rw [mr_n _ _ (by decide), mr_n _ _ (by decide)], FrL_tr (FrL_2 _ _) (FrL_2 _ _)⟩
theorem sT3_x {F : Nat} {LM : MemL} {to : Nat} {M : Mem} (ht : to ≤ 222) (h : ¬ M 0 35 = -1) (v : Int32) : ∃ M', sT3 F LM (nI to) M v = some M' ∧ M' 0 35 = M 0 35 ∧ FrL M M' := by
  have e : nI to + 2 = nI (to + 2) := nI_add to 2
  unfold sT3
  rw [e, ck_n (by omega) (by decide), nI_clamp (by omega), g_nn_x (w35_2 h _), Option.bind_some]
  obtain ⟨M', a1, a2, a3⟩ := sT4_x (F := F) (LM := LM) ht (w35_2 h (upd (M 2) (to + 2) v)) 0
  exact ⟨M', a1, by rw [a2, mr_n _ _ (by decide)], FrL_tr (FrL_2 _ _) a3⟩
theorem sT2_x {F : Nat} {LM : MemL} {to : Nat} {M : Mem} (ht : to ≤ 222) (h : ¬ M 0 35 = -1) (v : Int32) : ∃ M', sT2 F LM (nI to) M v = some M' ∧ M' 0 35 = M 0 35 ∧ FrL M M' := by
  unfold sT2
  rw [nI_1, ck_n (by omega) (by decide), ck0, nI_clamp (by omega), g_nn_x (w35_2 h _), Option.bind_some]
  obtain ⟨M', a1, a2, a3⟩ := sT3_x (F := F) (LM := LM) ht (w35_2 h (upd (M 2) (to + 1) v)) 0
  exact ⟨M', a1, by rw [a2, mr_n _ _ (by decide)], FrL_tr (FrL_2 _ _) a3⟩
theorem ck1M {E : Option Mem} : ck 1 226 E = E := ck_n (i := 1) (by decide) (by decide)
theorem sT1_x {F : Nat} {LM : MemL} {to : Nat} {M : Mem} (ht : to ≤ 222) (h : ¬ M 0 35 = -1) (v : Int32) : ∃ M', sT1 F LM (nI to) M v = some M' ∧ M' 0 35 = M 0 35 ∧ FrL M M' := by
  unfold sT1
  rw [ck_n (by omega) (by decide), ck1M, nI_clamp (by omega), g_nn_x (w35_2 h _), Option.bind_some]
  obtain ⟨M', a1, a2, a3⟩ := sT2_x (F := F) (LM := LM) ht (w35_2 h (upd (M 2) to v)) 0
  exact ⟨M', a1, by rw [a2, mr_n _ _ (by decide)], FrL_tr (FrL_2 _ _) a3⟩
theorem m_tseen {F : Nat} (hF : 10000 ≤ F) {R T DR RE M : Mem} {LM : MemL} {β : Nat → Nat} {n p : Nat} {τ : Sg} (hT : Tb T 1 β n) (hM : TpM M β n) (hp : p ≤ n) (hR : R 0 5 = nI n) (hP : R 0 6 = nI p) (h31 : M 0 31 = nI p) (h32 : M 0 32 = nI 1) (h35 : M 0 35 = -1) (hC : StC DR τ) (hs : okS τ) (hd : Rd M τ 1) (h12 : τ 177 < 12) (x1 : Int32) : LnO ((f_X6_readSeen F R DR T).bind (fun z71 => (cb z71.1 (some (z71.1, z71.2.1, z71.2.2, RE))))) (f_X10_readsSeen F M LM x1) R M β n p 1 := by
  have h0 := kC hs
  have h1 := kR hs
  have h5 := kMv hs
  obtain ⟨M1, g1, g2, g3⟩ := g_goesOn (F := F) (LM := LM) (by omega) hM hp h31 h32 (by omega)
  rw [if_pos (Or.inl rfl)] at g2
  have w1 : M1 0 35 = -1 := by rw [g3.2 35 (by omega)]; exact h35
  have hM1 := TpM_f hM g3
  have rd1 : ∀ j, j < 226 → M1 2 j = nI (τ j) := fun j hj => by rw [g3.1 2 (by decide)]; exact hd j hj (Or.inl rfl)
  have m177 : M 2 (177 : Int32).toNatClampNeg = nI (τ 177) := hd 177 (by omega) (Or.inl rfl)
  have m177' : M1 2 (177 : Int32).toNatClampNeg = nI (τ 177) := rd1 177 (by omega)
  have m56' : M1 2 (56 : Int32).toNatClampNeg = nI (τ 56) := rd1 56 (by omega)
  have ito : (178 : Int32) + 4 * nI (τ 177) = nI (178 + 4 * τ 177) := by
    have e : (4 : Int32) * nI (τ 177) = nI (4 * τ 177) := nI_mul' 4 _
    rw [e]; exact nI_add 178 _
  have rf : f_X10_readsSeen F M LM x1 = (f_X10_needsNumber F M1 LM 0 (nI (τ 56))).bind (fun z52 => sT1 F LM (nI (178 + 4 * τ 177)) z52.2 z52.1) := by
    unfold f_X10_readsSeen
    rw [ck177, m177, if_neg (show ¬ nI (τ 177) = (12 : Int32) from fun z => by have := (nI_eq (b := 12) (by omega) (by omega)).mp z; omega), g1, Option.bind_some, ck177, ck56, m177', m56', ito]
    rfl
  have cf : ∀ R' : Mem, f_X6_readSeen_75 F R' DR T 0 = some (0, R', DR) := fun R' => by
    unfold f_X6_readSeen_75
    rw [if_pos (rfl : (0 : Int32) = 0)]
    exact cb_0
  have nx : ∀ {f : Nat} {M' : Mem}, f ≤ 400 → M' 0 35 = nI f → ¬ M' 0 35 = -1 := fun h1 h2 => by rw [h2]; exact nm1 (by omega)
  have cbz : ∀ {α : Type} (E : Option α), cb (0 : Int32) E = E := fun E => cb_0
  have cb1' : ∀ {α : Type} (E : Option α), cb (1 : Int32) E = E := fun E => cb_1
  refine LnO_tr ⟨rfl, rfl⟩ (FrL_T g3) (Nat.le_refl p) ?_
  rw [rf]
  unfold f_X6_readSeen
  rw [cMv hC, cR hC, cC hC]
  have er : nI (τ 1) - 1 = zI ((τ 1 : Int) - 1) := nn_sub _ 1
  have ec : nI (τ 0) - 1 = zI ((τ 0 : Int) - 1) := nn_sub _ 1
  rw [er, ec]
  -- t
  have n0 := m_num (F := F) (R := R) (LM := LM) (by omega) hT hM1 hp hR hP g2 w1 (slot := 0) (lo := 0) (hi := (τ 56 : Int)) (by omega) (by omega) (by omega) (by omega)
  rw [zI_c] at n0
  rcases n0 with ⟨R1, M2, t, p1, tl, t2, t3, q1, q2, a1, a2, a3, a4, a5, a6, a7, a8⟩ | ⟨R1, M2, f, f1, a1, a2, a3, a4, a5⟩
  · have a1' : f_X6_readNumber F R T 0 0 (nI (τ 56)) = some (1, R1) := a1
    have a2' : f_X10_needsNumber F M1 LM 0 (nI (τ 56)) = some (nI t, M2) := a2
    have hMa : TpM (mr M2 2 (upd (M2 2) (178 + 4 * τ 177) (nI t))) β n := TpM_L (TpM_f hM1 a8) (FrL_2 _ _)
    have ra : ∀ j, j < 226 → j ≠ 178 + 4 * τ 177 → upd (M2 2) (178 + 4 * τ 177) (nI t) j = nI (τ j) := fun j hj he => by rw [pk_un he, a8.1 2 (by decide)]; exact rd1 j hj
    have n1 := m_num (F := F) (R := R1) (M := mr M2 2 (upd (M2 2) (178 + 4 * τ 177) (nI t))) (LM := LM) (by omega) hT hMa q2 (a4.1.trans hR) a3 (LA_2 a6 _) (by rw [mr_n _ _ (by decide)]; exact a7) (slot := 1) (lo := 0) (hi := (τ 1 : Int) - 1) (by omega) (by omega) (by omega) (by omega)
    have tl1 : sT1 F LM (nI (178 + 4 * τ 177)) M2 (nI t) = (f_X10_needsNumber F (mr M2 2 (upd (M2 2) (178 + 4 * τ 177) (nI t))) LM 0 (zI ((τ 1 : Int) - 1))).bind (fun z73 => sT2 F LM (nI (178 + 4 * τ 177)) z73.2 z73.1) := by
      have u1 : upd (M2 2) (178 + 4 * τ 177) (nI t) (1 : Int32).toNatClampNeg = nI (τ 1) := ra 1 (by omega) (by omega)
      unfold sT1
      rw [ck_n (by omega) (by decide), ck1M, nI_clamp (by omega), u1, er]
    rw [a1', a2', Option.bind_some, Option.bind_some, if_neg (show ¬ (1 : Int32) = 0 by decide), tl1]
    refine LnO_tr a4 (FrL_tr (FrL_T a8) (FrL_2 M2 (upd (M2 2) (178 + 4 * τ 177) (nI t)))) (Nat.le_of_lt q1) ?_
    rcases n1 with ⟨R2, M3, r, p2, rl, r2, r3, q3, q4, b1, b2, b3, b4, b5, b6, b7, b8⟩ | ⟨R2, M3, f, f1, b1, b2, b3, b4, b5⟩
    · have b1' : f_X6_readNumber F R1 T 1 0 (zI ((τ 1 : Int) - 1)) = some (1, R2) := b1
      have b2' : f_X10_needsNumber F (mr M2 2 (upd (M2 2) (178 + 4 * τ 177) (nI t))) LM 0 (zI ((τ 1 : Int) - 1)) = some (nI r, M3) := b2
      have hMb : TpM (mr M3 2 (upd (M3 2) (178 + 4 * τ 177 + 1) (nI r))) β n := TpM_L (TpM_f hMa b8) (FrL_2 _ _)
      have m32 : M3 2 = upd (M2 2) (178 + 4 * τ 177) (nI t) := by rw [b8.1 2 (by decide), mr_s]
      have n2 := m_num (F := F) (R := R2) (M := mr M3 2 (upd (M3 2) (178 + 4 * τ 177 + 1) (nI r))) (LM := LM) (by omega) hT hMb q4 (b4.1.trans (a4.1.trans hR)) b3 (LA_2 b6 _) (by rw [mr_n _ _ (by decide)]; exact b7) (slot := 2) (lo := 0) (hi := (τ 0 : Int) - 1) (by omega) (by omega) (by omega) (by omega)
      have tl2 : sT2 F LM (nI (178 + 4 * τ 177)) M3 (nI r) = (f_X10_needsNumber F (mr M3 2 (upd (M3 2) (178 + 4 * τ 177 + 1) (nI r))) LM 0 (zI ((τ 0 : Int) - 1))).bind (fun z94 => sT3 F LM (nI (178 + 4 * τ 177)) z94.2 z94.1) := by
        have u0 : upd (M3 2) (178 + 4 * τ 177 + 1) (nI r) (0 : Int32).toNatClampNeg = nI (τ 0) := by
          show upd (M3 2) (178 + 4 * τ 177 + 1) (nI r) 0 = nI (τ 0)
          rw [pk_un (by omega), m32]; exact ra 0 (by omega) (by omega)
        unfold sT2
        rw [nI_1, ck_n (by omega) (by decide), ck0, nI_clamp (by omega), u0, ec]
      rw [b1', b2', Option.bind_some, Option.bind_some, if_neg (show ¬ (1 : Int32) = 0 by decide), tl2]
      refine LnO_tr b4 (FrL_tr (FrL_T b8) (FrL_2 M3 (upd (M3 2) (178 + 4 * τ 177 + 1) (nI r)))) (Nat.le_of_lt q3) ?_
      rcases n2 with ⟨R3, M4, c, p3, cl, c2, c3, q5, q6, d1, d2, d3, d4, d5, d6, d7, d8⟩ | ⟨R3, M4, f, f1, d1, d2, d3, d4, d5⟩
      · have d1' : f_X6_readNumber F R2 T 2 0 (zI ((τ 0 : Int) - 1)) = some (1, R3) := d1
        have d2' : f_X10_needsNumber F (mr M3 2 (upd (M3 2) (178 + 4 * τ 177 + 1) (nI r))) LM 0 (zI ((τ 0 : Int) - 1)) = some (nI c, M4) := d2
        have hMc : TpM (mr M4 2 (upd (M4 2) (178 + 4 * τ 177 + 2) (nI c))) β n := TpM_L (TpM_f hMb d8) (FrL_2 _ _)
        have m42 : M4 2 = upd (M3 2) (178 + 4 * τ 177 + 1) (nI r) := by rw [d8.1 2 (by decide), mr_s]
        have n3 := m_num (F := F) (R := R3) (M := mr M4 2 (upd (M4 2) (178 + 4 * τ 177 + 2) (nI c))) (LM := LM) (by omega) hT hMc q6 (d4.1.trans (b4.1.trans (a4.1.trans hR))) d3 (LA_2 d6 _) (by rw [mr_n _ _ (by decide)]; exact d7) (slot := 3) (lo := 0) (hi := 99) (by omega) (by omega) (by omega) (by omega)
        have e2 : nI (178 + 4 * τ 177) + 2 = nI (178 + 4 * τ 177 + 2) := nI_add _ 2
        have tl3 : sT3 F LM (nI (178 + 4 * τ 177)) M4 (nI c) = (f_X10_needsNumber F (mr M4 2 (upd (M4 2) (178 + 4 * τ 177 + 2) (nI c))) LM 0 99).bind (fun z109 => sT4 F LM (nI (178 + 4 * τ 177)) z109.2 z109.1) := by
          unfold sT3
          rw [e2, ck_n (by omega) (by decide), nI_clamp (by omega)]
        rw [d1', d2', Option.bind_some, Option.bind_some, if_neg (show ¬ (1 : Int32) = 0 by decide), tl3]
        refine LnO_tr d4 (FrL_tr (FrL_T d8) (FrL_2 M4 (upd (M4 2) (178 + 4 * τ 177 + 2) (nI c)))) (Nat.le_of_lt q5) ?_
        rcases n3 with ⟨R4, M5, s, p4, sl, s2, s3, q7, q8, e1, e2', e3, e4, e5, e6, e7, e8⟩ | ⟨R4, M5, f, f1, e1, e2', e3, e4, e5⟩
        · have e1' : f_X6_readNumber F R3 T 3 0 99 = some (1, R4) := e1
          have e2'' : f_X10_needsNumber F (mr M4 2 (upd (M4 2) (178 + 4 * τ 177 + 2) (nI c))) LM 0 99 = some (nI s, M5) := e2'
          have m52 : M5 2 = upd (M4 2) (178 + 4 * τ 177 + 2) (nI c) := by rw [e8.1 2 (by decide), mr_s]
          have i3 : nI (178 + 4 * τ 177) + 3 = nI (178 + 4 * τ 177 + 3) := nI_add _ 3
          rw [e1', e2'', Option.bind_some, Option.bind_some, if_neg (show ¬ (1 : Int32) = 0 by decide)]
          unfold sT4
          rw [i3, ck_n (by omega) (by decide), nI_clamp (by omega)]
          refine LnO_tr e4 (FrL_tr (FrL_T e8) (FrL_2 M5 (upd (M5 2) (178 + 4 * τ 177 + 3) (nI s)))) (Nat.le_of_lt q7) ?_
          have cz := m_close (F := F) (R := R4) (M := mr M5 2 (upd (M5 2) (178 + 4 * τ 177 + 3) (nI s))) (LM := LM) (by omega) hT (TpM_L (TpM_f hMc e8) (FrL_2 _ _)) q8 (e4.1.trans (d4.1.trans (b4.1.trans (a4.1.trans hR)))) e3 (LA_2 e6 _) (by rw [mr_n _ _ (by decide)]; exact e7)
          rcases cz with ⟨R5, M6, p5, q9, q10, k1, k2, k3, k4, k5, k6, k7, k8⟩ | ⟨R5, M6, f, f1, k1, k2, k3, k4, k5⟩
          · have r50 : R5 1 0 = nI t ∧ R5 1 1 = nI r ∧ R5 1 2 = nI c ∧ R5 1 3 = nI s := by
              rw [k5, e5, d5, b5, a5]
              refine ⟨?_, ?_, ?_, ?_⟩
              all_goals simp (disch := omega) only [pk_us, pk_un]
            obtain ⟨x0, x1', x2, x3⟩ := r50
            have m62 : M6 2 = upd (upd (upd (upd (M2 2) (178 + 4 * τ 177) (nI t)) (178 + 4 * τ 177 + 1) (nI r)) (178 + 4 * τ 177 + 2) (nI c)) (178 + 4 * τ 177 + 3) (nI s) := by rw [k8.1 2 (by decide), mr_s, m52, m42, m32]
            have z177 : M6 2 177 = nI (τ 177) := by
              rw [m62, pk_un (by omega), pk_un (by omega), pk_un (by omega), pk_un (by omega), a8.1 2 (by decide)]
              exact rd1 177 (by omega)
            have z177' : M6 2 (177 : Int32).toNatClampNeg = nI (τ 177) := z177
            have cS := cSe hC
            have adds : f_X0_addSight F DR (nI t) (nI r) (nI c) (nI s) = some (mr (mr DR 6 (upd (upd (upd (upd (DR 6) (4 * τ 177) (nI t)) (4 * τ 177 + 1) (nI r)) (4 * τ 177 + 2) (nI c)) (4 * τ 177 + 3) (nI s))) 0 (fu (DR 0) 9 (nI (τ 177 + 1)))) := by
              unfold f_X0_addSight
              rw [cS]
              simp (disch := omega) only [l_0, l_1, l_2, l_3, l_4, l_5, l_6, l_7, l_8, l_9, l_10, l_12, l_20, l_24, l_25, l_31, l_32, l_48, l_50, l_56, l_57, l_59, l_97, l_99, l_100, l_120, l_122, l_177, l_178, l_201, l_226, l_255, l_400, l_420, l_600, l_700, l_840, l_1000, l_1300, l_2000, l_1000000, nI_add, mr4, ml4, mr5, ml5, mr6, ml6, mr10, ml10, mr24, ml24, mr201, ml201, mr420, ml420, mr226, ml226, mr2, ml2, nI_clamp, lt_T, lt_F, le_T, le_F, eq_T, eq_F, ck_n, dv_n, cp_n, rem_n, pk_div, at1_same, at1_ne, cb_n, Option.bind_some, if_pos, if_neg, ↓reduceIte, and_self, and_true, true_and, and_false, false_and, not_true_eq_false, not_false_eq_true, nI_sub']
            refine Or.inl ⟨R5, mr (mr DR 6 (upd (upd (upd (upd (DR 6) (4 * τ 177) (nI t)) (4 * τ 177 + 1) (nI r)) (4 * τ 177 + 2) (nI c)) (4 * τ 177 + 3) (nI s))) 0 (fu (DR 0) 9 (nI (τ 177 + 1))), RE, mr M6 2 (upd (M6 2) 177 (nI (τ 177 + 1))), seS τ t r c s, ?_, ?_, k4, ⟨p5, q9, q10, k3, LA_2 k6 _, by rw [mr_n _ _ (by decide)]; exact k7⟩, StC_se hC h0 h5 (fun j hj => se_lo hj) (fun j hj => ?_) (fun q g0 g6 => ?_) ?_ (fun j hj => ?_), okS_se hs (fun j hj => se_lo hj) ?_ (fun k hk => ?_), fun j hj _ => ?_, FrL_tr (FrL_T k8) (FrL_2 _ _), fun z => absurd z (by decide)⟩
            · rw [k1, Option.bind_some, if_neg (show ¬ (1 : Int32) = 0 by decide)]
              unfold f_X6_readSeen_75
              rw [if_neg (show ¬ (1 : Int32) = 0 by decide)]
              show (ck (nI 0) 4 (ck (nI 1) 4 (ck (nI 2) 4 (ck (nI 3) 4 ((f_X0_addSight F DR (R5 1 0) (R5 1 1) (R5 1 2) (R5 1 3)).bind (fun z108 => (cb 1 (some ((1 : Int32), R5, z108))))))))).bind _ = _
              rw [ck_n (by decide) (by decide), ck_n (by decide) (by decide), ck_n (by decide) (by decide), ck_n (by decide) (by decide), x0, x1', x2, x3, adds, Option.bind_some, cb1', Option.bind_some, cb1']
            · rw [k2, Option.bind_some, ck177, ck177, z177', nI_1]
              rfl
            · rw [mr_s, fu_n _ _ hj]
            · rw [mr_n _ _ g0, mr_n _ _ g6]
            · rw [mr_s, fu_s, se_177]
            · rw [se_177] at hj
              rw [mr_n _ _ (by decide), mr_s]
              rcases (by omega : j = 4 * τ 177 ∨ j = 4 * τ 177 + 1 ∨ j = 4 * τ 177 + 2 ∨ j = 4 * τ 177 + 3 ∨ j < 4 * τ 177) with rfl | rfl | rfl | rfl | q1
              · simp (disch := omega) only [pk_us, pk_un]
                rw [se_0]
              · simp (disch := omega) only [pk_us, pk_un]
                rw [← Nat.add_assoc, se_1]
              · simp (disch := omega) only [pk_us, pk_un]
                rw [← Nat.add_assoc, se_2]
              · simp (disch := omega) only [pk_us, pk_un]
                rw [← Nat.add_assoc, se_3]
              · simp (disch := omega) only [pk_us, pk_un]
                rw [se_b q1]
                exact cSi hC q1
            · rw [se_177]; omega
            · rw [se_177] at hk
              by_cases q : k = τ 177
              · subst q
                rw [se_0, se_1, se_2, se_3]
                omega
              · have z := hs.2.2.2.2.2.2.2.2.2 k (by omega)
                have b0 := se_b (σ := τ) (t := t) (r := r) (c := c) (n := s) (j := 4 * k) (by omega)
                have b1 := se_b (σ := τ) (t := t) (r := r) (c := c) (n := s) (j := 4 * k + 1) (by omega)
                have b2 := se_b (σ := τ) (t := t) (r := r) (c := c) (n := s) (j := 4 * k + 2) (by omega)
                have b3 := se_b (σ := τ) (t := t) (r := r) (c := c) (n := s) (j := 4 * k + 3) (by omega)
                simp only [← Nat.add_assoc] at b1 b2 b3
                rw [b0, b1, b2, b3]
                exact z
            · rw [mr_s, m62]
              rcases (by omega : j = 177 ∨ j = 178 + 4 * τ 177 ∨ j = 178 + 4 * τ 177 + 1 ∨ j = 178 + 4 * τ 177 + 2 ∨ j = 178 + 4 * τ 177 + 3 ∨ (j ≠ 177 ∧ j ≠ 178 + 4 * τ 177 ∧ j ≠ 178 + 4 * τ 177 + 1 ∧ j ≠ 178 + 4 * τ 177 + 2 ∧ j ≠ 178 + 4 * τ 177 + 3)) with rfl | rfl | rfl | rfl | rfl | ⟨u0, u1, u2, u3, u4⟩
              · rw [pk_us, se_177]
              · simp (disch := omega) only [pk_us, pk_un]
                rw [se_0]
              · simp (disch := omega) only [pk_us, pk_un]
                rw [se_1]
              · simp (disch := omega) only [pk_us, pk_un]
                rw [se_2]
              · simp (disch := omega) only [pk_us, pk_un]
                rw [se_3]
              · simp (disch := omega) only [pk_us, pk_un]
                rw [a8.1 2 (by decide), rd1 j hj]
                unfold seS
                rw [if_neg u0, if_neg u1, if_neg u2, if_neg u3, if_neg u4]
          · refine Or.inr ⟨R5, DR, RE, mr M6 2 (upd (M6 2) 177 (M6 2 177 + 1)), f, ?_, ?_, f1, k3, by rw [mr_n _ _ (by decide)]; exact k4, FrL_tr (FrL_W k5) (FrL_2 _ _)⟩
            · rw [k1, Option.bind_some, if_pos (rfl : (0 : Int32) = 0), cf, Option.bind_some, cbz]
            · rw [k2, Option.bind_some, ck177, ck177]
              rfl
        · have e1' : f_X6_readNumber F R3 T 3 0 99 = some (0, R4) := e1
          have e2'' : f_X10_needsNumber F (mr M4 2 (upd (M4 2) (178 + 4 * τ 177 + 2) (nI c))) LM 0 99 = some (0, M5) := e2'
          obtain ⟨M', u1, u2, u3⟩ := sT4_x (F := F) (LM := LM) (to := 178 + 4 * τ 177) (by omega) (nx f1 e4) 0
          refine Or.inr ⟨R4, DR, RE, M', f, ?_, ?_, f1, e3, u2.trans e4, FrL_tr (FrL_W e5) u3⟩
          · rw [e1', Option.bind_some, if_pos (rfl : (0 : Int32) = 0), cf, Option.bind_some, cbz]
          · rw [e2'', Option.bind_some]; exact u1
      · have d1' : f_X6_readNumber F R2 T 2 0 (zI ((τ 0 : Int) - 1)) = some (0, R3) := d1
        have d2' : f_X10_needsNumber F (mr M3 2 (upd (M3 2) (178 + 4 * τ 177 + 1) (nI r))) LM 0 (zI ((τ 0 : Int) - 1)) = some (0, M4) := d2
        obtain ⟨M', u1, u2, u3⟩ := sT3_x (F := F) (LM := LM) (to := 178 + 4 * τ 177) (by omega) (nx f1 d4) 0
        refine Or.inr ⟨R3, DR, RE, M', f, ?_, ?_, f1, d3, u2.trans d4, FrL_tr (FrL_W d5) u3⟩
        · rw [d1', Option.bind_some, if_pos (rfl : (0 : Int32) = 0), cf, Option.bind_some, cbz]
        · rw [d2', Option.bind_some]; exact u1
    · have b1' : f_X6_readNumber F R1 T 1 0 (zI ((τ 1 : Int) - 1)) = some (0, R2) := b1
      have b2' : f_X10_needsNumber F (mr M2 2 (upd (M2 2) (178 + 4 * τ 177) (nI t))) LM 0 (zI ((τ 1 : Int) - 1)) = some (0, M3) := b2
      obtain ⟨M', u1, u2, u3⟩ := sT2_x (F := F) (LM := LM) (to := 178 + 4 * τ 177) (by omega) (nx f1 b4) 0
      refine Or.inr ⟨R2, DR, RE, M', f, ?_, ?_, f1, b3, u2.trans b4, FrL_tr (FrL_W b5) u3⟩
      · rw [b1', Option.bind_some, if_pos (rfl : (0 : Int32) = 0), cf, Option.bind_some, cbz]
      · rw [b2', Option.bind_some]; exact u1
  · have a1' : f_X6_readNumber F R T 0 0 (nI (τ 56)) = some (0, R1) := a1
    have a2' : f_X10_needsNumber F M1 LM 0 (nI (τ 56)) = some (0, M2) := a2
    obtain ⟨M', u1, u2, u3⟩ := sT1_x (F := F) (LM := LM) (to := 178 + 4 * τ 177) (by omega) (nx f1 a4) 0
    refine Or.inr ⟨R1, DR, RE, M', f, ?_, ?_, f1, a3, u2.trans a4, FrL_tr (FrL_W a5) u3⟩
    · rw [a1', Option.bind_some, if_pos (rfl : (0 : Int32) = 0), cf, Option.bind_some, cbz]
    · rw [a2', Option.bind_some]; exact u1
