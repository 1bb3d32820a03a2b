/-! PURE LAYER: text -/
theorem Wd_L {M M' : Mem} (h : Wd M) (g : FrL M M') : Wd M' := fun j hj => by rw [g.2.2.2.1]; exact h j hj
theorem g_ra150 {F : Nat} (hF : 1000 ≤ F) {M : Mem} {LM : MemL} {st : Nat} (h3 : st ≤ 3) : ∃ M', f_X10_readsAll_150 F M LM (nI st) = some M' ∧ M' 0 = M 0 ∧ FrL M M' ∧ ∀ τ, Rd M τ (if 2 ≤ st then 1 else 0) → (st < 2 → anewS τ = τ) → Rd M' τ 1 := by
  unfold f_X10_readsAll_150
  by_cases g : 2 ≤ st
  · rw [if_pos (show (2 : Int32) ≤ nI st from nI_le (a := 2) g (by omega))]
    exact ⟨M, rfl, rfl, FrL_W ⟨fun _ _ => rfl, fun _ _ => rfl⟩, fun τ h _ => by rw [if_pos g] at h; exact h⟩
  · rw [if_neg (show ¬ (2 : Int32) ≤ nI st from nI_ge (b := 2) (by omega) (by decide))]
    obtain ⟨M', a1, a2⟩ := g_be157 (F := F) (M := M) (LM := LM) hF (fun M_187 => (some M_187))
    exact ⟨M', a1, Fl_c a2 (by decide), FrL_be a2, fun τ h ha => by rw [if_neg g] at h; exact Rd_be h (ha (by omega)) a2⟩
theorem m_all {F : Nat} (hF : 10000 ≤ F) {T : Mem} {LM : MemL} {β : Nat → Nat} {n : Nat} (hT : Tb T 1 β n) : ∀ (e g i m m' st : Nat) (R DR RE M : Mem) (τ : Sg), n ≤ g + e → g ≤ n → i ≤ g → e < m → e + 1 < m' → TpM M β n → Wd M → R 0 5 = nI n → R 0 6 = nI g → R 0 7 = nI st → st ≤ 3 → LAg M β n 0 g → M 0 35 = -1 → StC DR τ → okS τ → Rd M τ (if 2 ≤ st then 1 else 0) → (st < 2 → anewS τ = τ) → ∃ R' DR' RE' M', FrL M M' ∧
    ((∃ τ', f_X6_readAll_39 F T (fun R_64 DR_64 RE_64 => (some ((R_64 0 8), R_64, DR_64, RE_64))) (fun R_79 DR_79 RE_79 => (some ((-1), R_79, DR_79, RE_79))) m R DR RE (nI i) = some (-1, R', DR', RE') ∧ f_X10_readsAll_2 F LM (fun M_40 x2_40 => f_X10_readsAll_40 F M_40 LM x2_40) (fun M_150 x1_150 => f_X10_readsAll_150 F M_150 LM x1_150) m' M (nI st) = some M' ∧ M' 0 35 = -1 ∧ StC DR' τ' ∧ okS τ' ∧ Rd M' τ' 1) ∨
    (∃ f, f ≤ 400 ∧ f_X6_readAll_39 F T (fun R_64 DR_64 RE_64 => (some ((R_64 0 8), R_64, DR_64, RE_64))) (fun R_79 DR_79 RE_79 => (some ((-1), R_79, DR_79, RE_79))) m R DR RE (nI i) = some (nI f, R', DR', RE') ∧ f_X10_readsAll_2 F LM (fun M_40 x2_40 => f_X10_readsAll_40 F M_40 LM x2_40) (fun M_150 x1_150 => f_X10_readsAll_150 F M_150 LM x1_150) m' M (nI st) = some M' ∧ M' 0 35 = nI f))
  | e, g, i, 0, m', st, R, DR, RE, M, τ, _, _, _, h, _, _, _, _, _, _, _, _, _, _, _, _, _ => by omega
  | e, g, i, m + 1, 0, st, R, DR, RE, M, τ, _, _, _, _, h, _, _, _, _, _, _, _, _, _, _, _, _ => by omega
  | e, g, i, m + 1, m' + 1, st, R, DR, RE, M, τ, he, hg, hi, hm, hm', hM, hW, hR, hP, hst, st3, hL, h35, hC, hs, hd, ha => by
    have hn := hM.1
    by_cases q : g < n
    · have n4 : ¬ (400 : Int32) ≤ nI i := nI_ge (b := 400) (by omega) (by decide)
      have np : ¬ R 0 5 ≤ R 0 6 := by rw [hR, hP]; exact nI_ge q (by omega)
      have cl : f_X6_readAll_39 F T (fun R_64 DR_64 RE_64 => (some ((R_64 0 8), R_64, DR_64, RE_64))) (fun R_79 DR_79 RE_79 => (some ((-1), R_79, DR_79, RE_79))) (m + 1) R DR RE (nI i) = (f_X6_readLine F R DR RE T).bind (fun z58 => (if z58.1 = 0 then (some ((z58.2.1 0 8), z58.2.1, z58.2.2.1, z58.2.2.2)) else (f_X6_skipBlanks F z58.2.1 T).bind (fun z70 => f_X6_readAll_39 F T (fun R_64 DR_64 RE_64 => (some ((R_64 0 8), R_64, DR_64, RE_64))) (fun R_79 DR_79 RE_79 => (some ((-1), R_79, DR_79, RE_79))) m z70 z58.2.2.1 z58.2.2.2 (nI (i + 1))))) := by
        rw [f_X6_readAll_39, if_neg n4, if_neg np, nI_1]
      rcases m_line (F := F) (R := R) (DR := DR) (RE := RE) (LM := LM) hF hT hM hW q hR hP hst st3 hL h35 hC hs hd ha with ⟨R1, DR1, RE1, M1, τ1, st1, a1, a2, a3, a4, a5, ⟨p', a6, a7, a8, a9, a10⟩, a11, a12, a13, a14, a15⟩ | ⟨R1, DR1, RE1, f, f1, a1, a2, a3⟩
      · obtain ⟨b1, b2⟩ := bE_b (β := β) a7
        have gl : glN β n 0 p' = 0 := if_neg (fun z => absurd z.1 (by decide))
        have L1 : LAg M1 β n 0 (bE β n p') := by
          have := a9
          unfold LA at this
          rw [gl] at this
          exact this
        obtain ⟨R', DR', RE', M', c1, c2⟩ := m_all (F := F) (LM := LM) hF hT (e - 1) (bE β n p') (i + 1) m m' st1 (mr R1 0 (fu (R1 0) 6 (nI (bE β n p')))) DR1 RE1 M1 τ1 (by omega) b2 (by omega) (by omega) (by omega) (TpM_L hM a14) (Wd_L hW a14) (by rw [mr_s, fu_n _ _ (by decide)]; exact a3) (by rw [mr_s, fu_s]) (by rw [mr_s, fu_n _ _ (by decide)]; exact a4) a5 L1 a10 a11 a12 a13 a15
        refine ⟨R', DR', RE', M', FrL_tr a14 c1, ?_⟩
        rw [cl, a1, Option.bind_some, if_neg (show ¬ (1 : Int32) = 0 by decide), h_skipBlanks (F := F) (by omega) hn a7 a3 a8 hT, Option.bind_some, a2]
        exact c2
      · rw [cl, a1, Option.bind_some, if_pos (rfl : (0 : Int32) = 0)]
        dsimp only
        rw [a2]
        rcases a3 with ⟨rfl, a3⟩ | ⟨M1, st1, b1, b2, b3, b4⟩
        · refine ⟨R1, DR1, RE1, mr M 0 (fu (M 0) 35 (nI f)), FrL_W (FrW_35 M _), Or.inr ⟨f, f1, rfl, ?_, by rw [mr_s, fu_s]⟩⟩
          rw [a3]
          unfold f_X10_readsAll_40
          rw [g_fails h35, Option.bind_some]
        · obtain ⟨M2, c1, c2, c3, -⟩ := g_ra150 (F := F) (M := M1) (LM := LM) (by omega) b4
          obtain ⟨m2, rfl⟩ : ∃ k, m' = k + 1 := ⟨m' - 1, by omega⟩
          refine ⟨R1, DR1, RE1, M2, FrL_tr b3 c3, Or.inr ⟨f, f1, rfl, ?_, by rw [c2]; exact b2⟩⟩
          rw [b1, f_X10_readsAll_2, if_neg (show ¬ M1 0 35 = -1 by rw [b2]; exact nm1 (by omega))]
          exact c1
    · have eg : g = n := by omega
      have t0 : M 0 32 = 0 := by
        rw [hL.2.1]
        unfold tokK
        rw [if_neg q]
        rfl
      obtain ⟨M2, c1, c2, c3, c4⟩ := g_ra150 (F := F) (M := M) (LM := LM) (by omega) st3
      refine ⟨R, DR, RE, M2, c3, Or.inl ⟨τ, ?_, ?_, by rw [c2]; exact h35, hC, hs, c4 τ hd ha⟩⟩
      · rw [f_X6_readAll_39]
        by_cases q4 : (400 : Int32) ≤ nI i
        · rw [if_pos q4]
        · rw [if_neg q4, if_pos (show R 0 5 ≤ R 0 6 by rw [hR, hP]; exact nI_le (by omega) (by omega))]
      · rw [f_X10_readsAll_2, if_pos h35, if_pos t0]
        exact c1
def sg0 : Sg := fun _ => 0
theorem ok_sg0 : okS sg0 := by
  refine ⟨by decide, by decide, fun _ => rfl, fun z => absurd z (by decide), fun j _ z => absurd z (Nat.not_lt_zero _), fun r c _ _ => ⟨Nat.zero_le _, Nat.zero_le _, fun _ => ⟨rfl, rfl⟩⟩, by decide, fun i z => absurd z (Nat.not_lt_zero _), by decide, fun k z => absurd z (Nat.not_lt_zero _)⟩
theorem an_sg0 : anewS sg0 = sg0 := by
  funext j
  unfold anewS sg0
  repeat' split
  all_goals rfl
theorem h_emptyAll {F : Nat} (hF : 1000 ≤ F) (C : Mem) : ∃ C', f_X0_emptyAll F C = some C' ∧ StC C' sg0 := by
  have := fill_up (f_X0_emptyAll_12 F (fun C_31 => (f_X0_makeAnew F C_31).bind (fun z32 => (some z32)))) (fun C_31 => (f_X0_makeAnew F C_31).bind (fun z32 => (some z32))) 3 0 0 0 24 (fun _ => nI 0) (mr C 0 (fu (fu (C 0) 6 0) 7 0)) (fun n i N _ hi hN => by
    rw [f_X0_emptyAll_12]
    simp only [Nat.zero_add]
    simp (disch := omega) only [l_0, l_1, l_2, l_3, l_4, l_5, l_6, l_7, l_8, l_9, l_10, l_12, l_20, l_24, l_25, l_31, l_32, l_48, l_50, l_56, l_57, l_59, l_97, l_99, l_100, l_120, l_122, l_177, l_178, l_201, l_226, l_255, l_400, l_420, l_600, l_700, l_840, l_1000, l_1300, l_2000, l_1000000, nI_add, mr4, ml4, mr5, ml5, mr6, ml6, mr10, ml10, mr24, ml24, mr201, ml201, mr420, ml420, mr226, ml226, mr2, ml2, nI_clamp, lt_T, lt_F, le_T, le_F, eq_T, eq_F, ck_n, dv_n, cp_n, rem_n, pk_div, at1_same, at1_ne, cb_n, Option.bind_some, if_pos, if_neg, ↓reduceIte, and_self, and_true, true_and, and_false, false_and, not_true_eq_false, not_false_eq_true, nI_sub']) (fun n N hN => by
    rw [f_X0_emptyAll_12]
    simp (disch := omega) only [l_0, l_1, l_2, l_3, l_4, l_5, l_6, l_7, l_8, l_9, l_10, l_12, l_20, l_24, l_25, l_31, l_32, l_48, l_50, l_56, l_57, l_59, l_97, l_99, l_100, l_120, l_122, l_177, l_178, l_201, l_226, l_255, l_400, l_420, l_600, l_700, l_840, l_1000, l_1300, l_2000, l_1000000, nI_add, mr4, ml4, mr5, ml5, mr6, ml6, mr10, ml10, mr24, ml24, mr201, ml201, mr420, ml420, mr226, ml226, mr2, ml2, nI_clamp, lt_T, lt_F, le_T, le_F, eq_T, eq_F, ck_n, dv_n, cp_n, rem_n, pk_div, at1_same, at1_ne, cb_n, Option.bind_some, if_pos, if_neg, ↓reduceIte, and_self, and_true, true_and, and_false, false_and, not_true_eq_false, not_false_eq_true, nI_sub']) 24 0 F (mr C 0 (fu (fu (C 0) 6 0) 7 0)) (by omega) (by omega) (by omega) (Fl_0 _ 3 _ _)
  obtain ⟨C1, a1, a2⟩ := this
  have sb : StB C1 sg0 := ⟨by rw [Fl_c a2 (by decide), mr_s, fu_n _ _ (by decide), fu_s]; rfl, by rw [Fl_c a2 (by decide), mr_s, fu_s]; rfl, fun j hj => absurd hj (Nat.not_lt_zero _), fun j hj => by rw [Fl_i a2 (by omega) (by omega)]; rfl⟩
  obtain ⟨C', b1, b2⟩ := h_makeAnew sb (by decide) F
  rw [an_sg0] at b2
  refine ⟨C', ?_, b2⟩
  have a1' : f_X0_emptyAll F C = (f_X0_makeAnew F C1).bind (fun z32 => (some z32)) := a1
  rw [a1', b1, Option.bind_some]
theorem g_tx2 {F : Nat} (hF : 1000 ≤ F) (M : Mem) (LM : MemL) (k : Mem → Option (Int32 × Mem)) : ∃ M', f_X10_text_2 F LM k F M 0 = k M' ∧ Fl M M' 2 0 226 (fun _ => nI 0) := by
  have := fill_up (f_X10_text_2 F LM k) k 2 0 0 0 226 (fun _ => nI 0) M (fun n i N _ hi hN => by
    rw [f_X10_text_2]
    simp only [Nat.zero_add]
    simp (disch := omega) only [l_0, l_1, l_2, l_3, l_4, l_5, l_6, l_7, l_8, l_9, l_10, l_12, l_20, l_24, l_25, l_31, l_32, l_48, l_50, l_56, l_57, l_59, l_97, l_99, l_100, l_120, l_122, l_177, l_178, l_201, l_226, l_255, l_400, l_420, l_600, l_700, l_840, l_1000, l_1300, l_2000, l_1000000, nI_add, mr4, ml4, mr5, ml5, mr6, ml6, mr10, ml10, mr24, ml24, mr201, ml201, mr420, ml420, mr226, ml226, mr2, ml2, nI_clamp, lt_T, lt_F, le_T, le_F, eq_T, eq_F, ck_n, dv_n, cp_n, rem_n, pk_div, at1_same, at1_ne, cb_n, Option.bind_some, if_pos, if_neg, ↓reduceIte, and_self, and_true, true_and, and_false, false_and, not_true_eq_false, not_false_eq_true, nI_sub']) (fun n N hN => by
    rw [f_X10_text_2]
    simp (disch := omega) only [l_0, l_1, l_2, l_3, l_4, l_5, l_6, l_7, l_8, l_9, l_10, l_12, l_20, l_24, l_25, l_31, l_32, l_48, l_50, l_56, l_57, l_59, l_97, l_99, l_100, l_120, l_122, l_177, l_178, l_201, l_226, l_255, l_400, l_420, l_600, l_700, l_840, l_1000, l_1300, l_2000, l_1000000, nI_add, mr4, ml4, mr5, ml5, mr6, ml6, mr10, ml10, mr24, ml24, mr201, ml201, mr420, ml420, mr226, ml226, mr2, ml2, nI_clamp, lt_T, lt_F, le_T, le_F, eq_T, eq_F, ck_n, dv_n, cp_n, rem_n, pk_div, at1_same, at1_ne, cb_n, Option.bind_some, if_pos, if_neg, ↓reduceIte, and_self, and_true, true_and, and_false, false_and, not_true_eq_false, not_false_eq_true, nI_sub']) 226 0 F M (by omega) (by omega) (by omega) (Fl_0 M 2 _ _)
  exact this
theorem g_tx68 {F : Nat} (hF : 1000 ≤ F) (M : Mem) (LM : MemL) (k : Mem → Option (Int32 × Mem)) : ∃ M', f_X10_text_68 F LM k F M 0 = k M' ∧ Fl M M' 1 0 226 (fun j => M 2 j) := by
  have := fill_up (f_X10_text_68 F LM k) k 1 0 0 0 226 (fun j => M 2 j) M (fun n i N _ hi hN => by
    rw [f_X10_text_68]
    have e : N 2 = M 2 := Fl_c hN (by decide)
    simp only [Nat.zero_add]
    simp (disch := omega) only [l_0, l_1, l_2, l_3, l_4, l_5, l_6, l_7, l_8, l_9, l_10, l_12, l_20, l_24, l_25, l_31, l_32, l_48, l_50, l_56, l_57, l_59, l_97, l_99, l_100, l_120, l_122, l_177, l_178, l_201, l_226, l_255, l_400, l_420, l_600, l_700, l_840, l_1000, l_1300, l_2000, l_1000000, nI_add, mr4, ml4, mr5, ml5, mr6, ml6, mr10, ml10, mr24, ml24, mr201, ml201, mr420, ml420, mr226, ml226, mr2, ml2, nI_clamp, lt_T, lt_F, le_T, le_F, eq_T, eq_F, ck_n, dv_n, cp_n, rem_n, pk_div, at1_same, at1_ne, cb_n, Option.bind_some, if_pos, if_neg, ↓reduceIte, and_self, and_true, true_and, and_false, false_and, not_true_eq_false, not_false_eq_true, nI_sub', e]) (fun n N hN => by
    rw [f_X10_text_68]
    simp (disch := omega) only [l_0, l_1, l_2, l_3, l_4, l_5, l_6, l_7, l_8, l_9, l_10, l_12, l_20, l_24, l_25, l_31, l_32, l_48, l_50, l_56, l_57, l_59, l_97, l_99, l_100, l_120, l_122, l_177, l_178, l_201, l_226, l_255, l_400, l_420, l_600, l_700, l_840, l_1000, l_1300, l_2000, l_1000000, nI_add, mr4, ml4, mr5, ml5, mr6, ml6, mr10, ml10, mr24, ml24, mr201, ml201, mr420, ml420, mr226, ml226, mr2, ml2, nI_clamp, lt_T, lt_F, le_T, le_F, eq_T, eq_F, ck_n, dv_n, cp_n, rem_n, pk_div, at1_same, at1_ne, cb_n, Option.bind_some, if_pos, if_neg, ↓reduceIte, and_self, and_true, true_and, and_false, false_and, not_true_eq_false, not_false_eq_true, nI_sub']) 226 0 F M (by omega) (by omega) (by omega) (Fl_0 M 1 _ _)
  exact this
theorem m_text {M T C H R DR RE Y N S X0 : Mem} {LM : MemL} {Ks : Nat → Mem} {σ : Sg} {a : Nat} {h : Nat → Sg} (ra : Ra M T C H Ks σ a h) {F : Nat} (hF : 10000 ≤ F) : ∃ v T' C' H' R' DR' RE' Y' N' S' M', f_X9_text F X0 T C H R DR RE Y N S = some (v, T', C', H', R', DR', RE', Y', N', S') ∧ f_X10_text F M LM = some (v, M') ∧ ((C' = C ∧ H' = H ∧ Y' = Y ∧ N' = N ∧ S' = S ∧ Ra M' T' C H Ks σ a h) ∨ ∃ σ' a' h', Ra M' T' C' H' Ks σ' a' h' ∧ Fg Y' N' S') := by
  obtain ⟨hC, hM, hs, hHm, hHc, hok, hTp, hW⟩ := ra
  obtain ⟨n, hn, hn1, hn2, hb⟩ := hTp
  obtain ⟨β, hβ⟩ : ∃ β : Nat → Nat, β = fun j => (M 21 j).toNatClampNeg := ⟨_, rfl⟩
  have bb : ∀ j, j < n → M 21 j = nI (β j) ∧ T 1 j = nI (β j) ∧ β j < 256 := fun j hj => by
    obtain ⟨b, b1, b2, b3⟩ := hb j hj
    have e : β j = b := by rw [hβ]; show (M 21 j).toNatClampNeg = b; rw [b2, nI_clamp (by omega)]
    rw [e]
    exact ⟨b2, b3, b1⟩
  have hTb : Tb T 1 β n := fun j hj => ⟨(bb j hj).2.1, (bb j hj).2.2⟩
  have hTM : TpM M β n := ⟨hn, hn1, fun j hj => ⟨(bb j hj).1, (bb j hj).2.2⟩⟩
  -- the class begins
  obtain ⟨DR0, d1, d2⟩ := h_emptyAll (F := F) (by omega) DR
  obtain ⟨R0, hR0⟩ : ∃ R0, R0 = mr R 0 (fu (fu (fu (fu (R 0) 5 (T 0 1)) 6 0) 7 0) 8 (-1)) := ⟨_, rfl⟩
  have r5 : R0 0 5 = nI n := by rw [hR0, mr_s, fu_n _ _ (by decide), fu_n _ _ (by decide), fu_n _ _ (by decide), fu_s]; exact hn2
  have r6 : R0 0 6 = nI 0 := by rw [hR0, mr_s, fu_n _ _ (by decide), fu_n _ _ (by decide), fu_s]; rfl
  have r7 : R0 0 7 = nI 0 := by rw [hR0, mr_s, fu_n _ _ (by decide), fu_s]; rfl
  obtain ⟨b1, b2⟩ := bE_b (β := β) (n := n) (p := 0) (Nat.zero_le _)
  have cl : f_X6_readAll F R DR RE T = f_X6_readAll_39 F T (fun R_64 DR_64 RE_64 => (some ((R_64 0 8), R_64, DR_64, RE_64))) (fun R_79 DR_79 RE_79 => (some ((-1), R_79, DR_79, RE_79))) F (mr R0 0 (fu (R0 0) 6 (nI (bE β n 0)))) DR0 RE (nI 0) := by
    unfold f_X6_readAll
    rw [d1, Option.bind_some, ← hR0, h_skipBlanks (F := F) (by omega) hn (Nat.zero_le _) r5 r6 hTb, Option.bind_some]
    rfl
  -- the reference begins
  obtain ⟨M1, c1, c2⟩ := g_tx2 (F := F) (by omega) M LM (fun M_22 => (f_X10_goesOn F (mr M_22 0 (fu (fu (fu (M_22 0) 31 0) 32 3) 35 (-1))) LM).bind (fun z38 => (f_X10_readsAll F z38 LM).bind (fun z42 => (if (z42 0 35) = (-1) then f_X10_text_68 F LM (fun M_93 => ck 1 226 ((some (((M_93 1) (1 : Int32).toNatClampNeg), (mr M_93 0 (fu (M_93 0) 4 0)))))) F (mr z42 0 (fu (z42 0) 29 0)) 0 else (some (((-4) - (z42 0 35)), (mr z42 0 (fu (z42 0) 29 0))))))))
  obtain ⟨M2, hM2⟩ : ∃ M2, M2 = mr M1 0 (fu (fu (fu (M1 0) 31 0) 32 3) 35 (-1)) := ⟨_, rfl⟩
  have fr1 : FrL M M1 := ⟨fun j hj => by rw [Fl_c c2 (by decide)], Fl_c c2 (by decide), Fl_c c2 (by decide), Fl_c c2 (by decide), by rw [Fl_c c2 (by decide)], by rw [Fl_c c2 (by decide)]⟩
  have fr2 : FrL M1 M2 := by
    rw [hM2]
    exact ⟨fun j hj => by rw [mr_n _ _ (by decide)], mr_n _ _ (by decide), mr_n _ _ (by decide), mr_n _ _ (by decide), by rw [mr_s, fu_n _ _ (by decide), fu_n _ _ (by decide), fu_n _ _ (by decide)], by rw [mr_s, fu_n _ _ (by decide), fu_n _ _ (by decide), fu_n _ _ (by decide)]⟩
  have hTM2 : TpM M2 β n := TpM_L (TpM_L hTM fr1) fr2
  obtain ⟨M3, e1, e2, e3⟩ := g_goesOn (F := F) (LM := LM) (M := M2) (k := 3) (p := 0) (by omega) hTM2 (Nat.zero_le _) (by rw [hM2, mr_s, fu_n _ _ (by decide), fu_n _ _ (by decide), fu_s]; rfl) (by rw [hM2, mr_s, fu_n _ _ (by decide), fu_s]; rfl) (by omega)
  rw [if_neg (by omega)] at e2
  have L3 : LAg M3 β n 0 (bE β n 0) := by
    have gl : glN β n 0 0 = 0 := if_neg (fun z => absurd z.1 (by decide))
    have := e2
    unfold LA at this
    rw [gl] at this
    exact this
  have fr3 : FrL M M3 := FrL_tr fr1 (FrL_tr fr2 (FrL_T e3))
  have w3 : M3 0 35 = -1 := by rw [e3.2 35 (by omega), hM2, mr_s, fu_s]
  have rd3 : Rd M3 sg0 (if 2 ≤ 0 then 1 else 0) := fun j hj _ => by
    rw [e3.1 2 (by decide), hM2, mr_n _ _ (by decide), Fl_i c2 (by omega) (by omega)]
    rfl
  obtain ⟨R', DR', RE', M4, f4, key⟩ := m_all (F := F) (T := T) (LM := LM) hF hTb n (bE β n 0) 0 F F 0 (mr R0 0 (fu (R0 0) 6 (nI (bE β n 0)))) DR0 RE M3 sg0 (by omega) b2 (by omega) (by omega) (by omega) (TpM_L hTM fr3) (Wd_L hW fr3) (by rw [mr_s, fu_n _ _ (by decide)]; exact r5) (by rw [mr_s, fu_s]) (by rw [mr_s, fu_n _ _ (by decide)]; exact r7) (by omega) L3 w3 d2 ok_sg0 rd3 (fun _ => an_sg0)
  have fr4 : FrL M M4 := FrL_tr fr3 f4
  have rf : f_X10_text F M LM = (f_X10_readsAll F M3 LM).bind (fun z42 => (if (z42 0 35) = (-1) then f_X10_text_68 F LM (fun M_93 => ck 1 226 ((some (((M_93 1) (1 : Int32).toNatClampNeg), (mr M_93 0 (fu (M_93 0) 4 0)))))) F (mr z42 0 (fu (z42 0) 29 0)) 0 else (some (((-4) - (z42 0 35)), (mr z42 0 (fu (z42 0) 29 0)))))) := by
    unfold f_X10_text
    rw [c1, ← hM2, e1, Option.bind_some]
  have ra3 : f_X10_readsAll F M3 LM = f_X10_readsAll_2 F LM (fun M_40 x2_40 => f_X10_readsAll_40 F M_40 LM x2_40) (fun M_150 x1_150 => f_X10_readsAll_150 F M_150 LM x1_150) F M3 (nI 0) := rfl
  have tpe : ∀ M' : Mem, M' 0 29 = nI 0 → Tp M' (mr T 0 (fu (T 0) 1 0)) := fun M' z => ⟨0, by omega, z, by rw [mr_s, fu_s]; rfl, fun j hj => absurd hj (Nat.not_lt_zero _)⟩
  unfold f_X9_text
  rw [cl, rf, ra3]
  rcases key with ⟨τ', k1, k2, k3, k4, k5, k6⟩ | ⟨f, f1, k1, k2, k3⟩
  · obtain ⟨C', g1, g2⟩ := h_copyFrom (C := C) k4 k5 F
    obtain ⟨M5, m1, m2⟩ := g_tx68 (F := F) (by omega) (mr M4 0 (fu (M4 0) 29 0)) LM (fun M_93 => ck 1 226 ((some (((M_93 1) (1 : Int32).toNatClampNeg), (mr M_93 0 (fu (M_93 0) 4 0))))))
    have s5 : ∀ j, j < 226 → M5 1 j = nI (τ' j) := fun j hj => by
      rw [Fl_i m2 (by omega) hj]
      show (mr M4 0 (fu (M4 0) 29 0)) 2 j = _
      rw [mr_n _ _ (by decide)]
      exact k6 j hj (Or.inl rfl)
    have m50 : M5 0 = fu (M4 0) 29 0 := by rw [Fl_c m2 (by decide), mr_s]
    have v5 : M5 1 (1 : Int32).toNatClampNeg = nI (τ' 1) := s5 1 (by omega)
    have ck1p : ∀ E : Option (Int32 × Mem), ck 1 226 E = E := fun E => ck_n (i := 1) (by decide) (by decide)
    obtain ⟨hh2, p, hp, hh1, -⟩ := hHc
    refine ⟨nI (τ' 1), mr T 0 (fu (T 0) 1 0), C', mr H 0 (fu (H 0) 2 0), R', DR', RE', mr Y 0 (fu (Y 0) 12 0), mr N 0 (fu (fu (N 0) 12 0) 13 0), mr S 0 (fu (S 0) 2 (-2)), mr M5 0 (fu (M5 0) 4 0), ?_, ?_, Or.inr ⟨τ', 0, h, ⟨g2, fun j hj => by rw [mr_n _ _ (by decide)]; exact s5 j hj, k5, ⟨by omega, by rw [mr_s, fu_s]; rfl, fun i hi => absurd hi (Nat.not_lt_zero _)⟩, ⟨by rw [mr_s, fu_s]; rfl, p, hp, by rw [mr_s, fu_n _ _ (by decide)]; exact hh1, fun i hi => absurd hi (Nat.not_lt_zero _)⟩, fun i hi => absurd hi (Nat.not_lt_zero _), tpe _ (by rw [mr_s, fu_n _ _ (by decide), m50, fu_s]; rfl), fun j hj => by rw [mr_n _ _ (by decide), Fl_c m2 (by decide), mr_n _ _ (by decide)]; exact Wd_L hW fr4 j hj⟩, ?_, ?_, ?_, ?_⟩⟩
    · rw [k1, Option.bind_some, if_pos (rfl : (-1 : Int32) = -1), g1, Option.bind_some]
      unfold f_X9_forgetAnswers
      rw [Option.bind_some, cR g2]
    · rw [k2, Option.bind_some, if_pos k3, m1, ck1p, v5]
    · rw [mr_s, fu_s]; rfl
    · rw [mr_s, fu_n _ _ (by decide), fu_s]; rfl
    · rw [mr_s, fu_s]; rfl
    · rw [mr_s, fu_s]; rfl
  · have nf : ¬ nI f = (-1 : Int32) := nm1 (by omega)
    refine ⟨(-4) - nI f, mr T 0 (fu (T 0) 1 0), C, H, R', DR', RE', Y, N, S, mr M4 0 (fu (M4 0) 29 0), ?_, ?_, Or.inl ⟨rfl, rfl, rfl, rfl, rfl, hC, fun j hj => ?_, hs, ⟨hHm.1, ?_, fun i hi j hj => ?_⟩, hHc, hok, tpe _ (by rw [mr_s, fu_s]; rfl), fun j hj => ?_⟩⟩
    · rw [k1, Option.bind_some, if_neg nf]
    · rw [k2, Option.bind_some, if_neg (show ¬ M4 0 35 = -1 by rw [k3]; exact nf), k3]
    · rw [mr_n _ _ (by decide), fr4.1 j hj]; exact hM j hj
    · rw [mr_s, fu_n _ _ (by decide), fr4.2.2.2.2.1]; exact hHm.2.1
    · rw [mr_n _ _ (by decide), fr4.2.1]; exact hHm.2.2 i hi j hj
    · rw [mr_n _ _ (by decide)]; exact Wd_L hW fr4 j hj
