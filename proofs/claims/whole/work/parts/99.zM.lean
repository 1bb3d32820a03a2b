/-! PURE LAYER: text: lines -/
theorem stC_le (w : Nat) : stC w ≤ 3 := by
  unfold stC
  repeat' split
  all_goals omega
theorem LnO_cb {X : Option (Int32 × Mem × Mem × Mem)} {Y : Option Mem} {R M : Mem} {β : Nat → Nat} {n p b : Nat} (h : LnO X Y R M β n p b) : LnO (X.bind (fun z78 => (cb z78.1 (some (z78.1, z78.2.1, z78.2.2.1, z78.2.2.2))))) Y R M β n p b := by
  rcases h with ⟨R', DR', RE', M', τ', a1, a2⟩ | ⟨R', DR', RE', M', f, a1, a2⟩
  · refine Or.inl ⟨R', DR', RE', M', τ', ?_, a2⟩
    rw [a1, Option.bind_some]
    exact cb_1
  · refine Or.inr ⟨R', DR', RE', M', f, ?_, a2⟩
    rw [a1, Option.bind_some]
    exact cb_0
theorem LnO_3 {X : Option (Int32 × Mem × Mem)} {Y : Option Mem} {R M RE : Mem} {β : Nat → Nat} {n p : Nat} (h : (∃ R' DR' M' τ', X = some (1, R', DR') ∧ Y = some M' ∧ FrR R R' ∧ Nxt R' M' β n p ∧ StC DR' τ' ∧ okS τ' ∧ anewS τ' = τ' ∧ Rd M' τ' 0 ∧ FrL M M') ∨ (∃ R' DR' M' f, X = some (0, R', DR') ∧ Y = some M' ∧ f ≤ 400 ∧ R' 0 8 = nI f ∧ M' 0 35 = nI f ∧ FrL M M')) : LnO (X.bind (fun z => (cb z.1 (some (z.1, z.2.1, z.2.2, RE))))) Y R M β n p 0 := by
  rcases h with ⟨R', DR', M', τ', a1, a2, a3, a4, a5, a6, a7, a8, a9⟩ | ⟨R', DR', M', f, a1, a2⟩
  · refine Or.inl ⟨R', DR', RE, M', τ', ?_, a2, a3, a4, a5, a6, a8, a9, fun _ => a7⟩
    rw [a1, Option.bind_some]
    exact cb_1
  · refine Or.inr ⟨R', DR', RE, M', f, ?_, a2⟩
    rw [a1, Option.bind_some]
    exact cb_0
noncomputable def cSw (F : Nat) (R DR RE T : Mem) (g w : Int32) : Option (Int32 × Mem × Mem × Mem) := (if w = 5 then (f_X6_readColumn F R DR T).bind (fun z61 => (cb z61.1 (some (z61.1, z61.2.1, z61.2.2, RE)))) else if w = 6 then (f_X6_readRow F R DR T).bind (fun z66 => (cb z66.1 (some (z66.1, z66.2.1, z66.2.2, RE)))) else if w = 7 then (f_X6_readSeen F R DR T).bind (fun z71 => (cb z71.1 (some (z71.1, z71.2.1, z71.2.2, RE)))) else (f_X6_readMove F R DR RE T g w).bind (fun z78 => (cb z78.1 (some (z78.1, z78.2.1, z78.2.2.1, z78.2.2.2)))))
noncomputable def rSw (F : Nat) (M : Mem) (LM : MemL) (g x : Int32) : Option Mem := (if x = 0 then f_X10_readsColumn F M LM g else if x = 1 then f_X10_readsRow F M LM g else if x = 7 then f_X10_readsSeen F M LM g else f_X10_readsMove F M LM g (x - 2))
theorem m_body {F : Nat} (hF : 10000 ≤ F) {R0 R T DR RE M : Mem} {LM : MemL} {β : Nat → Nat} {n p st g w : Nat} {τ : Sg} (hw : w < 8) (hT : Tb T 1 β n) (hM : TpM M β n) (hp : p ≤ n) (hR : R 0 5 = nI n) (hP : R 0 6 = nI p) (h31 : M 0 31 = nI p) (h32 : M 0 32 = nI 1) (h35 : M 0 35 = -1) (hC : StC DR τ) (hs : okS τ) (hd : Rd M τ (if 2 ≤ stC w then 1 else 0)) (hg : g ≤ 400) (hst : R0 0 7 = nI st) (hsw : st ≤ stC w) (ha : st < 2 → anewS τ = τ) :
    (f_X6_mayStand F R0 DR (nI w) = some 0 ∧ ∃ M', rSw F M LM (nI g) (nI (wiL.getD w 0)) = some M' ∧ M' 0 35 = nI g ∧ FrL M M') ∨ (f_X6_mayStand F R0 DR (nI w) = some 1 ∧ LnO (cSw F R DR RE T (nI g) (nI w)) (rSw F M LM (nI g) (nI (wiL.getD w 0))) R M β n p (if 2 ≤ stC w then 1 else 0)) := by
  have h0 := kC hs
  have h1 := kR hs
  have h6 := kSe hs
  have nw : ¬ nI w = (-1 : Int32) := nm1 (by omega)
  have sl : stC w ≤ 3 := stC_le w
  have le : nI st ≤ nI (stC w) := nI_le hsw (by omega)
  have bad : ∀ x : Int32, f_X10_fails F M LM x = some (mr M 0 (fu (M 0) 35 x)) := fun x => g_fails h35 x
  have ms : f_X6_mayStand F R0 DR (nI w) = (if nI w = 5 then (if 6 ≤ (DR 0 6) then (some 0) else (some 1)) else if nI w = 6 then (f_X0_mayAddRow F DR).bind (fun z70 => (cb z70 (some z70))) else if nI w = 7 then (if 12 ≤ (DR 0 9) then (some 0) else (some 1)) else (some 1)) := by
    unfold f_X6_mayStand
    rw [if_neg nw, stg_C F hw, Option.bind_some, hst, if_pos le]
  rw [ms]
  rcases (by omega : w = 5 ∨ w = 6 ∨ w = 7 ∨ w ≤ 4) with rfl | rfl | rfl | w4
  · have eC : cSw F R DR RE T (nI g) (nI 5) = (f_X6_readColumn F R DR T).bind (fun z61 => (cb z61.1 (some (z61.1, z61.2.1, z61.2.2, RE)))) := by
      unfold cSw
      rw [if_pos (show nI 5 = (5 : Int32) from rfl)]
    have eR : rSw F M LM (nI g) (nI (wiL.getD 5 0)) = f_X10_readsColumn F M LM (nI g) := by
      unfold rSw
      rw [if_pos (show nI (wiL.getD 5 0) = (0 : Int32) from rfl)]
    have m20 : M 2 0 = nI (τ 0) := hd 0 (by omega) (by omega)
    rw [if_pos (show nI 5 = (5 : Int32) from rfl), cC hC, eC, eR]
    by_cases q : τ 0 < 6
    · rw [if_neg (show ¬ (6 : Int32) ≤ nI (τ 0) from nI_ge (b := 6) q (by decide))]
      exact Or.inr ⟨rfl, LnO_3 (m_tcol hF hT hM hp hR hP h31 h32 h35 hC hs (ha (by have : stC 5 = 0 := rfl; omega)) hd q (nI g))⟩
    · rw [if_pos (show (6 : Int32) ≤ nI (τ 0) from nI_le (a := 6) (by omega) (by omega))]
      refine Or.inl ⟨rfl, mr M 0 (fu (M 0) 35 (nI g)), ?_, by rw [mr_s, fu_s], FrL_W (FrW_35 M _)⟩
      unfold f_X10_readsColumn
      rw [ck0, m0c, m20, if_pos (show nI (τ 0) = (6 : Int32) by rw [show τ 0 = 6 by omega]; rfl), bad, Option.bind_some]
  · have eC : cSw F R DR RE T (nI g) (nI 6) = (f_X6_readRow F R DR T).bind (fun z66 => (cb z66.1 (some (z66.1, z66.2.1, z66.2.2, RE)))) := by
      unfold cSw
      rw [if_neg (show ¬ nI 6 = (5 : Int32) by decide), if_pos (show nI 6 = (6 : Int32) from rfl)]
    have eR : rSw F M LM (nI g) (nI (wiL.getD 6 0)) = f_X10_readsRow F M LM (nI g) := by
      unfold rSw
      rw [if_neg (show ¬ nI (wiL.getD 6 0) = (0 : Int32) by decide), if_pos (show nI (wiL.getD 6 0) = (1 : Int32) from rfl)]
    have m20 : M 2 0 = nI (τ 0) := hd 0 (by omega) (by omega)
    have m21 : M 2 (1 : Int32).toNatClampNeg = nI (τ 1) := hd 1 (by omega) (by omega)
    have bd : f_X10_readsRow_19 F M LM (nI g) = some (mr M 0 (fu (M 0) 35 (nI g))) := by
      unfold f_X10_readsRow_19
      rw [bad, Option.bind_some]
    rw [if_neg (show ¬ nI 6 = (5 : Int32) by decide), if_pos (show nI 6 = (6 : Int32) from rfl), eC, eR]
    unfold f_X0_mayAddRow
    rw [cC hC, cR hC]
    by_cases q : 0 < τ 0
    · rw [if_neg (show ¬ nI (τ 0) ≤ (0 : Int32) from nI_ge (a := 0) q (by omega))]
      by_cases q4 : τ 1 < 4
      · rw [if_neg (show ¬ (4 : Int32) ≤ nI (τ 1) from nI_ge (b := 4) q4 (by decide)), Option.bind_some]
        exact Or.inr ⟨cb_1, LnO_3 (m_trow hF hT hM hp hR hP h31 h32 h35 hC hs (ha (by have : stC 6 = 1 := rfl; omega)) hd q q4 (nI g))⟩
      · rw [if_pos (show (4 : Int32) ≤ nI (τ 1) from nI_le (a := 4) (by omega) (by omega)), Option.bind_some]
        refine Or.inl ⟨cb_0, mr M 0 (fu (M 0) 35 (nI g)), ?_, by rw [mr_s, fu_s], FrL_W (FrW_35 M _)⟩
        unfold f_X10_readsRow
        rw [ck1M, m21, if_pos (show nI (τ 1) = (4 : Int32) by rw [show τ 1 = 4 by omega]; rfl), bd]
    · rw [if_pos (show nI (τ 0) ≤ (0 : Int32) from nI_le (b := 0) (by omega) (by decide)), Option.bind_some]
      refine Or.inl ⟨cb_0, mr M 0 (fu (M 0) 35 (nI g)), ?_, by rw [mr_s, fu_s], FrL_W (FrW_35 M _)⟩
      have z1 : τ 1 = 0 := hs.2.2.1 (by omega)
      unfold f_X10_readsRow
      rw [ck1M, m21, if_neg (show ¬ nI (τ 1) = (4 : Int32) by rw [z1]; decide), ck0, m0c, m20, if_pos (show nI (τ 0) = (0 : Int32) by rw [show τ 0 = 0 by omega]; rfl), bd]
  · have eC : cSw F R DR RE T (nI g) (nI 7) = (f_X6_readSeen F R DR T).bind (fun z71 => (cb z71.1 (some (z71.1, z71.2.1, z71.2.2, RE)))) := by
      unfold cSw
      rw [if_neg (show ¬ nI 7 = (5 : Int32) by decide), if_neg (show ¬ nI 7 = (6 : Int32) by decide), if_pos (show nI 7 = (7 : Int32) from rfl)]
    have eR : rSw F M LM (nI g) (nI (wiL.getD 7 0)) = f_X10_readsSeen F M LM (nI g) := by
      unfold rSw
      rw [if_neg (show ¬ nI (wiL.getD 7 0) = (0 : Int32) by decide), if_neg (show ¬ nI (wiL.getD 7 0) = (1 : Int32) by decide), if_pos (show nI (wiL.getD 7 0) = (7 : Int32) from rfl)]
    have m177 : M 2 (177 : Int32).toNatClampNeg = nI (τ 177) := hd 177 (by omega) (Or.inl rfl)
    rw [if_neg (show ¬ nI 7 = (5 : Int32) by decide), if_neg (show ¬ nI 7 = (6 : Int32) by decide), if_pos (show nI 7 = (7 : Int32) from rfl), cSe hC, eC, eR]
    by_cases q : τ 177 < 12
    · rw [if_neg (show ¬ (12 : Int32) ≤ nI (τ 177) from nI_ge (b := 12) q (by decide))]
      exact Or.inr ⟨rfl, m_tseen hF hT hM hp hR hP h31 h32 h35 hC hs hd q (nI g)⟩
    · rw [if_pos (show (12 : Int32) ≤ nI (τ 177) from nI_le (a := 12) (by omega) (by omega))]
      refine Or.inl ⟨rfl, mr M 0 (fu (M 0) 35 (nI g)), ?_, by rw [mr_s, fu_s], FrL_W (FrW_35 M _)⟩
      unfold f_X10_readsSeen
      rw [ck177, m177, if_pos (show nI (τ 177) = (12 : Int32) by rw [show τ 177 = 12 by omega]; rfl), bad, Option.bind_some]
  · have n5 : ¬ nI w = (5 : Int32) := fun z => by have := (nI_eq (b := 5) (by omega) (by omega)).mp z; omega
    have n6 : ¬ nI w = (6 : Int32) := fun z => by have := (nI_eq (b := 6) (by omega) (by omega)).mp z; omega
    have n7 : ¬ nI w = (7 : Int32) := fun z => by have := (nI_eq (b := 7) (by omega) (by omega)).mp z; omega
    have wi : wiL.getD w 0 = w + 2 := by
      rcases (by omega : w = 0 ∨ w = 1 ∨ w = 2 ∨ w = 3 ∨ w = 4) with rfl | rfl | rfl | rfl | rfl <;> rfl
    have s2 : stC w = 2 := by
      rcases (by omega : w = 0 ∨ w = 1 ∨ w = 2 ∨ w = 3 ∨ w = 4) with rfl | rfl | rfl | rfl | rfl <;> rfl
    have eC : cSw F R DR RE T (nI g) (nI w) = (f_X6_readMove F R DR RE T (nI g) (nI w)).bind (fun z78 => (cb z78.1 (some (z78.1, z78.2.1, z78.2.2.1, z78.2.2.2)))) := by
      unfold cSw
      rw [if_neg n5, if_neg n6, if_neg n7]
    have eR : rSw F M LM (nI g) (nI (wiL.getD w 0)) = f_X10_readsMove F M LM (nI g) (nI w) := by
      have e2 : nI (w + 2) - 2 = nI w := nI_sub' (a := w + 2) (b := 2) (by omega)
      unfold rSw
      rw [wi, if_neg (show ¬ nI (w + 2) = (0 : Int32) from nI_ne0 (by omega) (by omega)), if_neg (show ¬ nI (w + 2) = (1 : Int32) from fun z => by have := (nI_eq (b := 1) (by omega) (by omega)).mp z; omega), if_neg (show ¬ nI (w + 2) = (7 : Int32) from fun z => by have := (nI_eq (b := 7) (by omega) (by omega)).mp z; omega), e2]
    rw [s2] at hd
    rw [if_neg n5, if_neg n6, if_neg n7, eC, eR, s2]
    exact Or.inr ⟨rfl, LnO_cb (m_tmove hF hT hM hp hR hP h31 h32 h35 hC hs hd hg w4)⟩
theorem tok_pos {β : Nat → Nat} {n s g : Nat} (h : g < n) : tokK β n s g ≠ 0 := by
  unfold tokK
  rw [if_pos h]
  repeat' split
  all_goals omega
/-- the beginning is laid as the cloth lies -/
theorem g_be62 {F : Nat} (hF : 1000 ≤ F) {M : Mem} {LM : MemL} (x2 x3 : Int32) (k : Mem → Option Mem) : ∃ M', f_X10_readsAll_62 F LM x2 x3 k F M 0 = k M' ∧ Fl M M' 2 32 56 (fun j => M 2 (j - 24)) := by
  have := fill_up (f_X10_readsAll_62 F LM x2 x3 k) k 2 0 32 0 24 (fun j => M 2 (j - 24)) M (fun n i N _ hi hN => by
    rw [f_X10_readsAll_62]
    have e : N 2 (8 + i) = M 2 (8 + i) := Fl_o hN (by omega)
    have e2 : 32 + i - 24 = 8 + i := by omega
    simp only [Nat.zero_add]
    simp (disch := omega) only [l_0, l_1, l_2, l_3, l_4, l_5, l_6, l_7, l_8, l_9, l_10, l_12, l_20, l_24, l_25, l_31, l_32, l_48, l_50, l_56, l_57, l_59, l_97, l_99, l_100, l_120, l_122, l_177, l_178, l_201, l_226, l_255, l_400, l_420, l_600, l_700, l_840, l_1000, l_1300, l_2000, l_1000000, nI_add, mr4, ml4, mr5, ml5, mr6, ml6, mr10, ml10, mr24, ml24, mr201, ml201, mr420, ml420, mr226, ml226, mr2, ml2, nI_clamp, lt_T, lt_F, le_T, le_F, eq_T, eq_F, ck_n, dv_n, cp_n, rem_n, pk_div, at1_same, at1_ne, cb_n, Option.bind_some, if_pos, if_neg, ↓reduceIte, and_self, and_true, true_and, and_false, false_and, not_true_eq_false, not_false_eq_true, nI_sub', e, e2]) (fun n N hN => by
    rw [f_X10_readsAll_62]
    simp (disch := omega) only [l_0, l_1, l_2, l_3, l_4, l_5, l_6, l_7, l_8, l_9, l_10, l_12, l_20, l_24, l_25, l_31, l_32, l_48, l_50, l_56, l_57, l_59, l_97, l_99, l_100, l_120, l_122, l_177, l_178, l_201, l_226, l_255, l_400, l_420, l_600, l_700, l_840, l_1000, l_1300, l_2000, l_1000000, nI_add, mr4, ml4, mr5, ml5, mr6, ml6, mr10, ml10, mr24, ml24, mr201, ml201, mr420, ml420, mr226, ml226, mr2, ml2, nI_clamp, lt_T, lt_F, le_T, le_F, eq_T, eq_F, ck_n, dv_n, cp_n, rem_n, pk_div, at1_same, at1_ne, cb_n, Option.bind_some, if_pos, if_neg, ↓reduceIte, and_self, and_true, true_and, and_false, false_and, not_true_eq_false, not_false_eq_true, nI_sub']) 24 0 F M (by omega) (by omega) (by omega) (Fl_0 M 2 _ _)
  exact this
theorem g_be157 {F : Nat} (hF : 1000 ≤ F) {M : Mem} {LM : MemL} (k : Mem → Option Mem) : ∃ M', f_X10_readsAll_157 F LM k F M 0 = k M' ∧ Fl M M' 2 32 56 (fun j => M 2 (j - 24)) := by
  have := fill_up (f_X10_readsAll_157 F LM k) k 2 0 32 0 24 (fun j => M 2 (j - 24)) M (fun n i N _ hi hN => by
    rw [f_X10_readsAll_157]
    have e : N 2 (8 + i) = M 2 (8 + i) := Fl_o hN (by omega)
    have e2 : 32 + i - 24 = 8 + i := by omega
    simp only [Nat.zero_add]
    simp (disch := omega) only [l_0, l_1, l_2, l_3, l_4, l_5, l_6, l_7, l_8, l_9, l_10, l_12, l_20, l_24, l_25, l_31, l_32, l_48, l_50, l_56, l_57, l_59, l_97, l_99, l_100, l_120, l_122, l_177, l_178, l_201, l_226, l_255, l_400, l_420, l_600, l_700, l_840, l_1000, l_1300, l_2000, l_1000000, nI_add, mr4, ml4, mr5, ml5, mr6, ml6, mr10, ml10, mr24, ml24, mr201, ml201, mr420, ml420, mr226, ml226, mr2, ml2, nI_clamp, lt_T, lt_F, le_T, le_F, eq_T, eq_F, ck_n, dv_n, cp_n, rem_n, pk_div, at1_same, at1_ne, cb_n, Option.bind_some, if_pos, if_neg, ↓reduceIte, and_self, and_true, true_and, and_false, false_and, not_true_eq_false, not_false_eq_true, nI_sub', e, e2]) (fun n N hN => by
    rw [f_X10_readsAll_157]
    simp (disch := omega) only [l_0, l_1, l_2, l_3, l_4, l_5, l_6, l_7, l_8, l_9, l_10, l_12, l_20, l_24, l_25, l_31, l_32, l_48, l_50, l_56, l_57, l_59, l_97, l_99, l_100, l_120, l_122, l_177, l_178, l_201, l_226, l_255, l_400, l_420, l_600, l_700, l_840, l_1000, l_1300, l_2000, l_1000000, nI_add, mr4, ml4, mr5, ml5, mr6, ml6, mr10, ml10, mr24, ml24, mr201, ml201, mr420, ml420, mr226, ml226, mr2, ml2, nI_clamp, lt_T, lt_F, le_T, le_F, eq_T, eq_F, ck_n, dv_n, cp_n, rem_n, pk_div, at1_same, at1_ne, cb_n, Option.bind_some, if_pos, if_neg, ↓reduceIte, and_self, and_true, true_and, and_false, false_and, not_true_eq_false, not_false_eq_true, nI_sub']) 24 0 F M (by omega) (by omega) (by omega) (Fl_0 M 2 _ _)
  exact this
theorem FrL_be {M M' : Mem} {w : Nat → Int32} (h : Fl M M' 2 32 56 w) : FrL M M' := ⟨fun j hj => by rw [Fl_c h (by decide)], Fl_c h (by decide), Fl_c h (by decide), Fl_c h (by decide), by rw [Fl_c h (by decide)], by rw [Fl_c h (by decide)]⟩
theorem Rd_be {M M' : Mem} {τ : Sg} (hd : Rd M τ 0) (ha : anewS τ = τ) (h : Fl M M' 2 32 56 (fun j => M 2 (j - 24))) : Rd M' τ 1 := fun j hj _ => by
  by_cases g : 32 ≤ j ∧ j < 56
  · obtain ⟨i, rfl⟩ : ∃ i, j = 32 + i := ⟨j - 32, by omega⟩
    rw [Fl_i h g.1 g.2]
    show M 2 (32 + i - 24) = _
    have e : 32 + i - 24 = 8 + i := by omega
    have z := an_be τ (j := i) (by omega)
    rw [ha] at z
    rw [e, z]
    exact hd _ (by omega) (by omega)
  · rw [Fl_o h (by omega)]
    exact hd j hj (by omega)
theorem m_line {F : Nat} (hF : 10000 ≤ F) {R T DR RE M : Mem} {LM : MemL} {β : Nat → Nat} {n st g : Nat} {τ : Sg} (hT : Tb T 1 β n) (hM : TpM M β n) (hW : Wd M) (hg : g < n) (hR : R 0 5 = nI n) (hP : R 0 6 = nI g) (hst : R 0 7 = nI st) (st3 : st ≤ 3) (hL : LAg M β n 0 g) (h35 : M 0 35 = -1) (hC : StC DR τ) (hs : okS τ) (hd : Rd M τ (if 2 ≤ st then 1 else 0)) (ha : st < 2 → anewS τ = τ) :
    (∃ R' DR' RE' M' τ' st', f_X6_readLine F R DR RE T = some (1, R', DR', RE') ∧ (∀ m k40 k150, f_X10_readsAll_2 F LM k40 k150 (m + 1) M (nI st) = f_X10_readsAll_2 F LM k40 k150 m M' (nI st')) ∧ R' 0 5 = nI n ∧ R' 0 7 = nI st' ∧ st' ≤ 3 ∧ Nxt R' M' β n g ∧ StC DR' τ' ∧ okS τ' ∧ Rd M' τ' (if 2 ≤ st' then 1 else 0) ∧ FrL M M' ∧ (st' < 2 → anewS τ' = τ')) ∨
    (∃ R' DR' RE' f, f ≤ 400 ∧ f_X6_readLine F R DR RE T = some (0, R', DR', RE') ∧ R' 0 8 = nI f ∧ ((f = g ∧ ∀ m k40 k150, f_X10_readsAll_2 F LM k40 k150 (m + 1) M (nI st) = k40 M (nI g)) ∨ ∃ M' st', (∀ m k40 k150, f_X10_readsAll_2 F LM k40 k150 (m + 1) M (nI st) = f_X10_readsAll_2 F LM k40 k150 m M' (nI st')) ∧ M' 0 35 = nI f ∧ FrL M M' ∧ st' ≤ 3)) := by
  have hn := hM.1
  have l33 := hL.1
  have tp : ¬ M 0 32 = 0 := by
    have t4 := tok_4 β n 0 g
    have tz := tok_pos (β := β) (s := 0) hg
    rw [hL.2.1]
    exact nI_ne0 (by omega) (by omega)
  have cb0' : ∀ {α : Type} (E : Option α), cb (0 : Int32) E = E := fun E => cb_0
  obtain ⟨R1, a1, a2, a3, a4⟩ := m_word (F := F) (LM := LM) (by omega) hT hM hW hg hR hP hL
  have r17 : R1 0 7 = nI st := by rw [a2 7 (by decide)]; exact hst
  have cfail : ∀ w : Int32, f_X6_readWord F R T = some (w, R1) → f_X6_mayStand F R1 DR w = some 0 → f_X6_readLine F R DR RE T = some (0, mr R1 0 (fu (R1 0) 8 (nI g)), DR, RE) := fun w e1 e2 => by
    unfold f_X6_readLine f_X6_failAt
    rw [e1, Option.bind_some, e2, Option.bind_some, if_pos (rfl : (0 : Int32) = 0), Option.bind_some, cb0', hP]
  have e8 : (mr R1 0 (fu (R1 0) 8 (nI g))) 0 8 = nI g := by rw [mr_s, fu_s]
  rcases a4 with ⟨w, hw, b1, b2, b3, b4, b5⟩ | ⟨b1, b2⟩
  · have wi8 := (wj_2 w hw).1
    have nv : ¬ nI (wiL.getD w 0) = (-1 : Int32) := nm1 (by omega)
    have sl : stC w ≤ 3 := stC_le w
    obtain ⟨we1, we2⟩ := wE_b (β := β) (n := n) (p := g) (by omega)
    by_cases so : st ≤ stC w
    · -- what the reference reads on from
      have pre : ∃ M1, (∀ m k40 k150, f_X10_readsAll_2 F LM k40 k150 (m + 1) M (nI st) = f_X10_readsAll_95 F M1 LM (nI g) (nI (wiL.getD w 0)) (f_X10_readsAll_2 F LM k40 k150 m)) ∧ M1 0 = M 0 ∧ FrL M M1 ∧ Rd M1 τ (if 2 ≤ stC w then 1 else 0) := by
        have step : ∀ m k40 k150, f_X10_readsAll_2 F LM k40 k150 (m + 1) M (nI st) = (if 2 ≤ nI st then f_X10_readsAll_95 F M LM (nI g) (nI (wiL.getD w 0)) (f_X10_readsAll_2 F LM k40 k150 m) else (if nI (stC w) < 2 then f_X10_readsAll_95 F M LM (nI g) (nI (wiL.getD w 0)) (f_X10_readsAll_2 F LM k40 k150 m) else f_X10_readsAll_62 F LM (nI g) (nI (wiL.getD w 0)) (fun M_95 => f_X10_readsAll_95 F M_95 LM (nI g) (nI (wiL.getD w 0)) (f_X10_readsAll_2 F LM k40 k150 m)) F M 0)) := fun m k40 k150 => by
          rw [f_X10_readsAll_2, if_pos h35, if_neg tp, b2, Option.bind_some, if_neg nv, stg_M F hw, Option.bind_some, if_pos (nI_le so (by omega)), Option.bind_some, l33]
        by_cases s2 : 2 ≤ st
        · refine ⟨M, fun m k40 k150 => by rw [step, if_pos (show (2 : Int32) ≤ nI st from nI_le (a := 2) s2 (by omega))], rfl, FrL_W ⟨fun _ _ => rfl, fun _ _ => rfl⟩, ?_⟩
          rw [if_pos (by omega)]
          rw [if_pos s2] at hd
          exact hd
        · by_cases w2 : 2 ≤ stC w
          · have key := fun m k40 k150 => g_be62 (F := F) (M := M) (LM := LM) (by omega) (nI g) (nI (wiL.getD w 0)) (fun M_95 => f_X10_readsAll_95 F M_95 LM (nI g) (nI (wiL.getD w 0)) (f_X10_readsAll_2 F LM k40 k150 m))
            obtain ⟨M1, c1, c2⟩ := g_be62 (F := F) (M := M) (LM := LM) (by omega) (nI g) (nI (wiL.getD w 0)) (fun M_95 => some M_95)
            have uq : ∀ M2, Fl M M2 2 32 56 (fun j => M 2 (j - 24)) → M2 = M1 := fun M2 h2 => by
              funext q
              by_cases e : q = 2
              · subst e
                funext j
                rw [h2.2 j, c2.2 j]
              · rw [h2.1 q e, c2.1 q e]
            refine ⟨M1, fun m k40 k150 => ?_, Fl_c c2 (by decide), FrL_be c2, ?_⟩
            · obtain ⟨M2, d1, d2⟩ := key m k40 k150
              rw [step, if_neg (show ¬ (2 : Int32) ≤ nI st from nI_ge (b := 2) (by omega) (by decide)), if_neg (show ¬ nI (stC w) < (2 : Int32) from nI_nlt (b := 2) w2 (by omega)), d1, uq M2 d2]
            · rw [if_pos w2]
              rw [if_neg s2] at hd
              exact Rd_be hd (ha (by omega)) c2
          · refine ⟨M, fun m k40 k150 => by rw [step, if_neg (show ¬ (2 : Int32) ≤ nI st from nI_ge (b := 2) (by omega) (by decide)), if_pos (show nI (stC w) < (2 : Int32) from nI_lt (b := 2) (by omega) (by decide))], rfl, FrL_W ⟨fun _ _ => rfl, fun _ _ => rfl⟩, ?_⟩
            rw [if_neg w2]
            rw [if_neg s2] at hd
            exact hd
      obtain ⟨M1, s1, s2, s3, s4⟩ := pre
      have sw : ∀ k2 : Mem → Int32 → Option Mem, f_X10_readsAll_95 F M1 LM (nI g) (nI (wiL.getD w 0)) k2 = (rSw F M1 LM (nI g) (nI (wiL.getD w 0))).bind (fun z => k2 z (nI (stC w))) := fun k2 => by
        unfold f_X10_readsAll_95 rSw
        rw [stg_M F hw, Option.bind_some]
        by_cases e0 : nI (wiL.getD w 0) = (0 : Int32)
        · rw [if_pos e0, if_pos e0]
        · rw [if_neg e0, if_neg e0]
          by_cases e1 : nI (wiL.getD w 0) = (1 : Int32)
          · rw [if_pos e1, if_pos e1]
          · rw [if_neg e1, if_neg e1]
            by_cases e7 : nI (wiL.getD w 0) = (7 : Int32)
            · rw [if_pos e7, if_pos e7]
            · rw [if_neg e7, if_neg e7]
      have R7 : ∀ x : Int32, (mr R1 0 (fu (R1 0) 7 x)) 0 5 = nI n ∧ (mr R1 0 (fu (R1 0) 7 x)) 0 6 = nI (wE β n g) ∧ (mr R1 0 (fu (R1 0) 7 x)) 0 7 = x := fun x => ⟨by rw [mr_s, fu_n _ _ (by decide), a2 5 (by decide)]; exact hR, by rw [mr_s, fu_n _ _ (by decide)]; exact a1, by rw [mr_s, fu_s]⟩
      obtain ⟨u5, u6, u7⟩ := R7 (nI (stC w))
      rcases m_body (F := F) (R0 := R1) (R := mr R1 0 (fu (R1 0) 7 (nI (stC w)))) (T := T) (DR := DR) (RE := RE) (M := M1) (LM := LM) (p := wE β n g) (st := st) (g := g) hF hw hT (TpM_L hM s3) we2 u5 u6 (by rw [s2]; exact b4) (by rw [s2]; exact b3) (by rw [s2]; exact h35) hC hs s4 (by omega) r17 so ha with ⟨c1, M2, c2, c3, c4⟩ | ⟨c1, c2⟩
      · refine Or.inr ⟨mr R1 0 (fu (R1 0) 8 (nI g)), DR, RE, g, by omega, cfail (nI w) b1 c1, e8, Or.inr ⟨M2, stC w, fun m k40 k150 => ?_, c3, FrL_tr s3 c4, sl⟩⟩
        rw [s1, sw, c2, Option.bind_some]
      · have cls : f_X6_readLine F R DR RE T = cSw F (mr R1 0 (fu (R1 0) 7 (nI (stC w)))) DR RE T (nI g) (nI w) := by
          unfold f_X6_readLine cSw
          rw [b1, Option.bind_some, c1, Option.bind_some, if_neg (show ¬ (1 : Int32) = 0 by decide), stg_C F hw, Option.bind_some, hP]
        rw [cls]
        rcases c2 with ⟨R', DR', RE', M', τ', d1, d2, d3, ⟨p', d4, d5, d6⟩, d7, d8, d9, d10, d11⟩ | ⟨R', DR', RE', M', f, d1, d2, d3, d4, d5, d6⟩
        · refine Or.inl ⟨R', DR', RE', M', τ', stC w, d1, fun m k40 k150 => ?_, d3.1.trans u5, d3.2.trans u7, sl, ⟨p', by omega, d5, d6⟩, d7, d8, d9, FrL_tr s3 d10, fun z => d11 (if_neg (by omega))⟩
          rw [s1, sw, d2, Option.bind_some]
        · refine Or.inr ⟨R', DR', RE', f, d3, d1, d4, Or.inr ⟨M', stC w, fun m k40 k150 => ?_, d5, FrL_tr s3 d6, sl⟩⟩
          rw [s1, sw, d2, Option.bind_some]
    · -- too late for such a line
      have ms : f_X6_mayStand F R1 DR (nI w) = some 0 := by
        unfold f_X6_mayStand
        rw [if_neg (show ¬ nI w = (-1 : Int32) from nm1 (by omega)), stg_C F hw, Option.bind_some, r17, if_neg (nI_ge (by omega) (by omega))]
      refine Or.inr ⟨mr R1 0 (fu (R1 0) 8 (nI g)), DR, RE, g, by omega, cfail (nI w) b1 ms, e8, Or.inl ⟨rfl, fun m k40 k150 => ?_⟩⟩
      rw [f_X10_readsAll_2, if_pos h35, if_neg tp, b2, Option.bind_some, if_neg nv, stg_M F hw, Option.bind_some, if_neg (nI_ge (by omega) (by omega)), l33]
  · have ms : f_X6_mayStand F R1 DR (-1) = some 0 := by
      unfold f_X6_mayStand
      rw [if_pos (rfl : (-1 : Int32) = -1)]
    refine Or.inr ⟨mr R1 0 (fu (R1 0) 8 (nI g)), DR, RE, g, by omega, cfail (-1) b1 ms, e8, Or.inl ⟨rfl, fun m k40 k150 => ?_⟩⟩
    rw [f_X10_readsAll_2, if_pos h35, if_neg tp, b2, Option.bind_some, if_pos (rfl : (-1 : Int32) = -1), l33]
