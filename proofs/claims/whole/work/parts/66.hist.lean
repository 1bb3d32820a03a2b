/-! PURE LAYER: what was before; an act begins, an act is undone -/
theorem h_copyFrom {C C2 : Mem} {σ : Sg} (h : StC C2 σ) (hs : okS σ) (F : Nat) : ∃ C', f_X0_copyFrom F C C2 = some C' ∧ StC C' σ := by
  have h0 := kC hs
  have h5 := kMv hs
  have h6 := kSe hs
  unfold f_X0_copyFrom
  rw [cMv h, cSe h]
  simp (disch := omega) only [l_0, l_1, l_2, l_3, l_4, l_5, l_6, l_7, l_8, l_9, l_10, l_12, l_20, l_24, l_25, l_31, l_32, l_48, l_50, l_56, l_57, l_59, l_97, l_99, l_100, l_120, l_122, l_177, l_178, l_201, l_226, l_255, l_400, l_420, l_600, l_700, l_840, l_1000, l_1300, l_2000, l_1000000, nI_add, mr4, ml4, mr5, ml5, mr6, ml6, mr10, ml10, mr24, ml24, mr201, ml201, mr420, ml420, mr226, ml226, mr2, ml2, nI_clamp, lt_T, lt_F, le_T, le_F, eq_T, eq_F, ck_n, dv_n, cp_n, rem_n, pk_div, at1_same, at1_ne, cb_n, Option.bind_some, if_pos, if_neg, ↓reduceIte, and_self, and_true, true_and, and_false, false_and, not_true_eq_false, not_false_eq_true, nI_sub']
  refine ⟨_, rfl, ?_, ?_, ?_, ?_, fun j hj => ?_, fun j hj => ?_, fun j hj => ?_, fun j hj => ?_⟩
  · rw [mr_s, fu_n _ _ (by decide), fu_n _ _ (by decide), fu_n _ _ (by decide), fu_s]; exact cC h
  · rw [mr_s, fu_n _ _ (by decide), fu_n _ _ (by decide), fu_s]; exact cR h
  · rw [mr_s, fu_n _ _ (by decide), fu_s]
  · rw [mr_s, fu_s]
  · simp (disch := omega) only [at1_same, at1_ne]
    rw [cpy_at, cpy_at, if_pos (by omega), if_pos (by omega), Nat.sub_zero, Nat.zero_add]
    exact ⟨cRt h hj, cWo h hj⟩
  · simp (disch := omega) only [at1_same, at1_ne]
    rw [cpy_at, cpy_at, if_pos (by omega), if_pos (by omega), Nat.sub_zero, Nat.zero_add]
    exact ⟨cCe h hj, cBe h hj⟩
  · simp (disch := omega) only [at1_same, at1_ne]
    rw [cpy_at, if_pos (by omega), Nat.sub_zero, Nat.zero_add]
    exact cLo h hj
  · simp (disch := omega) only [at1_same, at1_ne]
    rw [cpy_at, if_pos (by omega), Nat.sub_zero, Nat.zero_add]
    exact cSi h hj
theorem h_keepU {H C : Mem} {Ks : Nat → Mem} {p a : Nat} (hp : p < 12) (e1 : H 0 1 = nI p) (e2 : H 0 2 = nI a) (F : Nat) : f_X3_keep F H C Ks = (f_X0_copyFrom F (Ks p) C).bind (fun z => if nI 12 ≤ nI a then some (mr H 0 (fu (H 0) 1 (nI ((p + 1) % 12))), mk3 Ks p z) else some (mr H 0 (fu (fu (H 0) 1 (nI ((p + 1) % 12))) 2 (nI (a + 1))), mk3 Ks p z)) := by
  unfold f_X3_keep
  rw [e1, e2]
  rcases (by omega : p = 0 ∨ p = 1 ∨ p = 2 ∨ p = 3 ∨ p = 4 ∨ p = 5 ∨ p = 6 ∨ p = 7 ∨ p = 8 ∨ p = 9 ∨ p = 10 ∨ p = 11) with rfl | rfl | rfl | rfl | rfl | rfl | rfl | rfl | rfl | rfl | rfl | rfl
  all_goals simp (disch := omega) only [l_0, l_1, l_2, l_3, l_4, l_5, l_6, l_7, l_8, l_9, l_10, l_12, l_20, l_24, l_25, l_31, l_32, l_48, l_50, l_56, l_57, l_59, l_97, l_99, l_100, l_120, l_122, l_177, l_178, l_201, l_226, l_255, l_400, l_420, l_600, l_700, l_840, l_1000, l_1300, l_2000, l_1000000, nI_add, mr4, ml4, mr5, ml5, mr6, ml6, mr10, ml10, mr24, ml24, mr201, ml201, mr420, ml420, mr226, ml226, mr2, ml2, nI_clamp, lt_T, lt_F, le_T, le_F, eq_T, eq_F, ck_n, dv_n, cp_n, rem_n, pk_div, at1_same, at1_ne, cb_n, Option.bind_some, if_pos, if_neg, ↓reduceIte, and_self, and_true, true_and, and_false, false_and, not_true_eq_false, not_false_eq_true, nI_sub', l_11, nI_mul']
theorem h_backU {H C : Mem} {Ks : Nat → Mem} {p a : Nat} (hp : p < 12) (e1 : H 0 1 = nI p) (e2 : H 0 2 = nI (a + 1)) (F : Nat) : f_X3_giveBack F H C Ks = (f_X0_copyFrom F C (Ks ((p + 11) % 12))).bind (fun z => some (mr H 0 (fu (fu (H 0) 1 (nI ((p + 11) % 12))) 2 (nI a)), z)) := by
  unfold f_X3_giveBack
  have e3 : nI (a + 1) - 1 = nI a := nI_pred a
  have e4 : nI p + 12 - 1 = nI (p + 11) := by rw [l_12, nI_add]; exact nI_pred (p + 11)
  rw [e1, e2, e3, e4]
  rcases (by omega : p = 0 ∨ p = 1 ∨ p = 2 ∨ p = 3 ∨ p = 4 ∨ p = 5 ∨ p = 6 ∨ p = 7 ∨ p = 8 ∨ p = 9 ∨ p = 10 ∨ p = 11) with rfl | rfl | rfl | rfl | rfl | rfl | rfl | rfl | rfl | rfl | rfl | rfl
  all_goals simp (disch := omega) only [l_0, l_1, l_2, l_3, l_4, l_5, l_6, l_7, l_8, l_9, l_10, l_12, l_20, l_24, l_25, l_31, l_32, l_48, l_50, l_56, l_57, l_59, l_97, l_99, l_100, l_120, l_122, l_177, l_178, l_201, l_226, l_255, l_400, l_420, l_600, l_700, l_840, l_1000, l_1300, l_2000, l_1000000, nI_add, mr4, ml4, mr5, ml5, mr6, ml6, mr10, ml10, mr24, ml24, mr201, ml201, mr420, ml420, mr226, ml226, mr2, ml2, nI_clamp, lt_T, lt_F, le_T, le_F, eq_T, eq_F, ck_n, dv_n, cp_n, rem_n, pk_div, at1_same, at1_ne, cb_n, Option.bind_some, if_pos, if_neg, ↓reduceIte, and_self, and_true, true_and, and_false, false_and, not_true_eq_false, not_false_eq_true, nI_sub', l_11, nI_mul']
theorem mk_s (Ks : Nat → Mem) (k : Nat) (m : Mem) : mk3 Ks k m k = m := at1_same Ks k m
theorem mk_n (Ks : Nat → Mem) {k j : Nat} (m : Mem) (h : j ≠ k) : mk3 Ks k m j = Ks j := at1_ne Ks m h
def hpush (σ : Sg) (h : Nat → Sg) : Nat → Sg
  | 0 => σ
  | i + 1 => h i
def dp1 (a : Nat) : Nat := if a = 12 then 12 else a + 1
def Hm (M : Mem) (a : Nat) (h : Nat → Sg) : Prop := a ≤ 12 ∧ M 0 4 = nI a ∧ ∀ i, i < a → ∀ j, j < 226 → M 3 (226 * (a - 1 - i) + j) = nI (h i j)
def Hc (H : Mem) (Ks : Nat → Mem) (a : Nat) (h : Nat → Sg) : Prop := H 0 2 = nI a ∧ ∃ p, p < 12 ∧ H 0 1 = nI p ∧ ∀ i, i < a → StC (Ks ((p + 11 - i) % 12)) (h i)
theorem Hm_q {M M' : Mem} {a : Nat} {h : Nat → Sg} (q : Pq M M') (g : Hm M a h) : Hm M' a h := ⟨g.1, q.2.2.2.1.trans g.2.1, fun i hi j hj => by rw [q.1]; exact g.2.2 i hi j hj⟩
theorem h_keep {H C : Mem} {Ks : Nat → Mem} {a : Nat} {h : Nat → Sg} {σ : Sg} (hH : Hc H Ks a h) (ha : a ≤ 12) (hC : StC C σ) (hs : okS σ) (F : Nat) : ∃ H' Ks', f_X3_keep F H C Ks = some (H', Ks') ∧ Hc H' Ks' (dp1 a) (hpush σ h) := by
  obtain ⟨e2, p, hp, e1, hK⟩ := hH
  obtain ⟨K', k1, k2⟩ := h_copyFrom (C := Ks p) hC hs F
  have hK' : ∀ i, i < dp1 a → StC (mk3 Ks p K' (((p + 1) % 12 + 11 - i) % 12)) (hpush σ h i) := fun i hi => by
    unfold dp1 at hi
    cases i with
    | zero =>
      have e : ((p + 1) % 12 + 11 - 0) % 12 = p := by omega
      rw [e, mk_s]
      exact k2
    | succ i =>
      have hi' : i < a ∧ i < 11 := by
        by_cases q : a = 12
        · rw [if_pos q] at hi; omega
        · rw [if_neg q] at hi; omega
      have e : ((p + 1) % 12 + 11 - (i + 1)) % 12 = (p + 11 - i) % 12 := by omega
      have ne : (p + 11 - i) % 12 ≠ p := by omega
      rw [e, mk_n _ _ ne]
      exact hK i hi'.1
  rw [h_keepU hp e1 e2 F, k1]
  simp only [Option.bind_some]
  by_cases q : a = 12
  · subst q
    rw [if_pos (nI_le (by omega) (by omega))]
    refine ⟨_, _, rfl, ?_, (p + 1) % 12, by omega, ?_, hK'⟩
    · rw [mr_s, fu_n _ _ (by decide)]; exact e2
    · rw [mr_s, fu_s]
  · rw [if_neg (nI_ge (by omega) (by omega))]
    refine ⟨_, _, rfl, ?_, (p + 1) % 12, by omega, ?_, hK'⟩
    · rw [mr_s, fu_s]
      unfold dp1
      rw [if_neg q]
    · rw [mr_s, fu_n _ _ (by decide), fu_s]
/-- s is written behind what was before -/
theorem g_keep54 {LM : MemL} {F : Nat} (hF : 10000 ≤ F) {a : Nat} (ha : a < 12) (k : Mem → Option Mem) (M : Mem) (e4 : M 0 4 = nI a) : ∃ M', f_X10_keeps_54 F LM k F M (nI 0) = k M' ∧ Fl M M' 3 (226 * a) (226 * a + 226) (fun j => M 1 (j - 226 * a)) :=
  fill_up (f_X10_keeps_54 F LM k) k 3 0 (226 * a) 0 226 (fun j => M 1 (j - 226 * a)) M (fun n i N _ hi hN => by
      rw [f_X10_keeps_54]
      have e0 : N 0 4 = nI a := by rw [Fl_c hN (by decide)]; exact e4
      have e1 : N 1 i = M 1 i := by rw [Fl_c hN (by decide)]
      have e2 : 226 * a + i - 226 * a = i := by omega
      rw [e0]
      simp only [Nat.zero_add]
      simp (disch := omega) only [l_0, l_1, l_2, l_3, l_4, l_5, l_6, l_7, l_8, l_9, l_10, l_12, l_20, l_24, l_25, l_31, l_32, l_48, l_50, l_56, l_57, l_59, l_97, l_99, l_100, l_120, l_122, l_177, l_178, l_201, l_226, l_255, l_400, l_420, l_600, l_700, l_840, l_1000, l_1300, l_2000, l_1000000, nI_add, mr4, ml4, mr5, ml5, mr6, ml6, mr10, ml10, mr24, ml24, mr201, ml201, mr420, ml420, mr226, ml226, mr2, ml2, nI_clamp, lt_T, lt_F, le_T, le_F, eq_T, eq_F, ck_n, dv_n, cp_n, rem_n, pk_div, at1_same, at1_ne, cb_n, Option.bind_some, if_pos, if_neg, ↓reduceIte, and_self, and_true, true_and, and_false, false_and, not_true_eq_false, not_false_eq_true, nI_sub', e1, e2]) (fun n N hN => by
      rw [f_X10_keeps_54]
      simp (disch := omega) only [l_0, l_1, l_2, l_3, l_4, l_5, l_6, l_7, l_8, l_9, l_10, l_12, l_20, l_24, l_25, l_31, l_32, l_48, l_50, l_56, l_57, l_59, l_97, l_99, l_100, l_120, l_122, l_177, l_178, l_201, l_226, l_255, l_400, l_420, l_600, l_700, l_840, l_1000, l_1300, l_2000, l_1000000, nI_add, mr4, ml4, mr5, ml5, mr6, ml6, mr10, ml10, mr24, ml24, mr201, ml201, mr420, ml420, mr226, ml226, mr2, ml2, nI_clamp, lt_T, lt_F, le_T, le_F, eq_T, eq_F, ck_n, dv_n, cp_n, rem_n, pk_div, at1_same, at1_ne, cb_n, Option.bind_some, if_pos, if_neg, ↓reduceIte, and_self, and_true, true_and, and_false, false_and, not_true_eq_false, not_false_eq_true, nI_sub']) 226 0 F M (by omega) (by omega) (by omega) (Fl_0 M 3 _ _)
theorem g_keep13 {LM : MemL} {F : Nat} (hF : 10000 ≤ F) (k : Mem → Option Mem) (M : Mem) : ∃ M', f_X10_keeps_13 F LM k F M (nI 226) = k M' ∧ Fl M M' 3 0 2486 (fun j => M 3 (226 + j)) := by
  have := fill_up (f_X10_keeps_13 F LM k) k 3 226 0 0 2486 (fun j => M 3 (226 + j)) M (fun n i N _ hi hN => by
      rw [f_X10_keeps_13]
      have e1 : N 3 (226 + i) = M 3 (226 + i) := Fl_o hN (by omega)
      have e2 : 226 + i - 226 = i := by omega
      have l : (2712 : Int32) = nI 2712 := rfl
      simp only [Nat.zero_add]
      rw [l]
      simp (disch := omega) only [l_0, l_1, l_2, l_3, l_4, l_5, l_6, l_7, l_8, l_9, l_10, l_12, l_20, l_24, l_25, l_31, l_32, l_48, l_50, l_56, l_57, l_59, l_97, l_99, l_100, l_120, l_122, l_177, l_178, l_201, l_226, l_255, l_400, l_420, l_600, l_700, l_840, l_1000, l_1300, l_2000, l_1000000, nI_add, mr4, ml4, mr5, ml5, mr6, ml6, mr10, ml10, mr24, ml24, mr201, ml201, mr420, ml420, mr226, ml226, mr2, ml2, nI_clamp, lt_T, lt_F, le_T, le_F, eq_T, eq_F, ck_n, dv_n, cp_n, rem_n, pk_div, at1_same, at1_ne, cb_n, Option.bind_some, if_pos, if_neg, ↓reduceIte, and_self, and_true, true_and, and_false, false_and, not_true_eq_false, not_false_eq_true, nI_sub', e1, e2]) (fun n N hN => by
      rw [f_X10_keeps_13]
      have l : (2712 : Int32) = nI 2712 := rfl
      rw [l]
      simp (disch := omega) only [l_0, l_1, l_2, l_3, l_4, l_5, l_6, l_7, l_8, l_9, l_10, l_12, l_20, l_24, l_25, l_31, l_32, l_48, l_50, l_56, l_57, l_59, l_97, l_99, l_100, l_120, l_122, l_177, l_178, l_201, l_226, l_255, l_400, l_420, l_600, l_700, l_840, l_1000, l_1300, l_2000, l_1000000, nI_add, mr4, ml4, mr5, ml5, mr6, ml6, mr10, ml10, mr24, ml24, mr201, ml201, mr420, ml420, mr226, ml226, mr2, ml2, nI_clamp, lt_T, lt_F, le_T, le_F, eq_T, eq_F, ck_n, dv_n, cp_n, rem_n, pk_div, at1_same, at1_ne, cb_n, Option.bind_some, if_pos, if_neg, ↓reduceIte, and_self, and_true, true_and, and_false, false_and, not_true_eq_false, not_false_eq_true, nI_sub']) 2486 0 F M (by omega) (by omega) (by omega) (Fl_0 M 3 _ _)
  exact this
theorem g_keeps {M : Mem} {LM : MemL} {σ : Sg} {a : Nat} {h : Nat → Sg} (hM : StM M σ) (hH : Hm M a h) {F : Nat} (hF : 10000 ≤ F) : ∃ M', f_X10_keeps F M LM = some M' ∧ Hm M' (dp1 a) (hpush σ h) ∧ (∀ c, c ≠ 0 → c ≠ 3 → M' c = M c) ∧ ∀ j, j ≠ 4 → M' 0 j = M 0 j := by
  obtain ⟨ha, e4, hB⟩ := hH
  unfold f_X10_keeps
  rw [e4]
  by_cases q : a = 12
  · subst q
    obtain ⟨M1, a1, a2⟩ := g_keep13 (LM := LM) hF (fun M_42 => f_X10_keeps_54 F LM (fun M_88 => (some (mr M_88 0 (fu (M_88 0) 4 ((M_88 0 4) + 1))))) F (mr M_42 0 (fu (M_42 0) 4 ((M_42 0 4) - 1))) 0) M
    have f0 : M1 0 = M 0 := Fl_c a2 (by decide)
    have f4 : M1 0 4 - 1 = nI 11 := by rw [f0, e4]; rfl
    obtain ⟨M2, b1, b2⟩ := g_keep54 (LM := LM) hF (a := 11) (by omega) (fun M_88 => (some (mr M_88 0 (fu (M_88 0) 4 ((M_88 0 4) + 1))))) (mr M1 0 (fu (M1 0) 4 (nI 11))) (by rw [mr_s, fu_s])
    refine ⟨mr M2 0 (fu (M2 0) 4 (M2 0 4 + 1)), ?_, ⟨by decide, ?_, fun i hi j hj => ?_⟩, fun c h0 h3 => ?_, fun j hj => ?_⟩
    · rw [l_12, if_pos rfl, l_226, a1, f4]
      exact b1
    · rw [mr_s, fu_s, Fl_c b2 (by decide), mr_s, fu_s]
      rfl
    · have hi' : i < 12 := hi
      show (mr M2 0 (fu (M2 0) 4 (M2 0 4 + 1))) 3 (226 * (12 - 1 - i) + j) = _
      rw [mr_n _ _ (by decide)]
      cases i with
      | zero =>
        rw [Fl_i b2 (by omega) (by omega)]
        simp (disch := omega) only [at1_same, at1_ne]
        rw [Fl_c a2 (by decide)]
        have e : 226 * (12 - 1 - 0) + j - 226 * 11 = j := by omega
        rw [e]
        exact hM j hj
      | succ i =>
        rw [Fl_o b2 (by omega), mr_n _ _ (by decide), Fl_i a2 (by omega) (by omega)]
        have e : 226 + (226 * (12 - 1 - (i + 1)) + j) = 226 * (12 - 1 - i) + j := by omega
        rw [e]
        exact hB i (by omega) j hj
    · rw [mr_n _ _ h0, Fl_c b2 h3, mr_n _ _ h0, Fl_c a2 h3]
    · rw [mr_s, fu_n _ _ hj, Fl_c b2 (by decide), mr_s, fu_n _ _ hj, f0]
  · obtain ⟨M2, b1, b2⟩ := g_keep54 (LM := LM) hF (a := a) (by omega) (fun M_88 => (some (mr M_88 0 (fu (M_88 0) 4 ((M_88 0 4) + 1))))) M e4
    have ed : dp1 a = a + 1 := if_neg q
    refine ⟨mr M2 0 (fu (M2 0) 4 (M2 0 4 + 1)), ?_, ⟨by omega, ?_, fun i hi j hj => ?_⟩, fun c h0 h3 => ?_, fun j hj => ?_⟩
    · rw [l_12, if_neg (fun z => q ((nI_eq (by omega) (by omega)).mp z))]
      exact b1
    · rw [mr_s, fu_s, Fl_c b2 (by decide), e4, ed]
      exact nI_1 a
    · rw [ed] at hi
      rw [ed, mr_n _ _ (by decide)]
      cases i with
      | zero =>
        rw [Fl_i b2 (by omega) (by omega)]
        have e : 226 * (a + 1 - 1 - 0) + j - 226 * a = j := by omega
        rw [e]
        exact hM j hj
      | succ i =>
        rw [Fl_o b2 (by omega)]
        have e : 226 * (a + 1 - 1 - (i + 1)) + j = 226 * (a - 1 - i) + j := by omega
        rw [e]
        exact hB i (by omega) j hj
    · rw [mr_n _ _ h0, Fl_c b2 h3]
    · rw [mr_s, fu_n _ _ hj, Fl_c b2 (by decide)]
/-- the tape of both; the words of the reference -/
def Tp (M T : Mem) : Prop := ∃ n, n ≤ 400 ∧ M 0 29 = nI n ∧ T 0 1 = nI n ∧ ∀ j, j < n → ∃ b, b < 256 ∧ M 21 j = nI b ∧ T 1 j = nI b
def wdL : List Nat := [99, 111, 108, 117, 109, 110, 0, 114, 111, 119, 0, 112, 117, 116, 0, 116, 97, 107, 101, 0, 99, 97, 114, 114, 121, 0, 98, 114, 101, 97, 107, 0, 115, 104, 105, 102, 116, 0, 115, 101, 101, 110, 0, 111, 102, 0, 115, 117, 109, 0]
def Wd (M : Mem) : Prop := ∀ j, j < 50 → M 22 j = nI (wdL.getD j 0)
theorem Tp_q {M M' T : Mem} (q : Pq M M') (h : Tp M T) : Tp M' T := by
  obtain ⟨n, h1, h2, h3, h4⟩ := h
  exact ⟨n, h1, q.2.2.2.2.trans h2, h3, fun j hj => by rw [q.2.1]; exact h4 j hj⟩
theorem Wd_q {M M' : Mem} (q : Pq M M') (h : Wd M) : Wd M' := fun j hj => by rw [q.2.2.1]; exact h j hj
/-- class and reference stand alike -/
def Ra (M T C H : Mem) (Ks : Nat → Mem) (σ : Sg) (a : Nat) (h : Nat → Sg) : Prop := StC C σ ∧ StM M σ ∧ okS σ ∧ Hm M a h ∧ Hc H Ks a h ∧ (∀ i, i < a → okS (h i)) ∧ Tp M T ∧ Wd M
def Fg (Y N S : Mem) : Prop := Y 0 12 = nI 0 ∧ N 0 12 = nI 0 ∧ N 0 13 = nI 0 ∧ S 0 2 = zI (-2)
theorem Ra_m {M M' T C H : Mem} {Ks : Nat → Mem} {σ : Sg} {a : Nat} {h : Nat → Sg} (p : Pm M M') (r : Ra M T C H Ks σ a h) : Ra M' T C H Ks σ a h := ⟨r.1, StM_p r.2.1 p, r.2.2.1, Hm_q (Pm_q p) r.2.2.2.1, r.2.2.2.2.1, r.2.2.2.2.2.1, Tp_q (Pm_q p) r.2.2.2.2.2.2.1, Wd_q (Pm_q p) r.2.2.2.2.2.2.2⟩
/-- what an act stands on when it has begun: the state is still σ, and lies in the past too -/
def Rb (M T C H : Mem) (Ks : Nat → Mem) (σ : Sg) (a : Nat) (h : Nat → Sg) : Prop := StC C σ ∧ StM M σ ∧ okS σ ∧ Hm M a h ∧ Hc H Ks a h ∧ (∀ i, i < a → okS (h i)) ∧ Tp M T ∧ Wd M
theorem Ra_to {M M' T C C' H : Mem} {Ks : Nat → Mem} {σ τ : Sg} {a : Nat} {h : Nat → Sg} (r : Ra M T C H Ks σ a h) (q : Pq M M') (hC : StC C' τ) (hM : StM M' τ) (hs : okS τ) : Ra M' T C' H Ks τ a h := ⟨hC, hM, hs, Hm_q q r.2.2.2.1, r.2.2.2.2.1, r.2.2.2.2.2.1, Tp_q q r.2.2.2.2.2.2.1, Wd_q q r.2.2.2.2.2.2.2⟩
theorem m_begin {M T C H Y N S X0 : Mem} {LM : MemL} {Ks : Nat → Mem} {σ : Sg} {a : Nat} {h : Nat → Sg} (r : Ra M T C H Ks σ a h) {F : Nat} (hF : 10000 ≤ F) : ∃ H' Y' N' S' Ks' M', f_X9_beginAct F X0 C H Y N S Ks = some (H', Y', N', S', Ks') ∧ f_X10_keeps F M LM = some M' ∧ Ra M' T C H' Ks' σ (dp1 a) (hpush σ h) ∧ Fg Y' N' S' ∧ (∀ c, c ≠ 0 → Y' c = Y c) ∧ (∀ c, c ≠ 0 → N' c = N c) ∧ (∀ c, c ≠ 0 → c ≠ 3 → M' c = M c) ∧ ∀ j, j ≠ 4 → M' 0 j = M 0 j := by
  obtain ⟨hC, hM, hs, hHm, hHc, hok, hT, hW⟩ := r
  obtain ⟨M', a1, a2, a3, a4⟩ := g_keeps (LM := LM) hM hHm hF
  obtain ⟨H', Ks', b1, b2⟩ := h_keep hHc hHm.1 hC hs F
  refine ⟨H', mr Y 0 (fu (Y 0) 12 0), mr N 0 (fu (fu (N 0) 12 0) 13 0), mr S 0 (fu (S 0) 2 (-2)), Ks', M', ?_, a1, ⟨hC, fun j hj => by rw [a3 1 (by decide) (by decide)]; exact hM j hj, hs, a2, b2, fun i hi => ?_, ?_, fun j hj => by rw [a3 22 (by decide) (by decide)]; exact hW j hj⟩, ⟨?_, ?_, ?_, ?_⟩, fun c hc => ?_, fun c hc => ?_, a3, a4⟩
  · unfold f_X9_beginAct f_X9_forgetAnswers
    rw [b1]
    simp only [Option.bind_some]
  · cases i with
    | zero => exact hs
    | succ i =>
      refine hok i ?_
      have ha := hHm.1
      unfold dp1 at hi
      by_cases q : a = 12
      · rw [if_pos q] at hi; omega
      · rw [if_neg q] at hi; omega
  · obtain ⟨n, h1, h2, h3, h4⟩ := hT
    exact ⟨n, h1, by rw [a4 29 (by decide)]; exact h2, h3, fun j hj => by rw [a3 21 (by decide) (by decide)]; exact h4 j hj⟩
  · rw [mr_s, fu_s]; rfl
  · rw [mr_s, fu_n _ _ (by decide), fu_s]; rfl
  · rw [mr_s, fu_s]; rfl
  · rw [mr_s, fu_s]; rfl
  · rw [mr_n _ _ hc]
  · rw [mr_n _ _ hc]
theorem m_undo {M T C H Y N S X0 : Mem} {LM : MemL} {Ks : Nat → Mem} {σ : Sg} {a : Nat} {h : Nat → Sg} (r : Ra M T C H Ks σ a h) {F : Nat} (hF : 10000 ≤ F) : ∃ v C' H' Y' N' S' M', f_X9_undo F X0 C H Y N S Ks = some (v, C', H', Y', N', S') ∧ f_X10_undo F M LM = some (v, M') ∧ ((C' = C ∧ H' = H ∧ Y' = Y ∧ N' = N ∧ S' = S ∧ M' = M) ∨ ∃ σ' a' h', Ra M' T C' H' Ks σ' a' h' ∧ Fg Y' N' S') := by
  obtain ⟨hC, hM, hs, hHm, hHc, hok, hT, hW⟩ := r
  obtain ⟨ha, e4, hB⟩ := hHm
  obtain ⟨f2, p, hp, f1, hK⟩ := hHc
  unfold f_X9_undo f_X10_undo
  rw [e4, f2]
  cases a with
  | zero =>
    rw [l_0, if_pos rfl, if_pos rfl]
    exact ⟨_, _, _, _, _, _, _, rfl, rfl, .inl ⟨rfl, rfl, rfl, rfl, rfl, rfl⟩⟩
  | succ a =>
    have ne : ¬ nI (a + 1) = 0 := nI_ne0 (by omega) (by omega)
    have pr : nI (a + 1) - 1 = nI a := nI_pred a
    rw [if_neg ne, if_neg ne, pr]
    have k0 := hK 0 (by omega)
    have s0 := hok 0 (by omega)
    obtain ⟨C', c1, c2⟩ := h_copyFrom (C := C) k0 s0 F
    have := fill_up (f_X10_undo_21 F LM (fun M_55 => (some ((M_55 0 4), M_55)))) (fun M_55 => (some ((M_55 0 4), M_55))) 1 0 0 0 226 (fun j => M 3 (226 * a + j)) (mr M 0 (fu (M 0) 4 (nI a))) (fun n i N _ hi hN => by
      rw [f_X10_undo_21]
      have e0 : N 0 4 = nI a := by rw [Fl_c hN (by decide), mr_s, fu_s]
      have e1 : N 3 = M 3 := by rw [Fl_c hN (by decide), mr_n _ _ (by decide)]
      rw [e0, e1]
      simp only [Nat.zero_add]
      simp (disch := omega) only [l_0, l_1, l_2, l_3, l_4, l_5, l_6, l_7, l_8, l_9, l_10, l_12, l_20, l_24, l_25, l_31, l_32, l_48, l_50, l_56, l_57, l_59, l_97, l_99, l_100, l_120, l_122, l_177, l_178, l_201, l_226, l_255, l_400, l_420, l_600, l_700, l_840, l_1000, l_1300, l_2000, l_1000000, nI_add, mr4, ml4, mr5, ml5, mr6, ml6, mr10, ml10, mr24, ml24, mr201, ml201, mr420, ml420, mr226, ml226, mr2, ml2, nI_clamp, lt_T, lt_F, le_T, le_F, eq_T, eq_F, ck_n, dv_n, cp_n, rem_n, pk_div, at1_same, at1_ne, cb_n, Option.bind_some, if_pos, if_neg, ↓reduceIte, and_self, and_true, true_and, and_false, false_and, not_true_eq_false, not_false_eq_true, nI_sub']) (fun n N hN => by
      rw [f_X10_undo_21]
      simp (disch := omega) only [l_0, l_1, l_2, l_3, l_4, l_5, l_6, l_7, l_8, l_9, l_10, l_12, l_20, l_24, l_25, l_31, l_32, l_48, l_50, l_56, l_57, l_59, l_97, l_99, l_100, l_120, l_122, l_177, l_178, l_201, l_226, l_255, l_400, l_420, l_600, l_700, l_840, l_1000, l_1300, l_2000, l_1000000, nI_add, mr4, ml4, mr5, ml5, mr6, ml6, mr10, ml10, mr24, ml24, mr201, ml201, mr420, ml420, mr226, ml226, mr2, ml2, nI_clamp, lt_T, lt_F, le_T, le_F, eq_T, eq_F, ck_n, dv_n, cp_n, rem_n, pk_div, at1_same, at1_ne, cb_n, Option.bind_some, if_pos, if_neg, ↓reduceIte, and_self, and_true, true_and, and_false, false_and, not_true_eq_false, not_false_eq_true, nI_sub']) 226 0 F (mr M 0 (fu (M 0) 4 (nI a))) (by omega) (by omega) (by omega) (Fl_0 _ 1 _ _)
    obtain ⟨M', m1, m2⟩ := this
    have m0 : M' 0 = fu (M 0) 4 (nI a) := by rw [Fl_c m2 (by decide), mr_s]
    have m1' : f_X10_undo_21 F LM (fun M_55 => (some ((M_55 0 4), M_55))) F (mr M 0 (fu (M 0) 4 (nI a))) 0 = some (nI a, M') := by
      have e : M' 0 4 = nI a := by rw [m0, fu_s]
      have z : f_X10_undo_21 F LM (fun M_55 => (some ((M_55 0 4), M_55))) F (mr M 0 (fu (M 0) 4 (nI a))) 0 = some (M' 0 4, M') := m1
      rw [z, e]
    have mc : ∀ c, c ≠ 0 → c ≠ 1 → M' c = M c := fun c h0 h1 => by rw [Fl_c m2 h1, mr_n _ _ h0]
    rw [h_backU hp f1 f2 F]
    have ep : (p + 11 - 0) % 12 = (p + 11) % 12 := rfl
    rw [ep] at c1
    rw [c1, m1']
    unfold f_X9_forgetAnswers
    simp only [Option.bind_some]
    rw [mr_s, fu_s]
    refine ⟨_, _, _, _, _, _, _, rfl, rfl, .inr ⟨h 0, a, fun i => h (i + 1), ⟨c2, fun j hj => ?_, s0, ⟨by omega, ?_, fun i hi j hj => ?_⟩, ⟨?_, (p + 11) % 12, by omega, ?_, fun i hi => ?_⟩, fun i hi => hok (i + 1) (by omega), ?_, fun j hj => by rw [mc 22 (by decide) (by decide)]; exact hW j hj⟩, ?_, ?_, ?_, ?_⟩⟩
    · rw [Fl_i m2 (by omega) (by omega)]
      have := hB 0 (by omega) j hj
      exact this
    · rw [m0, fu_s]
    · rw [mc 3 (by decide) (by decide)]
      have := hB (i + 1) (by omega) j hj
      have e : 226 * (a + 1 - 1 - (i + 1)) + j = 226 * (a - 1 - i) + j := by omega
      rw [e] at this
      exact this
    · rw [mr_s, fu_s]
    · rw [mr_s, fu_n _ _ (by decide), fu_s]
    · have := hK (i + 1) (by omega)
      have e : ((p + 11) % 12 + 11 - i) % 12 = (p + 11 - (i + 1)) % 12 := by omega
      rw [e]
      exact this
    · obtain ⟨n, h1, h2, h3, h4⟩ := hT
      exact ⟨n, h1, by rw [m0, fu_n _ _ (by decide)]; exact h2, h3, fun j hj => by rw [mc 21 (by decide) (by decide)]; exact h4 j hj⟩
    · rw [mr_s, fu_s]; rfl
    · rw [mr_s, fu_n _ _ (by decide), fu_s]; rfl
    · rw [mr_s, fu_s]; rfl
    · rw [mr_s, fu_s]; rfl
