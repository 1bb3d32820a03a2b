/-! PURE LAYER: answers alike: worth, apart, fullest, missing -/
def colN (σ : Sg) (c : Nat) : Nat → Nat
  | 0 => 0
  | r + 1 => colN σ c r + σ (8 + (6 * r + c))
theorem h_cinLoop {C : Mem} {σ : Sg} (hC : StC C σ) (h1 : σ 1 ≤ 4) {F : Nat} (k : Int32 → Option Int32) {c : Nat} (hc : c < 6) : ∀ (d i n : Nat), i + d = σ 1 → d < n → f_X0_countersIn_4 F C (nI c) k n (nI (colN σ c i)) (nI i) = k (nI (colN σ c (σ 1)))
  | d, i, 0, _, h => by omega
  | d, i, n + 1, hi, hn => by
    unfold f_X0_countersIn_4
    cases d with
    | zero =>
      obtain rfl : i = σ 1 := by omega
      simp (disch := omega) only [l_0, l_1, l_2, l_3, l_4, l_5, l_6, l_7, l_8, l_9, l_10, l_12, l_20, l_24, l_25, l_31, l_32, l_48, l_50, l_56, l_57, l_59, l_97, l_99, l_100, l_120, l_122, l_177, l_178, l_201, l_226, l_255, l_400, l_420, l_600, l_700, l_840, l_1000, l_1300, l_2000, l_1000000, nI_add, mr4, ml4, mr5, ml5, mr6, ml6, mr10, ml10, mr24, ml24, mr201, ml201, mr420, ml420, mr226, ml226, mr2, ml2, nI_clamp, lt_T, lt_F, le_T, le_F, eq_T, eq_F, ck_n, dv_n, cp_n, rem_n, pk_div, at1_same, at1_ne, cb_n, Option.bind_some, if_pos, if_neg, ↓reduceIte, and_self, and_true, true_and, and_false, false_and, not_true_eq_false, not_false_eq_true, nI_sub', cR hC]
    | succ d =>
      simp (disch := omega) only [l_0, l_1, l_2, l_3, l_4, l_5, l_6, l_7, l_8, l_9, l_10, l_12, l_20, l_24, l_25, l_31, l_32, l_48, l_50, l_56, l_57, l_59, l_97, l_99, l_100, l_120, l_122, l_177, l_178, l_201, l_226, l_255, l_400, l_420, l_600, l_700, l_840, l_1000, l_1300, l_2000, l_1000000, nI_add, mr4, ml4, mr5, ml5, mr6, ml6, mr10, ml10, mr24, ml24, mr201, ml201, mr420, ml420, mr226, ml226, mr2, ml2, nI_clamp, lt_T, lt_F, le_T, le_F, eq_T, eq_F, ck_n, dv_n, cp_n, rem_n, pk_div, at1_same, at1_ne, cb_n, Option.bind_some, if_pos, if_neg, ↓reduceIte, and_self, and_true, true_and, and_false, false_and, not_true_eq_false, not_false_eq_true, nI_sub', cR hC, cCe hC]
      exact h_cinLoop hC h1 k hc d (i + 1) n (by omega) (by omega)
theorem g_worLoop {M : Mem} {LM : MemL} {σ : Sg} (hM : StM M σ) (h1 : σ 1 ≤ 4) {F : Nat} (y : Int32) (k : Int32 → Option Int32) {c : Nat} (hc : c < 6) : ∀ (d i n : Nat), i + d = σ 1 → d < n → f_X10_worth_27 F M LM (nI c) y k n (nI (colN σ c i)) (nI i) = k (nI (colN σ c (σ 1)))
  | d, i, 0, _, h => by omega
  | d, i, n + 1, hi, hn => by
    unfold f_X10_worth_27
    cases d with
    | zero =>
      obtain rfl : i = σ 1 := by omega
      simp (disch := omega) only [l_0, l_1, l_2, l_3, l_4, l_5, l_6, l_7, l_8, l_9, l_10, l_12, l_20, l_24, l_25, l_31, l_32, l_48, l_50, l_56, l_57, l_59, l_97, l_99, l_100, l_120, l_122, l_177, l_178, l_201, l_226, l_255, l_400, l_420, l_600, l_700, l_840, l_1000, l_1300, l_2000, l_1000000, nI_add, mr4, ml4, mr5, ml5, mr6, ml6, mr10, ml10, mr24, ml24, mr201, ml201, mr420, ml420, mr226, ml226, mr2, ml2, nI_clamp, lt_T, lt_F, le_T, le_F, eq_T, eq_F, ck_n, dv_n, cp_n, rem_n, pk_div, at1_same, at1_ne, cb_n, Option.bind_some, if_pos, if_neg, ↓reduceIte, and_self, and_true, true_and, and_false, false_and, not_true_eq_false, not_false_eq_true, nI_sub', mS hM]
    | succ d =>
      simp (disch := omega) only [l_0, l_1, l_2, l_3, l_4, l_5, l_6, l_7, l_8, l_9, l_10, l_12, l_20, l_24, l_25, l_31, l_32, l_48, l_50, l_56, l_57, l_59, l_97, l_99, l_100, l_120, l_122, l_177, l_178, l_201, l_226, l_255, l_400, l_420, l_600, l_700, l_840, l_1000, l_1300, l_2000, l_1000000, nI_add, mr4, ml4, mr5, ml5, mr6, ml6, mr10, ml10, mr24, ml24, mr201, ml201, mr420, ml420, mr226, ml226, mr2, ml2, nI_clamp, lt_T, lt_F, le_T, le_F, eq_T, eq_F, ck_n, dv_n, cp_n, rem_n, pk_div, at1_same, at1_ne, cb_n, Option.bind_some, if_pos, if_neg, ↓reduceIte, and_self, and_true, true_and, and_false, false_and, not_true_eq_false, not_false_eq_true, nI_sub', mS hM, g_now hM, Nat.add_assoc]
      exact g_worLoop hM h1 y k hc d (i + 1) n (by omega) (by omega)
theorem t64 : (0 : Int64) = (nI 0).toInt64 ∧ (1 : Int64) = (nI 1).toInt64 ∧ (2 : Int64) = (nI 2).toInt64 ∧ (3 : Int64) = (nI 3).toInt64 ∧ (4 : Int64) = (nI 4).toInt64 ∧ (20 : Int64) = (nI 20).toInt64 ∧ (99 : Int64) = (nI 99).toInt64 ∧ (48 : Int64) = (nI 48).toInt64 ∧ (57 : Int64) = (nI 57).toInt64 ∧ (97 : Int64) = (nI 97).toInt64 ∧ (122 : Int64) = (nI 122).toInt64 := by decide
theorem f_ink (F : Nat) {v : Int} {a b : Nat} (v1 : -2147483648 ≤ v) (v2 : v < 2147483648) (a2 : a < 2147483648) (b2 : b < 2147483648) : f_X10_in F (zI v).toInt64 (nI a).toInt64 (nI b).toInt64 = some (if (a : Int) ≤ v ∧ v ≤ (b : Int) then nI 1 else nI 0) := by
  rw [← zI_c, ← zI_c]
  exact f_inz F v1 v2 (by omega) (by omega) (by omega) (by omega)
theorem in02 (F : Nat) {v : Int} (v1 : -2147483648 ≤ v) (v2 : v < 2147483648) : f_X10_in F (zI v).toInt64 0 2 = some (if 0 ≤ v ∧ v ≤ 2 then nI 1 else nI 0) := by
  rw [t64.1, t64.2.2.1]; exact f_ink F v1 v2 (by decide) (by decide)
theorem in04 (F : Nat) {v : Int} (v1 : -2147483648 ≤ v) (v2 : v < 2147483648) : f_X10_in F (zI v).toInt64 0 4 = some (if 0 ≤ v ∧ v ≤ 4 then nI 1 else nI 0) := by
  rw [t64.1, t64.2.2.2.2.1]; exact f_ink F v1 v2 (by decide) (by decide)
theorem in03 (F : Nat) {v : Int} (v1 : -2147483648 ≤ v) (v2 : v < 2147483648) : f_X10_in F (zI v).toInt64 0 3 = some (if 0 ≤ v ∧ v ≤ 3 then nI 1 else nI 0) := by
  rw [t64.1, t64.2.2.2.1]; exact f_ink F v1 v2 (by decide) (by decide)
theorem in099 (F : Nat) {v : Int} (v1 : -2147483648 ≤ v) (v2 : v < 2147483648) : f_X10_in F (zI v).toInt64 0 99 = some (if 0 ≤ v ∧ v ≤ 99 then nI 1 else nI 0) := by
  rw [t64.1, t64.2.2.2.2.2.2.1]; exact f_ink F v1 v2 (by decide) (by decide)
theorem in199 (F : Nat) {v : Int} (v1 : -2147483648 ≤ v) (v2 : v < 2147483648) : f_X10_in F (zI v).toInt64 1 99 = some (if 1 ≤ v ∧ v ≤ 99 then nI 1 else nI 0) := by
  rw [t64.2.1, t64.2.2.2.2.2.2.1]; exact f_ink F v1 v2 (by decide) (by decide)
theorem in220 (F : Nat) {v : Int} (v1 : -2147483648 ≤ v) (v2 : v < 2147483648) : f_X10_in F (zI v).toInt64 2 20 = some (if 2 ≤ v ∧ v ≤ 20 then nI 1 else nI 0) := by
  rw [t64.2.2.1, t64.2.2.2.2.2.1]; exact f_ink F v1 v2 (by decide) (by decide)
theorem zk (k : Nat) : zI (OfNat.ofNat k : Int) = nI k := rfl
theorem m_worth {C M X0 : Mem} {LM : MemL} {σ : Sg} (hC : StC C σ) (hM : StM M σ) (hs : okS σ) {F : Nat} (hF : 10 ≤ F) (x y : Int32) : ∃ v, f_X9_worth F X0 C x y = some v ∧ f_X10_worth F M LM x y = some v := by
  have h0 := kC hs
  have h1 := kR hs
  obtain ⟨x, x1, x2, rfl⟩ := zI_of x
  obtain ⟨y, y1, y2, rfl⟩ := zI_of y
  unfold f_X9_worth f_X10_worth f_X0_countersIn
  by_cases hx : 0 ≤ x ∧ x < (σ 0 : Int)
  · obtain ⟨c, rfl⟩ := Int.eq_ofNat_of_zero_le hx.1
    have hc : c < σ 0 := by omega
    have e1 : f_X0_countersIn_4 F C (nI c) (fun z => some z) F (nI 0) (nI 0) = some (nI (colN σ c (σ 1))) := h_cinLoop (F := F) hC h1 (fun z => some z) (c := c) (by omega) (σ 1) 0 F (by omega) (by omega)
    have e2 : ∀ y k, f_X10_worth_27 F M LM (nI c) y k F (nI 0) (nI 0) = k (nI (colN σ c (σ 1))) := fun y k => g_worLoop (F := F) (LM := LM) hM h1 y k (c := c) (by omega) (σ 1) 0 F (by omega) (by omega)
    simp only [in02 F y1 y2, zI_c]
    rcases (by omega : y = 0 ∨ y = 1 ∨ y = 2 ∨ y < 0 ∨ 2 < y) with rfl | rfl | rfl | hy | hy
    · simp (disch := omega) only [l_0, l_1, l_2, l_3, l_4, l_5, l_6, l_7, l_8, l_9, l_10, l_12, l_20, l_24, l_25, l_31, l_32, l_48, l_50, l_56, l_57, l_59, l_97, l_99, l_100, l_120, l_122, l_177, l_178, l_201, l_226, l_255, l_400, l_420, l_600, l_700, l_840, l_1000, l_1300, l_2000, l_1000000, nI_add, mr4, ml4, mr5, ml5, mr6, ml6, mr10, ml10, mr24, ml24, mr201, ml201, mr420, ml420, mr226, ml226, mr2, ml2, nI_clamp, lt_T, lt_F, le_T, le_F, eq_T, eq_F, ck_n, dv_n, cp_n, rem_n, pk_div, at1_same, at1_ne, cb_n, Option.bind_some, if_pos, if_neg, ↓reduceIte, and_self, and_true, true_and, and_false, false_and, not_true_eq_false, not_false_eq_true, nI_sub', zz_add, zz_sub, zz_mul, zn_add, nz_add, zn_sub, nz_sub, zn_mul, nz_mul, z_neg, n_neg, zlt_T, zlt_F, zle_T, zle_F, zeq_T, zeq_F, zn_lt, nz_lt, zn_le, nz_le, zn_eq, nz_eq, hasRow_n hC h1 F, hasCol_n hC h0 F, hasRow_x hC h1 F, hasCol_x hC h0 F, isRow_n hM h1 F, isCol_n hM h0 F, isRow_x hM h1 F, isCol_x hM h0 F, hasCol_o hC h0 F, isCol_o hM h0 F, e2, zk 0, cRt hC, g_ratio hM]
      first | exact ⟨_, rfl, rfl⟩ | exact ⟨_, rfl⟩
    · simp (disch := omega) only [l_0, l_1, l_2, l_3, l_4, l_5, l_6, l_7, l_8, l_9, l_10, l_12, l_20, l_24, l_25, l_31, l_32, l_48, l_50, l_56, l_57, l_59, l_97, l_99, l_100, l_120, l_122, l_177, l_178, l_201, l_226, l_255, l_400, l_420, l_600, l_700, l_840, l_1000, l_1300, l_2000, l_1000000, nI_add, mr4, ml4, mr5, ml5, mr6, ml6, mr10, ml10, mr24, ml24, mr201, ml201, mr420, ml420, mr226, ml226, mr2, ml2, nI_clamp, lt_T, lt_F, le_T, le_F, eq_T, eq_F, ck_n, dv_n, cp_n, rem_n, pk_div, at1_same, at1_ne, cb_n, Option.bind_some, if_pos, if_neg, ↓reduceIte, and_self, and_true, true_and, and_false, false_and, not_true_eq_false, not_false_eq_true, nI_sub', zz_add, zz_sub, zz_mul, zn_add, nz_add, zn_sub, nz_sub, zn_mul, nz_mul, z_neg, n_neg, zlt_T, zlt_F, zle_T, zle_F, zeq_T, zeq_F, zn_lt, nz_lt, zn_le, nz_le, zn_eq, nz_eq, hasRow_n hC h1 F, hasCol_n hC h0 F, hasRow_x hC h1 F, hasCol_x hC h0 F, isRow_n hM h1 F, isCol_n hM h0 F, isRow_x hM h1 F, isCol_x hM h0 F, hasCol_o hC h0 F, isCol_o hM h0 F, e2, zk 1, cWo hC, g_worthOf hM]
      first | exact ⟨_, rfl, rfl⟩ | exact ⟨_, rfl⟩
    · simp (disch := omega) only [l_0, l_1, l_2, l_3, l_4, l_5, l_6, l_7, l_8, l_9, l_10, l_12, l_20, l_24, l_25, l_31, l_32, l_48, l_50, l_56, l_57, l_59, l_97, l_99, l_100, l_120, l_122, l_177, l_178, l_201, l_226, l_255, l_400, l_420, l_600, l_700, l_840, l_1000, l_1300, l_2000, l_1000000, nI_add, mr4, ml4, mr5, ml5, mr6, ml6, mr10, ml10, mr24, ml24, mr201, ml201, mr420, ml420, mr226, ml226, mr2, ml2, nI_clamp, lt_T, lt_F, le_T, le_F, eq_T, eq_F, ck_n, dv_n, cp_n, rem_n, pk_div, at1_same, at1_ne, cb_n, Option.bind_some, if_pos, if_neg, ↓reduceIte, and_self, and_true, true_and, and_false, false_and, not_true_eq_false, not_false_eq_true, nI_sub', zz_add, zz_sub, zz_mul, zn_add, nz_add, zn_sub, nz_sub, zn_mul, nz_mul, z_neg, n_neg, zlt_T, zlt_F, zle_T, zle_F, zeq_T, zeq_F, zn_lt, nz_lt, zn_le, nz_le, zn_eq, nz_eq, hasRow_n hC h1 F, hasCol_n hC h0 F, hasRow_x hC h1 F, hasCol_x hC h0 F, isRow_n hM h1 F, isCol_n hM h0 F, isRow_x hM h1 F, isCol_x hM h0 F, hasCol_o hC h0 F, isCol_o hM h0 F, e1, e2, zk 2]
      first | exact ⟨_, rfl, rfl⟩ | exact ⟨_, rfl⟩
    · simp (disch := omega) only [l_0, l_1, l_2, l_3, l_4, l_5, l_6, l_7, l_8, l_9, l_10, l_12, l_20, l_24, l_25, l_31, l_32, l_48, l_50, l_56, l_57, l_59, l_97, l_99, l_100, l_120, l_122, l_177, l_178, l_201, l_226, l_255, l_400, l_420, l_600, l_700, l_840, l_1000, l_1300, l_2000, l_1000000, nI_add, mr4, ml4, mr5, ml5, mr6, ml6, mr10, ml10, mr24, ml24, mr201, ml201, mr420, ml420, mr226, ml226, mr2, ml2, nI_clamp, lt_T, lt_F, le_T, le_F, eq_T, eq_F, ck_n, dv_n, cp_n, rem_n, pk_div, at1_same, at1_ne, cb_n, Option.bind_some, if_pos, if_neg, ↓reduceIte, and_self, and_true, true_and, and_false, false_and, not_true_eq_false, not_false_eq_true, nI_sub', zz_add, zz_sub, zz_mul, zn_add, nz_add, zn_sub, nz_sub, zn_mul, nz_mul, z_neg, n_neg, zlt_T, zlt_F, zle_T, zle_F, zeq_T, zeq_F, zn_lt, nz_lt, zn_le, nz_le, zn_eq, nz_eq, hasRow_n hC h1 F, hasCol_n hC h0 F, hasRow_x hC h1 F, hasCol_x hC h0 F, isRow_n hM h1 F, isCol_n hM h0 F, isRow_x hM h1 F, isCol_x hM h0 F, hasCol_o hC h0 F, isCol_o hM h0 F]
      first | exact ⟨_, rfl, rfl⟩ | exact ⟨_, rfl⟩
    · simp (disch := omega) only [l_0, l_1, l_2, l_3, l_4, l_5, l_6, l_7, l_8, l_9, l_10, l_12, l_20, l_24, l_25, l_31, l_32, l_48, l_50, l_56, l_57, l_59, l_97, l_99, l_100, l_120, l_122, l_177, l_178, l_201, l_226, l_255, l_400, l_420, l_600, l_700, l_840, l_1000, l_1300, l_2000, l_1000000, nI_add, mr4, ml4, mr5, ml5, mr6, ml6, mr10, ml10, mr24, ml24, mr201, ml201, mr420, ml420, mr226, ml226, mr2, ml2, nI_clamp, lt_T, lt_F, le_T, le_F, eq_T, eq_F, ck_n, dv_n, cp_n, rem_n, pk_div, at1_same, at1_ne, cb_n, Option.bind_some, if_pos, if_neg, ↓reduceIte, and_self, and_true, true_and, and_false, false_and, not_true_eq_false, not_false_eq_true, nI_sub', zz_add, zz_sub, zz_mul, zn_add, nz_add, zn_sub, nz_sub, zn_mul, nz_mul, z_neg, n_neg, zlt_T, zlt_F, zle_T, zle_F, zeq_T, zeq_F, zn_lt, nz_lt, zn_le, nz_le, zn_eq, nz_eq, hasRow_n hC h1 F, hasCol_n hC h0 F, hasRow_x hC h1 F, hasCol_x hC h0 F, isRow_n hM h1 F, isCol_n hM h0 F, isRow_x hM h1 F, isCol_x hM h0 F, hasCol_o hC h0 F, isCol_o hM h0 F]
      first | exact ⟨_, rfl, rfl⟩ | exact ⟨_, rfl⟩
  · simp (disch := omega) only [l_0, l_1, l_2, l_3, l_4, l_5, l_6, l_7, l_8, l_9, l_10, l_12, l_20, l_24, l_25, l_31, l_32, l_48, l_50, l_56, l_57, l_59, l_97, l_99, l_100, l_120, l_122, l_177, l_178, l_201, l_226, l_255, l_400, l_420, l_600, l_700, l_840, l_1000, l_1300, l_2000, l_1000000, nI_add, mr4, ml4, mr5, ml5, mr6, ml6, mr10, ml10, mr24, ml24, mr201, ml201, mr420, ml420, mr226, ml226, mr2, ml2, nI_clamp, lt_T, lt_F, le_T, le_F, eq_T, eq_F, ck_n, dv_n, cp_n, rem_n, pk_div, at1_same, at1_ne, cb_n, Option.bind_some, if_pos, if_neg, ↓reduceIte, and_self, and_true, true_and, and_false, false_and, not_true_eq_false, not_false_eq_true, nI_sub', zz_add, zz_sub, zz_mul, zn_add, nz_add, zn_sub, nz_sub, zn_mul, nz_mul, z_neg, n_neg, zlt_T, zlt_F, zle_T, zle_F, zeq_T, zeq_F, zn_lt, nz_lt, zn_le, nz_le, zn_eq, nz_eq, hasRow_n hC h1 F, hasCol_n hC h0 F, hasRow_x hC h1 F, hasCol_x hC h0 F, isRow_n hM h1 F, isCol_n hM h0 F, isRow_x hM h1 F, isCol_x hM h0 F, hasCol_o hC h0 F, isCol_o hM h0 F]
    first | exact ⟨_, rfl, rfl⟩ | exact ⟨_, rfl⟩
