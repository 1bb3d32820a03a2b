/-! PURE LAYER: the reference lays a move -/
theorem n00 : nI 0 = (0 : Int32) := rfl
theorem n10 : ¬ nI 1 = (0 : Int32) := by decide
def Fr0 (M M' : Mem) : Prop := (∀ c, c ≠ 0 → M' c = M c) ∧ ∀ j, j < 6 ∨ 9 < j → M' 0 j = M 0 j
theorem Fr0_m {M M' : Mem} (h : Fr0 M M') : Pm M M' := ⟨h.1 _ (by decide), h.1 _ (by decide), h.1 _ (by decide), h.1 _ (by decide), h.2 _ (by decide), h.2 _ (by decide)⟩
theorem Fr0_r (M : Mem) (r : Nat → Int32) (h : ∀ j, j < 6 ∨ 9 < j → r j = M 0 j) : Fr0 M (mr M 0 r) := ⟨fun c hc => mr_n _ _ hc, fun j hj => by rw [mr_s]; exact h j hj⟩
theorem StM_0 {M : Mem} {σ : Sg} (h : StM M σ) (r : Nat → Int32) : StM (mr M 0 r) σ := fun j hj => by rw [mr_n _ _ (by decide)]; exact h j hj
theorem g_lays {M : Mem} {LM : MemL} {σ : Sg} (hM : StM M σ) (hs : okS σ) (F : Nat) {κ r c k o : Int} (κ1 : -2147483648 ≤ κ) (κ2 : κ < 2147483648) (r1 : -2147483648 ≤ r) (r2 : r < 2147483648) (c1 : -2147483648 ≤ c) (c2 : c < 2147483648) (k1 : -2147483648 ≤ k) (k2 : k < 2147483648) (o1 : -2147483648 ≤ o) (o2 : o < 2147483648) :
    (∃ A B x y M', Ef σ κ r c k o A B x y ∧ f_X10_lays F M LM (zI κ) (zI r) (zI c) (zI k) (zI o) = some (nI 1, M') ∧ Sp M' A B x y ∧ Fr0 M M') ∨ ((∀ A B x y, ¬ Ef σ κ r c k o A B x y) ∧ ∃ M', f_X10_lays F M LM (zI κ) (zI r) (zI c) (zI k) (zI o) = some (nI 0, M') ∧ Fr0 M M') := by
  have h0 := kC hs
  have h1 := kR hs
  unfold f_X10_lays
  rw [in04 F κ1 κ2]
  by_cases hκ : 0 ≤ κ ∧ κ ≤ 4
  · by_cases hx : (0 ≤ r ∧ r < (σ 1 : Int)) ∧ 0 ≤ c ∧ c < (σ 0 : Int)
    · have I0 : ∀ q, f_X10_isCell F (mr M 0 q) LM (zI r) (zI c) = some (nI 1) := fun q => isCell_z (StM_0 hM q) h0 h1 F hx
      obtain ⟨r, rfl⟩ := Int.eq_ofNat_of_zero_le hx.1.1
      obtain ⟨c, rfl⟩ := Int.eq_ofNat_of_zero_le hx.2.1
      have hr : r < σ 1 := by omega
      have hc : c < σ 0 := by omega
      have I2 : c + 1 < σ 0 → ∀ q, f_X10_isColumn F (mr M 0 q) LM (nI (c + 1)) = some (nI 1) := fun z q => isCol_n (StM_0 hM q) h0 F z
      have I3 : ¬ c + 1 < σ 0 → ∀ q, f_X10_isColumn F (mr M 0 q) LM (nI (c + 1)) = some (nI 0) := fun z q => isCol_o (StM_0 hM q) h0 F (by omega) (by omega)
      have I4 : ∀ q j, j < 224 → f_X10_ratio F (mr M 0 q) LM (nI j) = some (nI (σ (2 + j))) := fun q j hj => g_ratio (StM_0 hM q) F hj
      rw [if_pos hκ]
      simp only [Option.bind_some, I0]
      unfold f_X10_cell
      simp only [zI_c]
      rcases (by omega : κ = 0 ∨ κ = 1 ∨ κ = 2 ∨ κ = 3 ∨ κ = 4) with rfl | rfl | rfl | rfl | rfl
      · rw [zk 0]
        unfold f_X10_lays_51 f_X10_lays_64
        rw [in199 F k1 k2]
        by_cases hk : 1 ≤ k ∧ k ≤ 99
        · simp (disch := omega) only [l_0, l_1, l_2, l_3, l_4, l_5, l_6, l_7, l_8, l_9, l_10, l_12, l_20, l_24, l_25, l_31, l_32, l_48, l_50, l_56, l_57, l_59, l_97, l_99, l_100, l_120, l_122, l_177, l_178, l_201, l_226, l_255, l_400, l_420, l_600, l_700, l_840, l_1000, l_1300, l_2000, l_1000000, nI_add, mr4, ml4, mr5, ml5, mr6, ml6, mr10, ml10, mr24, ml24, mr201, ml201, mr420, ml420, mr226, ml226, mr2, ml2, nI_clamp, lt_T, lt_F, le_T, le_F, eq_T, eq_F, ck_n, dv_n, cp_n, rem_n, pk_div, at1_same, at1_ne, cb_n, Option.bind_some, if_pos, if_neg, ↓reduceIte, and_self, and_true, true_and, and_false, false_and, not_true_eq_false, not_false_eq_true, nI_sub', zz_add, zz_sub, zz_mul, zn_add, nz_add, zn_sub, nz_sub, zn_mul, nz_mul, z_neg, n_neg, zlt_T, zlt_F, zle_T, zle_F, zeq_T, zeq_F, zn_lt, nz_lt, zn_le, nz_le, zn_eq, nz_eq, zm1]
          refine .inl ⟨6 * r + c, 6 * r + c, k, 0, _, ⟨by omega, by omega, by omega, by omega, by omega, .inl ⟨rfl, hk.1, hk.2, rfl, rfl, rfl⟩⟩, rfl, ⟨?_, ?_, .inl ⟨?_, rfl, rfl⟩⟩, ⟨fun c hc => ?_, fun j hj => ?_⟩⟩
          all_goals simp (disch := omega) only [at1_same, at1_ne]
        · simp (disch := omega) only [l_0, l_1, l_2, l_3, l_4, l_5, l_6, l_7, l_8, l_9, l_10, l_12, l_20, l_24, l_25, l_31, l_32, l_48, l_50, l_56, l_57, l_59, l_97, l_99, l_100, l_120, l_122, l_177, l_178, l_201, l_226, l_255, l_400, l_420, l_600, l_700, l_840, l_1000, l_1300, l_2000, l_1000000, nI_add, mr4, ml4, mr5, ml5, mr6, ml6, mr10, ml10, mr24, ml24, mr201, ml201, mr420, ml420, mr226, ml226, mr2, ml2, nI_clamp, lt_T, lt_F, le_T, le_F, eq_T, eq_F, ck_n, dv_n, cp_n, rem_n, pk_div, at1_same, at1_ne, cb_n, Option.bind_some, if_pos, if_neg, ↓reduceIte, and_self, and_true, true_and, and_false, false_and, not_true_eq_false, not_false_eq_true, nI_sub', zz_add, zz_sub, zz_mul, zn_add, nz_add, zn_sub, nz_sub, zn_mul, nz_mul, z_neg, n_neg, zlt_T, zlt_F, zle_T, zle_F, zeq_T, zeq_F, zn_lt, nz_lt, zn_le, nz_le, zn_eq, nz_eq, zm1]
          refine .inr ⟨fun A B x y h => by unfold Ef at h; omega, _, rfl, ⟨fun c hc => ?_, fun j hj => ?_⟩⟩
          all_goals simp (disch := omega) only [at1_same, at1_ne]
      · rw [zk 1]
        unfold f_X10_lays_51 f_X10_lays_64
        rw [in199 F k1 k2]
        by_cases hk : 1 ≤ k ∧ k ≤ 99
        · simp (disch := omega) only [l_0, l_1, l_2, l_3, l_4, l_5, l_6, l_7, l_8, l_9, l_10, l_12, l_20, l_24, l_25, l_31, l_32, l_48, l_50, l_56, l_57, l_59, l_97, l_99, l_100, l_120, l_122, l_177, l_178, l_201, l_226, l_255, l_400, l_420, l_600, l_700, l_840, l_1000, l_1300, l_2000, l_1000000, nI_add, mr4, ml4, mr5, ml5, mr6, ml6, mr10, ml10, mr24, ml24, mr201, ml201, mr420, ml420, mr226, ml226, mr2, ml2, nI_clamp, lt_T, lt_F, le_T, le_F, eq_T, eq_F, ck_n, dv_n, cp_n, rem_n, pk_div, at1_same, at1_ne, cb_n, Option.bind_some, if_pos, if_neg, ↓reduceIte, and_self, and_true, true_and, and_false, false_and, not_true_eq_false, not_false_eq_true, nI_sub', zz_add, zz_sub, zz_mul, zn_add, nz_add, zn_sub, nz_sub, zn_mul, nz_mul, z_neg, n_neg, zlt_T, zlt_F, zle_T, zle_F, zeq_T, zeq_F, zn_lt, nz_lt, zn_le, nz_le, zn_eq, nz_eq, zm1]
          refine .inl ⟨6 * r + c, 6 * r + c, -k, 0, _, ⟨by omega, by omega, by omega, by omega, by omega, .inr (.inl ⟨rfl, hk.1, hk.2, rfl, rfl, rfl⟩)⟩, rfl, ⟨?_, ?_, .inl ⟨?_, rfl, rfl⟩⟩, ⟨fun c hc => ?_, fun j hj => ?_⟩⟩
          all_goals simp (disch := omega) only [at1_same, at1_ne]
        · simp (disch := omega) only [l_0, l_1, l_2, l_3, l_4, l_5, l_6, l_7, l_8, l_9, l_10, l_12, l_20, l_24, l_25, l_31, l_32, l_48, l_50, l_56, l_57, l_59, l_97, l_99, l_100, l_120, l_122, l_177, l_178, l_201, l_226, l_255, l_400, l_420, l_600, l_700, l_840, l_1000, l_1300, l_2000, l_1000000, nI_add, mr4, ml4, mr5, ml5, mr6, ml6, mr10, ml10, mr24, ml24, mr201, ml201, mr420, ml420, mr226, ml226, mr2, ml2, nI_clamp, lt_T, lt_F, le_T, le_F, eq_T, eq_F, ck_n, dv_n, cp_n, rem_n, pk_div, at1_same, at1_ne, cb_n, Option.bind_some, if_pos, if_neg, ↓reduceIte, and_self, and_true, true_and, and_false, false_and, not_true_eq_false, not_false_eq_true, nI_sub', zz_add, zz_sub, zz_mul, zn_add, nz_add, zn_sub, nz_sub, zn_mul, nz_mul, z_neg, n_neg, zlt_T, zlt_F, zle_T, zle_F, zeq_T, zeq_F, zn_lt, nz_lt, zn_le, nz_le, zn_eq, nz_eq, zm1]
          refine .inr ⟨fun A B x y h => by unfold Ef at h; omega, _, rfl, ⟨fun c hc => ?_, fun j hj => ?_⟩⟩
          all_goals simp (disch := omega) only [at1_same, at1_ne]
      · rw [zk 2]
        by_cases hk : c + 1 < σ 0
        · simp (disch := omega) only [l_0, l_1, l_2, l_3, l_4, l_5, l_6, l_7, l_8, l_9, l_10, l_12, l_20, l_24, l_25, l_31, l_32, l_48, l_50, l_56, l_57, l_59, l_97, l_99, l_100, l_120, l_122, l_177, l_178, l_201, l_226, l_255, l_400, l_420, l_600, l_700, l_840, l_1000, l_1300, l_2000, l_1000000, nI_add, mr4, ml4, mr5, ml5, mr6, ml6, mr10, ml10, mr24, ml24, mr201, ml201, mr420, ml420, mr226, ml226, mr2, ml2, nI_clamp, lt_T, lt_F, le_T, le_F, eq_T, eq_F, ck_n, dv_n, cp_n, rem_n, pk_div, at1_same, at1_ne, cb_n, Option.bind_some, if_pos, if_neg, ↓reduceIte, and_self, and_true, true_and, and_false, false_and, not_true_eq_false, not_false_eq_true, nI_sub', zz_add, zz_sub, zz_mul, zn_add, nz_add, zn_sub, nz_sub, zn_mul, nz_mul, z_neg, n_neg, zlt_T, zlt_F, zle_T, zle_F, zeq_T, zeq_F, zn_lt, nz_lt, zn_le, nz_le, zn_eq, nz_eq, I2 hk, I4, zm1]
          refine .inl ⟨6 * r + c, 6 * r + c + 1, -(σ (2 + (c + 1)) : Int), 1, _, ⟨by omega, by omega, by omega, by omega, by omega, .inr (.inr (.inl ⟨rfl, by omega, rfl, rfl, rfl⟩))⟩, rfl, ⟨?_, ?_, .inr ⟨?_, ?_, by omega⟩⟩, ⟨fun c hc => ?_, fun j hj => ?_⟩⟩
          all_goals simp (disch := omega) only [at1_same, at1_ne]
          rfl
        · simp (disch := omega) only [l_0, l_1, l_2, l_3, l_4, l_5, l_6, l_7, l_8, l_9, l_10, l_12, l_20, l_24, l_25, l_31, l_32, l_48, l_50, l_56, l_57, l_59, l_97, l_99, l_100, l_120, l_122, l_177, l_178, l_201, l_226, l_255, l_400, l_420, l_600, l_700, l_840, l_1000, l_1300, l_2000, l_1000000, nI_add, mr4, ml4, mr5, ml5, mr6, ml6, mr10, ml10, mr24, ml24, mr201, ml201, mr420, ml420, mr226, ml226, mr2, ml2, nI_clamp, lt_T, lt_F, le_T, le_F, eq_T, eq_F, ck_n, dv_n, cp_n, rem_n, pk_div, at1_same, at1_ne, cb_n, Option.bind_some, if_pos, if_neg, ↓reduceIte, and_self, and_true, true_and, and_false, false_and, not_true_eq_false, not_false_eq_true, nI_sub', zz_add, zz_sub, zz_mul, zn_add, nz_add, zn_sub, nz_sub, zn_mul, nz_mul, z_neg, n_neg, zlt_T, zlt_F, zle_T, zle_F, zeq_T, zeq_F, zn_lt, nz_lt, zn_le, nz_le, zn_eq, nz_eq, I3 hk, zm1]
          refine .inr ⟨fun A B x y h => by unfold Ef at h; omega, _, rfl, ⟨fun c hc => ?_, fun j hj => ?_⟩⟩
          all_goals simp (disch := omega) only [at1_same, at1_ne]
      · rw [zk 3]
        by_cases hk : 1 ≤ c
        · simp (disch := omega) only [l_0, l_1, l_2, l_3, l_4, l_5, l_6, l_7, l_8, l_9, l_10, l_12, l_20, l_24, l_25, l_31, l_32, l_48, l_50, l_56, l_57, l_59, l_97, l_99, l_100, l_120, l_122, l_177, l_178, l_201, l_226, l_255, l_400, l_420, l_600, l_700, l_840, l_1000, l_1300, l_2000, l_1000000, nI_add, mr4, ml4, mr5, ml5, mr6, ml6, mr10, ml10, mr24, ml24, mr201, ml201, mr420, ml420, mr226, ml226, mr2, ml2, nI_clamp, lt_T, lt_F, le_T, le_F, eq_T, eq_F, ck_n, dv_n, cp_n, rem_n, pk_div, at1_same, at1_ne, cb_n, Option.bind_some, if_pos, if_neg, ↓reduceIte, and_self, and_true, true_and, and_false, false_and, not_true_eq_false, not_false_eq_true, nI_sub', zz_add, zz_sub, zz_mul, zn_add, nz_add, zn_sub, nz_sub, zn_mul, nz_mul, z_neg, n_neg, zlt_T, zlt_F, zle_T, zle_F, zeq_T, zeq_F, zn_lt, nz_lt, zn_le, nz_le, zn_eq, nz_eq, I4, zm1]
          refine .inl ⟨6 * r + c, 6 * r + c - 1, -1, (σ (2 + c) : Int), _, ⟨by omega, by omega, by omega, by omega, by omega, .inr (.inr (.inr (.inl ⟨rfl, by omega, rfl, by omega, rfl⟩)))⟩, rfl, ⟨?_, ?_, .inr ⟨?_, ?_, by omega⟩⟩, ⟨fun c hc => ?_, fun j hj => ?_⟩⟩
          all_goals simp (disch := omega) only [at1_same, at1_ne, zI_c]
        · simp (disch := omega) only [l_0, l_1, l_2, l_3, l_4, l_5, l_6, l_7, l_8, l_9, l_10, l_12, l_20, l_24, l_25, l_31, l_32, l_48, l_50, l_56, l_57, l_59, l_97, l_99, l_100, l_120, l_122, l_177, l_178, l_201, l_226, l_255, l_400, l_420, l_600, l_700, l_840, l_1000, l_1300, l_2000, l_1000000, nI_add, mr4, ml4, mr5, ml5, mr6, ml6, mr10, ml10, mr24, ml24, mr201, ml201, mr420, ml420, mr226, ml226, mr2, ml2, nI_clamp, lt_T, lt_F, le_T, le_F, eq_T, eq_F, ck_n, dv_n, cp_n, rem_n, pk_div, at1_same, at1_ne, cb_n, Option.bind_some, if_pos, if_neg, ↓reduceIte, and_self, and_true, true_and, and_false, false_and, not_true_eq_false, not_false_eq_true, nI_sub', zz_add, zz_sub, zz_mul, zn_add, nz_add, zn_sub, nz_sub, zn_mul, nz_mul, z_neg, n_neg, zlt_T, zlt_F, zle_T, zle_F, zeq_T, zeq_F, zn_lt, nz_lt, zn_le, nz_le, zn_eq, nz_eq, zm1]
          refine .inr ⟨fun A B x y h => by unfold Ef at h; omega, _, rfl, ⟨fun c hc => ?_, fun j hj => ?_⟩⟩
          all_goals simp (disch := omega) only [at1_same, at1_ne]
      · rw [zk 4]
        by_cases ho : 0 ≤ o ∧ o < (σ 1 : Int)
        · obtain ⟨o, rfl⟩ := Int.eq_ofNat_of_zero_le ho.1
          have ho' : o < σ 1 := by omega
          have I5 : ∀ q, f_X10_isRow F (mr M 0 q) LM (nI o) = some (nI 1) := fun q => isRow_n (StM_0 hM q) h1 F ho'
          rw [in199 F k1 k2]
          simp only [zI_c]
          by_cases hor : o = r
          · simp (disch := omega) only [l_0, l_1, l_2, l_3, l_4, l_5, l_6, l_7, l_8, l_9, l_10, l_12, l_20, l_24, l_25, l_31, l_32, l_48, l_50, l_56, l_57, l_59, l_97, l_99, l_100, l_120, l_122, l_177, l_178, l_201, l_226, l_255, l_400, l_420, l_600, l_700, l_840, l_1000, l_1300, l_2000, l_1000000, nI_add, mr4, ml4, mr5, ml5, mr6, ml6, mr10, ml10, mr24, ml24, mr201, ml201, mr420, ml420, mr226, ml226, mr2, ml2, nI_clamp, lt_T, lt_F, le_T, le_F, eq_T, eq_F, ck_n, dv_n, cp_n, rem_n, pk_div, at1_same, at1_ne, cb_n, Option.bind_some, if_pos, if_neg, ↓reduceIte, and_self, and_true, true_and, and_false, false_and, not_true_eq_false, not_false_eq_true, nI_sub', zz_add, zz_sub, zz_mul, zn_add, nz_add, zn_sub, nz_sub, zn_mul, nz_mul, z_neg, n_neg, zlt_T, zlt_F, zle_T, zle_F, zeq_T, zeq_F, zn_lt, nz_lt, zn_le, nz_le, zn_eq, nz_eq, I5, zm1]
            refine .inr ⟨fun A B x y h => by unfold Ef at h; omega, _, rfl, ⟨fun c hc => ?_, fun j hj => ?_⟩⟩
            all_goals simp (disch := omega) only [at1_same, at1_ne]
          · by_cases hk : 1 ≤ k ∧ k ≤ 99
            · simp (disch := omega) only [l_0, l_1, l_2, l_3, l_4, l_5, l_6, l_7, l_8, l_9, l_10, l_12, l_20, l_24, l_25, l_31, l_32, l_48, l_50, l_56, l_57, l_59, l_97, l_99, l_100, l_120, l_122, l_177, l_178, l_201, l_226, l_255, l_400, l_420, l_600, l_700, l_840, l_1000, l_1300, l_2000, l_1000000, nI_add, mr4, ml4, mr5, ml5, mr6, ml6, mr10, ml10, mr24, ml24, mr201, ml201, mr420, ml420, mr226, ml226, mr2, ml2, nI_clamp, lt_T, lt_F, le_T, le_F, eq_T, eq_F, ck_n, dv_n, cp_n, rem_n, pk_div, at1_same, at1_ne, cb_n, Option.bind_some, if_pos, if_neg, ↓reduceIte, and_self, and_true, true_and, and_false, false_and, not_true_eq_false, not_false_eq_true, nI_sub', zz_add, zz_sub, zz_mul, zn_add, nz_add, zn_sub, nz_sub, zn_mul, nz_mul, z_neg, n_neg, zlt_T, zlt_F, zle_T, zle_F, zeq_T, zeq_F, zn_lt, nz_lt, zn_le, nz_le, zn_eq, nz_eq, I5, zm1]
              refine .inl ⟨6 * r + c, 6 * o + c, -k, k, _, ⟨by omega, by omega, by omega, by omega, by omega, .inr (.inr (.inr (.inr ⟨rfl, by omega, by omega, by omega, hk.1, hk.2, rfl, by omega, rfl⟩)))⟩, rfl, ⟨?_, ?_, .inr ⟨?_, ?_, by omega⟩⟩, ⟨fun c hc => ?_, fun j hj => ?_⟩⟩
              all_goals simp (disch := omega) only [at1_same, at1_ne]
            · simp (disch := omega) only [l_0, l_1, l_2, l_3, l_4, l_5, l_6, l_7, l_8, l_9, l_10, l_12, l_20, l_24, l_25, l_31, l_32, l_48, l_50, l_56, l_57, l_59, l_97, l_99, l_100, l_120, l_122, l_177, l_178, l_201, l_226, l_255, l_400, l_420, l_600, l_700, l_840, l_1000, l_1300, l_2000, l_1000000, nI_add, mr4, ml4, mr5, ml5, mr6, ml6, mr10, ml10, mr24, ml24, mr201, ml201, mr420, ml420, mr226, ml226, mr2, ml2, nI_clamp, lt_T, lt_F, le_T, le_F, eq_T, eq_F, ck_n, dv_n, cp_n, rem_n, pk_div, at1_same, at1_ne, cb_n, Option.bind_some, if_pos, if_neg, ↓reduceIte, and_self, and_true, true_and, and_false, false_and, not_true_eq_false, not_false_eq_true, nI_sub', zz_add, zz_sub, zz_mul, zn_add, nz_add, zn_sub, nz_sub, zn_mul, nz_mul, z_neg, n_neg, zlt_T, zlt_F, zle_T, zle_F, zeq_T, zeq_F, zn_lt, nz_lt, zn_le, nz_le, zn_eq, nz_eq, I5, zm1]
              refine .inr ⟨fun A B x y h => by unfold Ef at h; omega, _, rfl, ⟨fun c hc => ?_, fun j hj => ?_⟩⟩
              all_goals simp (disch := omega) only [at1_same, at1_ne]
        · have I6 : ∀ q, f_X10_isRow F (mr M 0 q) LM (zI o) = some (nI 0) := fun q => isRow_x (StM_0 hM q) h1 F ho o1 o2
          simp (disch := omega) only [l_0, l_1, l_2, l_3, l_4, l_5, l_6, l_7, l_8, l_9, l_10, l_12, l_20, l_24, l_25, l_31, l_32, l_48, l_50, l_56, l_57, l_59, l_97, l_99, l_100, l_120, l_122, l_177, l_178, l_201, l_226, l_255, l_400, l_420, l_600, l_700, l_840, l_1000, l_1300, l_2000, l_1000000, nI_add, mr4, ml4, mr5, ml5, mr6, ml6, mr10, ml10, mr24, ml24, mr201, ml201, mr420, ml420, mr226, ml226, mr2, ml2, nI_clamp, lt_T, lt_F, le_T, le_F, eq_T, eq_F, ck_n, dv_n, cp_n, rem_n, pk_div, at1_same, at1_ne, cb_n, Option.bind_some, if_pos, if_neg, ↓reduceIte, and_self, and_true, true_and, and_false, false_and, not_true_eq_false, not_false_eq_true, nI_sub', zz_add, zz_sub, zz_mul, zn_add, nz_add, zn_sub, nz_sub, zn_mul, nz_mul, z_neg, n_neg, zlt_T, zlt_F, zle_T, zle_F, zeq_T, zeq_F, zn_lt, nz_lt, zn_le, nz_le, zn_eq, nz_eq, I6, zm1]
          refine .inr ⟨fun A B x y h => by unfold Ef at h; omega, _, rfl, ⟨fun c hc => ?_, fun j hj => ?_⟩⟩
          all_goals simp (disch := omega) only [at1_same, at1_ne]
    · have I1 : ∀ q, f_X10_isCell F (mr M 0 q) LM (zI r) (zI c) = some (nI 0) := fun q => isCell_x (StM_0 hM q) h0 h1 F hx r1 r2 c1 c2
      rw [if_pos hκ]
      simp only [Option.bind_some, I1]
      rw [if_neg n10, if_pos n00]
      refine .inr ⟨fun A B x y h => by unfold Ef at h; omega, _, rfl, ⟨fun c hc => ?_, fun j hj => ?_⟩⟩
      all_goals simp (disch := omega) only [at1_same, at1_ne]
  · rw [if_neg hκ]
    simp (disch := omega) only [l_0, l_1, l_2, l_3, l_4, l_5, l_6, l_7, l_8, l_9, l_10, l_12, l_20, l_24, l_25, l_31, l_32, l_48, l_50, l_56, l_57, l_59, l_97, l_99, l_100, l_120, l_122, l_177, l_178, l_201, l_226, l_255, l_400, l_420, l_600, l_700, l_840, l_1000, l_1300, l_2000, l_1000000, nI_add, mr4, ml4, mr5, ml5, mr6, ml6, mr10, ml10, mr24, ml24, mr201, ml201, mr420, ml420, mr226, ml226, mr2, ml2, nI_clamp, lt_T, lt_F, le_T, le_F, eq_T, eq_F, ck_n, dv_n, cp_n, rem_n, pk_div, at1_same, at1_ne, cb_n, Option.bind_some, if_pos, if_neg, ↓reduceIte, and_self, and_true, true_and, and_false, false_and, not_true_eq_false, not_false_eq_true, nI_sub', zz_add, zz_sub, zz_mul, zn_add, nz_add, zn_sub, nz_sub, zn_mul, nz_mul, z_neg, n_neg, zlt_T, zlt_F, zle_T, zle_F, zeq_T, zeq_F, zn_lt, nz_lt, zn_le, nz_le, zn_eq, nz_eq, zm1]
    refine .inr ⟨fun A B x y h => by unfold Ef at h; omega, _, rfl, ⟨fun c hc => ?_, fun j hj => ?_⟩⟩
    all_goals simp (disch := omega) only [at1_same, at1_ne]
/-! cells as they are laid -/
def CeM (M : Mem) (ce : Nat → Int) : Prop := ∀ j, j < 24 → M 4 j = zI (ce j)
def CeC (C : Mem) (ce : Nat → Int) : Prop := ∀ j, j < 24 → C 3 j = zI (ce j)
def apE (ce : Nat → Int) (A B : Nat) (x y t : Int) : Nat → Int := fun j => ce j + (if j = A then t * x else 0) + (if j = B then t * y else 0)
def fitC (ce : Nat → Int) (A B : Nat) (x y : Int) : Prop := (0 ≤ ce A + x ∧ ce A + x ≤ 99) ∧ 0 ≤ ce B + y ∧ ce B + y ≤ 99
def fitR (ce : Nat → Int) (A B : Nat) (x y : Int) : Prop := (0 ≤ ce A + x ∧ ce A + x ≤ 99) ∧ (B = A ∨ 0 ≤ ce B + y ∧ ce B + y ≤ 99)
def sg8 (σ : Sg) : Nat → Int := fun j => (σ (8 + j) : Int)
theorem CeC_8 {C : Mem} {σ : Sg} (h : StC C σ) : CeC C (sg8 σ) := fun j hj => by rw [cCe h hj]; exact (zI_c _).symm
theorem h_stays {C E : Mem} {ce : Nat → Int} {A B : Nat} {x y : Int} (hc : CeC C ce) (he : Se E A B x y) (hA : A < 24) (hB : B < 24) (b1 : ∀ j, j < 24 → -1000000 ≤ ce j ∧ ce j ≤ 1000000) (x1 : -1000 ≤ x ∧ x ≤ 1000) (y1 : -1000 ≤ y ∧ y ≤ 1000) (F : Nat) : (fitC ce A B x y ∧ f_X0_staysInBounds F C E = some (nI 1)) ∨ (¬ fitC ce A B x y ∧ f_X0_staysInBounds F C E = some (nI 0)) := by
  obtain ⟨e0, e1, e2, e3⟩ := he
  have cA := hc A hA
  have cB := hc B hB
  have bA := b1 A hA
  have bB := b1 B hB
  unfold f_X0_staysInBounds fitC
  rw [e0, e1, e2, e3]
  by_cases g1 : ce A + x < 0
  · exact .inr ⟨by omega, by simp (disch := omega) only [l_0, l_1, l_2, l_3, l_4, l_5, l_6, l_7, l_8, l_9, l_10, l_12, l_20, l_24, l_25, l_31, l_32, l_48, l_50, l_56, l_57, l_59, l_97, l_99, l_100, l_120, l_122, l_177, l_178, l_201, l_226, l_255, l_400, l_420, l_600, l_700, l_840, l_1000, l_1300, l_2000, l_1000000, nI_add, mr4, ml4, mr5, ml5, mr6, ml6, mr10, ml10, mr24, ml24, mr201, ml201, mr420, ml420, mr226, ml226, mr2, ml2, nI_clamp, lt_T, lt_F, le_T, le_F, eq_T, eq_F, ck_n, dv_n, cp_n, rem_n, pk_div, at1_same, at1_ne, cb_n, Option.bind_some, if_pos, if_neg, ↓reduceIte, and_self, and_true, true_and, and_false, false_and, not_true_eq_false, not_false_eq_true, nI_sub', zz_add, zz_sub, zz_mul, zn_add, nz_add, zn_sub, nz_sub, zn_mul, nz_mul, z_neg, n_neg, zlt_T, zlt_F, zle_T, zle_F, zeq_T, zeq_F, zn_lt, nz_lt, zn_le, nz_le, zn_eq, nz_eq, cA, cB]⟩
  · by_cases g2 : 99 < ce A + x
    · exact .inr ⟨by omega, by simp (disch := omega) only [l_0, l_1, l_2, l_3, l_4, l_5, l_6, l_7, l_8, l_9, l_10, l_12, l_20, l_24, l_25, l_31, l_32, l_48, l_50, l_56, l_57, l_59, l_97, l_99, l_100, l_120, l_122, l_177, l_178, l_201, l_226, l_255, l_400, l_420, l_600, l_700, l_840, l_1000, l_1300, l_2000, l_1000000, nI_add, mr4, ml4, mr5, ml5, mr6, ml6, mr10, ml10, mr24, ml24, mr201, ml201, mr420, ml420, mr226, ml226, mr2, ml2, nI_clamp, lt_T, lt_F, le_T, le_F, eq_T, eq_F, ck_n, dv_n, cp_n, rem_n, pk_div, at1_same, at1_ne, cb_n, Option.bind_some, if_pos, if_neg, ↓reduceIte, and_self, and_true, true_and, and_false, false_and, not_true_eq_false, not_false_eq_true, nI_sub', zz_add, zz_sub, zz_mul, zn_add, nz_add, zn_sub, nz_sub, zn_mul, nz_mul, z_neg, n_neg, zlt_T, zlt_F, zle_T, zle_F, zeq_T, zeq_F, zn_lt, nz_lt, zn_le, nz_le, zn_eq, nz_eq, cA, cB]⟩
    · by_cases g3 : ce B + y < 0
      · exact .inr ⟨by omega, by simp (disch := omega) only [l_0, l_1, l_2, l_3, l_4, l_5, l_6, l_7, l_8, l_9, l_10, l_12, l_20, l_24, l_25, l_31, l_32, l_48, l_50, l_56, l_57, l_59, l_97, l_99, l_100, l_120, l_122, l_177, l_178, l_201, l_226, l_255, l_400, l_420, l_600, l_700, l_840, l_1000, l_1300, l_2000, l_1000000, nI_add, mr4, ml4, mr5, ml5, mr6, ml6, mr10, ml10, mr24, ml24, mr201, ml201, mr420, ml420, mr226, ml226, mr2, ml2, nI_clamp, lt_T, lt_F, le_T, le_F, eq_T, eq_F, ck_n, dv_n, cp_n, rem_n, pk_div, at1_same, at1_ne, cb_n, Option.bind_some, if_pos, if_neg, ↓reduceIte, and_self, and_true, true_and, and_false, false_and, not_true_eq_false, not_false_eq_true, nI_sub', zz_add, zz_sub, zz_mul, zn_add, nz_add, zn_sub, nz_sub, zn_mul, nz_mul, z_neg, n_neg, zlt_T, zlt_F, zle_T, zle_F, zeq_T, zeq_F, zn_lt, nz_lt, zn_le, nz_le, zn_eq, nz_eq, cA, cB]⟩
      · by_cases g4 : 99 < ce B + y
        · exact .inr ⟨by omega, by simp (disch := omega) only [l_0, l_1, l_2, l_3, l_4, l_5, l_6, l_7, l_8, l_9, l_10, l_12, l_20, l_24, l_25, l_31, l_32, l_48, l_50, l_56, l_57, l_59, l_97, l_99, l_100, l_120, l_122, l_177, l_178, l_201, l_226, l_255, l_400, l_420, l_600, l_700, l_840, l_1000, l_1300, l_2000, l_1000000, nI_add, mr4, ml4, mr5, ml5, mr6, ml6, mr10, ml10, mr24, ml24, mr201, ml201, mr420, ml420, mr226, ml226, mr2, ml2, nI_clamp, lt_T, lt_F, le_T, le_F, eq_T, eq_F, ck_n, dv_n, cp_n, rem_n, pk_div, at1_same, at1_ne, cb_n, Option.bind_some, if_pos, if_neg, ↓reduceIte, and_self, and_true, true_and, and_false, false_and, not_true_eq_false, not_false_eq_true, nI_sub', zz_add, zz_sub, zz_mul, zn_add, nz_add, zn_sub, nz_sub, zn_mul, nz_mul, z_neg, n_neg, zlt_T, zlt_F, zle_T, zle_F, zeq_T, zeq_F, zn_lt, nz_lt, zn_le, nz_le, zn_eq, nz_eq, cA, cB]⟩
        · exact .inl ⟨by omega, by simp (disch := omega) only [l_0, l_1, l_2, l_3, l_4, l_5, l_6, l_7, l_8, l_9, l_10, l_12, l_20, l_24, l_25, l_31, l_32, l_48, l_50, l_56, l_57, l_59, l_97, l_99, l_100, l_120, l_122, l_177, l_178, l_201, l_226, l_255, l_400, l_420, l_600, l_700, l_840, l_1000, l_1300, l_2000, l_1000000, nI_add, mr4, ml4, mr5, ml5, mr6, ml6, mr10, ml10, mr24, ml24, mr201, ml201, mr420, ml420, mr226, ml226, mr2, ml2, nI_clamp, lt_T, lt_F, le_T, le_F, eq_T, eq_F, ck_n, dv_n, cp_n, rem_n, pk_div, at1_same, at1_ne, cb_n, Option.bind_some, if_pos, if_neg, ↓reduceIte, and_self, and_true, true_and, and_false, false_and, not_true_eq_false, not_false_eq_true, nI_sub', zz_add, zz_sub, zz_mul, zn_add, nz_add, zn_sub, nz_sub, zn_mul, nz_mul, z_neg, n_neg, zlt_T, zlt_F, zle_T, zle_F, zeq_T, zeq_F, zn_lt, nz_lt, zn_le, nz_le, zn_eq, nz_eq, cA, cB]⟩
theorem g_holds (F : Nat) {v : Int} (v1 : -2147483648 ≤ v) (v2 : v < 2147483648) : f_X10_holds F (zI v) = some (if 0 ≤ v ∧ v ≤ 99 then nI 1 else nI 0) := by
  unfold f_X10_holds
  rw [in099 F v1 v2]
  simp only [Option.bind_some, cb_T]
theorem g_fits {M : Mem} {LM : MemL} {ce : Nat → Int} {A B : Nat} {x y : Int} (hc : CeM M ce) (he : Sp M A B x y) (hA : A < 24) (hB : B < 24) (b1 : ∀ j, j < 24 → -1000000 ≤ ce j ∧ ce j ≤ 1000000) (x1 : -1000 ≤ x ∧ x ≤ 1000) (y1 : -1000 ≤ y ∧ y ≤ 1000) (F : Nat) : (fitR ce A B x y ∧ f_X10_fits F M LM = some (nI 1)) ∨ (¬ fitR ce A B x y ∧ f_X10_fits F M LM = some (nI 0)) := by
  obtain ⟨e0, e1, e2⟩ := he
  have cA := hc A hA
  have cB := hc B hB
  have bA := b1 A hA
  have bB := b1 B hB
  have gA := g_holds F (v := ce A + x) (by omega) (by omega)
  have gB := g_holds F (v := ce B + y) (by omega) (by omega)
  unfold f_X10_fits fitR
  rw [e0, e1]
  by_cases g1 : 0 ≤ ce A + x ∧ ce A + x ≤ 99
  · rcases e2 with ⟨e2, rfl, rfl⟩ | ⟨e2, e3, ne⟩
    · rw [e2]
      exact .inl ⟨⟨g1, .inl rfl⟩, by simp (disch := omega) only [l_0, l_1, l_2, l_3, l_4, l_5, l_6, l_7, l_8, l_9, l_10, l_12, l_20, l_24, l_25, l_31, l_32, l_48, l_50, l_56, l_57, l_59, l_97, l_99, l_100, l_120, l_122, l_177, l_178, l_201, l_226, l_255, l_400, l_420, l_600, l_700, l_840, l_1000, l_1300, l_2000, l_1000000, nI_add, mr4, ml4, mr5, ml5, mr6, ml6, mr10, ml10, mr24, ml24, mr201, ml201, mr420, ml420, mr226, ml226, mr2, ml2, nI_clamp, lt_T, lt_F, le_T, le_F, eq_T, eq_F, ck_n, dv_n, cp_n, rem_n, pk_div, at1_same, at1_ne, cb_n, Option.bind_some, if_pos, if_neg, ↓reduceIte, and_self, and_true, true_and, and_false, false_and, not_true_eq_false, not_false_eq_true, nI_sub', zz_add, zz_sub, zz_mul, zn_add, nz_add, zn_sub, nz_sub, zn_mul, nz_mul, z_neg, n_neg, zlt_T, zlt_F, zle_T, zle_F, zeq_T, zeq_F, zn_lt, nz_lt, zn_le, nz_le, zn_eq, nz_eq, cA, gA, zm1]⟩
    · rw [e2, e3]
      by_cases g2 : 0 ≤ ce B + y ∧ ce B + y ≤ 99
      · exact .inl ⟨⟨g1, .inr g2⟩, by simp (disch := omega) only [l_0, l_1, l_2, l_3, l_4, l_5, l_6, l_7, l_8, l_9, l_10, l_12, l_20, l_24, l_25, l_31, l_32, l_48, l_50, l_56, l_57, l_59, l_97, l_99, l_100, l_120, l_122, l_177, l_178, l_201, l_226, l_255, l_400, l_420, l_600, l_700, l_840, l_1000, l_1300, l_2000, l_1000000, nI_add, mr4, ml4, mr5, ml5, mr6, ml6, mr10, ml10, mr24, ml24, mr201, ml201, mr420, ml420, mr226, ml226, mr2, ml2, nI_clamp, lt_T, lt_F, le_T, le_F, eq_T, eq_F, ck_n, dv_n, cp_n, rem_n, pk_div, at1_same, at1_ne, cb_n, Option.bind_some, if_pos, if_neg, ↓reduceIte, and_self, and_true, true_and, and_false, false_and, not_true_eq_false, not_false_eq_true, nI_sub', zz_add, zz_sub, zz_mul, zn_add, nz_add, zn_sub, nz_sub, zn_mul, nz_mul, z_neg, n_neg, zlt_T, zlt_F, zle_T, zle_F, zeq_T, zeq_F, zn_lt, nz_lt, zn_le, nz_le, zn_eq, nz_eq, cA, cB, gA, gB]⟩
      · exact .inr ⟨by omega, by simp (disch := omega) only [l_0, l_1, l_2, l_3, l_4, l_5, l_6, l_7, l_8, l_9, l_10, l_12, l_20, l_24, l_25, l_31, l_32, l_48, l_50, l_56, l_57, l_59, l_97, l_99, l_100, l_120, l_122, l_177, l_178, l_201, l_226, l_255, l_400, l_420, l_600, l_700, l_840, l_1000, l_1300, l_2000, l_1000000, nI_add, mr4, ml4, mr5, ml5, mr6, ml6, mr10, ml10, mr24, ml24, mr201, ml201, mr420, ml420, mr226, ml226, mr2, ml2, nI_clamp, lt_T, lt_F, le_T, le_F, eq_T, eq_F, ck_n, dv_n, cp_n, rem_n, pk_div, at1_same, at1_ne, cb_n, Option.bind_some, if_pos, if_neg, ↓reduceIte, and_self, and_true, true_and, and_false, false_and, not_true_eq_false, not_false_eq_true, nI_sub', zz_add, zz_sub, zz_mul, zn_add, nz_add, zn_sub, nz_sub, zn_mul, nz_mul, z_neg, n_neg, zlt_T, zlt_F, zle_T, zle_F, zeq_T, zeq_F, zn_lt, nz_lt, zn_le, nz_le, zn_eq, nz_eq, cA, cB, gA, gB]⟩
  · exact .inr ⟨by omega, by simp (disch := omega) only [l_0, l_1, l_2, l_3, l_4, l_5, l_6, l_7, l_8, l_9, l_10, l_12, l_20, l_24, l_25, l_31, l_32, l_48, l_50, l_56, l_57, l_59, l_97, l_99, l_100, l_120, l_122, l_177, l_178, l_201, l_226, l_255, l_400, l_420, l_600, l_700, l_840, l_1000, l_1300, l_2000, l_1000000, nI_add, mr4, ml4, mr5, ml5, mr6, ml6, mr10, ml10, mr24, ml24, mr201, ml201, mr420, ml420, mr226, ml226, mr2, ml2, nI_clamp, lt_T, lt_F, le_T, le_F, eq_T, eq_F, ck_n, dv_n, cp_n, rem_n, pk_div, at1_same, at1_ne, cb_n, Option.bind_some, if_pos, if_neg, ↓reduceIte, and_self, and_true, true_and, and_false, false_and, not_true_eq_false, not_false_eq_true, nI_sub', zz_add, zz_sub, zz_mul, zn_add, nz_add, zn_sub, nz_sub, zn_mul, nz_mul, z_neg, n_neg, zlt_T, zlt_F, zle_T, zle_F, zeq_T, zeq_F, zn_lt, nz_lt, zn_le, nz_le, zn_eq, nz_eq, cA, gA]⟩
theorem g_goes {M : Mem} {LM : MemL} {ce : Nat → Int} {A B : Nat} {x y : Int} (hc : CeM M ce) (he : Sp M A B x y) (hA : A < 24) (hB : B < 24) (t : Int) (F : Nat) : ∃ M', f_X10_goes F M LM (zI t) = some M' ∧ CeM M' (apE ce A B x y t) ∧ ∀ c, c ≠ 4 → M' c = M c := by
  obtain ⟨e0, e1, e2⟩ := he
  have cA := hc A hA
  have cB := hc B hB
  unfold f_X10_goes
  rw [e0, e1]
  rcases e2 with ⟨e2, rfl, rfl⟩ | ⟨e2, e3, ne⟩
  · rw [e2]
    have ee : zI (-1) = (-1 : Int32) := rfl
    rw [if_pos ee]
    simp (disch := omega) only [l_0, l_1, l_2, l_3, l_4, l_5, l_6, l_7, l_8, l_9, l_10, l_12, l_20, l_24, l_25, l_31, l_32, l_48, l_50, l_56, l_57, l_59, l_97, l_99, l_100, l_120, l_122, l_177, l_178, l_201, l_226, l_255, l_400, l_420, l_600, l_700, l_840, l_1000, l_1300, l_2000, l_1000000, nI_add, mr4, ml4, mr5, ml5, mr6, ml6, mr10, ml10, mr24, ml24, mr201, ml201, mr420, ml420, mr226, ml226, mr2, ml2, nI_clamp, lt_T, lt_F, le_T, le_F, eq_T, eq_F, ck_n, dv_n, cp_n, rem_n, pk_div, at1_same, at1_ne, cb_n, Option.bind_some, if_pos, if_neg, ↓reduceIte, and_self, and_true, true_and, and_false, false_and, not_true_eq_false, not_false_eq_true, nI_sub', zz_add, zz_sub, zz_mul, zn_add, nz_add, zn_sub, nz_sub, zn_mul, nz_mul, z_neg, n_neg, zlt_T, zlt_F, zle_T, zle_F, zeq_T, zeq_F, zn_lt, nz_lt, zn_le, nz_le, zn_eq, nz_eq, cA]
    refine ⟨_, rfl, fun j hj => ?_, fun c hc => mr_n _ _ hc⟩
    rw [mr_s, upd_at]
    unfold apE
    by_cases q : j = B
    · subst q
      rw [if_pos rfl, if_pos rfl, if_pos rfl, Int.mul_zero, Int.add_zero]
    · rw [if_neg q, if_neg q, if_neg q, Int.add_zero, Int.add_zero]
      exact hc j hj
  · rw [e2, e3]
    have ee : ¬ nI B = (-1 : Int32) := fun z => by
      have := congrArg Int32.toInt z
      rw [nI_toInt (by omega)] at this
      have h2 : (-1 : Int32).toInt = -1 := by decide
      omega
    rw [if_neg ee]
    simp (disch := omega) only [l_0, l_1, l_2, l_3, l_4, l_5, l_6, l_7, l_8, l_9, l_10, l_12, l_20, l_24, l_25, l_31, l_32, l_48, l_50, l_56, l_57, l_59, l_97, l_99, l_100, l_120, l_122, l_177, l_178, l_201, l_226, l_255, l_400, l_420, l_600, l_700, l_840, l_1000, l_1300, l_2000, l_1000000, nI_add, mr4, ml4, mr5, ml5, mr6, ml6, mr10, ml10, mr24, ml24, mr201, ml201, mr420, ml420, mr226, ml226, mr2, ml2, nI_clamp, lt_T, lt_F, le_T, le_F, eq_T, eq_F, ck_n, dv_n, cp_n, rem_n, pk_div, at1_same, at1_ne, cb_n, Option.bind_some, if_pos, if_neg, ↓reduceIte, and_self, and_true, true_and, and_false, false_and, not_true_eq_false, not_false_eq_true, nI_sub', zz_add, zz_sub, zz_mul, zn_add, nz_add, zn_sub, nz_sub, zn_mul, nz_mul, z_neg, n_neg, zlt_T, zlt_F, zle_T, zle_F, zeq_T, zeq_F, zn_lt, nz_lt, zn_le, nz_le, zn_eq, nz_eq, cA, cB, upd_at]
    refine ⟨_, rfl, fun j hj => ?_, fun c hc => mr_n _ _ hc⟩
    rw [mr_s]
    unfold apE
    by_cases q : j = B
    · subst q
      rw [if_pos rfl, if_neg ne, Int.add_zero, upd_at, if_pos rfl]
    · by_cases q2 : j = A
      · subst q2
        rw [upd_at, if_neg q, upd_at, if_pos rfl, if_pos rfl, if_neg q, Int.add_zero]
      · rw [upd_at, if_neg q, upd_at, if_neg q2, if_neg q2, if_neg q, Int.add_zero, Int.add_zero]
        exact hc j hj
theorem h_apply {C E : Mem} {ce : Nat → Int} {A B : Nat} {x y : Int} (hc : CeC C ce) (he : Se E A B x y) (hA : A < 24) (hB : B < 24) (F : Nat) : ∃ C', f_X0_apply F C E = some C' ∧ CeC C' (apE ce A B x y 1) ∧ ∀ c, c ≠ 3 → C' c = C c := by
  obtain ⟨e0, e1, e2, e3⟩ := he
  have cA := hc A hA
  have cB := hc B hB
  unfold f_X0_apply
  rw [e0, e1, e2, e3]
  simp (disch := omega) only [l_0, l_1, l_2, l_3, l_4, l_5, l_6, l_7, l_8, l_9, l_10, l_12, l_20, l_24, l_25, l_31, l_32, l_48, l_50, l_56, l_57, l_59, l_97, l_99, l_100, l_120, l_122, l_177, l_178, l_201, l_226, l_255, l_400, l_420, l_600, l_700, l_840, l_1000, l_1300, l_2000, l_1000000, nI_add, mr4, ml4, mr5, ml5, mr6, ml6, mr10, ml10, mr24, ml24, mr201, ml201, mr420, ml420, mr226, ml226, mr2, ml2, nI_clamp, lt_T, lt_F, le_T, le_F, eq_T, eq_F, ck_n, dv_n, cp_n, rem_n, pk_div, at1_same, at1_ne, cb_n, Option.bind_some, if_pos, if_neg, ↓reduceIte, and_self, and_true, true_and, and_false, false_and, not_true_eq_false, not_false_eq_true, nI_sub', zz_add, zz_sub, zz_mul, zn_add, nz_add, zn_sub, nz_sub, zn_mul, nz_mul, z_neg, n_neg, zlt_T, zlt_F, zle_T, zle_F, zeq_T, zeq_F, zn_lt, nz_lt, zn_le, nz_le, zn_eq, nz_eq, cA]
  refine ⟨_, rfl, fun j hj => ?_, fun c hc => mr_n _ _ hc⟩
  rw [mr_s]
  unfold apE
  simp only [upd_at, Int.one_mul]
  by_cases q : j = B
  · subst q
    rw [if_pos rfl, if_pos rfl]
    by_cases q2 : j = A
    · rw [if_pos q2, if_pos q2, zz_add]
      subst q2
      rfl
    · rw [if_neg q2, if_neg q2, cB, zz_add, Int.add_zero]
  · rw [if_neg q, if_neg q]
    by_cases q2 : j = A
    · rw [if_pos q2, if_pos q2, Int.add_zero]
      subst q2
      rfl
    · rw [if_neg q2, if_neg q2, Int.add_zero, Int.add_zero]
      exact hc j hj
