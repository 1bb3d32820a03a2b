/-! PURE LAYER: answers alike: apart, missing, fullest -/
theorem m_apLoop {C M : Mem} {LM : MemL} {σ : Sg} (hC : StC C σ) (hM : StM M σ) (hs : okS σ) {F : Nat} {r q : Nat} (hr : r < 4) (hq : q < 4) : ∀ (d i n : Nat) (a b : Int32), i + d + 1 = σ 0 → d < n → ∃ v, f_X5_movesApart_9 F C (nI r) (nI q) (fun x => some x) n a b (nI i) = some v ∧ f_X10_apart_42 F M LM (nI r) (nI q) (fun x => some x) n a b (nI i) = some v
  | d, i, 0, a, b, _, h => by omega
  | d, i, n + 1, a, b, hi, hn => by
    have h0 := kC hs
    unfold f_X5_movesApart_9 f_X10_apart_42
    cases d with
    | zero =>
      simp (disch := omega) only [l_0, l_1, l_2, l_3, l_4, l_5, l_6, l_7, l_8, l_9, l_10, l_12, l_20, l_24, l_25, l_31, l_32, l_48, l_50, l_56, l_57, l_59, l_97, l_99, l_100, l_120, l_122, l_177, l_178, l_201, l_226, l_255, l_400, l_420, l_600, l_700, l_840, l_1000, l_1300, l_2000, l_1000000, nI_add, mr4, ml4, mr5, ml5, mr6, ml6, mr10, ml10, mr24, ml24, mr201, ml201, mr420, ml420, mr226, ml226, mr2, ml2, nI_clamp, lt_T, lt_F, le_T, le_F, eq_T, eq_F, ck_n, dv_n, cp_n, rem_n, pk_div, at1_same, at1_ne, cb_n, Option.bind_some, if_pos, if_neg, ↓reduceIte, and_self, and_true, true_and, and_false, false_and, not_true_eq_false, not_false_eq_true, nI_sub', cC hC, mS hM]
      first | exact ⟨a, rfl, rfl⟩ | exact ⟨a, rfl⟩
    | succ d =>
      have hq := kRt hs (j := i + 1) (by omega) (by omega)
      have e : ∀ A B : Int32, A + b - B = A - B + b := fun A B => by rw [Int32.sub_eq_add_neg, Int32.sub_eq_add_neg, Int32.add_assoc, Int32.add_comm b, ← Int32.add_assoc]
      simp (disch := omega) only [l_0, l_1, l_2, l_3, l_4, l_5, l_6, l_7, l_8, l_9, l_10, l_12, l_20, l_24, l_25, l_31, l_32, l_48, l_50, l_56, l_57, l_59, l_97, l_99, l_100, l_120, l_122, l_177, l_178, l_201, l_226, l_255, l_400, l_420, l_600, l_700, l_840, l_1000, l_1300, l_2000, l_1000000, nI_add, mr4, ml4, mr5, ml5, mr6, ml6, mr10, ml10, mr24, ml24, mr201, ml201, mr420, ml420, mr226, ml226, mr2, ml2, nI_clamp, lt_T, lt_F, le_T, le_F, eq_T, eq_F, ck_n, dv_n, cp_n, rem_n, pk_div, at1_same, at1_ne, cb_n, Option.bind_some, if_pos, if_neg, ↓reduceIte, and_self, and_true, true_and, and_false, false_and, not_true_eq_false, not_false_eq_true, nI_sub', cC hC, cRt hC, cCe hC, mS hM, g_now hM, g_ratio hM, Nat.add_assoc, f_X5_movesApart_75, e]
      have ih := fun a b => m_apLoop (LM := LM) hC hM hs (F := F) hr ‹q < 4› d (i + 1) n a b (by omega) (by omega)
      by_cases h : nI 0 ≤ (nI (σ (8 + (6 * r + i))) - nI (σ (8 + (6 * q + i))) + b) / nI (σ (2 + (i + 1)))
      · simp only [h, ↓reduceIte]
        exact ih _ _
      · have z : ∀ y : Int32, nI 0 - y = -y := fun y => Int32.zero_sub y
        simp only [h, ↓reduceIte, z]
        exact ih _ _
theorem m_apart {C M X0 P : Mem} {LM LP : MemL} {wP vP : Bool} {σ : Sg} (hC : StC C σ) (hM : StM M σ) (hs : okS σ) {F : Nat} (hF : 10 ≤ F) (x y : Int32) : ∃ v, f_X9_apart F X0 C P LP wP vP x y = some v ∧ f_X10_apart F M LM x y = some v := by
  have h0 := kC hs
  have h1 := kR hs
  have h01 := kCR hs
  obtain ⟨x, x1, x2, rfl⟩ := zI_of x
  obtain ⟨y, y1, y2, rfl⟩ := zI_of y
  unfold f_X9_apart f_X10_apart
  by_cases hx : 0 ≤ x ∧ x < (σ 1 : Int)
  · obtain ⟨r, rfl⟩ := Int.eq_ofNat_of_zero_le hx.1
    by_cases hy : 0 ≤ y ∧ y < (σ 1 : Int)
    · obtain ⟨q, rfl⟩ := Int.eq_ofNat_of_zero_le hy.1
      simp only [zI_c]
      simp (disch := omega) only [l_0, l_1, l_2, l_3, l_4, l_5, l_6, l_7, l_8, l_9, l_10, l_12, l_20, l_24, l_25, l_31, l_32, l_48, l_50, l_56, l_57, l_59, l_97, l_99, l_100, l_120, l_122, l_177, l_178, l_201, l_226, l_255, l_400, l_420, l_600, l_700, l_840, l_1000, l_1300, l_2000, l_1000000, nI_add, mr4, ml4, mr5, ml5, mr6, ml6, mr10, ml10, mr24, ml24, mr201, ml201, mr420, ml420, mr226, ml226, mr2, ml2, nI_clamp, lt_T, lt_F, le_T, le_F, eq_T, eq_F, ck_n, dv_n, cp_n, rem_n, pk_div, at1_same, at1_ne, cb_n, Option.bind_some, if_pos, if_neg, ↓reduceIte, and_self, and_true, true_and, and_false, false_and, not_true_eq_false, not_false_eq_true, nI_sub', hasRow_n hC h1 F, hasCol_n hC h0 F, hasRow_x hC h1 F, hasCol_x hC h0 F, isRow_n hM h1 F, isCol_n hM h0 F, isRow_x hM h1 F, isCol_x hM h0 F, hasCol_o hC h0 F, isCol_o hM h0 F, h_sumOf hC h0 hF, g_sumOf hM h0 hF]
      by_cases h : nI (smN σ r (σ 0)) = nI (smN σ q (σ 0))
      · simp only [h, ↓reduceIte]
        obtain ⟨v, e1, e2⟩ := m_apLoop (F := F) (LM := LM) hC hM hs (r := r) (q := q) (by omega) (by omega) (σ 0 - 1) 0 F 0 0 (by omega) (by omega)
        refine ⟨v, ?_, e2⟩
        unfold f_X5_movesApart
        have e1' : f_X5_movesApart_9 F C (nI r) (nI q) (fun x4_93 => some x4_93) F 0 0 0 = some v := e1
        rw [e1']
        rfl
      · simp only [h, ↓reduceIte]
        exact ⟨_, rfl, rfl⟩
    · simp only [zI_c]
      simp (disch := omega) only [l_0, l_1, l_2, l_3, l_4, l_5, l_6, l_7, l_8, l_9, l_10, l_12, l_20, l_24, l_25, l_31, l_32, l_48, l_50, l_56, l_57, l_59, l_97, l_99, l_100, l_120, l_122, l_177, l_178, l_201, l_226, l_255, l_400, l_420, l_600, l_700, l_840, l_1000, l_1300, l_2000, l_1000000, nI_add, mr4, ml4, mr5, ml5, mr6, ml6, mr10, ml10, mr24, ml24, mr201, ml201, mr420, ml420, mr226, ml226, mr2, ml2, nI_clamp, lt_T, lt_F, le_T, le_F, eq_T, eq_F, ck_n, dv_n, cp_n, rem_n, pk_div, at1_same, at1_ne, cb_n, Option.bind_some, if_pos, if_neg, ↓reduceIte, and_self, and_true, true_and, and_false, false_and, not_true_eq_false, not_false_eq_true, nI_sub', zz_add, zz_sub, zz_mul, zn_add, nz_add, zn_sub, nz_sub, zn_mul, nz_mul, z_neg, n_neg, zlt_T, zlt_F, zle_T, zle_F, zeq_T, zeq_F, zn_lt, nz_lt, zn_le, nz_le, zn_eq, nz_eq, hasRow_n hC h1 F, hasCol_n hC h0 F, hasRow_x hC h1 F, hasCol_x hC h0 F, isRow_n hM h1 F, isCol_n hM h0 F, isRow_x hM h1 F, isCol_x hM h0 F, hasCol_o hC h0 F, isCol_o hM h0 F]
      first | exact ⟨_, rfl, rfl⟩ | exact ⟨_, rfl⟩
  · simp (disch := omega) only [l_0, l_1, l_2, l_3, l_4, l_5, l_6, l_7, l_8, l_9, l_10, l_12, l_20, l_24, l_25, l_31, l_32, l_48, l_50, l_56, l_57, l_59, l_97, l_99, l_100, l_120, l_122, l_177, l_178, l_201, l_226, l_255, l_400, l_420, l_600, l_700, l_840, l_1000, l_1300, l_2000, l_1000000, nI_add, mr4, ml4, mr5, ml5, mr6, ml6, mr10, ml10, mr24, ml24, mr201, ml201, mr420, ml420, mr226, ml226, mr2, ml2, nI_clamp, lt_T, lt_F, le_T, le_F, eq_T, eq_F, ck_n, dv_n, cp_n, rem_n, pk_div, at1_same, at1_ne, cb_n, Option.bind_some, if_pos, if_neg, ↓reduceIte, and_self, and_true, true_and, and_false, false_and, not_true_eq_false, not_false_eq_true, nI_sub', zz_add, zz_sub, zz_mul, zn_add, nz_add, zn_sub, nz_sub, zn_mul, nz_mul, z_neg, n_neg, zlt_T, zlt_F, zle_T, zle_F, zeq_T, zeq_F, zn_lt, nz_lt, zn_le, nz_le, zn_eq, nz_eq, hasRow_n hC h1 F, hasCol_n hC h0 F, hasRow_x hC h1 F, hasCol_x hC h0 F, isRow_n hM h1 F, isCol_n hM h0 F, isRow_x hM h1 F, isCol_x hM h0 F, hasCol_o hC h0 F, isCol_o hM h0 F]
    first | exact ⟨_, rfl, rfl⟩ | exact ⟨_, rfl⟩
theorem wo_lt {σ : Sg} (hs : okS σ) {c : Nat} (hc : c < σ 0) : 1 ≤ wo σ c ∧ wo σ c ≤ 3200000 := by
  have h0 := kC hs
  refine ⟨?_, Nat.le_trans (wo_le hs c hc) (Nat.pow_le_pow_right (by decide) (by omega : c ≤ 5))⟩
  induction c with
  | zero => exact Nat.le_refl _
  | succ c ih =>
    have h2 := kRt hs (j := c + 1) (by omega) hc
    exact Nat.mul_pos (ih (by omega)) (by omega)
theorem wo_up {σ : Sg} (hs : okS σ) {c : Nat} (hc : c + 1 < σ 0) : wo σ c < wo σ (c + 1) := by
  have h2 := kRt hs (j := c + 1) (by omega) hc
  have h1 := (wo_lt hs (c := c) (by omega)).1
  have : wo σ c * 2 ≤ wo σ c * σ (2 + (c + 1)) := Nat.mul_le_mul_left _ h2.1
  show wo σ c < wo σ c * σ (2 + (c + 1))
  omega
theorem cw_le {σ : Sg} (hs : okS σ) {j c : Nat} (hj : j < 24) (hc : c < σ 0) : σ (8 + j) * wo σ c ≤ 316800000 := Nat.mul_le_mul (kCe hs hj).1 (wo_lt hs hc).2
theorem g_misTail {M : Mem} {LM : MemL} {σ : Sg} (hM : StM M σ) (hs : okS σ) {F : Nat} (hF : 10 ≤ F) {r ρ : Nat} (hr : r < 4) (hρ : ρ < 2000000000) (k : Int32 → Option Int32) : ∀ (d i n : Nat), i + d = σ 0 → d < n → (i < σ 0 → ρ + 1 < wo σ i) → f_X10_missing_14 F M LM (nI r) k n (nI ρ) (nI i) = k (nI ρ)
  | d, i, 0, _, h, _ => by omega
  | d, i, n + 1, hi, hn, hw => by
    have h0 := kC hs
    unfold f_X10_missing_14
    cases d with
    | zero => simp (disch := omega) only [l_0, l_1, l_2, l_3, l_4, l_5, l_6, l_7, l_8, l_9, l_10, l_12, l_20, l_24, l_25, l_31, l_32, l_48, l_50, l_56, l_57, l_59, l_97, l_99, l_100, l_120, l_122, l_177, l_178, l_201, l_226, l_255, l_400, l_420, l_600, l_700, l_840, l_1000, l_1300, l_2000, l_1000000, nI_add, mr4, ml4, mr5, ml5, mr6, ml6, mr10, ml10, mr24, ml24, mr201, ml201, mr420, ml420, mr226, ml226, mr2, ml2, nI_clamp, lt_T, lt_F, le_T, le_F, eq_T, eq_F, ck_n, dv_n, cp_n, rem_n, pk_div, at1_same, at1_ne, cb_n, Option.bind_some, if_pos, if_neg, ↓reduceIte, and_self, and_true, true_and, and_false, false_and, not_true_eq_false, not_false_eq_true, nI_sub', mS hM]
    | succ d =>
      have hw' := hw (by omega)
      have wl := wo_lt hs (c := i) (by omega)
      have ih := g_misTail (LM := LM) hM hs hF (r := r) hr hρ k d (i + 1) n (by omega) (by omega) (fun q => by have := wo_up hs (c := i) q; omega)
      have kc := kCe hs (j := 6 * r + i) (by omega)
      by_cases h : σ (8 + (6 * r + i)) = 0
      · simp (disch := omega) only [l_0, l_1, l_2, l_3, l_4, l_5, l_6, l_7, l_8, l_9, l_10, l_12, l_20, l_24, l_25, l_31, l_32, l_48, l_50, l_56, l_57, l_59, l_97, l_99, l_100, l_120, l_122, l_177, l_178, l_201, l_226, l_255, l_400, l_420, l_600, l_700, l_840, l_1000, l_1300, l_2000, l_1000000, nI_add, mr4, ml4, mr5, ml5, mr6, ml6, mr10, ml10, mr24, ml24, mr201, ml201, mr420, ml420, mr226, ml226, mr2, ml2, nI_clamp, lt_T, lt_F, le_T, le_F, eq_T, eq_F, ck_n, dv_n, cp_n, rem_n, pk_div, at1_same, at1_ne, cb_n, Option.bind_some, if_pos, if_neg, ↓reduceIte, and_self, and_true, true_and, and_false, false_and, not_true_eq_false, not_false_eq_true, nI_sub', mS hM, g_now hM, Nat.add_assoc]
        exact ih
      · simp (disch := omega) only [l_0, l_1, l_2, l_3, l_4, l_5, l_6, l_7, l_8, l_9, l_10, l_12, l_20, l_24, l_25, l_31, l_32, l_48, l_50, l_56, l_57, l_59, l_97, l_99, l_100, l_120, l_122, l_177, l_178, l_201, l_226, l_255, l_400, l_420, l_600, l_700, l_840, l_1000, l_1300, l_2000, l_1000000, nI_add, mr4, ml4, mr5, ml5, mr6, ml6, mr10, ml10, mr24, ml24, mr201, ml201, mr420, ml420, mr226, ml226, mr2, ml2, nI_clamp, lt_T, lt_F, le_T, le_F, eq_T, eq_F, ck_n, dv_n, cp_n, rem_n, pk_div, at1_same, at1_ne, cb_n, Option.bind_some, if_pos, if_neg, ↓reduceIte, and_self, and_true, true_and, and_false, false_and, not_true_eq_false, not_false_eq_true, nI_sub', mS hM, g_now hM, g_worthOf hM hF, Nat.add_assoc]
        exact ih
theorem g_misSome {M : Mem} {LM : MemL} {σ : Sg} (hM : StM M σ) (hs : okS σ) {F : Nat} (hF : 10 ≤ F) {r : Nat} (hr : r < 4) (k : Int32 → Option Int32) (hk : ∀ a, ∃ v, k a = some v) : ∀ (d i n ρ : Nat), i + d = σ 0 → d < n → ρ ≤ 316800000 * i → ∃ v, f_X10_missing_14 F M LM (nI r) k n (nI ρ) (nI i) = some v
  | d, i, 0, ρ, _, h, _ => by omega
  | d, i, n + 1, ρ, hi, hn, hρ => by
    have h0 := kC hs
    unfold f_X10_missing_14
    cases d with
    | zero =>
      simp (disch := omega) only [l_0, l_1, l_2, l_3, l_4, l_5, l_6, l_7, l_8, l_9, l_10, l_12, l_20, l_24, l_25, l_31, l_32, l_48, l_50, l_56, l_57, l_59, l_97, l_99, l_100, l_120, l_122, l_177, l_178, l_201, l_226, l_255, l_400, l_420, l_600, l_700, l_840, l_1000, l_1300, l_2000, l_1000000, nI_add, mr4, ml4, mr5, ml5, mr6, ml6, mr10, ml10, mr24, ml24, mr201, ml201, mr420, ml420, mr226, ml226, mr2, ml2, nI_clamp, lt_T, lt_F, le_T, le_F, eq_T, eq_F, ck_n, dv_n, cp_n, rem_n, pk_div, at1_same, at1_ne, cb_n, Option.bind_some, if_pos, if_neg, ↓reduceIte, and_self, and_true, true_and, and_false, false_and, not_true_eq_false, not_false_eq_true, nI_sub', mS hM]
      exact hk _
    | succ d =>
      have wl := wo_lt hs (c := i) (by omega)
      have cw := cw_le hs (j := 6 * r + i) (c := i) (by omega) (by omega)
      have kc := kCe hs (j := 6 * r + i) (by omega)
      have ih := fun ρ h => g_misSome (LM := LM) hM hs hF hr k hk d (i + 1) n ρ (by omega) (by omega) h
      by_cases h : σ (8 + (6 * r + i)) = 0
      · simp (disch := omega) only [l_0, l_1, l_2, l_3, l_4, l_5, l_6, l_7, l_8, l_9, l_10, l_12, l_20, l_24, l_25, l_31, l_32, l_48, l_50, l_56, l_57, l_59, l_97, l_99, l_100, l_120, l_122, l_177, l_178, l_201, l_226, l_255, l_400, l_420, l_600, l_700, l_840, l_1000, l_1300, l_2000, l_1000000, nI_add, mr4, ml4, mr5, ml5, mr6, ml6, mr10, ml10, mr24, ml24, mr201, ml201, mr420, ml420, mr226, ml226, mr2, ml2, nI_clamp, lt_T, lt_F, le_T, le_F, eq_T, eq_F, ck_n, dv_n, cp_n, rem_n, pk_div, at1_same, at1_ne, cb_n, Option.bind_some, if_pos, if_neg, ↓reduceIte, and_self, and_true, true_and, and_false, false_and, not_true_eq_false, not_false_eq_true, nI_sub', mS hM, g_now hM, Nat.add_assoc]
        exact ih ρ (by omega)
      · by_cases hw : ρ + 1 < wo σ i
        · simp (disch := omega) only [l_0, l_1, l_2, l_3, l_4, l_5, l_6, l_7, l_8, l_9, l_10, l_12, l_20, l_24, l_25, l_31, l_32, l_48, l_50, l_56, l_57, l_59, l_97, l_99, l_100, l_120, l_122, l_177, l_178, l_201, l_226, l_255, l_400, l_420, l_600, l_700, l_840, l_1000, l_1300, l_2000, l_1000000, nI_add, mr4, ml4, mr5, ml5, mr6, ml6, mr10, ml10, mr24, ml24, mr201, ml201, mr420, ml420, mr226, ml226, mr2, ml2, nI_clamp, lt_T, lt_F, le_T, le_F, eq_T, eq_F, ck_n, dv_n, cp_n, rem_n, pk_div, at1_same, at1_ne, cb_n, Option.bind_some, if_pos, if_neg, ↓reduceIte, and_self, and_true, true_and, and_false, false_and, not_true_eq_false, not_false_eq_true, nI_sub', mS hM, g_now hM, g_worthOf hM hF, Nat.add_assoc]
          exact ih ρ (by omega)
        · simp (disch := omega) only [l_0, l_1, l_2, l_3, l_4, l_5, l_6, l_7, l_8, l_9, l_10, l_12, l_20, l_24, l_25, l_31, l_32, l_48, l_50, l_56, l_57, l_59, l_97, l_99, l_100, l_120, l_122, l_177, l_178, l_201, l_226, l_255, l_400, l_420, l_600, l_700, l_840, l_1000, l_1300, l_2000, l_1000000, nI_add, mr4, ml4, mr5, ml5, mr6, ml6, mr10, ml10, mr24, ml24, mr201, ml201, mr420, ml420, mr226, ml226, mr2, ml2, nI_clamp, lt_T, lt_F, le_T, le_F, eq_T, eq_F, ck_n, dv_n, cp_n, rem_n, pk_div, at1_same, at1_ne, cb_n, Option.bind_some, if_pos, if_neg, ↓reduceIte, and_self, and_true, true_and, and_false, false_and, not_true_eq_false, not_false_eq_true, nI_sub', mS hM, g_now hM, g_worthOf hM hF, nI_mul', Nat.add_assoc]
          exact ih _ (by omega)
theorem m_misLoop {C M : Mem} {LM : MemL} {σ : Sg} (hC : StC C σ) (hM : StM M σ) (hs : okS σ) {F : Nat} (hF : 10 ≤ F) {r : Nat} (hr : r < 4) (k : Int32 → Option Int32) : ∀ (d i n ρ : Nat), i + d = σ 0 → d < n → ρ ≤ 316800000 * i → f_X5_leastMissing_5 F C (nI r) k n (nI ρ) (nI i) = f_X10_missing_14 F M LM (nI r) k n (nI ρ) (nI i)
  | d, i, 0, ρ, _, h, _ => by omega
  | d, i, n + 1, ρ, hi, hn, hρ => by
    have h0 := kC hs
    cases d with
    | zero =>
      unfold f_X5_leastMissing_5 f_X10_missing_14
      simp (disch := omega) only [l_0, l_1, l_2, l_3, l_4, l_5, l_6, l_7, l_8, l_9, l_10, l_12, l_20, l_24, l_25, l_31, l_32, l_48, l_50, l_56, l_57, l_59, l_97, l_99, l_100, l_120, l_122, l_177, l_178, l_201, l_226, l_255, l_400, l_420, l_600, l_700, l_840, l_1000, l_1300, l_2000, l_1000000, nI_add, mr4, ml4, mr5, ml5, mr6, ml6, mr10, ml10, mr24, ml24, mr201, ml201, mr420, ml420, mr226, ml226, mr2, ml2, nI_clamp, lt_T, lt_F, le_T, le_F, eq_T, eq_F, ck_n, dv_n, cp_n, rem_n, pk_div, at1_same, at1_ne, cb_n, Option.bind_some, if_pos, if_neg, ↓reduceIte, and_self, and_true, true_and, and_false, false_and, not_true_eq_false, not_false_eq_true, nI_sub', cC hC, mS hM]
    | succ d =>
      have wl := wo_lt hs (c := i) (by omega)
      have cw := cw_le hs (j := 6 * r + i) (c := i) (by omega) (by omega)
      have kc := kCe hs (j := 6 * r + i) (by omega)
      by_cases hw : ρ + 1 < wo σ i
      · rw [g_misTail hM hs hF hr (by omega) k (d + 1) i (n + 1) hi (by omega) (fun _ => hw)]
        unfold f_X5_leastMissing_5
        simp (disch := omega) only [l_0, l_1, l_2, l_3, l_4, l_5, l_6, l_7, l_8, l_9, l_10, l_12, l_20, l_24, l_25, l_31, l_32, l_48, l_50, l_56, l_57, l_59, l_97, l_99, l_100, l_120, l_122, l_177, l_178, l_201, l_226, l_255, l_400, l_420, l_600, l_700, l_840, l_1000, l_1300, l_2000, l_1000000, nI_add, mr4, ml4, mr5, ml5, mr6, ml6, mr10, ml10, mr24, ml24, mr201, ml201, mr420, ml420, mr226, ml226, mr2, ml2, nI_clamp, lt_T, lt_F, le_T, le_F, eq_T, eq_F, ck_n, dv_n, cp_n, rem_n, pk_div, at1_same, at1_ne, cb_n, Option.bind_some, if_pos, if_neg, ↓reduceIte, and_self, and_true, true_and, and_false, false_and, not_true_eq_false, not_false_eq_true, nI_sub', cC hC, cWo hC]
      · unfold f_X5_leastMissing_5 f_X10_missing_14
        have ih := fun ρ h => m_misLoop (LM := LM) hC hM hs hF hr k d (i + 1) n ρ (by omega) (by omega) h
        by_cases h : σ (8 + (6 * r + i)) = 0
        · simp (disch := omega) only [l_0, l_1, l_2, l_3, l_4, l_5, l_6, l_7, l_8, l_9, l_10, l_12, l_20, l_24, l_25, l_31, l_32, l_48, l_50, l_56, l_57, l_59, l_97, l_99, l_100, l_120, l_122, l_177, l_178, l_201, l_226, l_255, l_400, l_420, l_600, l_700, l_840, l_1000, l_1300, l_2000, l_1000000, nI_add, mr4, ml4, mr5, ml5, mr6, ml6, mr10, ml10, mr24, ml24, mr201, ml201, mr420, ml420, mr226, ml226, mr2, ml2, nI_clamp, lt_T, lt_F, le_T, le_F, eq_T, eq_F, ck_n, dv_n, cp_n, rem_n, pk_div, at1_same, at1_ne, cb_n, Option.bind_some, if_pos, if_neg, ↓reduceIte, and_self, and_true, true_and, and_false, false_and, not_true_eq_false, not_false_eq_true, nI_sub', cC hC, cWo hC, cCe hC, mS hM, g_now hM, nI_mul', Nat.mul_comm r 6, Nat.add_assoc, h, Nat.zero_mul, Nat.add_zero]
          exact ih ρ (by omega)
        · simp (disch := omega) only [l_0, l_1, l_2, l_3, l_4, l_5, l_6, l_7, l_8, l_9, l_10, l_12, l_20, l_24, l_25, l_31, l_32, l_48, l_50, l_56, l_57, l_59, l_97, l_99, l_100, l_120, l_122, l_177, l_178, l_201, l_226, l_255, l_400, l_420, l_600, l_700, l_840, l_1000, l_1300, l_2000, l_1000000, nI_add, mr4, ml4, mr5, ml5, mr6, ml6, mr10, ml10, mr24, ml24, mr201, ml201, mr420, ml420, mr226, ml226, mr2, ml2, nI_clamp, lt_T, lt_F, le_T, le_F, eq_T, eq_F, ck_n, dv_n, cp_n, rem_n, pk_div, at1_same, at1_ne, cb_n, Option.bind_some, if_pos, if_neg, ↓reduceIte, and_self, and_true, true_and, and_false, false_and, not_true_eq_false, not_false_eq_true, nI_sub', cC hC, cWo hC, cCe hC, mS hM, g_now hM, g_worthOf hM hF, nI_mul', Nat.mul_comm r 6, Nat.add_assoc]
          exact ih _ (by omega)
theorem m_missing {C M X0 P : Mem} {LM LP : MemL} {wP vP : Bool} {σ : Sg} (hC : StC C σ) (hM : StM M σ) (hs : okS σ) {F : Nat} (hF : 10 ≤ F) (x : Int32) : ∃ v, f_X9_missing F X0 C P LP wP vP x = some v ∧ f_X10_missing F M LM x = some v := by
  have h0 := kC hs
  have h1 := kR hs
  obtain ⟨x, x1, x2, rfl⟩ := zI_of x
  unfold f_X9_missing f_X10_missing f_X5_leastMissing
  by_cases hx : 0 ≤ x ∧ x < (σ 1 : Int)
  · obtain ⟨r, rfl⟩ := Int.eq_ofNat_of_zero_le hx.1
    simp only [zI_c]
    have e : f_X5_leastMissing_5 F C (nI r) (fun z => some (z + nI 1)) F (nI 0) (nI 0) = f_X10_missing_14 F M LM (nI r) (fun z => some (z + nI 1)) F (nI 0) (nI 0) := m_misLoop (LM := LM) hC hM hs hF (r := r) (by omega) (fun z => some (z + nI 1)) (σ 0) 0 F 0 (by omega) (by omega) (by omega)
    obtain ⟨v, ev⟩ := g_misSome (LM := LM) hM hs hF (r := r) (by omega) (fun z => some (z + nI 1)) (fun a => ⟨_, rfl⟩) (σ 0) 0 F 0 (by omega) (by omega) (by omega)
    have ev' : f_X10_missing_14 F M LM (nI r) (fun z => some (z + nI 1)) F (nI 0) (nI 0) = some v := ev
    simp (disch := omega) only [l_0, l_1, l_2, l_3, l_4, l_5, l_6, l_7, l_8, l_9, l_10, l_12, l_20, l_24, l_25, l_31, l_32, l_48, l_50, l_56, l_57, l_59, l_97, l_99, l_100, l_120, l_122, l_177, l_178, l_201, l_226, l_255, l_400, l_420, l_600, l_700, l_840, l_1000, l_1300, l_2000, l_1000000, nI_add, mr4, ml4, mr5, ml5, mr6, ml6, mr10, ml10, mr24, ml24, mr201, ml201, mr420, ml420, mr226, ml226, mr2, ml2, nI_clamp, lt_T, lt_F, le_T, le_F, eq_T, eq_F, ck_n, dv_n, cp_n, rem_n, pk_div, at1_same, at1_ne, cb_n, Option.bind_some, if_pos, if_neg, ↓reduceIte, and_self, and_true, true_and, and_false, false_and, not_true_eq_false, not_false_eq_true, nI_sub', hasRow_n hC h1 F, hasCol_n hC h0 F, hasRow_x hC h1 F, hasCol_x hC h0 F, isRow_n hM h1 F, isCol_n hM h0 F, isRow_x hM h1 F, isCol_x hM h0 F, hasCol_o hC h0 F, isCol_o hM h0 F, e, ev']
    first | exact ⟨_, rfl, rfl⟩ | exact ⟨_, rfl⟩
  · simp (disch := omega) only [l_0, l_1, l_2, l_3, l_4, l_5, l_6, l_7, l_8, l_9, l_10, l_12, l_20, l_24, l_25, l_31, l_32, l_48, l_50, l_56, l_57, l_59, l_97, l_99, l_100, l_120, l_122, l_177, l_178, l_201, l_226, l_255, l_400, l_420, l_600, l_700, l_840, l_1000, l_1300, l_2000, l_1000000, nI_add, mr4, ml4, mr5, ml5, mr6, ml6, mr10, ml10, mr24, ml24, mr201, ml201, mr420, ml420, mr226, ml226, mr2, ml2, nI_clamp, lt_T, lt_F, le_T, le_F, eq_T, eq_F, ck_n, dv_n, cp_n, rem_n, pk_div, at1_same, at1_ne, cb_n, Option.bind_some, if_pos, if_neg, ↓reduceIte, and_self, and_true, true_and, and_false, false_and, not_true_eq_false, not_false_eq_true, nI_sub', zz_add, zz_sub, zz_mul, zn_add, nz_add, zn_sub, nz_sub, zn_mul, nz_mul, z_neg, n_neg, zlt_T, zlt_F, zle_T, zle_F, zeq_T, zeq_F, zn_lt, nz_lt, zn_le, nz_le, zn_eq, nz_eq, hasRow_n hC h1 F, hasCol_n hC h0 F, hasRow_x hC h1 F, hasCol_x hC h0 F, isRow_n hM h1 F, isCol_n hM h0 F, isRow_x hM h1 F, isCol_x hM h0 F, hasCol_o hC h0 F, isCol_o hM h0 F]
    first | exact ⟨_, rfl, rfl⟩ | exact ⟨_, rfl⟩
theorem m_fuIn {C M X0 : Mem} {LM : MemL} {σ : Sg} (hC : StC C σ) (hM : StM M σ) (hs : okS σ) {F : Nat} {r : Nat} (hr : r < 4) (k k' : Int32 → Int32 → Option Int32) (hk : ∀ a b, ∃ v, k a b = some v ∧ k' a b = some v) : ∀ (d i n : Nat) (a b : Int32), i + d = σ 0 → d < n → ∃ v, f_X9_fullest_20 F X0 C (nI r) k n a b (nI i) = some v ∧ f_X10_fullest_19 F M LM (nI r) k' n a b (nI i) = some v
  | d, i, 0, a, b, _, h => by omega
  | d, i, n + 1, a, b, hi, hn => by
    have h0 := kC hs
    unfold f_X9_fullest_20 f_X10_fullest_19
    cases d with
    | zero =>
      simp (disch := omega) only [l_0, l_1, l_2, l_3, l_4, l_5, l_6, l_7, l_8, l_9, l_10, l_12, l_20, l_24, l_25, l_31, l_32, l_48, l_50, l_56, l_57, l_59, l_97, l_99, l_100, l_120, l_122, l_177, l_178, l_201, l_226, l_255, l_400, l_420, l_600, l_700, l_840, l_1000, l_1300, l_2000, l_1000000, nI_add, mr4, ml4, mr5, ml5, mr6, ml6, mr10, ml10, mr24, ml24, mr201, ml201, mr420, ml420, mr226, ml226, mr2, ml2, nI_clamp, lt_T, lt_F, le_T, le_F, eq_T, eq_F, ck_n, dv_n, cp_n, rem_n, pk_div, at1_same, at1_ne, cb_n, Option.bind_some, if_pos, if_neg, ↓reduceIte, and_self, and_true, true_and, and_false, false_and, not_true_eq_false, not_false_eq_true, nI_sub', cC hC, mS hM]
      exact hk a b
    | succ d =>
      have ih := fun a b => m_fuIn (X0 := X0) (LM := LM) hC hM hs (F := F) hr k k' hk d (i + 1) n a b (by omega) (by omega)
      simp (disch := omega) only [l_0, l_1, l_2, l_3, l_4, l_5, l_6, l_7, l_8, l_9, l_10, l_12, l_20, l_24, l_25, l_31, l_32, l_48, l_50, l_56, l_57, l_59, l_97, l_99, l_100, l_120, l_122, l_177, l_178, l_201, l_226, l_255, l_400, l_420, l_600, l_700, l_840, l_1000, l_1300, l_2000, l_1000000, nI_add, mr4, ml4, mr5, ml5, mr6, ml6, mr10, ml10, mr24, ml24, mr201, ml201, mr420, ml420, mr226, ml226, mr2, ml2, nI_clamp, lt_T, lt_F, le_T, le_F, eq_T, eq_F, ck_n, dv_n, cp_n, rem_n, pk_div, at1_same, at1_ne, cb_n, Option.bind_some, if_pos, if_neg, ↓reduceIte, and_self, and_true, true_and, and_false, false_and, not_true_eq_false, not_false_eq_true, nI_sub', cC hC, cCe hC, mS hM, g_now hM, Nat.add_assoc]
      by_cases h : nI (σ (8 + (6 * r + i))) ≤ b
      · have h' : ¬ b < nI (σ (8 + (6 * r + i))) := Int32.not_lt.mpr h
        simp only [h, h', ↓reduceIte]
        exact ih a b
      · have h' : b < nI (σ (8 + (6 * r + i))) := Int32.not_le.mp h
        simp only [h, h', ↓reduceIte]
        exact ih _ _
theorem m_fuOut {C M X0 : Mem} {LM : MemL} {σ : Sg} (hC : StC C σ) (hM : StM M σ) (hs : okS σ) {F : Nat} (hF : 10 ≤ F) : ∀ (d i n : Nat) (a b : Int32), i + d = σ 1 → d < n → ∃ v, f_X9_fullest_6 F X0 C (fun x => some x) n a b (nI i) = some v ∧ f_X10_fullest_6 F M LM (fun x => some x) n a b (nI i) = some v
  | d, i, 0, a, b, _, h => by omega
  | d, i, n + 1, a, b, hi, hn => by
    have h0 := kC hs
    have h1 := kR hs
    unfold f_X9_fullest_6 f_X10_fullest_6
    cases d with
    | zero =>
      simp (disch := omega) only [l_0, l_1, l_2, l_3, l_4, l_5, l_6, l_7, l_8, l_9, l_10, l_12, l_20, l_24, l_25, l_31, l_32, l_48, l_50, l_56, l_57, l_59, l_97, l_99, l_100, l_120, l_122, l_177, l_178, l_201, l_226, l_255, l_400, l_420, l_600, l_700, l_840, l_1000, l_1300, l_2000, l_1000000, nI_add, mr4, ml4, mr5, ml5, mr6, ml6, mr10, ml10, mr24, ml24, mr201, ml201, mr420, ml420, mr226, ml226, mr2, ml2, nI_clamp, lt_T, lt_F, le_T, le_F, eq_T, eq_F, ck_n, dv_n, cp_n, rem_n, pk_div, at1_same, at1_ne, cb_n, Option.bind_some, if_pos, if_neg, ↓reduceIte, and_self, and_true, true_and, and_false, false_and, not_true_eq_false, not_false_eq_true, nI_sub', cR hC, mS hM]
      first | exact ⟨_, rfl, rfl⟩ | exact ⟨_, rfl⟩
    | succ d =>
      have ih := fun a b => m_fuOut (X0 := X0) (LM := LM) hC hM hs hF d (i + 1) n a b (by omega) (by omega)
      simp (disch := omega) only [l_0, l_1, l_2, l_3, l_4, l_5, l_6, l_7, l_8, l_9, l_10, l_12, l_20, l_24, l_25, l_31, l_32, l_48, l_50, l_56, l_57, l_59, l_97, l_99, l_100, l_120, l_122, l_177, l_178, l_201, l_226, l_255, l_400, l_420, l_600, l_700, l_840, l_1000, l_1300, l_2000, l_1000000, nI_add, mr4, ml4, mr5, ml5, mr6, ml6, mr10, ml10, mr24, ml24, mr201, ml201, mr420, ml420, mr226, ml226, mr2, ml2, nI_clamp, lt_T, lt_F, le_T, le_F, eq_T, eq_F, ck_n, dv_n, cp_n, rem_n, pk_div, at1_same, at1_ne, cb_n, Option.bind_some, if_pos, if_neg, ↓reduceIte, and_self, and_true, true_and, and_false, false_and, not_true_eq_false, not_false_eq_true, nI_sub', cR hC, mS hM]
      exact m_fuIn hC hM hs (by omega) _ _ ih (σ 0) 0 F a b (by omega) (by omega)
theorem m_fullest {C M X0 : Mem} {LM : MemL} {σ : Sg} (hC : StC C σ) (hM : StM M σ) (hs : okS σ) {F : Nat} (hF : 10 ≤ F) : ∃ v, f_X9_fullest F X0 C = some v ∧ f_X10_fullest F M LM = some v := by
  have h1 := kR hs
  exact m_fuOut hC hM hs hF (σ 1) 0 F (-1) (-1) (by omega) (by omega)
