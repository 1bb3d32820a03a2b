/-! PURE LAYER: which rows are plain, the richest; count -/
def pl (σ : Sg) (r : Nat) : Prop := ∀ c, c + 1 < σ 0 → σ (8 + (6 * r + c)) < σ (2 + (c + 1))
def ow (σ : Sg) (r S : Nat) : Prop := ∀ c, c < σ 0 → dg σ S c = σ (8 + (6 * r + c))
theorem sm_le {σ : Sg} (hs : okS σ) {r : Nat} (hr : r < 4) : ∀ c, c ≤ σ 0 → smN σ r c ≤ 316800000 * c
  | 0, _ => Nat.le_refl _
  | c + 1, h => by
    have h0 := kC hs
    have ih := sm_le hs hr c (by omega)
    have cw := cw_le hs (j := 6 * r + c) (c := c) (by omega) (by omega)
    show smN σ r c + σ (8 + 6 * r + c) * wo σ c ≤ _
    rw [Nat.add_assoc 8]
    omega
theorem sm_lt {σ : Sg} (hs : okS σ) {r : Nat} (hr : r < 4) : smN σ r (σ 0) < 2147483648 := by
  have h0 := kC hs
  have := sm_le hs hr (σ 0) (Nat.le_refl _)
  omega
theorem smN_lt {σ : Sg} {r : Nat} (hp : pl σ r) : ∀ i, i < σ 0 → smN σ r i < wo σ i
  | 0, _ => Nat.zero_lt_one
  | i + 1, h => by
    have ih := smN_lt hp i (by omega)
    have h1 := hp i h
    show smN σ r i + σ (8 + 6 * r + i) * wo σ i < wo σ i * σ (2 + (i + 1))
    rw [Nat.add_assoc 8]
    have h2 : (σ (8 + (6 * r + i)) + 1) * wo σ i ≤ σ (2 + (i + 1)) * wo σ i := Nat.mul_le_mul_right _ h1
    rw [Nat.add_mul, Nat.one_mul] at h2
    rw [Nat.mul_comm (wo σ i)]
    omega
theorem smN_sp {σ : Sg} {r m : Nat} : ∀ (d i : Nat), i + d = m → ∃ q, smN σ r m = smN σ r i + wo σ i * q
  | 0, i, h => ⟨0, by obtain rfl : i = m := by omega
                      rw [Nat.mul_zero, Nat.add_zero]⟩
  | d + 1, i, h => by
    obtain ⟨q, e⟩ := smN_sp (σ := σ) (r := r) (m := m) d (i + 1) (by omega)
    refine ⟨σ (8 + 6 * r + i) + σ (2 + (i + 1)) * q, ?_⟩
    rw [e]
    show smN σ r i + σ (8 + 6 * r + i) * wo σ i + wo σ i * σ (2 + (i + 1)) * q = _
    rw [Nat.mul_add, Nat.mul_assoc, Nat.mul_comm (σ (8 + 6 * r + i)), Nat.add_assoc]
theorem pl_ow {σ : Sg} (hs : okS σ) {r : Nat} : pl σ r ↔ ow σ r (smN σ r (σ 0)) := by
  constructor
  · intro hp c hc
    have wl := wo_lt hs (c := c) hc
    have e : (if c + 1 < σ 0 then smN σ r (σ 0) % wo σ (c + 1) else smN σ r (σ 0)) = smN σ r (c + 1) := by
      by_cases h : c + 1 < σ 0
      · rw [if_pos h]
        obtain ⟨q, e⟩ := smN_sp (σ := σ) (r := r) (m := σ 0) (σ 0 - (c + 1)) (c + 1) (by omega)
        rw [e, Nat.add_mul_mod_self_left, Nat.mod_eq_of_lt (smN_lt hp (c + 1) h)]
      · rw [if_neg h]
        have : c + 1 = σ 0 := by omega
        rw [this]
    unfold dg
    rw [e]
    show (smN σ r c + σ (8 + 6 * r + c) * wo σ c) / wo σ c = _
    rw [Nat.add_mul_div_right _ _ (by omega), Nat.div_eq_of_lt (smN_lt hp c hc), Nat.zero_add, Nat.add_assoc]
  · intro ho c hc
    have wl := wo_lt hs (c := c + 1) hc
    have e := ho c (by omega)
    unfold dg at e
    rw [if_pos hc] at e
    rw [← e]
    exact Nat.div_lt_of_lt_mul (Nat.mod_lt _ (by omega))
theorem h_isPlLoop {C : Mem} {σ : Sg} (hC : StC C σ) (hs : okS σ) {F r : Nat} (hr : r < 4) (A B : Option Int32) : ∀ (d i n : Nat), i + d + 1 = σ 0 → d < n → (∀ c, c < i → σ (8 + (6 * r + c)) < σ (2 + (c + 1))) → (pl σ r ∧ f_X5_isPlain_2 F C (nI r) A B n (nI i) = B) ∨ (¬ pl σ r ∧ f_X5_isPlain_2 F C (nI r) A B n (nI i) = A)
  | d, i, 0, _, h, _ => by omega
  | d, i, n + 1, hi, hn, hp => by
    have h0 := kC hs
    unfold f_X5_isPlain_2
    cases d with
    | zero =>
      left
      refine ⟨fun c hc => hp c (by omega), ?_⟩
      simp (disch := omega) only [l_0, l_1, l_2, l_3, l_4, l_5, l_6, l_7, l_8, l_9, l_10, l_12, l_20, l_24, l_25, l_31, l_32, l_48, l_50, l_56, l_57, l_59, l_97, l_99, l_100, l_120, l_122, l_177, l_178, l_201, l_226, l_255, l_400, l_420, l_600, l_700, l_840, l_1000, l_1300, l_2000, l_1000000, nI_add, mr4, ml4, mr5, ml5, mr6, ml6, mr10, ml10, mr24, ml24, mr201, ml201, mr420, ml420, mr226, ml226, mr2, ml2, nI_clamp, lt_T, lt_F, le_T, le_F, eq_T, eq_F, ck_n, dv_n, cp_n, rem_n, pk_div, at1_same, at1_ne, cb_n, Option.bind_some, if_pos, if_neg, ↓reduceIte, and_self, and_true, true_and, and_false, false_and, not_true_eq_false, not_false_eq_true, nI_sub', cC hC]
    | succ d =>
      have hq := kRt hs (j := i + 1) (by omega) (by omega)
      have kc := kCe hs (j := 6 * r + i) (by omega)
      by_cases h : σ (8 + (6 * r + i)) < σ (2 + (i + 1))
      · have ih := h_isPlLoop hC hs (F := F) hr A B d (i + 1) n (by omega) (by omega) (fun c hc => by
          by_cases e : c < i
          · exact hp c e
          · obtain rfl : c = i := by omega
            exact h)
        simp (disch := omega) only [l_0, l_1, l_2, l_3, l_4, l_5, l_6, l_7, l_8, l_9, l_10, l_12, l_20, l_24, l_25, l_31, l_32, l_48, l_50, l_56, l_57, l_59, l_97, l_99, l_100, l_120, l_122, l_177, l_178, l_201, l_226, l_255, l_400, l_420, l_600, l_700, l_840, l_1000, l_1300, l_2000, l_1000000, nI_add, mr4, ml4, mr5, ml5, mr6, ml6, mr10, ml10, mr24, ml24, mr201, ml201, mr420, ml420, mr226, ml226, mr2, ml2, nI_clamp, lt_T, lt_F, le_T, le_F, eq_T, eq_F, ck_n, dv_n, cp_n, rem_n, pk_div, at1_same, at1_ne, cb_n, Option.bind_some, if_pos, if_neg, ↓reduceIte, and_self, and_true, true_and, and_false, false_and, not_true_eq_false, not_false_eq_true, nI_sub', cC hC, cCe hC, cRt hC]
        exact ih
      · right
        refine ⟨fun q => h (q i (by omega)), ?_⟩
        simp (disch := omega) only [l_0, l_1, l_2, l_3, l_4, l_5, l_6, l_7, l_8, l_9, l_10, l_12, l_20, l_24, l_25, l_31, l_32, l_48, l_50, l_56, l_57, l_59, l_97, l_99, l_100, l_120, l_122, l_177, l_178, l_201, l_226, l_255, l_400, l_420, l_600, l_700, l_840, l_1000, l_1300, l_2000, l_1000000, nI_add, mr4, ml4, mr5, ml5, mr6, ml6, mr10, ml10, mr24, ml24, mr201, ml201, mr420, ml420, mr226, ml226, mr2, ml2, nI_clamp, lt_T, lt_F, le_T, le_F, eq_T, eq_F, ck_n, dv_n, cp_n, rem_n, pk_div, at1_same, at1_ne, cb_n, Option.bind_some, if_pos, if_neg, ↓reduceIte, and_self, and_true, true_and, and_false, false_and, not_true_eq_false, not_false_eq_true, nI_sub', cC hC, cCe hC, cRt hC]
theorem h_isPlain {C : Mem} {σ : Sg} (hC : StC C σ) (hs : okS σ) {F r : Nat} (hF : 10 ≤ F) (hr : r < σ 1) : (pl σ r ∧ f_X5_isPlain F C (nI r) = some (nI 1)) ∨ (¬ pl σ r ∧ f_X5_isPlain F C (nI r) = some (nI 0)) := by
  have h0 := kC hs
  have h1 := kR hs
  have h01 := kCR hs (by omega)
  exact h_isPlLoop hC hs (by omega) (some 0) (some 1) (σ 0 - 1) 0 F (by omega) (by omega) (fun c hc => by omega)
theorem dg_lt {σ : Sg} {S i : Nat} (hS : S < 2147483648) : dg σ S i < 2147483648 := Nat.lt_of_le_of_lt (Nat.div_le_self _ _) (rs_lt hS)
theorem g_isOwLoop {M : Mem} {LM : MemL} {σ : Sg} (hM : StM M σ) (hs : okS σ) {F r S : Nat} (hr : r < 4) (hS : S < 2147483648) (ho : ∀ j, j < σ 0 → M 5 j = nI (dg σ S j)) (A B : Option Int32) : ∀ (d i n : Nat), i + d = σ 0 → d < n → (∀ c, c < i → dg σ S c = σ (8 + (6 * r + c))) → (ow σ r S ∧ f_X10_isOwn_2 F M LM (nI r) A B n (nI i) = B) ∨ (¬ ow σ r S ∧ f_X10_isOwn_2 F M LM (nI r) A B n (nI i) = A)
  | d, i, 0, _, h, _ => by omega
  | d, i, n + 1, hi, hn, hp => by
    have h0 := kC hs
    unfold f_X10_isOwn_2
    cases d with
    | zero =>
      left
      refine ⟨fun c hc => hp c (by omega), ?_⟩
      simp (disch := omega) only [l_0, l_1, l_2, l_3, l_4, l_5, l_6, l_7, l_8, l_9, l_10, l_12, l_20, l_24, l_25, l_31, l_32, l_48, l_50, l_56, l_57, l_59, l_97, l_99, l_100, l_120, l_122, l_177, l_178, l_201, l_226, l_255, l_400, l_420, l_600, l_700, l_840, l_1000, l_1300, l_2000, l_1000000, nI_add, mr4, ml4, mr5, ml5, mr6, ml6, mr10, ml10, mr24, ml24, mr201, ml201, mr420, ml420, mr226, ml226, mr2, ml2, nI_clamp, lt_T, lt_F, le_T, le_F, eq_T, eq_F, ck_n, dv_n, cp_n, rem_n, pk_div, at1_same, at1_ne, cb_n, Option.bind_some, if_pos, if_neg, ↓reduceIte, and_self, and_true, true_and, and_false, false_and, not_true_eq_false, not_false_eq_true, nI_sub', mS hM]
    | succ d =>
      have kc := kCe hs (j := 6 * r + i) (by omega)
      have dl := dg_lt (σ := σ) (i := i) hS
      by_cases h : dg σ S i = σ (8 + (6 * r + i))
      · have ih := g_isOwLoop (LM := LM) hM hs (F := F) hr hS ho A B d (i + 1) n (by omega) (by omega) (fun c hc => by
          by_cases e : c < i
          · exact hp c e
          · obtain rfl : c = i := by omega
            exact h)
        simp (disch := omega) only [l_0, l_1, l_2, l_3, l_4, l_5, l_6, l_7, l_8, l_9, l_10, l_12, l_20, l_24, l_25, l_31, l_32, l_48, l_50, l_56, l_57, l_59, l_97, l_99, l_100, l_120, l_122, l_177, l_178, l_201, l_226, l_255, l_400, l_420, l_600, l_700, l_840, l_1000, l_1300, l_2000, l_1000000, nI_add, mr4, ml4, mr5, ml5, mr6, ml6, mr10, ml10, mr24, ml24, mr201, ml201, mr420, ml420, mr226, ml226, mr2, ml2, nI_clamp, lt_T, lt_F, le_T, le_F, eq_T, eq_F, ck_n, dv_n, cp_n, rem_n, pk_div, at1_same, at1_ne, cb_n, Option.bind_some, if_pos, if_neg, ↓reduceIte, and_self, and_true, true_and, and_false, false_and, not_true_eq_false, not_false_eq_true, nI_sub', mS hM, ho, g_now hM, Nat.add_assoc]
        exact ih
      · right
        refine ⟨fun q => h (q i (by omega)), ?_⟩
        simp (disch := omega) only [l_0, l_1, l_2, l_3, l_4, l_5, l_6, l_7, l_8, l_9, l_10, l_12, l_20, l_24, l_25, l_31, l_32, l_48, l_50, l_56, l_57, l_59, l_97, l_99, l_100, l_120, l_122, l_177, l_178, l_201, l_226, l_255, l_400, l_420, l_600, l_700, l_840, l_1000, l_1300, l_2000, l_1000000, nI_add, mr4, ml4, mr5, ml5, mr6, ml6, mr10, ml10, mr24, ml24, mr201, ml201, mr420, ml420, mr226, ml226, mr2, ml2, nI_clamp, lt_T, lt_F, le_T, le_F, eq_T, eq_F, ck_n, dv_n, cp_n, rem_n, pk_div, at1_same, at1_ne, cb_n, Option.bind_some, if_pos, if_neg, ↓reduceIte, and_self, and_true, true_and, and_false, false_and, not_true_eq_false, not_false_eq_true, nI_sub', mS hM, ho, g_now hM, Nat.add_assoc]
theorem g_isOwn {M : Mem} {LM : MemL} {σ : Sg} (hM : StM M σ) (hs : okS σ) {F r S : Nat} (hF : 10 ≤ F) (hr : r < 4) (hS : S < 2147483648) (ho : ∀ j, j < σ 0 → M 5 j = nI (dg σ S j)) : (ow σ r S ∧ f_X10_isOwn F M LM (nI r) = some (nI 1)) ∨ (¬ ow σ r S ∧ f_X10_isOwn F M LM (nI r) = some (nI 0)) := by
  have h0 := kC hs
  exact g_isOwLoop hM hs hr hS ho (some 0) (some 1) (σ 0) 0 F (by omega) (by omega) (fun c hc => by omega)
theorem m_plRows {C P : Mem} {LM LP : MemL} {wP vP : Bool} {σ : Sg} (hC : StC C σ) (hs : okS σ) {F : Nat} (hF : 10 ≤ F) : ∀ (d i n : Nat) (x : Int32) (M : Mem), StM M σ → i + d = σ 1 → d < n → ∃ v M', f_X5_plainRows_4 F P LP wP vP C (fun x => some x) n x (nI i) = some v ∧ f_X10_plainRows_4 F LM (fun M x => some (x, M)) n M x (nI i) = some (v, M') ∧ Pm M M'
  | d, i, 0, x, M, _, _, h => by omega
  | d, i, n + 1, x, M, hM, hi, hn => by
    have h0 := kC hs
    have h1 := kR hs
    unfold f_X5_plainRows_4 f_X10_plainRows_4
    cases d with
    | zero =>
      simp (disch := omega) only [l_0, l_1, l_2, l_3, l_4, l_5, l_6, l_7, l_8, l_9, l_10, l_12, l_20, l_24, l_25, l_31, l_32, l_48, l_50, l_56, l_57, l_59, l_97, l_99, l_100, l_120, l_122, l_177, l_178, l_201, l_226, l_255, l_400, l_420, l_600, l_700, l_840, l_1000, l_1300, l_2000, l_1000000, nI_add, mr4, ml4, mr5, ml5, mr6, ml6, mr10, ml10, mr24, ml24, mr201, ml201, mr420, ml420, mr226, ml226, mr2, ml2, nI_clamp, lt_T, lt_F, le_T, le_F, eq_T, eq_F, ck_n, dv_n, cp_n, rem_n, pk_div, at1_same, at1_ne, cb_n, Option.bind_some, if_pos, if_neg, ↓reduceIte, and_self, and_true, true_and, and_false, false_and, not_true_eq_false, not_false_eq_true, nI_sub', cR hC, mS hM]
      exact ⟨x, M, rfl, rfl, Pm_rfl M⟩
    | succ d =>
      have sl := sm_lt hs (r := i) (by omega)
      obtain ⟨M1, b1, b2, b3⟩ := g_laysPlain (LM := LM) hM hs (F := F) (S := smN σ i (σ 0)) hF sl
      have hM1 := StM_p hM b3
      have oz : ∀ x : Int32, x ||| nI 0 = x := fun x => Int32.or_zero
      rcases h_isPlain hC hs (F := F) (r := i) hF (by omega) with ⟨p, e1⟩ | ⟨p, e1⟩
      · rcases g_isOwn (LM := LM) hM1 hs (F := F) (r := i) hF (by omega) sl b2 with ⟨q, e2⟩ | ⟨q, e2⟩
        · simp (disch := omega) only [l_0, l_1, l_2, l_3, l_4, l_5, l_6, l_7, l_8, l_9, l_10, l_12, l_20, l_24, l_25, l_31, l_32, l_48, l_50, l_56, l_57, l_59, l_97, l_99, l_100, l_120, l_122, l_177, l_178, l_201, l_226, l_255, l_400, l_420, l_600, l_700, l_840, l_1000, l_1300, l_2000, l_1000000, nI_add, mr4, ml4, mr5, ml5, mr6, ml6, mr10, ml10, mr24, ml24, mr201, ml201, mr420, ml420, mr226, ml226, mr2, ml2, nI_clamp, lt_T, lt_F, le_T, le_F, eq_T, eq_F, ck_n, dv_n, cp_n, rem_n, pk_div, at1_same, at1_ne, cb_n, Option.bind_some, if_pos, if_neg, ↓reduceIte, and_self, and_true, true_and, and_false, false_and, not_true_eq_false, not_false_eq_true, nI_sub', cR hC, mS hM, e1, g_sumOf hM h0 hF, b1, e2]
          obtain ⟨v, M', a1, a2, a3⟩ := m_plRows (P := P) (LP := LP) (LM := LM) (wP := wP) (vP := vP) hC hs hF d (i + 1) n (x ||| (nI 1 <<< (nI i &&& nI 31))) M1 hM1 (by omega) (by omega)
          exact ⟨v, M', a1, a2, Pm_tr b3 a3⟩
        · exact absurd ((pl_ow hs).mp p) q
      · rcases g_isOwn (LM := LM) hM1 hs (F := F) (r := i) hF (by omega) sl b2 with ⟨q, e2⟩ | ⟨q, e2⟩
        · exact absurd ((pl_ow hs).mpr q) p
        · simp (disch := omega) only [l_0, l_1, l_2, l_3, l_4, l_5, l_6, l_7, l_8, l_9, l_10, l_12, l_20, l_24, l_25, l_31, l_32, l_48, l_50, l_56, l_57, l_59, l_97, l_99, l_100, l_120, l_122, l_177, l_178, l_201, l_226, l_255, l_400, l_420, l_600, l_700, l_840, l_1000, l_1300, l_2000, l_1000000, nI_add, mr4, ml4, mr5, ml5, mr6, ml6, mr10, ml10, mr24, ml24, mr201, ml201, mr420, ml420, mr226, ml226, mr2, ml2, nI_clamp, lt_T, lt_F, le_T, le_F, eq_T, eq_F, ck_n, dv_n, cp_n, rem_n, pk_div, at1_same, at1_ne, cb_n, Option.bind_some, if_pos, if_neg, ↓reduceIte, and_self, and_true, true_and, and_false, false_and, not_true_eq_false, not_false_eq_true, nI_sub', cR hC, mS hM, e1, g_sumOf hM h0 hF, b1, e2, oz]
          obtain ⟨v, M', a1, a2, a3⟩ := m_plRows (P := P) (LP := LP) (LM := LM) (wP := wP) (vP := vP) hC hs hF d (i + 1) n x M1 hM1 (by omega) (by omega)
          exact ⟨v, M', a1, a2, Pm_tr b3 a3⟩
theorem m_ricLoop {C M : Mem} {LM : MemL} {σ : Sg} (hC : StC C σ) (hM : StM M σ) (hs : okS σ) {F : Nat} (hF : 10 ≤ F) : ∀ (d i n b : Nat), i + d = σ 1 → d < n → b < σ 1 → ∃ v, f_X0_richestRow_6 F C (fun x => some x) n (nI b) (nI (smN σ b (σ 0))) (nI i) = some v ∧ f_X10_greatest_4 F M LM (fun x => some x) n (nI b) (nI i) = some v
  | d, i, 0, b, _, h, _ => by omega
  | d, i, n + 1, b, hi, hn, hb => by
    have h0 := kC hs
    have h1 := kR hs
    unfold f_X0_richestRow_6 f_X10_greatest_4
    cases d with
    | zero =>
      simp (disch := omega) only [l_0, l_1, l_2, l_3, l_4, l_5, l_6, l_7, l_8, l_9, l_10, l_12, l_20, l_24, l_25, l_31, l_32, l_48, l_50, l_56, l_57, l_59, l_97, l_99, l_100, l_120, l_122, l_177, l_178, l_201, l_226, l_255, l_400, l_420, l_600, l_700, l_840, l_1000, l_1300, l_2000, l_1000000, nI_add, mr4, ml4, mr5, ml5, mr6, ml6, mr10, ml10, mr24, ml24, mr201, ml201, mr420, ml420, mr226, ml226, mr2, ml2, nI_clamp, lt_T, lt_F, le_T, le_F, eq_T, eq_F, ck_n, dv_n, cp_n, rem_n, pk_div, at1_same, at1_ne, cb_n, Option.bind_some, if_pos, if_neg, ↓reduceIte, and_self, and_true, true_and, and_false, false_and, not_true_eq_false, not_false_eq_true, nI_sub', zz_add, zz_sub, zz_mul, zn_add, nz_add, zn_sub, nz_sub, zn_mul, nz_mul, z_neg, n_neg, zlt_T, zlt_F, zle_T, zle_F, zeq_T, zeq_F, zn_lt, nz_lt, zn_le, nz_le, zn_eq, nz_eq, cR hC, mS hM]
      first | exact ⟨_, rfl, rfl⟩ | exact ⟨_, rfl⟩
    | succ d =>
      have ih := fun b h => m_ricLoop (LM := LM) hC hM hs hF d (i + 1) n b (by omega) (by omega) h
      simp (disch := omega) only [l_0, l_1, l_2, l_3, l_4, l_5, l_6, l_7, l_8, l_9, l_10, l_12, l_20, l_24, l_25, l_31, l_32, l_48, l_50, l_56, l_57, l_59, l_97, l_99, l_100, l_120, l_122, l_177, l_178, l_201, l_226, l_255, l_400, l_420, l_600, l_700, l_840, l_1000, l_1300, l_2000, l_1000000, nI_add, mr4, ml4, mr5, ml5, mr6, ml6, mr10, ml10, mr24, ml24, mr201, ml201, mr420, ml420, mr226, ml226, mr2, ml2, nI_clamp, lt_T, lt_F, le_T, le_F, eq_T, eq_F, ck_n, dv_n, cp_n, rem_n, pk_div, at1_same, at1_ne, cb_n, Option.bind_some, if_pos, if_neg, ↓reduceIte, and_self, and_true, true_and, and_false, false_and, not_true_eq_false, not_false_eq_true, nI_sub', zz_add, zz_sub, zz_mul, zn_add, nz_add, zn_sub, nz_sub, zn_mul, nz_mul, z_neg, n_neg, zlt_T, zlt_F, zle_T, zle_F, zeq_T, zeq_F, zn_lt, nz_lt, zn_le, nz_le, zn_eq, nz_eq, cR hC, mS hM, h_sumOf hC h0 hF, g_sumOf hM h0 hF]
      by_cases h : nI (smN σ i (σ 0)) ≤ nI (smN σ b (σ 0))
      · simp only [h, ↓reduceIte]
        exact ih b hb
      · simp only [h, ↓reduceIte]
        exact ih i (by omega)
theorem m_rich {C M : Mem} {LM : MemL} {σ : Sg} (hC : StC C σ) (hM : StM M σ) (hs : okS σ) {F : Nat} (hF : 10 ≤ F) : ∃ v, f_X0_richestRow F C = some v ∧ f_X10_greatest F M LM = some v := by
  have h0 := kC hs
  have h1 := kR hs
  unfold f_X0_richestRow f_X10_greatest
  obtain ⟨n, rfl⟩ : ∃ n, F = n + 1 := ⟨F - 1, by omega⟩
  unfold f_X0_richestRow_6 f_X10_greatest_4
  by_cases h : σ 1 = 0
  · simp (disch := omega) only [l_0, l_1, l_2, l_3, l_4, l_5, l_6, l_7, l_8, l_9, l_10, l_12, l_20, l_24, l_25, l_31, l_32, l_48, l_50, l_56, l_57, l_59, l_97, l_99, l_100, l_120, l_122, l_177, l_178, l_201, l_226, l_255, l_400, l_420, l_600, l_700, l_840, l_1000, l_1300, l_2000, l_1000000, nI_add, mr4, ml4, mr5, ml5, mr6, ml6, mr10, ml10, mr24, ml24, mr201, ml201, mr420, ml420, mr226, ml226, mr2, ml2, nI_clamp, lt_T, lt_F, le_T, le_F, eq_T, eq_F, ck_n, dv_n, cp_n, rem_n, pk_div, at1_same, at1_ne, cb_n, Option.bind_some, if_pos, if_neg, ↓reduceIte, and_self, and_true, true_and, and_false, false_and, not_true_eq_false, not_false_eq_true, nI_sub', zz_add, zz_sub, zz_mul, zn_add, nz_add, zn_sub, nz_sub, zn_mul, nz_mul, z_neg, n_neg, zlt_T, zlt_F, zle_T, zle_F, zeq_T, zeq_F, zn_lt, nz_lt, zn_le, nz_le, zn_eq, nz_eq, cR hC, mS hM]
    first | exact ⟨_, rfl, rfl⟩ | exact ⟨_, rfl⟩
  · have sl := sm_lt hs (r := 0) (by omega)
    obtain ⟨v, e1, e2⟩ := m_ricLoop (LM := LM) hC hM hs hF (σ 1 - 1) 1 n 0 (by omega) (by omega) (by omega)
    simp (disch := omega) only [l_0, l_1, l_2, l_3, l_4, l_5, l_6, l_7, l_8, l_9, l_10, l_12, l_20, l_24, l_25, l_31, l_32, l_48, l_50, l_56, l_57, l_59, l_97, l_99, l_100, l_120, l_122, l_177, l_178, l_201, l_226, l_255, l_400, l_420, l_600, l_700, l_840, l_1000, l_1300, l_2000, l_1000000, nI_add, mr4, ml4, mr5, ml5, mr6, ml6, mr10, ml10, mr24, ml24, mr201, ml201, mr420, ml420, mr226, ml226, mr2, ml2, nI_clamp, lt_T, lt_F, le_T, le_F, eq_T, eq_F, ck_n, dv_n, cp_n, rem_n, pk_div, at1_same, at1_ne, cb_n, Option.bind_some, if_pos, if_neg, ↓reduceIte, and_self, and_true, true_and, and_false, false_and, not_true_eq_false, not_false_eq_true, nI_sub', zz_add, zz_sub, zz_mul, zn_add, nz_add, zn_sub, nz_sub, zn_mul, nz_mul, z_neg, n_neg, zlt_T, zlt_F, zle_T, zle_F, zeq_T, zeq_F, zn_lt, nz_lt, zn_le, nz_le, zn_eq, nz_eq, cR hC, mS hM, h_sumOf hC h0 hF]
    exact ⟨v, e1, e2⟩
theorem m_count {C M T H X0 P : Mem} {LM LP : MemL} {wP vP : Bool} {σ : Sg} (hC : StC C σ) (hM : StM M σ) (hs : okS σ) (hH : H 0 2 = M 0 4) (hT : T 0 1 = M 0 29) {F : Nat} (hF : 10 ≤ F) (x : Int32) : ∃ v M', f_X9_count F X0 T C H P LP wP vP x = some v ∧ f_X10_count F M LM x = some (v, M') ∧ Pm M M' := by
  have h0 := kC hs
  have h1 := kR hs
  obtain ⟨x, x1, x2, rfl⟩ := zI_of x
  unfold f_X9_count f_X10_count
  rcases (by omega : (0 ≤ x ∧ x < 8) ∨ (x < 0 ∨ 8 ≤ x)) with hx | hx
  · obtain ⟨w, rfl⟩ := Int.eq_ofNat_of_zero_le hx.1
    simp only [zI_c]
    rcases (by omega : w = 0 ∨ w = 1 ∨ w = 2 ∨ w = 3 ∨ w = 4 ∨ w = 5 ∨ w = 6 ∨ w = 7) with rfl | rfl | rfl | rfl | rfl | rfl | rfl | rfl
    · simp (disch := omega) only [l_0, l_1, l_2, l_3, l_4, l_5, l_6, l_7, l_8, l_9, l_10, l_12, l_20, l_24, l_25, l_31, l_32, l_48, l_50, l_56, l_57, l_59, l_97, l_99, l_100, l_120, l_122, l_177, l_178, l_201, l_226, l_255, l_400, l_420, l_600, l_700, l_840, l_1000, l_1300, l_2000, l_1000000, nI_add, mr4, ml4, mr5, ml5, mr6, ml6, mr10, ml10, mr24, ml24, mr201, ml201, mr420, ml420, mr226, ml226, mr2, ml2, nI_clamp, lt_T, lt_F, le_T, le_F, eq_T, eq_F, ck_n, dv_n, cp_n, rem_n, pk_div, at1_same, at1_ne, cb_n, Option.bind_some, if_pos, if_neg, ↓reduceIte, and_self, and_true, true_and, and_false, false_and, not_true_eq_false, not_false_eq_true, nI_sub', cC hC, mS hM]
      exact ⟨_, _, rfl, rfl, Pm_rfl M⟩
    · simp (disch := omega) only [l_0, l_1, l_2, l_3, l_4, l_5, l_6, l_7, l_8, l_9, l_10, l_12, l_20, l_24, l_25, l_31, l_32, l_48, l_50, l_56, l_57, l_59, l_97, l_99, l_100, l_120, l_122, l_177, l_178, l_201, l_226, l_255, l_400, l_420, l_600, l_700, l_840, l_1000, l_1300, l_2000, l_1000000, nI_add, mr4, ml4, mr5, ml5, mr6, ml6, mr10, ml10, mr24, ml24, mr201, ml201, mr420, ml420, mr226, ml226, mr2, ml2, nI_clamp, lt_T, lt_F, le_T, le_F, eq_T, eq_F, ck_n, dv_n, cp_n, rem_n, pk_div, at1_same, at1_ne, cb_n, Option.bind_some, if_pos, if_neg, ↓reduceIte, and_self, and_true, true_and, and_false, false_and, not_true_eq_false, not_false_eq_true, nI_sub', cR hC, mS hM]
      exact ⟨_, _, rfl, rfl, Pm_rfl M⟩
    · simp (disch := omega) only [l_0, l_1, l_2, l_3, l_4, l_5, l_6, l_7, l_8, l_9, l_10, l_12, l_20, l_24, l_25, l_31, l_32, l_48, l_50, l_56, l_57, l_59, l_97, l_99, l_100, l_120, l_122, l_177, l_178, l_201, l_226, l_255, l_400, l_420, l_600, l_700, l_840, l_1000, l_1300, l_2000, l_1000000, nI_add, mr4, ml4, mr5, ml5, mr6, ml6, mr10, ml10, mr24, ml24, mr201, ml201, mr420, ml420, mr226, ml226, mr2, ml2, nI_clamp, lt_T, lt_F, le_T, le_F, eq_T, eq_F, ck_n, dv_n, cp_n, rem_n, pk_div, at1_same, at1_ne, cb_n, Option.bind_some, if_pos, if_neg, ↓reduceIte, and_self, and_true, true_and, and_false, false_and, not_true_eq_false, not_false_eq_true, nI_sub', cMv hC, mS hM]
      exact ⟨_, _, rfl, rfl, Pm_rfl M⟩
    · simp (disch := omega) only [l_0, l_1, l_2, l_3, l_4, l_5, l_6, l_7, l_8, l_9, l_10, l_12, l_20, l_24, l_25, l_31, l_32, l_48, l_50, l_56, l_57, l_59, l_97, l_99, l_100, l_120, l_122, l_177, l_178, l_201, l_226, l_255, l_400, l_420, l_600, l_700, l_840, l_1000, l_1300, l_2000, l_1000000, nI_add, mr4, ml4, mr5, ml5, mr6, ml6, mr10, ml10, mr24, ml24, mr201, ml201, mr420, ml420, mr226, ml226, mr2, ml2, nI_clamp, lt_T, lt_F, le_T, le_F, eq_T, eq_F, ck_n, dv_n, cp_n, rem_n, pk_div, at1_same, at1_ne, cb_n, Option.bind_some, if_pos, if_neg, ↓reduceIte, and_self, and_true, true_and, and_false, false_and, not_true_eq_false, not_false_eq_true, nI_sub', cSe hC, mS hM]
      exact ⟨_, _, rfl, rfl, Pm_rfl M⟩
    · simp (disch := omega) only [l_0, l_1, l_2, l_3, l_4, l_5, l_6, l_7, l_8, l_9, l_10, l_12, l_20, l_24, l_25, l_31, l_32, l_48, l_50, l_56, l_57, l_59, l_97, l_99, l_100, l_120, l_122, l_177, l_178, l_201, l_226, l_255, l_400, l_420, l_600, l_700, l_840, l_1000, l_1300, l_2000, l_1000000, nI_add, mr4, ml4, mr5, ml5, mr6, ml6, mr10, ml10, mr24, ml24, mr201, ml201, mr420, ml420, mr226, ml226, mr2, ml2, nI_clamp, lt_T, lt_F, le_T, le_F, eq_T, eq_F, ck_n, dv_n, cp_n, rem_n, pk_div, at1_same, at1_ne, cb_n, Option.bind_some, if_pos, if_neg, ↓reduceIte, and_self, and_true, true_and, and_false, false_and, not_true_eq_false, not_false_eq_true, nI_sub', hH]
      exact ⟨_, _, rfl, rfl, Pm_rfl M⟩
    · simp (disch := omega) only [l_0, l_1, l_2, l_3, l_4, l_5, l_6, l_7, l_8, l_9, l_10, l_12, l_20, l_24, l_25, l_31, l_32, l_48, l_50, l_56, l_57, l_59, l_97, l_99, l_100, l_120, l_122, l_177, l_178, l_201, l_226, l_255, l_400, l_420, l_600, l_700, l_840, l_1000, l_1300, l_2000, l_1000000, nI_add, mr4, ml4, mr5, ml5, mr6, ml6, mr10, ml10, mr24, ml24, mr201, ml201, mr420, ml420, mr226, ml226, mr2, ml2, nI_clamp, lt_T, lt_F, le_T, le_F, eq_T, eq_F, ck_n, dv_n, cp_n, rem_n, pk_div, at1_same, at1_ne, cb_n, Option.bind_some, if_pos, if_neg, ↓reduceIte, and_self, and_true, true_and, and_false, false_and, not_true_eq_false, not_false_eq_true, nI_sub', hT]
      exact ⟨_, _, rfl, rfl, Pm_rfl M⟩
    · obtain ⟨v, M', a1, a2, a3⟩ := m_plRows (P := P) (LP := LP) (LM := LM) (wP := wP) (vP := vP) hC hs hF (σ 1) 0 F 0 M hM (by omega) (by omega)
      have e1 : f_X5_plainRows F P LP wP vP C = some v := a1
      have e2 : f_X10_plainRows F M LM = some (v, M') := a2
      simp (disch := omega) only [l_0, l_1, l_2, l_3, l_4, l_5, l_6, l_7, l_8, l_9, l_10, l_12, l_20, l_24, l_25, l_31, l_32, l_48, l_50, l_56, l_57, l_59, l_97, l_99, l_100, l_120, l_122, l_177, l_178, l_201, l_226, l_255, l_400, l_420, l_600, l_700, l_840, l_1000, l_1300, l_2000, l_1000000, nI_add, mr4, ml4, mr5, ml5, mr6, ml6, mr10, ml10, mr24, ml24, mr201, ml201, mr420, ml420, mr226, ml226, mr2, ml2, nI_clamp, lt_T, lt_F, le_T, le_F, eq_T, eq_F, ck_n, dv_n, cp_n, rem_n, pk_div, at1_same, at1_ne, cb_n, Option.bind_some, if_pos, if_neg, ↓reduceIte, and_self, and_true, true_and, and_false, false_and, not_true_eq_false, not_false_eq_true, nI_sub', e1, e2]
      exact ⟨_, _, rfl, rfl, a3⟩
    · obtain ⟨v, e1, e2⟩ := m_rich (LM := LM) hC hM hs hF
      simp (disch := omega) only [l_0, l_1, l_2, l_3, l_4, l_5, l_6, l_7, l_8, l_9, l_10, l_12, l_20, l_24, l_25, l_31, l_32, l_48, l_50, l_56, l_57, l_59, l_97, l_99, l_100, l_120, l_122, l_177, l_178, l_201, l_226, l_255, l_400, l_420, l_600, l_700, l_840, l_1000, l_1300, l_2000, l_1000000, nI_add, mr4, ml4, mr5, ml5, mr6, ml6, mr10, ml10, mr24, ml24, mr201, ml201, mr420, ml420, mr226, ml226, mr2, ml2, nI_clamp, lt_T, lt_F, le_T, le_F, eq_T, eq_F, ck_n, dv_n, cp_n, rem_n, pk_div, at1_same, at1_ne, cb_n, Option.bind_some, if_pos, if_neg, ↓reduceIte, and_self, and_true, true_and, and_false, false_and, not_true_eq_false, not_false_eq_true, nI_sub', e1, e2]
      exact ⟨_, _, rfl, rfl, Pm_rfl M⟩
  · simp (disch := omega) only [l_0, l_1, l_2, l_3, l_4, l_5, l_6, l_7, l_8, l_9, l_10, l_12, l_20, l_24, l_25, l_31, l_32, l_48, l_50, l_56, l_57, l_59, l_97, l_99, l_100, l_120, l_122, l_177, l_178, l_201, l_226, l_255, l_400, l_420, l_600, l_700, l_840, l_1000, l_1300, l_2000, l_1000000, nI_add, mr4, ml4, mr5, ml5, mr6, ml6, mr10, ml10, mr24, ml24, mr201, ml201, mr420, ml420, mr226, ml226, mr2, ml2, nI_clamp, lt_T, lt_F, le_T, le_F, eq_T, eq_F, ck_n, dv_n, cp_n, rem_n, pk_div, at1_same, at1_ne, cb_n, Option.bind_some, if_pos, if_neg, ↓reduceIte, and_self, and_true, true_and, and_false, false_and, not_true_eq_false, not_false_eq_true, nI_sub', zz_add, zz_sub, zz_mul, zn_add, nz_add, zn_sub, nz_sub, zn_mul, nz_mul, z_neg, n_neg, zlt_T, zlt_F, zle_T, zle_F, zeq_T, zeq_F, zn_lt, nz_lt, zn_le, nz_le, zn_eq, nz_eq]
    exact ⟨_, _, rfl, rfl, Pm_rfl M⟩
