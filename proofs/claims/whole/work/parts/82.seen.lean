/-! PURE LAYER: what the inquest keeps; at, sumAt, differs, seen, wrong, start -/
def ch (A B : Nat) (x y : Int) (j : Nat) : Int := (if j = A then x else 0) + (if j = B then y else 0)
def Ex (σ : Sg) (u t A B : Nat) (x y : Int) : Prop := (∀ s, s ≤ u → inB σ (ly σ s)) ∧ (∀ s, t ≤ s → s ≤ σ 56 → inB σ (apE (ly σ s) A B x y 1)) ∧ ∀ k, k < σ 177 → lk σ k = if t ≤ siT σ k then ch A B x y (siC σ k) else 0
def slB (q : Nat) : Nat := if q % 2 = 1 then q / 2 % 24 + 1 else q / 2 % 24 - 1
def slP (σ : Sg) (q : Nat) : Prop := q / 48 ≤ σ 56 ∧ q / 2 % 24 / 6 < σ 1 ∧ q / 2 % 24 % 6 < σ 0 ∧ (q % 2 = 1 → q / 2 % 24 % 6 + 1 < σ 0) ∧ (q % 2 = 0 → 1 ≤ q / 2 % 24 % 6) ∧ Ex σ (q / 48) (q / 48) (q / 2 % 24) (slB q) (-1) 1
noncomputable def slN (σ : Sg) : Nat → Nat
  | 0 => 0
  | q + 1 => slN σ q + (@ite _ (slP σ q) (Classical.propDecidable _) 1 0)
noncomputable def slF (σ : Sg) : Nat → Nat → Nat
  | 0 => fun _ => 0
  | q + 1 => @ite _ (slP σ q) (Classical.propDecidable _) (fun i => if i = slN σ q then q else slF σ q i) (slF σ q)
def So (N : Mem) (σ : Sg) : Prop := N 0 11 = nI (slN σ (48 * (σ 56 + 1))) ∧ ∀ i, i < slN σ (48 * (σ 56 + 1)) → N 6 i = nI (slF σ (48 * (σ 56 + 1)) i)
def CaN (N : Mem) (σ : Sg) : Prop := (N 0 12 = nI 0 ∧ N 0 13 = nI 0) ∨ (N 0 12 = nI 1 ∧ La N σ ∧ (N 0 13 = nI 0 ∨ (N 0 13 = nI 1 ∧ So N σ)))
theorem h_layC {C N NE : Mem} {σ : Sg} (hC : StC C σ) (hs : okS σ) {F : Nat} (hF : 10000 ≤ F) (hN : CaN N σ) : ∃ N' NE', f_X2_layOut F N NE C = some (N', NE') ∧ La N' σ ∧ CaN N' σ ∧ N' 0 12 = nI 1 := by
  rcases hN with ⟨h1, h2⟩ | ⟨h1, h2, h3⟩
  · obtain ⟨N', NE', a1, a2, a3, a4, -, -⟩ := h_layOut (NE := NE) hC hs hF (.inl h1)
    exact ⟨N', NE', a1, a2, .inr ⟨a3, a2, .inl (a4.trans h2)⟩, a3⟩
  · refine ⟨N, NE, ?_, h2, .inr ⟨h1, h2, h3⟩, h1⟩
    unfold f_X2_layOut
    rw [h1, if_neg n10]
theorem isTime {M : Mem} {LM : MemL} {σ : Sg} (hM : StM M σ) (hs : okS σ) (F : Nat) {t : Int} (t1 : -2147483648 ≤ t) (t2 : t < 2147483648) : f_X10_isTime F M LM (zI t) = some (if 0 ≤ t ∧ t ≤ (σ 56 : Int) then nI 1 else nI 0) := by
  have h5 := kMv hs
  unfold f_X10_isTime
  rw [ck56, r56 hM, in0n F t1 t2 (by omega)]
  simp only [Option.bind_some, cb_T]
theorem m_at {C M N NE X0 : Mem} {LM : MemL} {σ : Sg} (hC : StC C σ) (hM : StM M σ) (hs : okS σ) (hN : CaN N σ) {F : Nat} (hF : 10000 ≤ F) (x1 x2 x3 : Int32) : ∃ v N' NE' M', f_X9_at F X0 C N NE x1 x2 x3 = some (v, N', NE') ∧ f_X10_at F M LM x1 x2 x3 = some (v, M') ∧ Pm M M' ∧ CaN N' σ := by
  have h0 := kC hs
  have h1 := kR hs
  have h5 := kMv hs
  obtain ⟨t, t1, t2, rfl⟩ := zI_of x1
  obtain ⟨r, r1, r2, rfl⟩ := zI_of x2
  obtain ⟨c, c1, c2, rfl⟩ := zI_of x3
  unfold f_X9_at f_X10_at
  rw [isTime hM hs F t1 t2, cMv hC]
  by_cases hT : 0 ≤ t ∧ t ≤ (σ 56 : Int)
  · have e1 : ¬ zI t < 0 := by rw [l_0]; exact of_eq_false (by simp (disch := omega) only [l_0, l_1, l_2, l_3, l_4, l_5, l_6, l_7, l_8, l_9, l_10, l_12, l_20, l_24, l_25, l_31, l_32, l_48, l_50, l_56, l_57, l_59, l_97, l_99, l_100, l_120, l_122, l_177, l_178, l_201, l_226, l_255, l_400, l_420, l_600, l_700, l_840, l_1000, l_1300, l_2000, l_1000000, nI_add, mr4, ml4, mr5, ml5, mr6, ml6, mr10, ml10, mr24, ml24, mr201, ml201, mr420, ml420, mr226, ml226, mr2, ml2, nI_clamp, lt_T, lt_F, le_T, le_F, eq_T, eq_F, ck_n, dv_n, cp_n, rem_n, pk_div, at1_same, at1_ne, cb_n, Option.bind_some, if_pos, if_neg, ↓reduceIte, and_self, and_true, true_and, and_false, false_and, not_true_eq_false, not_false_eq_true, nI_sub', zz_add, zz_sub, zz_mul, zn_add, nz_add, zn_sub, nz_sub, zn_mul, nz_mul, z_neg, n_neg, zlt_T, zlt_F, zle_T, zle_F, zeq_T, zeq_F, zn_lt, nz_lt, zn_le, nz_le, zn_eq, nz_eq])
    have e2 : ¬ nI (σ 56) < zI t := of_eq_false (by simp (disch := omega) only [l_0, l_1, l_2, l_3, l_4, l_5, l_6, l_7, l_8, l_9, l_10, l_12, l_20, l_24, l_25, l_31, l_32, l_48, l_50, l_56, l_57, l_59, l_97, l_99, l_100, l_120, l_122, l_177, l_178, l_201, l_226, l_255, l_400, l_420, l_600, l_700, l_840, l_1000, l_1300, l_2000, l_1000000, nI_add, mr4, ml4, mr5, ml5, mr6, ml6, mr10, ml10, mr24, ml24, mr201, ml201, mr420, ml420, mr226, ml226, mr2, ml2, nI_clamp, lt_T, lt_F, le_T, le_F, eq_T, eq_F, ck_n, dv_n, cp_n, rem_n, pk_div, at1_same, at1_ne, cb_n, Option.bind_some, if_pos, if_neg, ↓reduceIte, and_self, and_true, true_and, and_false, false_and, not_true_eq_false, not_false_eq_true, nI_sub', zz_add, zz_sub, zz_mul, zn_add, nz_add, zn_sub, nz_sub, zn_mul, nz_mul, z_neg, n_neg, zlt_T, zlt_F, zle_T, zle_F, zeq_T, zeq_F, zn_lt, nz_lt, zn_le, nz_le, zn_eq, nz_eq])
    rw [if_neg e1, if_neg e2, if_pos hT]
    simp only [Option.bind_some]
    rw [if_neg n10]
    by_cases hX : (0 ≤ r ∧ r < (σ 1 : Int)) ∧ 0 ≤ c ∧ c < (σ 0 : Int)
    · rw [hasCell_z hC h0 h1 F hX, isCell_z hM h0 h1 F hX]
      simp only [Option.bind_some]
      rw [if_neg n10, if_neg n10]
      obtain ⟨t, rfl⟩ := Int.eq_ofNat_of_zero_le hT.1
      obtain ⟨r, rfl⟩ := Int.eq_ofNat_of_zero_le hX.1.1
      obtain ⟨c, rfl⟩ := Int.eq_ofNat_of_zero_le hX.2.1
      obtain ⟨N', NE', a1, a2, a3, a4⟩ := h_layC (NE := NE) hC hs hF hN
      obtain ⟨M', b1, b2, b3⟩ := g_laysAt (LM := LM) hM hs (F := F) (t := t) hF (by omega)
      have r1 : N' 1 (24 * t + (6 * r + c)) = zI (ly σ t (6 * r + c)) := a2.1 t (by omega) _ (by omega)
      rw [← Nat.add_assoc] at r1
      have r2 : M' 4 (6 * r + c) = zI (ly σ t (6 * r + c)) := b2 _ (by omega)
      unfold f_X10_cell
      simp only [zI_c]
      simp (disch := omega) only [l_0, l_1, l_2, l_3, l_4, l_5, l_6, l_7, l_8, l_9, l_10, l_12, l_20, l_24, l_25, l_31, l_32, l_48, l_50, l_56, l_57, l_59, l_97, l_99, l_100, l_120, l_122, l_177, l_178, l_201, l_226, l_255, l_400, l_420, l_600, l_700, l_840, l_1000, l_1300, l_2000, l_1000000, nI_add, mr4, ml4, mr5, ml5, mr6, ml6, mr10, ml10, mr24, ml24, mr201, ml201, mr420, ml420, mr226, ml226, mr2, ml2, nI_clamp, lt_T, lt_F, le_T, le_F, eq_T, eq_F, ck_n, dv_n, cp_n, rem_n, pk_div, at1_same, at1_ne, cb_n, Option.bind_some, if_pos, if_neg, ↓reduceIte, and_self, and_true, true_and, and_false, false_and, not_true_eq_false, not_false_eq_true, nI_sub', a1, b1, r1, r2]
      exact ⟨_, _, _, _, rfl, rfl, b3, a3⟩
    · rw [hasCell_x hC h0 h1 F hX r1 r2 c1 c2, isCell_x hM h0 h1 F hX r1 r2 c1 c2]
      exact ⟨_, _, _, _, rfl, rfl, Pm_rfl M, hN⟩
  · rw [if_neg hT]
    by_cases q : t < 0
    · have e1 : zI t < 0 := by rw [l_0]; exact of_eq_true (by simp (disch := omega) only [l_0, l_1, l_2, l_3, l_4, l_5, l_6, l_7, l_8, l_9, l_10, l_12, l_20, l_24, l_25, l_31, l_32, l_48, l_50, l_56, l_57, l_59, l_97, l_99, l_100, l_120, l_122, l_177, l_178, l_201, l_226, l_255, l_400, l_420, l_600, l_700, l_840, l_1000, l_1300, l_2000, l_1000000, nI_add, mr4, ml4, mr5, ml5, mr6, ml6, mr10, ml10, mr24, ml24, mr201, ml201, mr420, ml420, mr226, ml226, mr2, ml2, nI_clamp, lt_T, lt_F, le_T, le_F, eq_T, eq_F, ck_n, dv_n, cp_n, rem_n, pk_div, at1_same, at1_ne, cb_n, Option.bind_some, if_pos, if_neg, ↓reduceIte, and_self, and_true, true_and, and_false, false_and, not_true_eq_false, not_false_eq_true, nI_sub', zz_add, zz_sub, zz_mul, zn_add, nz_add, zn_sub, nz_sub, zn_mul, nz_mul, z_neg, n_neg, zlt_T, zlt_F, zle_T, zle_F, zeq_T, zeq_F, zn_lt, nz_lt, zn_le, nz_le, zn_eq, nz_eq])
      rw [if_pos e1]
      exact ⟨_, _, _, _, rfl, rfl, Pm_rfl M, hN⟩
    · have e1 : ¬ zI t < 0 := by rw [l_0]; exact of_eq_false (by simp (disch := omega) only [l_0, l_1, l_2, l_3, l_4, l_5, l_6, l_7, l_8, l_9, l_10, l_12, l_20, l_24, l_25, l_31, l_32, l_48, l_50, l_56, l_57, l_59, l_97, l_99, l_100, l_120, l_122, l_177, l_178, l_201, l_226, l_255, l_400, l_420, l_600, l_700, l_840, l_1000, l_1300, l_2000, l_1000000, nI_add, mr4, ml4, mr5, ml5, mr6, ml6, mr10, ml10, mr24, ml24, mr201, ml201, mr420, ml420, mr226, ml226, mr2, ml2, nI_clamp, lt_T, lt_F, le_T, le_F, eq_T, eq_F, ck_n, dv_n, cp_n, rem_n, pk_div, at1_same, at1_ne, cb_n, Option.bind_some, if_pos, if_neg, ↓reduceIte, and_self, and_true, true_and, and_false, false_and, not_true_eq_false, not_false_eq_true, nI_sub', zz_add, zz_sub, zz_mul, zn_add, nz_add, zn_sub, nz_sub, zn_mul, nz_mul, z_neg, n_neg, zlt_T, zlt_F, zle_T, zle_F, zeq_T, zeq_F, zn_lt, nz_lt, zn_le, nz_le, zn_eq, nz_eq])
      have e2 : nI (σ 56) < zI t := of_eq_true (by simp (disch := omega) only [l_0, l_1, l_2, l_3, l_4, l_5, l_6, l_7, l_8, l_9, l_10, l_12, l_20, l_24, l_25, l_31, l_32, l_48, l_50, l_56, l_57, l_59, l_97, l_99, l_100, l_120, l_122, l_177, l_178, l_201, l_226, l_255, l_400, l_420, l_600, l_700, l_840, l_1000, l_1300, l_2000, l_1000000, nI_add, mr4, ml4, mr5, ml5, mr6, ml6, mr10, ml10, mr24, ml24, mr201, ml201, mr420, ml420, mr226, ml226, mr2, ml2, nI_clamp, lt_T, lt_F, le_T, le_F, eq_T, eq_F, ck_n, dv_n, cp_n, rem_n, pk_div, at1_same, at1_ne, cb_n, Option.bind_some, if_pos, if_neg, ↓reduceIte, and_self, and_true, true_and, and_false, false_and, not_true_eq_false, not_false_eq_true, nI_sub', zz_add, zz_sub, zz_mul, zn_add, nz_add, zn_sub, nz_sub, zn_mul, nz_mul, z_neg, n_neg, zlt_T, zlt_F, zle_T, zle_F, zeq_T, zeq_F, zn_lt, nz_lt, zn_le, nz_le, zn_eq, nz_eq])
      rw [if_neg e1, if_pos e2]
      exact ⟨_, _, _, _, rfl, rfl, Pm_rfl M, hN⟩
/-! sums by the log: both add up alike, whatever their size -/
theorem m_sa34 {C M N NE : Mem} {LM : MemL} {σ : Sg} (hC : StC C σ) (hM : StM M σ) (hs : okS σ) {F t r : Nat} (hF : 10000 ≤ F) (ht : t ≤ σ 56) (hr : r < σ 1) (hN : ∀ j, j < 24 → N 1 (24 * t + j) = zI (ly σ t j)) (hc : CeM M (ly σ t)) (k : Int32 → Option (Int32 × Mem × Mem)) (k' : Int32 → Option (Int32 × Mem)) : ∀ (d i n : Nat) (a : Int32), i + d = σ 0 → d < n → ∃ b, f_X2_sumBehind_22 F N NE C (nI t) (nI r) k n a (nI i) = k b ∧ f_X10_sumAt_34 F M LM (nI r) k' n a (nI i) = k' b
  | d, i, 0, a, _, h => by omega
  | 0, i, n + 1, a, hi, _ => by
    obtain rfl : i = σ 0 := by omega
    have h0 := kC hs
    refine ⟨a, ?_, ?_⟩
    · rw [f_X2_sumBehind_22]
      simp (disch := omega) only [l_0, l_1, l_2, l_3, l_4, l_5, l_6, l_7, l_8, l_9, l_10, l_12, l_20, l_24, l_25, l_31, l_32, l_48, l_50, l_56, l_57, l_59, l_97, l_99, l_100, l_120, l_122, l_177, l_178, l_201, l_226, l_255, l_400, l_420, l_600, l_700, l_840, l_1000, l_1300, l_2000, l_1000000, nI_add, mr4, ml4, mr5, ml5, mr6, ml6, mr10, ml10, mr24, ml24, mr201, ml201, mr420, ml420, mr226, ml226, mr2, ml2, nI_clamp, lt_T, lt_F, le_T, le_F, eq_T, eq_F, ck_n, dv_n, cp_n, rem_n, pk_div, at1_same, at1_ne, cb_n, Option.bind_some, if_pos, if_neg, ↓reduceIte, and_self, and_true, true_and, and_false, false_and, not_true_eq_false, not_false_eq_true, nI_sub', cC hC]
    · rw [f_X10_sumAt_34]
      simp (disch := omega) only [l_0, l_1, l_2, l_3, l_4, l_5, l_6, l_7, l_8, l_9, l_10, l_12, l_20, l_24, l_25, l_31, l_32, l_48, l_50, l_56, l_57, l_59, l_97, l_99, l_100, l_120, l_122, l_177, l_178, l_201, l_226, l_255, l_400, l_420, l_600, l_700, l_840, l_1000, l_1300, l_2000, l_1000000, nI_add, mr4, ml4, mr5, ml5, mr6, ml6, mr10, ml10, mr24, ml24, mr201, ml201, mr420, ml420, mr226, ml226, mr2, ml2, nI_clamp, lt_T, lt_F, le_T, le_F, eq_T, eq_F, ck_n, dv_n, cp_n, rem_n, pk_div, at1_same, at1_ne, cb_n, Option.bind_some, if_pos, if_neg, ↓reduceIte, and_self, and_true, true_and, and_false, false_and, not_true_eq_false, not_false_eq_true, nI_sub', mS hM]
  | d + 1, i, n + 1, a, hi, hn => by
    have h0 := kC hs
    have h1 := kR hs
    have h5 := kMv hs
    obtain ⟨b, e1, e2⟩ := m_sa34 (N := N) (NE := NE) (LM := LM) hC hM hs (F := F) hF ht hr hN hc k k' d (i + 1) n (a + zI (ly σ t (6 * r + i)) * nI (wo σ i)) (by omega) (by omega)
    have r1 := hN (6 * r + i) (by omega)
    rw [← Nat.add_assoc] at r1
    have r2 := hc (6 * r + i) (by omega)
    have wl := g_worthOf (LM := LM) hM (F := F) (by omega) (c := i) (by omega)
    refine ⟨b, ?_, ?_⟩
    · rw [f_X2_sumBehind_22]
      simp (disch := omega) only [l_0, l_1, l_2, l_3, l_4, l_5, l_6, l_7, l_8, l_9, l_10, l_12, l_20, l_24, l_25, l_31, l_32, l_48, l_50, l_56, l_57, l_59, l_97, l_99, l_100, l_120, l_122, l_177, l_178, l_201, l_226, l_255, l_400, l_420, l_600, l_700, l_840, l_1000, l_1300, l_2000, l_1000000, nI_add, mr4, ml4, mr5, ml5, mr6, ml6, mr10, ml10, mr24, ml24, mr201, ml201, mr420, ml420, mr226, ml226, mr2, ml2, nI_clamp, lt_T, lt_F, le_T, le_F, eq_T, eq_F, ck_n, dv_n, cp_n, rem_n, pk_div, at1_same, at1_ne, cb_n, Option.bind_some, if_pos, if_neg, ↓reduceIte, and_self, and_true, true_and, and_false, false_and, not_true_eq_false, not_false_eq_true, nI_sub', cC hC, r1, cWo hC]
      exact e1
    · rw [f_X10_sumAt_34]
      unfold f_X10_cell
      simp (disch := omega) only [l_0, l_1, l_2, l_3, l_4, l_5, l_6, l_7, l_8, l_9, l_10, l_12, l_20, l_24, l_25, l_31, l_32, l_48, l_50, l_56, l_57, l_59, l_97, l_99, l_100, l_120, l_122, l_177, l_178, l_201, l_226, l_255, l_400, l_420, l_600, l_700, l_840, l_1000, l_1300, l_2000, l_1000000, nI_add, mr4, ml4, mr5, ml5, mr6, ml6, mr10, ml10, mr24, ml24, mr201, ml201, mr420, ml420, mr226, ml226, mr2, ml2, nI_clamp, lt_T, lt_F, le_T, le_F, eq_T, eq_F, ck_n, dv_n, cp_n, rem_n, pk_div, at1_same, at1_ne, cb_n, Option.bind_some, if_pos, if_neg, ↓reduceIte, and_self, and_true, true_and, and_false, false_and, not_true_eq_false, not_false_eq_true, nI_sub', mS hM, r2, wl]
      exact e2
theorem m_sa21 {C M N NE : Mem} {LM : MemL} {σ : Sg} (hC : StC C σ) (hM : StM M σ) (hs : okS σ) {F t : Nat} (hF : 10000 ≤ F) (ht : t ≤ σ 56) (hN : ∀ j, j < 24 → N 1 (24 * t + j) = zI (ly σ t j)) (hc : CeM M (ly σ t)) : ∀ (d i n : Nat) (a : Int32), i + d = σ 1 → d < n → ∃ b, f_X2_sumBehind_10 F N NE C (nI t) (fun x => some (x, N, NE)) n a (nI i) = some (b, N, NE) ∧ f_X10_sumAt_21 F M LM (fun x => some (x, M)) n a (nI i) = some (b, M)
  | d, i, 0, a, _, h => by omega
  | 0, i, n + 1, a, hi, _ => by
    obtain rfl : i = σ 1 := by omega
    have h1 := kR hs
    refine ⟨a, ?_, ?_⟩
    · rw [f_X2_sumBehind_10]
      simp (disch := omega) only [l_0, l_1, l_2, l_3, l_4, l_5, l_6, l_7, l_8, l_9, l_10, l_12, l_20, l_24, l_25, l_31, l_32, l_48, l_50, l_56, l_57, l_59, l_97, l_99, l_100, l_120, l_122, l_177, l_178, l_201, l_226, l_255, l_400, l_420, l_600, l_700, l_840, l_1000, l_1300, l_2000, l_1000000, nI_add, mr4, ml4, mr5, ml5, mr6, ml6, mr10, ml10, mr24, ml24, mr201, ml201, mr420, ml420, mr226, ml226, mr2, ml2, nI_clamp, lt_T, lt_F, le_T, le_F, eq_T, eq_F, ck_n, dv_n, cp_n, rem_n, pk_div, at1_same, at1_ne, cb_n, Option.bind_some, if_pos, if_neg, ↓reduceIte, and_self, and_true, true_and, and_false, false_and, not_true_eq_false, not_false_eq_true, nI_sub', cR hC]
    · rw [f_X10_sumAt_21]
      simp (disch := omega) only [l_0, l_1, l_2, l_3, l_4, l_5, l_6, l_7, l_8, l_9, l_10, l_12, l_20, l_24, l_25, l_31, l_32, l_48, l_50, l_56, l_57, l_59, l_97, l_99, l_100, l_120, l_122, l_177, l_178, l_201, l_226, l_255, l_400, l_420, l_600, l_700, l_840, l_1000, l_1300, l_2000, l_1000000, nI_add, mr4, ml4, mr5, ml5, mr6, ml6, mr10, ml10, mr24, ml24, mr201, ml201, mr420, ml420, mr226, ml226, mr2, ml2, nI_clamp, lt_T, lt_F, le_T, le_F, eq_T, eq_F, ck_n, dv_n, cp_n, rem_n, pk_div, at1_same, at1_ne, cb_n, Option.bind_some, if_pos, if_neg, ↓reduceIte, and_self, and_true, true_and, and_false, false_and, not_true_eq_false, not_false_eq_true, nI_sub', mS hM]
  | d + 1, i, n + 1, a, hi, hn => by
    have h0 := kC hs
    have h1 := kR hs
    obtain ⟨a2, e1, e2⟩ := m_sa34 (N := N) (NE := NE) (LM := LM) hC hM hs (F := F) (r := i) hF ht (by omega) hN hc (fun x3_66 => f_X2_sumBehind_10 F N NE C (nI t) (fun x => some (x, N, NE)) n x3_66 (nI (i + 1))) (fun x2_72 => f_X10_sumAt_21 F M LM (fun x => some (x, M)) n x2_72 (nI (i + 1))) (σ 0) 0 F a (by omega) (by omega)
    obtain ⟨b, f1, f2⟩ := m_sa21 (N := N) (NE := NE) (LM := LM) hC hM hs (F := F) hF ht hN hc d (i + 1) n a2 (by omega) (by omega)
    refine ⟨b, ?_, ?_⟩
    · rw [f_X2_sumBehind_10]
      rw [f1] at e1
      simp (disch := omega) only [l_0, l_1, l_2, l_3, l_4, l_5, l_6, l_7, l_8, l_9, l_10, l_12, l_20, l_24, l_25, l_31, l_32, l_48, l_50, l_56, l_57, l_59, l_97, l_99, l_100, l_120, l_122, l_177, l_178, l_201, l_226, l_255, l_400, l_420, l_600, l_700, l_840, l_1000, l_1300, l_2000, l_1000000, nI_add, mr4, ml4, mr5, ml5, mr6, ml6, mr10, ml10, mr24, ml24, mr201, ml201, mr420, ml420, mr226, ml226, mr2, ml2, nI_clamp, lt_T, lt_F, le_T, le_F, eq_T, eq_F, ck_n, dv_n, cp_n, rem_n, pk_div, at1_same, at1_ne, cb_n, Option.bind_some, if_pos, if_neg, ↓reduceIte, and_self, and_true, true_and, and_false, false_and, not_true_eq_false, not_false_eq_true, nI_sub', cR hC]
      exact e1
    · rw [f_X10_sumAt_21]
      rw [f2] at e2
      simp (disch := omega) only [l_0, l_1, l_2, l_3, l_4, l_5, l_6, l_7, l_8, l_9, l_10, l_12, l_20, l_24, l_25, l_31, l_32, l_48, l_50, l_56, l_57, l_59, l_97, l_99, l_100, l_120, l_122, l_177, l_178, l_201, l_226, l_255, l_400, l_420, l_600, l_700, l_840, l_1000, l_1300, l_2000, l_1000000, nI_add, mr4, ml4, mr5, ml5, mr6, ml6, mr10, ml10, mr24, ml24, mr201, ml201, mr420, ml420, mr226, ml226, mr2, ml2, nI_clamp, lt_T, lt_F, le_T, le_F, eq_T, eq_F, ck_n, dv_n, cp_n, rem_n, pk_div, at1_same, at1_ne, cb_n, Option.bind_some, if_pos, if_neg, ↓reduceIte, and_self, and_true, true_and, and_false, false_and, not_true_eq_false, not_false_eq_true, nI_sub', mS hM]
      exact e2
theorem m_sumAt {C M N NE X0 : Mem} {LM : MemL} {σ : Sg} (hC : StC C σ) (hM : StM M σ) (hs : okS σ) (hN : CaN N σ) {F : Nat} (hF : 10000 ≤ F) (x1 : Int32) : ∃ v N' NE' M', f_X9_sumAt F X0 C N NE x1 = some (v, N', NE') ∧ f_X10_sumAt F M LM x1 = some (v, M') ∧ Pm M M' ∧ CaN N' σ := by
  have h1 := kR hs
  have h5 := kMv hs
  obtain ⟨t, t1, t2, rfl⟩ := zI_of x1
  unfold f_X9_sumAt f_X10_sumAt
  rw [isTime hM hs F t1 t2, cMv hC]
  by_cases hT : 0 ≤ t ∧ t ≤ (σ 56 : Int)
  · have e1 : ¬ zI t < 0 := by rw [l_0]; exact of_eq_false (by simp (disch := omega) only [l_0, l_1, l_2, l_3, l_4, l_5, l_6, l_7, l_8, l_9, l_10, l_12, l_20, l_24, l_25, l_31, l_32, l_48, l_50, l_56, l_57, l_59, l_97, l_99, l_100, l_120, l_122, l_177, l_178, l_201, l_226, l_255, l_400, l_420, l_600, l_700, l_840, l_1000, l_1300, l_2000, l_1000000, nI_add, mr4, ml4, mr5, ml5, mr6, ml6, mr10, ml10, mr24, ml24, mr201, ml201, mr420, ml420, mr226, ml226, mr2, ml2, nI_clamp, lt_T, lt_F, le_T, le_F, eq_T, eq_F, ck_n, dv_n, cp_n, rem_n, pk_div, at1_same, at1_ne, cb_n, Option.bind_some, if_pos, if_neg, ↓reduceIte, and_self, and_true, true_and, and_false, false_and, not_true_eq_false, not_false_eq_true, nI_sub', zz_add, zz_sub, zz_mul, zn_add, nz_add, zn_sub, nz_sub, zn_mul, nz_mul, z_neg, n_neg, zlt_T, zlt_F, zle_T, zle_F, zeq_T, zeq_F, zn_lt, nz_lt, zn_le, nz_le, zn_eq, nz_eq])
    have e2 : zI t ≤ nI (σ 56) := of_eq_true (by simp (disch := omega) only [l_0, l_1, l_2, l_3, l_4, l_5, l_6, l_7, l_8, l_9, l_10, l_12, l_20, l_24, l_25, l_31, l_32, l_48, l_50, l_56, l_57, l_59, l_97, l_99, l_100, l_120, l_122, l_177, l_178, l_201, l_226, l_255, l_400, l_420, l_600, l_700, l_840, l_1000, l_1300, l_2000, l_1000000, nI_add, mr4, ml4, mr5, ml5, mr6, ml6, mr10, ml10, mr24, ml24, mr201, ml201, mr420, ml420, mr226, ml226, mr2, ml2, nI_clamp, lt_T, lt_F, le_T, le_F, eq_T, eq_F, ck_n, dv_n, cp_n, rem_n, pk_div, at1_same, at1_ne, cb_n, Option.bind_some, if_pos, if_neg, ↓reduceIte, and_self, and_true, true_and, and_false, false_and, not_true_eq_false, not_false_eq_true, nI_sub', zz_add, zz_sub, zz_mul, zn_add, nz_add, zn_sub, nz_sub, zn_mul, nz_mul, z_neg, n_neg, zlt_T, zlt_F, zle_T, zle_F, zeq_T, zeq_F, zn_lt, nz_lt, zn_le, nz_le, zn_eq, nz_eq])
    rw [if_neg e1, if_pos e2, if_pos hT]
    simp only [Option.bind_some]
    rw [if_neg n10]
    obtain ⟨t, rfl⟩ := Int.eq_ofNat_of_zero_le hT.1
    obtain ⟨N', NE', a1, a2, a3, a4⟩ := h_layC (NE := NE) hC hs hF hN
    obtain ⟨M', b1, b2, b3⟩ := g_laysAt (LM := LM) hM hs (F := F) (t := t) hF (by omega)
    obtain ⟨b, f1, f2⟩ := m_sa21 (N := N') (NE := NE') (LM := LM) hC (StM_p hM b3) hs hF (t := t) (by omega) (a2.1 t (by omega)) b2 (σ 1) 0 F 0 (by omega) (by omega)
    unfold f_X2_sumBehind
    simp only [zI_c]
    rw [a1, b1]
    simp only [Option.bind_some]
    have f1' : f_X2_sumBehind_10 F N' NE' C (nI t) (fun x3_72 => some (x3_72, N', NE')) F 0 0 = some (b, N', NE') := f1
    have f2' : f_X10_sumAt_21 F M' LM (fun x2_78 => some (x2_78, M')) F 0 0 = some (b, M') := f2
    rw [f1', f2']
    exact ⟨_, _, _, _, rfl, rfl, b3, a3⟩
  · rw [if_neg hT]
    by_cases q : t < 0
    · have e1 : zI t < 0 := by rw [l_0]; exact of_eq_true (by simp (disch := omega) only [l_0, l_1, l_2, l_3, l_4, l_5, l_6, l_7, l_8, l_9, l_10, l_12, l_20, l_24, l_25, l_31, l_32, l_48, l_50, l_56, l_57, l_59, l_97, l_99, l_100, l_120, l_122, l_177, l_178, l_201, l_226, l_255, l_400, l_420, l_600, l_700, l_840, l_1000, l_1300, l_2000, l_1000000, nI_add, mr4, ml4, mr5, ml5, mr6, ml6, mr10, ml10, mr24, ml24, mr201, ml201, mr420, ml420, mr226, ml226, mr2, ml2, nI_clamp, lt_T, lt_F, le_T, le_F, eq_T, eq_F, ck_n, dv_n, cp_n, rem_n, pk_div, at1_same, at1_ne, cb_n, Option.bind_some, if_pos, if_neg, ↓reduceIte, and_self, and_true, true_and, and_false, false_and, not_true_eq_false, not_false_eq_true, nI_sub', zz_add, zz_sub, zz_mul, zn_add, nz_add, zn_sub, nz_sub, zn_mul, nz_mul, z_neg, n_neg, zlt_T, zlt_F, zle_T, zle_F, zeq_T, zeq_F, zn_lt, nz_lt, zn_le, nz_le, zn_eq, nz_eq])
      rw [if_pos e1]
      exact ⟨_, _, _, _, rfl, rfl, Pm_rfl M, hN⟩
    · have e1 : ¬ zI t < 0 := by rw [l_0]; exact of_eq_false (by simp (disch := omega) only [l_0, l_1, l_2, l_3, l_4, l_5, l_6, l_7, l_8, l_9, l_10, l_12, l_20, l_24, l_25, l_31, l_32, l_48, l_50, l_56, l_57, l_59, l_97, l_99, l_100, l_120, l_122, l_177, l_178, l_201, l_226, l_255, l_400, l_420, l_600, l_700, l_840, l_1000, l_1300, l_2000, l_1000000, nI_add, mr4, ml4, mr5, ml5, mr6, ml6, mr10, ml10, mr24, ml24, mr201, ml201, mr420, ml420, mr226, ml226, mr2, ml2, nI_clamp, lt_T, lt_F, le_T, le_F, eq_T, eq_F, ck_n, dv_n, cp_n, rem_n, pk_div, at1_same, at1_ne, cb_n, Option.bind_some, if_pos, if_neg, ↓reduceIte, and_self, and_true, true_and, and_false, false_and, not_true_eq_false, not_false_eq_true, nI_sub', zz_add, zz_sub, zz_mul, zn_add, nz_add, zn_sub, nz_sub, zn_mul, nz_mul, z_neg, n_neg, zlt_T, zlt_F, zle_T, zle_F, zeq_T, zeq_F, zn_lt, nz_lt, zn_le, nz_le, zn_eq, nz_eq])
      have e2 : ¬ zI t ≤ nI (σ 56) := of_eq_false (by simp (disch := omega) only [l_0, l_1, l_2, l_3, l_4, l_5, l_6, l_7, l_8, l_9, l_10, l_12, l_20, l_24, l_25, l_31, l_32, l_48, l_50, l_56, l_57, l_59, l_97, l_99, l_100, l_120, l_122, l_177, l_178, l_201, l_226, l_255, l_400, l_420, l_600, l_700, l_840, l_1000, l_1300, l_2000, l_1000000, nI_add, mr4, ml4, mr5, ml5, mr6, ml6, mr10, ml10, mr24, ml24, mr201, ml201, mr420, ml420, mr226, ml226, mr2, ml2, nI_clamp, lt_T, lt_F, le_T, le_F, eq_T, eq_F, ck_n, dv_n, cp_n, rem_n, pk_div, at1_same, at1_ne, cb_n, Option.bind_some, if_pos, if_neg, ↓reduceIte, and_self, and_true, true_and, and_false, false_and, not_true_eq_false, not_false_eq_true, nI_sub', zz_add, zz_sub, zz_mul, zn_add, nz_add, zn_sub, nz_sub, zn_mul, nz_mul, z_neg, n_neg, zlt_T, zlt_F, zle_T, zle_F, zeq_T, zeq_F, zn_lt, nz_lt, zn_le, nz_le, zn_eq, nz_eq])
      rw [if_neg e1, if_neg e2]
      exact ⟨_, _, _, _, rfl, rfl, Pm_rfl M, hN⟩
/-! differs -/
noncomputable def dfN (σ : Sg) : Nat → Nat
  | 0 => 0
  | j + 1 => dfN σ j + (if ly σ (σ 56) j = (σ (8 + j) : Int) then 0 else 1)
theorem df_le (σ : Sg) : ∀ j, dfN σ j ≤ j
  | 0 => Nat.le_refl _
  | j + 1 => by
    have := df_le σ j
    show dfN σ j + (if ly σ (σ 56) j = (σ (8 + j) : Int) then 0 else 1) ≤ j + 1
    by_cases q : ly σ (σ 56) j = (σ (8 + j) : Int)
    · rw [if_pos q]; omega
    · rw [if_neg q]; omega
theorem df_0 (σ : Sg) : ∀ j, dfN σ j = 0 ↔ ∀ i, i < j → ly σ (σ 56) i = (σ (8 + i) : Int)
  | 0 => ⟨fun _ i hi => by omega, fun _ => rfl⟩
  | j + 1 => by
    have ih := df_0 σ j
    have e : dfN σ (j + 1) = dfN σ j + (if ly σ (σ 56) j = (σ (8 + j) : Int) then 0 else 1) := rfl
    by_cases q : ly σ (σ 56) j = (σ (8 + j) : Int)
    · rw [e, if_pos q, Nat.add_zero, ih]
      refine ⟨fun h i hi => ?_, fun h i hi => h i (by omega)⟩
      by_cases w : i = j
      · rw [w]; exact q
      · exact h i (by omega)
    · rw [e, if_neg q]
      exact ⟨fun h => by omega, fun h => absurd (h j (by omega)) q⟩
theorem h_apart {C N NE : Mem} {σ : Sg} (hC : StC C σ) (hs : okS σ) {F : Nat} (hN : ∀ j, j < 24 → N 1 (24 * σ 56 + j) = zI (ly σ (σ 56) j)) (k : Int32 → Option (Int32 × Mem × Mem)) : ∀ (d i n : Nat), i + d = 24 → d < n → f_X2_cellsApart_9 F N NE C k n (nI (dfN σ i)) (nI i) = k (nI (dfN σ 24))
  | d, i, 0, _, h => by omega
  | 0, i, n + 1, hi, _ => by
    obtain rfl : i = 24 := by omega
    rw [f_X2_cellsApart_9]
    simp (disch := omega) only [l_0, l_1, l_2, l_3, l_4, l_5, l_6, l_7, l_8, l_9, l_10, l_12, l_20, l_24, l_25, l_31, l_32, l_48, l_50, l_56, l_57, l_59, l_97, l_99, l_100, l_120, l_122, l_177, l_178, l_201, l_226, l_255, l_400, l_420, l_600, l_700, l_840, l_1000, l_1300, l_2000, l_1000000, nI_add, mr4, ml4, mr5, ml5, mr6, ml6, mr10, ml10, mr24, ml24, mr201, ml201, mr420, ml420, mr226, ml226, mr2, ml2, nI_clamp, lt_T, lt_F, le_T, le_F, eq_T, eq_F, ck_n, dv_n, cp_n, rem_n, pk_div, at1_same, at1_ne, cb_n, Option.bind_some, if_pos, if_neg, ↓reduceIte, and_self, and_true, true_and, and_false, false_and, not_true_eq_false, not_false_eq_true, nI_sub']
  | d + 1, i, n + 1, hi, hn => by
    have h5 := kMv hs
    have ih := h_apart (F := F) (NE := NE) hC hs hN k d (i + 1) n (by omega) (by omega)
    have e1 := hN i (by omega)
    have b1 := ly_M hs (Nat.le_refl (σ 56)) i (by omega)
    have b2 := (kCe hs (j := i) (by omega)).1
    have e : dfN σ (i + 1) = dfN σ i + (if ly σ (σ 56) i = (σ (8 + i) : Int) then 0 else 1) := rfl
    rw [e] at ih
    rw [f_X2_cellsApart_9]
    by_cases q : ly σ (σ 56) i = (σ (8 + i) : Int)
    · rw [if_pos q] at ih
      have e2 : (nI (σ (8 + i)) = zI (ly σ (σ 56) i)) = True := eq_true (by rw [q, zI_c])
      simp (disch := omega) only [l_0, l_1, l_2, l_3, l_4, l_5, l_6, l_7, l_8, l_9, l_10, l_12, l_20, l_24, l_25, l_31, l_32, l_48, l_50, l_56, l_57, l_59, l_97, l_99, l_100, l_120, l_122, l_177, l_178, l_201, l_226, l_255, l_400, l_420, l_600, l_700, l_840, l_1000, l_1300, l_2000, l_1000000, nI_add, mr4, ml4, mr5, ml5, mr6, ml6, mr10, ml10, mr24, ml24, mr201, ml201, mr420, ml420, mr226, ml226, mr2, ml2, nI_clamp, lt_T, lt_F, le_T, le_F, eq_T, eq_F, ck_n, dv_n, cp_n, rem_n, pk_div, at1_same, at1_ne, cb_n, Option.bind_some, if_pos, if_neg, ↓reduceIte, and_self, and_true, true_and, and_false, false_and, not_true_eq_false, not_false_eq_true, nI_sub', cMv hC, cCe hC, e1, e2]
      exact ih
    · rw [if_neg q] at ih
      have e2 : (nI (σ (8 + i)) = zI (ly σ (σ 56) i)) = False := by
        rw [nz_eq]
        exact zeq_F (fun z => q z.symm) (by omega) (by omega) (by omega) (by omega)
      simp (disch := omega) only [l_0, l_1, l_2, l_3, l_4, l_5, l_6, l_7, l_8, l_9, l_10, l_12, l_20, l_24, l_25, l_31, l_32, l_48, l_50, l_56, l_57, l_59, l_97, l_99, l_100, l_120, l_122, l_177, l_178, l_201, l_226, l_255, l_400, l_420, l_600, l_700, l_840, l_1000, l_1300, l_2000, l_1000000, nI_add, mr4, ml4, mr5, ml5, mr6, ml6, mr10, ml10, mr24, ml24, mr201, ml201, mr420, ml420, mr226, ml226, mr2, ml2, nI_clamp, lt_T, lt_F, le_T, le_F, eq_T, eq_F, ck_n, dv_n, cp_n, rem_n, pk_div, at1_same, at1_ne, cb_n, Option.bind_some, if_pos, if_neg, ↓reduceIte, and_self, and_true, true_and, and_false, false_and, not_true_eq_false, not_false_eq_true, nI_sub', cMv hC, cCe hC, e1, e2]
      exact ih
theorem g_differs {M : Mem} {LM : MemL} {σ : Sg} (hM : StM M σ) (hs : okS σ) {F : Nat} (hc : CeM M (ly σ (σ 56))) (k : Int32 → Option (Int32 × Mem)) : ∀ (d i n : Nat), i + d = 24 → d < n → f_X10_differs_15 F M LM k n (nI (dfN σ i)) (nI i) = k (nI (dfN σ 24))
  | d, i, 0, _, h => by omega
  | 0, i, n + 1, hi, _ => by
    obtain rfl : i = 24 := by omega
    rw [f_X10_differs_15]
    simp (disch := omega) only [l_0, l_1, l_2, l_3, l_4, l_5, l_6, l_7, l_8, l_9, l_10, l_12, l_20, l_24, l_25, l_31, l_32, l_48, l_50, l_56, l_57, l_59, l_97, l_99, l_100, l_120, l_122, l_177, l_178, l_201, l_226, l_255, l_400, l_420, l_600, l_700, l_840, l_1000, l_1300, l_2000, l_1000000, nI_add, mr4, ml4, mr5, ml5, mr6, ml6, mr10, ml10, mr24, ml24, mr201, ml201, mr420, ml420, mr226, ml226, mr2, ml2, nI_clamp, lt_T, lt_F, le_T, le_F, eq_T, eq_F, ck_n, dv_n, cp_n, rem_n, pk_div, at1_same, at1_ne, cb_n, Option.bind_some, if_pos, if_neg, ↓reduceIte, and_self, and_true, true_and, and_false, false_and, not_true_eq_false, not_false_eq_true, nI_sub']
  | d + 1, i, n + 1, hi, hn => by
    have h5 := kMv hs
    have ih := g_differs (F := F) (LM := LM) hM hs hc k d (i + 1) n (by omega) (by omega)
    have e1 := hc i (by omega)
    have b1 := ly_M hs (Nat.le_refl (σ 56)) i (by omega)
    have b2 := (kCe hs (j := i) (by omega)).1
    have e : dfN σ (i + 1) = dfN σ i + (if ly σ (σ 56) i = (σ (8 + i) : Int) then 0 else 1) := rfl
    rw [e] at ih
    rw [f_X10_differs_15]
    by_cases q : ly σ (σ 56) i = (σ (8 + i) : Int)
    · rw [if_pos q] at ih
      have e2 : (zI (ly σ (σ 56) i) = nI (σ (8 + i))) = True := eq_true (by rw [q, zI_c])
      simp (disch := omega) only [l_0, l_1, l_2, l_3, l_4, l_5, l_6, l_7, l_8, l_9, l_10, l_12, l_20, l_24, l_25, l_31, l_32, l_48, l_50, l_56, l_57, l_59, l_97, l_99, l_100, l_120, l_122, l_177, l_178, l_201, l_226, l_255, l_400, l_420, l_600, l_700, l_840, l_1000, l_1300, l_2000, l_1000000, nI_add, mr4, ml4, mr5, ml5, mr6, ml6, mr10, ml10, mr24, ml24, mr201, ml201, mr420, ml420, mr226, ml226, mr2, ml2, nI_clamp, lt_T, lt_F, le_T, le_F, eq_T, eq_F, ck_n, dv_n, cp_n, rem_n, pk_div, at1_same, at1_ne, cb_n, Option.bind_some, if_pos, if_neg, ↓reduceIte, and_self, and_true, true_and, and_false, false_and, not_true_eq_false, not_false_eq_true, nI_sub', mS hM, e1, e2]
      exact ih
    · rw [if_neg q] at ih
      have e2 : (zI (ly σ (σ 56) i) = nI (σ (8 + i))) = False := by
        rw [zn_eq]
        exact zeq_F q (by omega) (by omega) (by omega) (by omega)
      simp (disch := omega) only [l_0, l_1, l_2, l_3, l_4, l_5, l_6, l_7, l_8, l_9, l_10, l_12, l_20, l_24, l_25, l_31, l_32, l_48, l_50, l_56, l_57, l_59, l_97, l_99, l_100, l_120, l_122, l_177, l_178, l_201, l_226, l_255, l_400, l_420, l_600, l_700, l_840, l_1000, l_1300, l_2000, l_1000000, nI_add, mr4, ml4, mr5, ml5, mr6, ml6, mr10, ml10, mr24, ml24, mr201, ml201, mr420, ml420, mr226, ml226, mr2, ml2, nI_clamp, lt_T, lt_F, le_T, le_F, eq_T, eq_F, ck_n, dv_n, cp_n, rem_n, pk_div, at1_same, at1_ne, cb_n, Option.bind_some, if_pos, if_neg, ↓reduceIte, and_self, and_true, true_and, and_false, false_and, not_true_eq_false, not_false_eq_true, nI_sub', mS hM, e1, e2]
      exact ih
theorem h_cellsApart {C N NE : Mem} {σ : Sg} (hC : StC C σ) (hs : okS σ) (hN : CaN N σ) {F : Nat} (hF : 10000 ≤ F) : ∃ N' NE', f_X2_cellsApart F N NE C = some (nI (dfN σ 24), N', NE') ∧ CaN N' σ := by
  obtain ⟨N', NE', a1, a2, a3, a4⟩ := h_layC (NE := NE) hC hs hF hN
  refine ⟨N', NE', ?_, a3⟩
  unfold f_X2_cellsApart
  rw [a1]
  exact h_apart (F := F) (NE := NE') hC hs (a2.1 (σ 56) (Nat.le_refl _)) _ 24 0 F (by omega) (by omega)
theorem m_differs {C M N NE X0 : Mem} {LM : MemL} {σ : Sg} (hC : StC C σ) (hM : StM M σ) (hs : okS σ) (hN : CaN N σ) {F : Nat} (hF : 10000 ≤ F) : ∃ v N' NE' M', f_X9_differs F X0 C N NE = some (v, N', NE') ∧ f_X10_differs F M LM = some (v, M') ∧ Pm M M' ∧ CaN N' σ := by
  obtain ⟨N', NE', a1, a2⟩ := h_cellsApart (NE := NE) hC hs hN hF
  obtain ⟨M', b1, b2, b3⟩ := g_laysAt (LM := LM) hM hs (F := F) (t := σ 56) hF (Nat.le_refl _)
  have f2 : f_X10_differs_15 F M' LM (fun x1_48 => some (x1_48, M')) F 0 0 = some (nI (dfN σ 24), M') := g_differs (F := F) (LM := LM) (StM_p hM b3) hs b2 (fun x1_48 => some (x1_48, M')) 24 0 F (by omega) (by omega)
  unfold f_X9_differs f_X10_differs
  rw [a1, ck56, r56 hM, b1]
  simp only [Option.bind_some]
  rw [f2]
  exact ⟨_, _, _, _, rfl, rfl, b3, a2⟩
theorem m_seen {C M N NE X0 : Mem} {LM : MemL} {σ : Sg} (hC : StC C σ) (hM : StM M σ) (hs : okS σ) (hN : CaN N σ) {F : Nat} (hF : 10000 ≤ F) (x1 x2 : Int32) : ∃ v N' NE' M', f_X9_seen F X0 C N NE x1 x2 = some (v, N', NE') ∧ f_X10_seen F M LM x1 x2 = some (v, M') ∧ Pm M M' ∧ CaN N' σ := by
  have h6 := kSe hs
  obtain ⟨t, t1, t2, rfl⟩ := zI_of x1
  obtain ⟨w, w1, w2, rfl⟩ := zI_of x2
  unfold f_X9_seen f_X10_seen
  rw [ck177, r177 hM, cSe hC]
  have e1 : nI (σ 177) - 1 = zI ((σ 177 : Int) - ((1 : Nat) : Int)) := nn_sub (σ 177) 1
  have i1 : f_X10_in F (zI t).toInt64 0 (nI (σ 177) - 1).toInt64 = some (if 0 ≤ t ∧ t < (σ 177 : Int) then nI 1 else nI 0) := by
    rw [e1, t64.1, ← zI_c, f_inz F t1 t2 (by omega) (by omega) (by omega) (by omega)]
    by_cases q : 0 ≤ t ∧ t < (σ 177 : Int)
    · rw [if_pos q, if_pos (by omega)]
    · rw [if_neg q, if_neg (by omega)]
      rfl
  rw [i1, in04 F w1 w2]
  by_cases hT : 0 ≤ t ∧ t < (σ 177 : Int)
  · obtain ⟨k, rfl⟩ := Int.eq_ofNat_of_zero_le hT.1
    have hk : k < σ 177 := by omega
    rw [if_pos hT]
    simp only [zI_c, Option.bind_some]
    rw [if_neg n10, if_neg (show ¬ nI k < 0 from nI_pos (by omega)), if_neg (nI_ge (a := k) (b := σ 177) hk (by omega))]
    by_cases hw : 0 ≤ w ∧ w ≤ 4
    · obtain ⟨w, rfl⟩ := Int.eq_ofNat_of_zero_le hw.1
      have hw' : w ≤ 4 := by omega
      rw [if_pos hw]
      simp only [zI_c, Option.bind_some]
      rw [if_neg n10, if_neg (show ¬ nI w < 0 from nI_pos (by omega)), if_pos (show nI w ≤ 4 from nI_le (a := w) (b := 4) hw' (by decide))]
      by_cases q : w = 4
      · subst q
        rw [if_pos (show (4 : Int32) ≤ nI 4 from nI_le (a := 4) (b := 4) (by omega) (by omega))]
        obtain ⟨N', NE', a1, a2, a3, a4⟩ := h_layC (NE := NE) hC hs hF hN
        obtain ⟨M', b1, b2⟩ := g_isRight (LM := LM) hM hs hF hk
        have bk := lk_b hs hk
        have rk := a2.2.2.2 k hk
        rw [if_pos (show (4 : Int32) ≤ nI 4 from nI_le (a := 4) (b := 4) (by omega) (by omega)), a1, b1]
        simp only [Option.bind_some]
        rw [ck_n (by omega) (by decide), nI_clamp (by omega), rk]
        by_cases g : lk σ k = 0
        · rw [if_pos g, g, if_pos (show zI 0 = (0 : Int32) from rfl), if_neg n10]
          exact ⟨_, _, _, _, rfl, rfl, b2, a3⟩
        · have g2 : ¬ zI (lk σ k) = 0 := of_eq_false (by rw [l_0, zn_eq]; exact zeq_F (by omega) (by omega) (by omega) (by omega) (by omega))
          rw [if_neg g, if_neg g2, if_pos n00]
          exact ⟨_, _, _, _, rfl, rfl, b2, a3⟩
      · rw [if_neg (show ¬ (4 : Int32) ≤ nI w from nI_ge (a := w) (b := 4) (by omega) (by omega)), if_neg (show ¬ (4 : Int32) ≤ nI w from nI_ge (a := w) (b := 4) (by omega) (by omega))]
        have r1 := cSi hC (j := 4 * k + w) (by omega)
        rw [← Nat.add_assoc] at r1
        have r2 := hM (178 + 4 * k + w) (by omega)
        simp (disch := omega) only [l_0, l_1, l_2, l_3, l_4, l_5, l_6, l_7, l_8, l_9, l_10, l_12, l_20, l_24, l_25, l_31, l_32, l_48, l_50, l_56, l_57, l_59, l_97, l_99, l_100, l_120, l_122, l_177, l_178, l_201, l_226, l_255, l_400, l_420, l_600, l_700, l_840, l_1000, l_1300, l_2000, l_1000000, nI_add, mr4, ml4, mr5, ml5, mr6, ml6, mr10, ml10, mr24, ml24, mr201, ml201, mr420, ml420, mr226, ml226, mr2, ml2, nI_clamp, lt_T, lt_F, le_T, le_F, eq_T, eq_F, ck_n, dv_n, cp_n, rem_n, pk_div, at1_same, at1_ne, cb_n, Option.bind_some, if_pos, if_neg, ↓reduceIte, and_self, and_true, true_and, and_false, false_and, not_true_eq_false, not_false_eq_true, nI_sub', r1, r2]
        exact ⟨_, _, _, _, rfl, rfl, Pm_rfl M, hN⟩
    · rw [if_neg hw]
      by_cases q : w < 0
      · have g1 : zI w < 0 := by rw [l_0]; exact of_eq_true (by simp (disch := omega) only [l_0, l_1, l_2, l_3, l_4, l_5, l_6, l_7, l_8, l_9, l_10, l_12, l_20, l_24, l_25, l_31, l_32, l_48, l_50, l_56, l_57, l_59, l_97, l_99, l_100, l_120, l_122, l_177, l_178, l_201, l_226, l_255, l_400, l_420, l_600, l_700, l_840, l_1000, l_1300, l_2000, l_1000000, nI_add, mr4, ml4, mr5, ml5, mr6, ml6, mr10, ml10, mr24, ml24, mr201, ml201, mr420, ml420, mr226, ml226, mr2, ml2, nI_clamp, lt_T, lt_F, le_T, le_F, eq_T, eq_F, ck_n, dv_n, cp_n, rem_n, pk_div, at1_same, at1_ne, cb_n, Option.bind_some, if_pos, if_neg, ↓reduceIte, and_self, and_true, true_and, and_false, false_and, not_true_eq_false, not_false_eq_true, nI_sub', zz_add, zz_sub, zz_mul, zn_add, nz_add, zn_sub, nz_sub, zn_mul, nz_mul, z_neg, n_neg, zlt_T, zlt_F, zle_T, zle_F, zeq_T, zeq_F, zn_lt, nz_lt, zn_le, nz_le, zn_eq, nz_eq])
        rw [if_pos g1]
        exact ⟨_, _, _, _, rfl, rfl, Pm_rfl M, hN⟩
      · have g1 : ¬ zI w < 0 := by rw [l_0]; exact of_eq_false (by simp (disch := omega) only [l_0, l_1, l_2, l_3, l_4, l_5, l_6, l_7, l_8, l_9, l_10, l_12, l_20, l_24, l_25, l_31, l_32, l_48, l_50, l_56, l_57, l_59, l_97, l_99, l_100, l_120, l_122, l_177, l_178, l_201, l_226, l_255, l_400, l_420, l_600, l_700, l_840, l_1000, l_1300, l_2000, l_1000000, nI_add, mr4, ml4, mr5, ml5, mr6, ml6, mr10, ml10, mr24, ml24, mr201, ml201, mr420, ml420, mr226, ml226, mr2, ml2, nI_clamp, lt_T, lt_F, le_T, le_F, eq_T, eq_F, ck_n, dv_n, cp_n, rem_n, pk_div, at1_same, at1_ne, cb_n, Option.bind_some, if_pos, if_neg, ↓reduceIte, and_self, and_true, true_and, and_false, false_and, not_true_eq_false, not_false_eq_true, nI_sub', zz_add, zz_sub, zz_mul, zn_add, nz_add, zn_sub, nz_sub, zn_mul, nz_mul, z_neg, n_neg, zlt_T, zlt_F, zle_T, zle_F, zeq_T, zeq_F, zn_lt, nz_lt, zn_le, nz_le, zn_eq, nz_eq])
        have g2 : ¬ zI w ≤ 4 := by rw [l_4]; exact of_eq_false (by simp (disch := omega) only [l_0, l_1, l_2, l_3, l_4, l_5, l_6, l_7, l_8, l_9, l_10, l_12, l_20, l_24, l_25, l_31, l_32, l_48, l_50, l_56, l_57, l_59, l_97, l_99, l_100, l_120, l_122, l_177, l_178, l_201, l_226, l_255, l_400, l_420, l_600, l_700, l_840, l_1000, l_1300, l_2000, l_1000000, nI_add, mr4, ml4, mr5, ml5, mr6, ml6, mr10, ml10, mr24, ml24, mr201, ml201, mr420, ml420, mr226, ml226, mr2, ml2, nI_clamp, lt_T, lt_F, le_T, le_F, eq_T, eq_F, ck_n, dv_n, cp_n, rem_n, pk_div, at1_same, at1_ne, cb_n, Option.bind_some, if_pos, if_neg, ↓reduceIte, and_self, and_true, true_and, and_false, false_and, not_true_eq_false, not_false_eq_true, nI_sub', zz_add, zz_sub, zz_mul, zn_add, nz_add, zn_sub, nz_sub, zn_mul, nz_mul, z_neg, n_neg, zlt_T, zlt_F, zle_T, zle_F, zeq_T, zeq_F, zn_lt, nz_lt, zn_le, nz_le, zn_eq, nz_eq])
        rw [if_neg g1, if_neg g2]
        exact ⟨_, _, _, _, rfl, rfl, Pm_rfl M, hN⟩
  · rw [if_neg hT]
    by_cases q : t < 0
    · have e1 : zI t < 0 := by rw [l_0]; exact of_eq_true (by simp (disch := omega) only [l_0, l_1, l_2, l_3, l_4, l_5, l_6, l_7, l_8, l_9, l_10, l_12, l_20, l_24, l_25, l_31, l_32, l_48, l_50, l_56, l_57, l_59, l_97, l_99, l_100, l_120, l_122, l_177, l_178, l_201, l_226, l_255, l_400, l_420, l_600, l_700, l_840, l_1000, l_1300, l_2000, l_1000000, nI_add, mr4, ml4, mr5, ml5, mr6, ml6, mr10, ml10, mr24, ml24, mr201, ml201, mr420, ml420, mr226, ml226, mr2, ml2, nI_clamp, lt_T, lt_F, le_T, le_F, eq_T, eq_F, ck_n, dv_n, cp_n, rem_n, pk_div, at1_same, at1_ne, cb_n, Option.bind_some, if_pos, if_neg, ↓reduceIte, and_self, and_true, true_and, and_false, false_and, not_true_eq_false, not_false_eq_true, nI_sub', zz_add, zz_sub, zz_mul, zn_add, nz_add, zn_sub, nz_sub, zn_mul, nz_mul, z_neg, n_neg, zlt_T, zlt_F, zle_T, zle_F, zeq_T, zeq_F, zn_lt, nz_lt, zn_le, nz_le, zn_eq, nz_eq])
      rw [if_pos e1]
      exact ⟨_, _, _, _, rfl, rfl, Pm_rfl M, hN⟩
    · have e1 : ¬ zI t < 0 := by rw [l_0]; exact of_eq_false (by simp (disch := omega) only [l_0, l_1, l_2, l_3, l_4, l_5, l_6, l_7, l_8, l_9, l_10, l_12, l_20, l_24, l_25, l_31, l_32, l_48, l_50, l_56, l_57, l_59, l_97, l_99, l_100, l_120, l_122, l_177, l_178, l_201, l_226, l_255, l_400, l_420, l_600, l_700, l_840, l_1000, l_1300, l_2000, l_1000000, nI_add, mr4, ml4, mr5, ml5, mr6, ml6, mr10, ml10, mr24, ml24, mr201, ml201, mr420, ml420, mr226, ml226, mr2, ml2, nI_clamp, lt_T, lt_F, le_T, le_F, eq_T, eq_F, ck_n, dv_n, cp_n, rem_n, pk_div, at1_same, at1_ne, cb_n, Option.bind_some, if_pos, if_neg, ↓reduceIte, and_self, and_true, true_and, and_false, false_and, not_true_eq_false, not_false_eq_true, nI_sub', zz_add, zz_sub, zz_mul, zn_add, nz_add, zn_sub, nz_sub, zn_mul, nz_mul, z_neg, n_neg, zlt_T, zlt_F, zle_T, zle_F, zeq_T, zeq_F, zn_lt, nz_lt, zn_le, nz_le, zn_eq, nz_eq])
      have e2 : nI (σ 177) ≤ zI t := of_eq_true (by simp (disch := omega) only [l_0, l_1, l_2, l_3, l_4, l_5, l_6, l_7, l_8, l_9, l_10, l_12, l_20, l_24, l_25, l_31, l_32, l_48, l_50, l_56, l_57, l_59, l_97, l_99, l_100, l_120, l_122, l_177, l_178, l_201, l_226, l_255, l_400, l_420, l_600, l_700, l_840, l_1000, l_1300, l_2000, l_1000000, nI_add, mr4, ml4, mr5, ml5, mr6, ml6, mr10, ml10, mr24, ml24, mr201, ml201, mr420, ml420, mr226, ml226, mr2, ml2, nI_clamp, lt_T, lt_F, le_T, le_F, eq_T, eq_F, ck_n, dv_n, cp_n, rem_n, pk_div, at1_same, at1_ne, cb_n, Option.bind_some, if_pos, if_neg, ↓reduceIte, and_self, and_true, true_and, and_false, false_and, not_true_eq_false, not_false_eq_true, nI_sub', zz_add, zz_sub, zz_mul, zn_add, nz_add, zn_sub, nz_sub, zn_mul, nz_mul, z_neg, n_neg, zlt_T, zlt_F, zle_T, zle_F, zeq_T, zeq_F, zn_lt, nz_lt, zn_le, nz_le, zn_eq, nz_eq])
      rw [if_neg e1, if_pos e2]
      exact ⟨_, _, _, _, rfl, rfl, Pm_rfl M, hN⟩
theorem h_fw7 {C N NE : Mem} {σ : Sg} (hC : StC C σ) (hs : okS σ) {F : Nat} (hN : ∀ k, k < σ 177 → N 5 k = zI (lk σ k)) : ∀ (d i n : Nat), i + d = σ 177 → d < n → ((∀ k, i ≤ k → k < σ 177 → lk σ k = 0) ∧ f_X2_firstWrong_7 F N NE C (fun x => some (x, N, NE)) (some (-2, N, NE)) n (nI i) = some (-2, N, NE)) ∨ (∃ q, i ≤ q ∧ q < σ 177 ∧ lk σ q ≠ 0 ∧ (∀ k, i ≤ k → k < q → lk σ k = 0) ∧ f_X2_firstWrong_7 F N NE C (fun x => some (x, N, NE)) (some (-2, N, NE)) n (nI i) = some (nI q, N, NE))
  | d, i, 0, _, h => by omega
  | 0, i, n + 1, hi, _ => by
    obtain rfl : i = σ 177 := by omega
    have h6 := kSe hs
    refine .inl ⟨fun k h1 h2 => by omega, ?_⟩
    rw [f_X2_firstWrong_7, cSe hC, if_pos (nI_le (by omega) (by omega))]
  | d + 1, i, n + 1, hi, hn => by
    have h6 := kSe hs
    have e1 := hN i (by omega)
    have b := lk_b hs (k := i) (by omega)
    rw [f_X2_firstWrong_7, cSe hC, if_neg (nI_ge (by omega) (by omega)), ck_n (by omega) (by decide), nI_clamp (by omega), e1]
    by_cases g : lk σ i = 0
    · rw [g, if_pos (show zI 0 = (0 : Int32) from rfl), nI_1]
      rcases h_fw7 (F := F) (NE := NE) hC hs hN d (i + 1) n (by omega) (by omega) with ⟨a1, a2⟩ | ⟨q, a1, a2, a3, a4, a5⟩
      · refine .inl ⟨fun k h1 h2 => ?_, a2⟩
        by_cases w : k = i
        · rw [w]; exact g
        · exact a1 k (by omega) h2
      · refine .inr ⟨q, by omega, a2, a3, fun k h1 h2 => ?_, a5⟩
        by_cases w : k = i
        · rw [w]; exact g
        · exact a4 k (by omega) h2
    · have g2 : ¬ zI (lk σ i) = 0 := of_eq_false (by rw [l_0, zn_eq]; exact zeq_F (by omega) (by omega) (by omega) (by omega) (by omega))
      rw [if_neg g2]
      exact .inr ⟨i, by omega, by omega, g, fun k h1 h2 => by omega, rfl⟩
theorem g_wr2 {LM : MemL} {σ : Sg} (hs : okS σ) {F : Nat} (hF : 10000 ≤ F) : ∀ (d i n : Nat) (M : Mem), StM M σ → i + d = σ 177 → d < n → ∃ M', Pm M M' ∧ (((∀ k, i ≤ k → k < σ 177 → lk σ k = 0) ∧ f_X10_wrong_2 F LM (fun M x => some (x, M)) (fun M => some (-2, M)) n M (nI i) = some (-2, M')) ∨ (∃ q, i ≤ q ∧ q < σ 177 ∧ lk σ q ≠ 0 ∧ (∀ k, i ≤ k → k < q → lk σ k = 0) ∧ f_X10_wrong_2 F LM (fun M x => some (x, M)) (fun M => some (-2, M)) n M (nI i) = some (nI q, M')))
  | d, i, 0, M, _, _, h => by omega
  | 0, i, n + 1, M, hM, hi, _ => by
    obtain rfl : i = σ 177 := by omega
    have h6 := kSe hs
    refine ⟨M, Pm_rfl M, .inl ⟨fun k h1 h2 => by omega, ?_⟩⟩
    rw [f_X10_wrong_2, ck177, r177 hM, if_pos (nI_le (by omega) (by omega))]
  | d + 1, i, n + 1, M, hM, hi, hn => by
    have h6 := kSe hs
    obtain ⟨M1, b1, b2⟩ := g_isRight (LM := LM) hM hs hF (k := i) (by omega)
    rw [f_X10_wrong_2, ck177, r177 hM, if_neg (nI_ge (by omega) (by omega)), b1]
    simp only [Option.bind_some]
    by_cases g : lk σ i = 0
    · rw [if_pos g, if_neg n10, nI_1]
      obtain ⟨M', p, h⟩ := g_wr2 (LM := LM) hs hF d (i + 1) n M1 (StM_p hM b2) (by omega) (by omega)
      refine ⟨M', Pm_tr b2 p, ?_⟩
      rcases h with ⟨a1, a2⟩ | ⟨q, a1, a2, a3, a4, a5⟩
      · refine .inl ⟨fun k h1 h2 => ?_, a2⟩
        by_cases w : k = i
        · rw [w]; exact g
        · exact a1 k (by omega) h2
      · refine .inr ⟨q, by omega, a2, a3, fun k h1 h2 => ?_, a5⟩
        by_cases w : k = i
        · rw [w]; exact g
        · exact a4 k (by omega) h2
    · rw [if_neg g, if_pos n00]
      exact ⟨M1, b2, .inr ⟨i, by omega, by omega, g, fun k h1 h2 => by omega, rfl⟩⟩
theorem m_wrong {C M N NE X0 : Mem} {LM : MemL} {σ : Sg} (hC : StC C σ) (hM : StM M σ) (hs : okS σ) (hN : CaN N σ) {F : Nat} (hF : 10000 ≤ F) : ∃ v N' NE' M', f_X9_wrong F X0 C N NE = some (v, N', NE') ∧ f_X10_wrong F M LM = some (v, M') ∧ Pm M M' ∧ CaN N' σ := by
  have h6 := kSe hs
  obtain ⟨N', NE', a1, a2, a3, a4⟩ := h_layC (NE := NE) hC hs hF hN
  obtain ⟨M', p, g⟩ := g_wr2 (LM := LM) hs hF (σ 177) 0 F M hM (by omega) (by omega)
  have c := h_fw7 (F := F) (NE := NE') hC hs a2.2.2.2 (σ 177) 0 F (by omega) (by omega)
  unfold f_X9_wrong f_X10_wrong f_X2_firstWrong
  rw [a1]
  simp only [Option.bind_some]
  rcases c with ⟨c1, c2⟩ | ⟨q, c1, c2, c3, c4, c5⟩
  · rcases g with ⟨g1, g2⟩ | ⟨q', g1, g2, g3, g4, g5⟩
    · rw [show f_X2_firstWrong_7 F N' NE' C (fun x2_24 => some (x2_24, N', NE')) (some (-2, N', NE')) F 0 = _ from c2, show f_X10_wrong_2 F LM (fun M_22 x1_22 => some (x1_22, M_22)) (fun M_30 => some (-2, M_30)) F M 0 = _ from g2]
      exact ⟨_, _, _, _, rfl, rfl, p, a3⟩
    · exact absurd (c1 q' (by omega) g2) g3
  · rcases g with ⟨g1, g2⟩ | ⟨q', g1, g2, g3, g4, g5⟩
    · exact absurd (g1 q (by omega) c2) c3
    · have e : q' = q := by
        rcases Nat.lt_trichotomy q q' with w | w | w
        · exact absurd (g4 q (by omega) w) c3
        · exact w.symm
        · exact absurd (c4 q' (by omega) w) g3
      subst e
      rw [show f_X2_firstWrong_7 F N' NE' C (fun x2_24 => some (x2_24, N', NE')) (some (-2, N', NE')) F 0 = _ from c5, show f_X10_wrong_2 F LM (fun M_22 x1_22 => some (x1_22, M_22)) (fun M_30 => some (-2, M_30)) F M 0 = _ from g5]
      exact ⟨_, _, _, _, rfl, rfl, p, a3⟩
