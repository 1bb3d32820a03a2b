/-! PURE LAYER: cells by the log; the reference lays them -/
/-- cells and what is laid on them alone have changed -/
def Pz (M M' : Mem) : Prop := (∀ c, c ≠ 0 → c ≠ 4 → M' c = M c) ∧ ∀ j, j < 6 ∨ 9 < j → M' 0 j = M 0 j
theorem Pz_rfl (M : Mem) : Pz M M := ⟨fun _ _ _ => rfl, fun _ _ => rfl⟩
theorem Pz_tr {M M1 M2 : Mem} (h : Pz M M1) (g : Pz M1 M2) : Pz M M2 := ⟨fun c h0 h4 => (g.1 c h0 h4).trans (h.1 c h0 h4), fun j hj => (g.2 j hj).trans (h.2 j hj)⟩
theorem Pz_m {M M' : Mem} (h : Pz M M') : Pm M M' := ⟨h.1 _ (by decide) (by decide), h.1 _ (by decide) (by decide), h.1 _ (by decide) (by decide), h.1 _ (by decide) (by decide), h.2 _ (by decide), h.2 _ (by decide)⟩
theorem Fr0_z {M M' : Mem} (h : Fr0 M M') : Pz M M' := ⟨fun c h0 _ => h.1 c h0, h.2⟩
theorem Pz_4 {M M' : Mem} (h : ∀ c, c ≠ 4 → M' c = M c) : Pz M M' := ⟨fun c _ h4 => h c h4, fun j _ => by rw [h 0 (by decide)]⟩
noncomputable def eff (σ : Sg) (i : Nat) : Nat × Nat × Int × Int := @dite _ (∃ q : Nat × Nat × Int × Int, EfL σ i q.1 q.2.1 q.2.2.1 q.2.2.2) (Classical.propDecidable _) (fun h => Classical.choose h) (fun _ => (0, 0, 0, 0))
theorem eff_ok {σ : Sg} (hs : okS σ) {i : Nat} (hi : i < σ 56) : EfL σ i (eff σ i).1 (eff σ i).2.1 (eff σ i).2.2.1 (eff σ i).2.2.2 := by
  obtain ⟨A, B, x, y, h⟩ := Ef_log hs hi
  have ex : ∃ q : Nat × Nat × Int × Int, EfL σ i q.1 q.2.1 q.2.2.1 q.2.2.2 := ⟨(A, B, x, y), h⟩
  unfold eff
  rw [dif_pos ex]
  exact Classical.choose_spec ex
/-- cells behind t moves of the log -/
noncomputable def ly (σ : Sg) : Nat → Nat → Int
  | 0 => fun j => (σ (32 + j) : Int)
  | t + 1 => apE (ly σ t) (eff σ t).1 (eff σ t).2.1 (eff σ t).2.2.1 (eff σ t).2.2.2 1
theorem ly_b {σ : Sg} (hs : okS σ) : ∀ t, t ≤ σ 56 → ∀ j, j < 24 → -198 * (t : Int) ≤ ly σ t j ∧ ly σ t j ≤ 99 + 198 * (t : Int)
  | 0, _, j, hj => by
    have := (kCe hs hj).2
    show -198 * ((0 : Nat) : Int) ≤ (σ (32 + j) : Int) ∧ (σ (32 + j) : Int) ≤ 99 + 198 * ((0 : Nat) : Int)
    omega
  | t + 1, ht, j, hj => by
    have ih := ly_b hs t (by omega) j hj
    obtain ⟨bA, bB, bx1, bx2, by1, by2, be⟩ := EfL_b hs (eff_ok hs (i := t) (by omega))
    show -198 * ((t + 1 : Nat) : Int) ≤ apE (ly σ t) (eff σ t).1 (eff σ t).2.1 (eff σ t).2.2.1 (eff σ t).2.2.2 1 j ∧ apE (ly σ t) (eff σ t).1 (eff σ t).2.1 (eff σ t).2.2.1 (eff σ t).2.2.2 1 j ≤ 99 + 198 * ((t + 1 : Nat) : Int)
    unfold apE
    by_cases q1 : j = (eff σ t).1
    · rw [if_pos q1]
      by_cases q2 : j = (eff σ t).2.1
      · rw [if_pos q2]; omega
      · rw [if_neg q2]; omega
    · rw [if_neg q1]
      by_cases q2 : j = (eff σ t).2.1
      · rw [if_pos q2]; omega
      · rw [if_neg q2]; omega
theorem ly_M {σ : Sg} (hs : okS σ) {t : Nat} (ht : t ≤ σ 56) : ∀ j, j < 24 → -10000 ≤ ly σ t j ∧ ly σ t j ≤ 10000 := fun j hj => by
  have := ly_b hs t ht j hj
  have := kMv hs
  omega
theorem ly_0 {σ : Sg} (hs : okS σ) : ∀ t, t ≤ σ 56 → ∀ r c, r < 4 → c < 6 → σ 1 ≤ r ∨ σ 0 ≤ c → ly σ t (6 * r + c) = 0
  | 0, _, r, c, hr, hc, w => by
    have z := (hs.2.2.2.2.2.1 r c hr hc).2.2 w
    show (σ (32 + (6 * r + c)) : Int) = 0
    rw [← Nat.add_assoc, z.2]
    rfl
  | t + 1, ht, r, c, hr, hc, w => by
    have ih := ly_0 hs t (by omega) r c hr hc w
    obtain ⟨⟨a1, a2⟩, b1, b2⟩ := EfL_c hs (eff_ok hs (i := t) (by omega))
    show apE (ly σ t) (eff σ t).1 (eff σ t).2.1 (eff σ t).2.2.1 (eff σ t).2.2.2 1 (6 * r + c) = 0
    unfold apE
    rw [ih, if_neg (by omega), if_neg (by omega)]
    rfl
theorem g_ly31 {LM : MemL} {σ : Sg} (hs : okS σ) {F t : Nat} (ht : t ≤ σ 56) (k : Mem → Option Mem) : ∀ (d i n : Nat) (M : Mem), i + d = t → d < n → StM M σ → CeM M (ly σ i) → ∃ M', f_X10_laysAt_31 F LM (nI t) k n M (nI i) = k M' ∧ CeM M' (ly σ t) ∧ Pz M M'
  | d, i, 0, M, _, h, _, _ => by omega
  | 0, i, n + 1, M, hi, _, hM, hc => by
    obtain rfl : i = t := by omega
    have h5 := kMv hs
    refine ⟨M, ?_, hc, Pz_rfl M⟩
    rw [f_X10_laysAt_31]
    simp (disch := omega) only [l_0, l_1, l_2, l_3, l_4, l_5, l_6, l_7, l_8, l_9, l_10, l_12, l_20, l_24, l_25, l_31, l_32, l_48, l_50, l_56, l_57, l_59, l_97, l_99, l_100, l_120, l_122, l_177, l_178, l_201, l_226, l_255, l_400, l_420, l_600, l_700, l_840, l_1000, l_1300, l_2000, l_1000000, nI_add, mr4, ml4, mr5, ml5, mr6, ml6, mr10, ml10, mr24, ml24, mr201, ml201, mr420, ml420, mr226, ml226, mr2, ml2, nI_clamp, lt_T, lt_F, le_T, le_F, eq_T, eq_F, ck_n, dv_n, cp_n, rem_n, pk_div, at1_same, at1_ne, cb_n, Option.bind_some, if_pos, if_neg, ↓reduceIte, and_self, and_true, true_and, and_false, false_and, not_true_eq_false, not_false_eq_true, nI_sub']
  | d + 1, i, n + 1, M, hi, hn, hM, hc => by
    have h5 := kMv hs
    have hE := eff_ok hs (i := i) (by omega)
    obtain ⟨bA, bB, bx1, bx2, by1, by2, be⟩ := EfL_b hs hE
    obtain ⟨M1, l1, l2, l3⟩ := g_lLog (LM := LM) hM hs F (i := i) (by omega) hE
    have hc1 : CeM M1 (ly σ i) := fun j hj => by rw [l3.1 4 (by decide)]; exact hc j hj
    obtain ⟨M2, g1, g2, g3⟩ := g_goes (LM := LM) hc1 l2 bA bB 1 F
    have g1' : f_X10_goes F M1 LM (nI 1) = some M2 := g1
    have p2 : Pz M M2 := Pz_tr (Fr0_z l3) (Pz_4 g3)
    obtain ⟨M', e1, e2, e3⟩ := g_ly31 (LM := LM) (F := F) hs ht k d (i + 1) n M2 (by omega) (by omega) (StM_p hM (Pz_m p2)) g2
    refine ⟨M', ?_, e2, Pz_tr p2 e3⟩
    rw [f_X10_laysAt_31]
    simp (disch := omega) only [l_0, l_1, l_2, l_3, l_4, l_5, l_6, l_7, l_8, l_9, l_10, l_12, l_20, l_24, l_25, l_31, l_32, l_48, l_50, l_56, l_57, l_59, l_97, l_99, l_100, l_120, l_122, l_177, l_178, l_201, l_226, l_255, l_400, l_420, l_600, l_700, l_840, l_1000, l_1300, l_2000, l_1000000, nI_add, mr4, ml4, mr5, ml5, mr6, ml6, mr10, ml10, mr24, ml24, mr201, ml201, mr420, ml420, mr226, ml226, mr2, ml2, nI_clamp, lt_T, lt_F, le_T, le_F, eq_T, eq_F, ck_n, dv_n, cp_n, rem_n, pk_div, at1_same, at1_ne, cb_n, Option.bind_some, if_pos, if_neg, ↓reduceIte, and_self, and_true, true_and, and_false, false_and, not_true_eq_false, not_false_eq_true, nI_sub', l1, g1']
    exact e1
theorem g_laysAtZ {M : Mem} {LM : MemL} {σ : Sg} (hM : StM M σ) (hs : okS σ) {F t : Nat} (hF : 10000 ≤ F) (ht : t ≤ σ 56) : ∃ M', f_X10_laysAt F M LM (nI t) = some M' ∧ CeM M' (ly σ t) ∧ Pz M M' := by
  have h5 := kMv hs
  unfold f_X10_laysAt
  obtain ⟨M1, a1, a2⟩ := fill_up (f_X10_laysAt_2 F LM (nI t) (fun M_29 => f_X10_laysAt_31 F LM (nI t) (fun M_52 => (some M_52)) F M_29 0)) (fun M_29 => f_X10_laysAt_31 F LM (nI t) (fun M_52 => (some M_52)) F M_29 0) 4 0 0 0 24 (fun j => M 1 (32 + j)) M (fun n i N _ hi hN => by
    rw [f_X10_laysAt_2]
    have e : N 1 = M 1 := Fl_c hN (by decide)
    rw [e]
    simp only [Nat.zero_add]
    simp (disch := omega) only [l_0, l_1, l_2, l_3, l_4, l_5, l_6, l_7, l_8, l_9, l_10, l_12, l_20, l_24, l_25, l_31, l_32, l_48, l_50, l_56, l_57, l_59, l_97, l_99, l_100, l_120, l_122, l_177, l_178, l_201, l_226, l_255, l_400, l_420, l_600, l_700, l_840, l_1000, l_1300, l_2000, l_1000000, nI_add, mr4, ml4, mr5, ml5, mr6, ml6, mr10, ml10, mr24, ml24, mr201, ml201, mr420, ml420, mr226, ml226, mr2, ml2, nI_clamp, lt_T, lt_F, le_T, le_F, eq_T, eq_F, ck_n, dv_n, cp_n, rem_n, pk_div, at1_same, at1_ne, cb_n, Option.bind_some, if_pos, if_neg, ↓reduceIte, and_self, and_true, true_and, and_false, false_and, not_true_eq_false, not_false_eq_true, nI_sub']) (fun n N hN => by
    rw [f_X10_laysAt_2]
    simp (disch := omega) only [l_0, l_1, l_2, l_3, l_4, l_5, l_6, l_7, l_8, l_9, l_10, l_12, l_20, l_24, l_25, l_31, l_32, l_48, l_50, l_56, l_57, l_59, l_97, l_99, l_100, l_120, l_122, l_177, l_178, l_201, l_226, l_255, l_400, l_420, l_600, l_700, l_840, l_1000, l_1300, l_2000, l_1000000, nI_add, mr4, ml4, mr5, ml5, mr6, ml6, mr10, ml10, mr24, ml24, mr201, ml201, mr420, ml420, mr226, ml226, mr2, ml2, nI_clamp, lt_T, lt_F, le_T, le_F, eq_T, eq_F, ck_n, dv_n, cp_n, rem_n, pk_div, at1_same, at1_ne, cb_n, Option.bind_some, if_pos, if_neg, ↓reduceIte, and_self, and_true, true_and, and_false, false_and, not_true_eq_false, not_false_eq_true, nI_sub']) 24 0 F M (by omega) (by omega) (by omega) (Fl_0 M 4 _ _)
  have p1 : Pz M M1 := Pz_4 (fun c hc => Fl_c a2 hc)
  have c1 : CeM M1 (ly σ 0) := fun j hj => by
    rw [Fl_i a2 (by omega) (by omega)]
    show M 1 (32 + j) = zI ((σ (32 + j) : Int))
    rw [hM _ (by omega), zI_c]
  obtain ⟨M', e1, e2, e3⟩ := g_ly31 (LM := LM) (F := F) hs ht (fun M_52 => (some M_52)) t 0 F M1 (by omega) (by omega) (StM_p hM (Pz_m p1)) c1
  refine ⟨M', ?_, e2, Pz_tr p1 e3⟩
  rw [show f_X10_laysAt_2 F LM (nI t) (fun M_29 => f_X10_laysAt_31 F LM (nI t) (fun M_52 => (some M_52)) F M_29 0) F M 0 = _ from a1]
  exact e1
theorem g_laysAt {M : Mem} {LM : MemL} {σ : Sg} (hM : StM M σ) (hs : okS σ) {F t : Nat} (hF : 10000 ≤ F) (ht : t ≤ σ 56) : ∃ M', f_X10_laysAt F M LM (nI t) = some M' ∧ CeM M' (ly σ t) ∧ Pm M M' := by
  obtain ⟨M', h1, h2, h3⟩ := g_laysAtZ (LM := LM) hM hs hF ht
  exact ⟨M', h1, h2, Pz_m h3⟩
/-! what lacks at a sight -/
def siT (σ : Sg) (k : Nat) : Nat := σ (178 + 4 * k)
def siC (σ : Sg) (k : Nat) : Nat := 6 * σ (178 + 4 * k + 1) + σ (178 + 4 * k + 2)
noncomputable def lk (σ : Sg) (k : Nat) : Int := (σ (178 + 4 * k + 3) : Int) - ly σ (siT σ k) (siC σ k)
theorem si_b {σ : Sg} (hs : okS σ) {k : Nat} (hk : k < σ 177) : siT σ k ≤ σ 56 ∧ siC σ k < 24 ∧ siC σ k < 6 * σ 1 ∧ σ (178 + 4 * k + 3) ≤ 99 ∧ σ (178 + 4 * k + 1) < 4 ∧ σ (178 + 4 * k + 2) < 6 := by
  have z := hs.2.2.2.2.2.2.2.2.2 k hk
  have h0 := kC hs
  have h1 := kR hs
  unfold siT siC
  omega
theorem lk_b {σ : Sg} (hs : okS σ) {k : Nat} (hk : k < σ 177) : -10000 ≤ lk σ k ∧ lk σ k ≤ 10099 := by
  have b := si_b hs hk
  have := ly_M hs b.1 (siC σ k) b.2.1
  unfold lk
  omega
theorem g_isSo {M : Mem} {LM : MemL} {σ : Sg} (hM : StM M σ) (hs : okS σ) {ce : Nat → Int} (hc : CeM M ce) (F : Nat) {k : Nat} (hk : k < σ 177) (hb : -1000000 ≤ ce (siC σ k) ∧ ce (siC σ k) ≤ 1000000) : f_X10_isSo F M LM (nI k) = some (if ce (siC σ k) = (σ (178 + 4 * k + 3) : Int) then nI 1 else nI 0) := by
  have b := si_b hs hk
  have h6 := kSe hs
  have e4 : M 4 (6 * σ (178 + 4 * k + 1) + σ (178 + 4 * k + 2)) = zI (ce (siC σ k)) := hc _ b.2.1
  have b2 : 6 * σ (178 + 4 * k + 1) + σ (178 + 4 * k + 2) < 24 := b.2.1
  unfold f_X10_isSo f_X10_cell
  by_cases q : ce (siC σ k) = (σ (178 + 4 * k + 3) : Int)
  · have e5 : zI (ce (siC σ k)) = nI (σ (178 + 4 * k + 3)) := by rw [q, zI_c]
    simp (disch := omega) only [l_0, l_1, l_2, l_3, l_4, l_5, l_6, l_7, l_8, l_9, l_10, l_12, l_20, l_24, l_25, l_31, l_32, l_48, l_50, l_56, l_57, l_59, l_97, l_99, l_100, l_120, l_122, l_177, l_178, l_201, l_226, l_255, l_400, l_420, l_600, l_700, l_840, l_1000, l_1300, l_2000, l_1000000, nI_add, mr4, ml4, mr5, ml5, mr6, ml6, mr10, ml10, mr24, ml24, mr201, ml201, mr420, ml420, mr226, ml226, mr2, ml2, nI_clamp, lt_T, lt_F, le_T, le_F, eq_T, eq_F, ck_n, dv_n, cp_n, rem_n, pk_div, at1_same, at1_ne, cb_n, Option.bind_some, if_pos, if_neg, ↓reduceIte, and_self, and_true, true_and, and_false, false_and, not_true_eq_false, not_false_eq_true, nI_sub', zz_add, zz_sub, zz_mul, zn_add, nz_add, zn_sub, nz_sub, zn_mul, nz_mul, z_neg, n_neg, zlt_T, zlt_F, zle_T, zle_F, zeq_T, zeq_F, zn_lt, nz_lt, zn_le, nz_le, zn_eq, nz_eq, mS hM, e4, e5, q]
  · have e5 : (zI (ce (siC σ k)) = nI (σ (178 + 4 * k + 3))) = False := by
      rw [zn_eq]
      exact zeq_F q (by omega) (by omega) (by omega) (by omega)
    simp (disch := omega) only [l_0, l_1, l_2, l_3, l_4, l_5, l_6, l_7, l_8, l_9, l_10, l_12, l_20, l_24, l_25, l_31, l_32, l_48, l_50, l_56, l_57, l_59, l_97, l_99, l_100, l_120, l_122, l_177, l_178, l_201, l_226, l_255, l_400, l_420, l_600, l_700, l_840, l_1000, l_1300, l_2000, l_1000000, nI_add, mr4, ml4, mr5, ml5, mr6, ml6, mr10, ml10, mr24, ml24, mr201, ml201, mr420, ml420, mr226, ml226, mr2, ml2, nI_clamp, lt_T, lt_F, le_T, le_F, eq_T, eq_F, ck_n, dv_n, cp_n, rem_n, pk_div, at1_same, at1_ne, cb_n, Option.bind_some, if_pos, if_neg, ↓reduceIte, and_self, and_true, true_and, and_false, false_and, not_true_eq_false, not_false_eq_true, nI_sub', zz_add, zz_sub, zz_mul, zn_add, nz_add, zn_sub, nz_sub, zn_mul, nz_mul, z_neg, n_neg, zlt_T, zlt_F, zle_T, zle_F, zeq_T, zeq_F, zn_lt, nz_lt, zn_le, nz_le, zn_eq, nz_eq, mS hM, e4, e5, q]
theorem g_isRight {M : Mem} {LM : MemL} {σ : Sg} (hM : StM M σ) (hs : okS σ) {F : Nat} (hF : 10000 ≤ F) {k : Nat} (hk : k < σ 177) : ∃ M', f_X10_isRight F M LM (nI k) = some (if lk σ k = 0 then nI 1 else nI 0, M') ∧ Pm M M' := by
  have b := si_b hs hk
  have h6 := kSe hs
  obtain ⟨M1, l1, l2, l3⟩ := g_laysAt (LM := LM) hM hs hF b.1
  have bb := ly_M hs b.1 (siC σ k) b.2.1
  have s := g_isSo (LM := LM) (StM_p hM l3) hs l2 F hk (by omega)
  have e : M 1 (178 + 4 * k) = nI (siT σ k) := hM _ (by omega)
  refine ⟨M1, ?_, l3⟩
  unfold f_X10_isRight
  have c : (ly σ (siT σ k) (siC σ k) = (σ (178 + 4 * k + 3) : Int)) ↔ lk σ k = 0 := by unfold lk; omega
  simp (disch := omega) only [l_0, l_1, l_2, l_3, l_4, l_5, l_6, l_7, l_8, l_9, l_10, l_12, l_20, l_24, l_25, l_31, l_32, l_48, l_50, l_56, l_57, l_59, l_97, l_99, l_100, l_120, l_122, l_177, l_178, l_201, l_226, l_255, l_400, l_420, l_600, l_700, l_840, l_1000, l_1300, l_2000, l_1000000, nI_add, mr4, ml4, mr5, ml5, mr6, ml6, mr10, ml10, mr24, ml24, mr201, ml201, mr420, ml420, mr226, ml226, mr2, ml2, nI_clamp, lt_T, lt_F, le_T, le_F, eq_T, eq_F, ck_n, dv_n, cp_n, rem_n, pk_div, at1_same, at1_ne, cb_n, Option.bind_some, if_pos, if_neg, ↓reduceIte, and_self, and_true, true_and, and_false, false_and, not_true_eq_false, not_false_eq_true, nI_sub', e, l1, s, cb_T, c]
