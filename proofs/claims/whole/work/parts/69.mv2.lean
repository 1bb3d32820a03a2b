/-! PURE LAYER: may a move be made; it is made and written -/
theorem Ef_b {σ : Sg} (hs : okS σ) {κ r c k o : Int} {A B : Nat} {x y : Int} (h : Ef σ κ r c k o A B x y) : A < 24 ∧ B < 24 ∧ -99 ≤ x ∧ x ≤ 99 ∧ -99 ≤ y ∧ y ≤ 99 ∧ (B = A → y = 0) := by
  have h0 := kC hs
  have h1 := kR hs
  have q1 : κ = 2 → c + 1 < (σ 0 : Int) → 0 ≤ c → σ (2 + (c.toNat + 1)) ≤ 20 := fun _ z z' => (kRt hs (j := c.toNat + 1) (by omega) (by omega)).2
  have q2 : κ = 3 → 1 ≤ c → c < (σ 0 : Int) → σ (2 + c.toNat) ≤ 20 := fun _ z z' => (kRt hs (j := c.toNat) (by omega) (by omega)).2
  unfold Ef at h
  omega
theorem b8 {σ : Sg} (hs : okS σ) : ∀ j, j < 24 → -1000000 ≤ sg8 σ j ∧ sg8 σ j ≤ 1000000 := fun j hj => by
  have := (kCe hs hj).1
  unfold sg8
  omega
theorem fit_cr {σ : Sg} (hs : okS σ) {A B : Nat} {x y : Int} (hA : A < 24) (hB : B < 24) (e : B = A → y = 0) : fitC (sg8 σ) A B x y ↔ fitR (sg8 σ) A B x y := by
  have q := (kCe hs hA).1
  unfold fitC fitR sg8
  constructor
  · intro h; exact ⟨h.1, .inr h.2⟩
  · intro h
    refine ⟨h.1, ?_⟩
    rcases h.2 with h2 | h2
    · subst h2
      rw [e rfl]
      omega
    · exact h2
theorem g_laysNow {M : Mem} {LM : MemL} {σ : Sg} (hM : StM M σ) {F : Nat} (hF : 10000 ≤ F) : ∃ M', f_X10_laysNow F M LM = some M' ∧ CeM M' (sg8 σ) ∧ ∀ c, c ≠ 4 → M' c = M c := by
  have := fill_up (f_X10_laysNow_2 F LM (fun M_29 => some M_29)) (fun M_29 => some M_29) 4 0 0 0 24 (fun j => M 1 (8 + j)) M (fun n i N _ hi hN => by
      rw [f_X10_laysNow_2]
      have e : N 1 = M 1 := Fl_c hN (by decide)
      rw [e]
      simp only [Nat.zero_add]
      simp (disch := omega) only [l_0, l_1, l_2, l_3, l_4, l_5, l_6, l_7, l_8, l_9, l_10, l_12, l_20, l_24, l_25, l_31, l_32, l_48, l_50, l_56, l_57, l_59, l_97, l_99, l_100, l_120, l_122, l_177, l_178, l_201, l_226, l_255, l_400, l_420, l_600, l_700, l_840, l_1000, l_1300, l_2000, l_1000000, nI_add, mr4, ml4, mr5, ml5, mr6, ml6, mr10, ml10, mr24, ml24, mr201, ml201, mr420, ml420, mr226, ml226, mr2, ml2, nI_clamp, lt_T, lt_F, le_T, le_F, eq_T, eq_F, ck_n, dv_n, cp_n, rem_n, pk_div, at1_same, at1_ne, cb_n, Option.bind_some, if_pos, if_neg, ↓reduceIte, and_self, and_true, true_and, and_false, false_and, not_true_eq_false, not_false_eq_true, nI_sub']) (fun n N hN => by
      rw [f_X10_laysNow_2]
      simp (disch := omega) only [l_0, l_1, l_2, l_3, l_4, l_5, l_6, l_7, l_8, l_9, l_10, l_12, l_20, l_24, l_25, l_31, l_32, l_48, l_50, l_56, l_57, l_59, l_97, l_99, l_100, l_120, l_122, l_177, l_178, l_201, l_226, l_255, l_400, l_420, l_600, l_700, l_840, l_1000, l_1300, l_2000, l_1000000, nI_add, mr4, ml4, mr5, ml5, mr6, ml6, mr10, ml10, mr24, ml24, mr201, ml201, mr420, ml420, mr226, ml226, mr2, ml2, nI_clamp, lt_T, lt_F, le_T, le_F, eq_T, eq_F, ck_n, dv_n, cp_n, rem_n, pk_div, at1_same, at1_ne, cb_n, Option.bind_some, if_pos, if_neg, ↓reduceIte, and_self, and_true, true_and, and_false, false_and, not_true_eq_false, not_false_eq_true, nI_sub']) 24 0 F M (by omega) (by omega) (by omega) (Fl_0 M 4 _ _)
  obtain ⟨M', m1, m2⟩ := this
  refine ⟨M', m1, fun j hj => ?_, fun c hc => Fl_c m2 hc⟩
  rw [Fl_i m2 (by omega) (by omega), hM _ (by omega)]
  exact (zI_c _).symm
theorem Pm_4 {M M' : Mem} (h : ∀ c, c ≠ 4 → M' c = M c) : Pm M M' := ⟨h _ (by decide), h _ (by decide), h _ (by decide), h _ (by decide), by rw [h 0 (by decide)], by rw [h 0 (by decide)]⟩
theorem Sp_4 {M M' : Mem} {A B : Nat} {x y : Int} (h : M' 0 = M 0) (s : Sp M A B x y) : Sp M' A B x y := by
  unfold Sp at *
  rw [h]
  exact s
theorem m_can0 {C E M : Mem} {LM : MemL} {σ : Sg} (hC : StC C σ) (hM : StM M σ) (hs : okS σ) {F : Nat} (hF : 10000 ≤ F) {κ r c k o : Int} (κ1 : -2147483648 ≤ κ) (κ2 : κ < 2147483648) (r1 : -2147483648 ≤ r) (r2 : r < 2147483648) (c1 : -2147483648 ≤ c) (c2 : c < 2147483648) (k1 : -2147483648 ≤ k) (k2 : k < 2147483648) (o1 : -2147483648 ≤ o) (o2 : o < 2147483648) :
    (∃ A B x y E' M', Ef σ κ r c k o A B x y ∧ fitC (sg8 σ) A B x y ∧ f_X0_canMake F C E (zI κ) (zI r) (zI o) (zI c) (zI k) = some (nI 1, E') ∧ Se E' A B x y ∧ f_X10_canMove F M LM (zI κ) (zI r) (zI c) (zI k) (zI o) = some (nI 1, M') ∧ Sp M' A B x y ∧ CeM M' (sg8 σ) ∧ Pm M M') ∨ (∃ E' M', f_X0_canMake F C E (zI κ) (zI r) (zI o) (zI c) (zI k) = some (nI 0, E') ∧ f_X10_canMove F M LM (zI κ) (zI r) (zI c) (zI k) (zI o) = some (nI 0, M') ∧ Pm M M') := by
  unfold f_X0_canMake f_X10_canMove
  rcases h_describe (E := E) hC hs F κ1 κ2 r1 r2 c1 c2 k1 k2 o1 o2 with ⟨A, B, x, y, E', hE, d1, d2⟩ | ⟨nE, E', d1⟩
  · rcases g_lays (LM := LM) hM hs F κ1 κ2 r1 r2 c1 c2 k1 k2 o1 o2 with ⟨A', B', x', y', M1, hE', l1, l2, l3⟩ | ⟨nE, _⟩
    · obtain ⟨rfl, rfl, rfl, rfl⟩ := Ef_inj hE hE'
      obtain ⟨bA, bB, bx1, bx2, by1, by2, be⟩ := Ef_b hs hE
      obtain ⟨M2, n1, n2, n3⟩ := g_laysNow (LM := LM) (StM_p hM (Fr0_m l3)) hF
      have sp2 := Sp_4 (n3 0 (by decide)) l2
      have pm2 := Pm_tr (Fr0_m l3) (Pm_4 n3)
      rw [d1, l1]
      rcases h_stays (CeC_8 hC) d2 bA bB (b8 hs) (by omega) (by omega) F with ⟨f, s1⟩ | ⟨f, s1⟩
      · rcases g_fits (LM := LM) n2 sp2 bA bB (b8 hs) (by omega) (by omega) F with ⟨f', s2⟩ | ⟨f', s2⟩
        · left
          refine ⟨A', B', x', y', E', M2, hE, f, ?_, d2, ?_, sp2, n2, pm2⟩
          · simp (disch := omega) only [l_0, l_1, l_2, l_3, l_4, l_5, l_6, l_7, l_8, l_9, l_10, l_12, l_20, l_24, l_25, l_31, l_32, l_48, l_50, l_56, l_57, l_59, l_97, l_99, l_100, l_120, l_122, l_177, l_178, l_201, l_226, l_255, l_400, l_420, l_600, l_700, l_840, l_1000, l_1300, l_2000, l_1000000, nI_add, mr4, ml4, mr5, ml5, mr6, ml6, mr10, ml10, mr24, ml24, mr201, ml201, mr420, ml420, mr226, ml226, mr2, ml2, nI_clamp, lt_T, lt_F, le_T, le_F, eq_T, eq_F, ck_n, dv_n, cp_n, rem_n, pk_div, at1_same, at1_ne, cb_n, Option.bind_some, if_pos, if_neg, ↓reduceIte, and_self, and_true, true_and, and_false, false_and, not_true_eq_false, not_false_eq_true, nI_sub', s1]
          · simp (disch := omega) only [l_0, l_1, l_2, l_3, l_4, l_5, l_6, l_7, l_8, l_9, l_10, l_12, l_20, l_24, l_25, l_31, l_32, l_48, l_50, l_56, l_57, l_59, l_97, l_99, l_100, l_120, l_122, l_177, l_178, l_201, l_226, l_255, l_400, l_420, l_600, l_700, l_840, l_1000, l_1300, l_2000, l_1000000, nI_add, mr4, ml4, mr5, ml5, mr6, ml6, mr10, ml10, mr24, ml24, mr201, ml201, mr420, ml420, mr226, ml226, mr2, ml2, nI_clamp, lt_T, lt_F, le_T, le_F, eq_T, eq_F, ck_n, dv_n, cp_n, rem_n, pk_div, at1_same, at1_ne, cb_n, Option.bind_some, if_pos, if_neg, ↓reduceIte, and_self, and_true, true_and, and_false, false_and, not_true_eq_false, not_false_eq_true, nI_sub', n1, s2]
        · exact absurd ((fit_cr hs bA bB be).mp f) f'
      · rcases g_fits (LM := LM) n2 sp2 bA bB (b8 hs) (by omega) (by omega) F with ⟨f', s2⟩ | ⟨f', s2⟩
        · exact absurd ((fit_cr hs bA bB be).mpr f') f
        · right
          refine ⟨E', M2, ?_, ?_, pm2⟩
          · simp (disch := omega) only [l_0, l_1, l_2, l_3, l_4, l_5, l_6, l_7, l_8, l_9, l_10, l_12, l_20, l_24, l_25, l_31, l_32, l_48, l_50, l_56, l_57, l_59, l_97, l_99, l_100, l_120, l_122, l_177, l_178, l_201, l_226, l_255, l_400, l_420, l_600, l_700, l_840, l_1000, l_1300, l_2000, l_1000000, nI_add, mr4, ml4, mr5, ml5, mr6, ml6, mr10, ml10, mr24, ml24, mr201, ml201, mr420, ml420, mr226, ml226, mr2, ml2, nI_clamp, lt_T, lt_F, le_T, le_F, eq_T, eq_F, ck_n, dv_n, cp_n, rem_n, pk_div, at1_same, at1_ne, cb_n, Option.bind_some, if_pos, if_neg, ↓reduceIte, and_self, and_true, true_and, and_false, false_and, not_true_eq_false, not_false_eq_true, nI_sub', s1]
          · simp (disch := omega) only [l_0, l_1, l_2, l_3, l_4, l_5, l_6, l_7, l_8, l_9, l_10, l_12, l_20, l_24, l_25, l_31, l_32, l_48, l_50, l_56, l_57, l_59, l_97, l_99, l_100, l_120, l_122, l_177, l_178, l_201, l_226, l_255, l_400, l_420, l_600, l_700, l_840, l_1000, l_1300, l_2000, l_1000000, nI_add, mr4, ml4, mr5, ml5, mr6, ml6, mr10, ml10, mr24, ml24, mr201, ml201, mr420, ml420, mr226, ml226, mr2, ml2, nI_clamp, lt_T, lt_F, le_T, le_F, eq_T, eq_F, ck_n, dv_n, cp_n, rem_n, pk_div, at1_same, at1_ne, cb_n, Option.bind_some, if_pos, if_neg, ↓reduceIte, and_self, and_true, true_and, and_false, false_and, not_true_eq_false, not_false_eq_true, nI_sub', n1, s2]
    · exact absurd hE (nE _ _ _ _)
  · rcases g_lays (LM := LM) hM hs F κ1 κ2 r1 r2 c1 c2 k1 k2 o1 o2 with ⟨A', B', x', y', M1, hE', l1, l2, l3⟩ | ⟨_, M1, l1, l2⟩
    · exact absurd hE' (nE _ _ _ _)
    · right
      rw [d1, l1]
      refine ⟨E', M1, ?_, ?_, Fr0_m l2⟩
      · simp (disch := omega) only [l_0, l_1, l_2, l_3, l_4, l_5, l_6, l_7, l_8, l_9, l_10, l_12, l_20, l_24, l_25, l_31, l_32, l_48, l_50, l_56, l_57, l_59, l_97, l_99, l_100, l_120, l_122, l_177, l_178, l_201, l_226, l_255, l_400, l_420, l_600, l_700, l_840, l_1000, l_1300, l_2000, l_1000000, nI_add, mr4, ml4, mr5, ml5, mr6, ml6, mr10, ml10, mr24, ml24, mr201, ml201, mr420, ml420, mr226, ml226, mr2, ml2, nI_clamp, lt_T, lt_F, le_T, le_F, eq_T, eq_F, ck_n, dv_n, cp_n, rem_n, pk_div, at1_same, at1_ne, cb_n, Option.bind_some, if_pos, if_neg, ↓reduceIte, and_self, and_true, true_and, and_false, false_and, not_true_eq_false, not_false_eq_true, nI_sub']
      · simp (disch := omega) only [l_0, l_1, l_2, l_3, l_4, l_5, l_6, l_7, l_8, l_9, l_10, l_12, l_20, l_24, l_25, l_31, l_32, l_48, l_50, l_56, l_57, l_59, l_97, l_99, l_100, l_120, l_122, l_177, l_178, l_201, l_226, l_255, l_400, l_420, l_600, l_700, l_840, l_1000, l_1300, l_2000, l_1000000, nI_add, mr4, ml4, mr5, ml5, mr6, ml6, mr10, ml10, mr24, ml24, mr201, ml201, mr420, ml420, mr226, ml226, mr2, ml2, nI_clamp, lt_T, lt_F, le_T, le_F, eq_T, eq_F, ck_n, dv_n, cp_n, rem_n, pk_div, at1_same, at1_ne, cb_n, Option.bind_some, if_pos, if_neg, ↓reduceIte, and_self, and_true, true_and, and_false, false_and, not_true_eq_false, not_false_eq_true, nI_sub']
theorem m_can {C M X0 E : Mem} {LM : MemL} {σ : Sg} (hC : StC C σ) (hM : StM M σ) (hs : okS σ) {F : Nat} (hF : 10000 ≤ F) (x1 x2 x3 x4 x5 : Int32) : ∃ v E' M', f_X9_can F X0 C E x1 x2 x3 x4 x5 = some (v, E') ∧ f_X10_can F M LM x1 x2 x3 x4 x5 = some (v, M') ∧ Pm M M' := by
  obtain ⟨κ, κ1, κ2, rfl⟩ := zI_of x1
  obtain ⟨r, r1, r2, rfl⟩ := zI_of x2
  obtain ⟨o, o1, o2, rfl⟩ := zI_of x3
  obtain ⟨c, c1, c2, rfl⟩ := zI_of x4
  obtain ⟨k, k1, k2, rfl⟩ := zI_of x5
  unfold f_X9_can f_X10_can
  rcases m_can0 (E := E) (LM := LM) hC hM hs hF κ1 κ2 r1 r2 c1 c2 k1 k2 o1 o2 with ⟨A, B, x, y, E', M', _, _, d1, _, d2, _, _, p⟩ | ⟨E', M', d1, d2, p⟩
  · rw [d1, d2]
    simp (disch := omega) only [l_0, l_1, l_2, l_3, l_4, l_5, l_6, l_7, l_8, l_9, l_10, l_12, l_20, l_24, l_25, l_31, l_32, l_48, l_50, l_56, l_57, l_59, l_97, l_99, l_100, l_120, l_122, l_177, l_178, l_201, l_226, l_255, l_400, l_420, l_600, l_700, l_840, l_1000, l_1300, l_2000, l_1000000, nI_add, mr4, ml4, mr5, ml5, mr6, ml6, mr10, ml10, mr24, ml24, mr201, ml201, mr420, ml420, mr226, ml226, mr2, ml2, nI_clamp, lt_T, lt_F, le_T, le_F, eq_T, eq_F, ck_n, dv_n, cp_n, rem_n, pk_div, at1_same, at1_ne, cb_n, Option.bind_some, if_pos, if_neg, ↓reduceIte, and_self, and_true, true_and, and_false, false_and, not_true_eq_false, not_false_eq_true, nI_sub']
    exact ⟨_, _, _, rfl, rfl, p⟩
  · rw [d1, d2]
    simp (disch := omega) only [l_0, l_1, l_2, l_3, l_4, l_5, l_6, l_7, l_8, l_9, l_10, l_12, l_20, l_24, l_25, l_31, l_32, l_48, l_50, l_56, l_57, l_59, l_97, l_99, l_100, l_120, l_122, l_177, l_178, l_201, l_226, l_255, l_400, l_420, l_600, l_700, l_840, l_1000, l_1300, l_2000, l_1000000, nI_add, mr4, ml4, mr5, ml5, mr6, ml6, mr10, ml10, mr24, ml24, mr201, ml201, mr420, ml420, mr226, ml226, mr2, ml2, nI_clamp, lt_T, lt_F, le_T, le_F, eq_T, eq_F, ck_n, dv_n, cp_n, rem_n, pk_div, at1_same, at1_ne, cb_n, Option.bind_some, if_pos, if_neg, ↓reduceIte, and_self, and_true, true_and, and_false, false_and, not_true_eq_false, not_false_eq_true, nI_sub']
    exact ⟨_, _, _, rfl, rfl, p⟩
/-! the new state -/
def mvS (σ : Sg) (κ r c k o A B : Nat) (x y : Int) : Sg := fun j => if j = 56 then σ 56 + 1 else if j = 57 + 5 * σ 56 then κ else if j = 57 + 5 * σ 56 + 1 then r else if j = 57 + 5 * σ 56 + 2 then c else if j = 57 + 5 * σ 56 + 3 then k else if j = 57 + 5 * σ 56 + 4 then o else if 8 ≤ j ∧ j < 32 then (apE (sg8 σ) A B x y 1 (j - 8)).toNat else σ j
section MvS
variable {σ : Sg} {κ r c k o A B : Nat} {x y : Int}
theorem mv_lo {j : Nat} (h : j < 8) : mvS σ κ r c k o A B x y j = σ j := by
  unfold mvS
  rw [if_neg (by omega), if_neg (by omega), if_neg (by omega), if_neg (by omega), if_neg (by omega), if_neg (by omega), if_neg (by omega)]
theorem mv_ce {j : Nat} (h : j < 24) : mvS σ κ r c k o A B x y (8 + j) = (apE (sg8 σ) A B x y 1 j).toNat := by
  unfold mvS
  rw [if_neg (by omega), if_neg (by omega), if_neg (by omega), if_neg (by omega), if_neg (by omega), if_neg (by omega), if_pos (by omega)]
  congr 2
  omega
theorem mv_be {j : Nat} (h : j < 24) : mvS σ κ r c k o A B x y (32 + j) = σ (32 + j) := by
  unfold mvS
  rw [if_neg (by omega), if_neg (by omega), if_neg (by omega), if_neg (by omega), if_neg (by omega), if_neg (by omega), if_neg (by omega)]
theorem mv_56 : mvS σ κ r c k o A B x y 56 = σ 56 + 1 := if_pos rfl
theorem mv_lg {j : Nat} (h : j < 5 * σ 56) : mvS σ κ r c k o A B x y (57 + j) = σ (57 + j) := by
  unfold mvS
  rw [if_neg (by omega), if_neg (by omega), if_neg (by omega), if_neg (by omega), if_neg (by omega), if_neg (by omega), if_neg (by omega)]
theorem mv_0 : mvS σ κ r c k o A B x y (57 + 5 * σ 56) = κ := by
  unfold mvS
  rw [if_neg (by omega), if_pos rfl]
theorem mv_1 : mvS σ κ r c k o A B x y (57 + 5 * σ 56 + 1) = r := by
  unfold mvS
  rw [if_neg (by omega), if_neg (by omega), if_pos rfl]
theorem mv_2 : mvS σ κ r c k o A B x y (57 + 5 * σ 56 + 2) = c := by
  unfold mvS
  rw [if_neg (by omega), if_neg (by omega), if_neg (by omega), if_pos rfl]
theorem mv_3 : mvS σ κ r c k o A B x y (57 + 5 * σ 56 + 3) = k := by
  unfold mvS
  rw [if_neg (by omega), if_neg (by omega), if_neg (by omega), if_neg (by omega), if_pos rfl]
theorem mv_4 : mvS σ κ r c k o A B x y (57 + 5 * σ 56 + 4) = o := by
  unfold mvS
  rw [if_neg (by omega), if_neg (by omega), if_neg (by omega), if_neg (by omega), if_neg (by omega), if_pos rfl]
theorem mv_si (hm : σ 56 < 24) {j : Nat} (h : 177 ≤ j) : mvS σ κ r c k o A B x y j = σ j := by
  unfold mvS
  rw [if_neg (by omega), if_neg (by omega), if_neg (by omega), if_neg (by omega), if_neg (by omega), if_neg (by omega), if_neg (by omega)]
theorem mv_wo {j : Nat} (h : j < 6) : wo (mvS σ κ r c k o A B x y) j = wo σ j := wo_cg j (fun i h1 h2 => mv_lo (by omega))
end MvS
theorem ap_ok {σ : Sg} {A B : Nat} {x y : Int} (hs : okS σ) (f : fitC (sg8 σ) A B x y) (e : B = A → y = 0) {j : Nat} (hj : j < 24) : 0 ≤ apE (sg8 σ) A B x y 1 j ∧ apE (sg8 σ) A B x y 1 j ≤ 99 := by
  have q := (kCe hs hj).1
  have g : sg8 σ j = (σ (8 + j) : Int) := rfl
  unfold fitC at f
  unfold apE
  by_cases h1 : j = A
  · subst h1
    rw [if_pos rfl]
    by_cases h2 : j = B
    · subst h2
      rw [if_pos rfl]
      have := e rfl
      omega
    · rw [if_neg h2]; omega
  · rw [if_neg h1]
    by_cases h2 : j = B
    · subst h2
      rw [if_pos rfl]; omega
    · rw [if_neg h2]; omega
theorem okS_mv {σ : Sg} {κ r c k o A B : Nat} {x y : Int} (hs : okS σ) (hm : σ 56 < 24) (hE : Ef σ κ r c k o A B x y) (f : fitC (sg8 σ) A B x y) (ho : κ ≠ 4 → o = 0) (hk : κ = 2 ∨ κ = 3 → k = 0) : okS (mvS σ κ r c k o A B x y) := by
  obtain ⟨bA, bB, bx1, bx2, by1, by2, be⟩ := Ef_b hs hE
  have s := hs
  obtain ⟨s0, s1, s2, s3, s4, s5, s6, s7, s8, s9⟩ := s
  have e0 := mv_lo (σ := σ) (κ := κ) (r := r) (c := c) (k := k) (o := o) (A := A) (B := B) (x := x) (y := y) (j := 0) (by omega)
  have e1 := mv_lo (σ := σ) (κ := κ) (r := r) (c := c) (k := k) (o := o) (A := A) (B := B) (x := x) (y := y) (j := 1) (by omega)
  have e2 := mv_lo (σ := σ) (κ := κ) (r := r) (c := c) (k := k) (o := o) (A := A) (B := B) (x := x) (y := y) (j := 2) (by omega)
  have e56 := mv_56 (σ := σ) (κ := κ) (r := r) (c := c) (k := k) (o := o) (A := A) (B := B) (x := x) (y := y)
  have e177 := mv_si (σ := σ) (κ := κ) (r := r) (c := c) (k := k) (o := o) (A := A) (B := B) (x := x) (y := y) hm (j := 177) (by omega)
  refine ⟨by omega, by omega, by omega, by omega, fun j h1 h2 => ?_, fun r' c' hr hc => ?_, by omega, fun i hi => ?_, by omega, fun q hq => ?_⟩
  · rw [mv_lo (by omega)]
    exact s4 j h1 (by omega)
  · have z := s5 r' c' hr hc
    rw [e0, e1, Nat.add_assoc, Nat.add_assoc, mv_ce (by omega), mv_be (by omega)]
    rw [Nat.add_assoc, Nat.add_assoc] at z
    have w := ap_ok hs f be (j := 6 * r' + c') (by omega)
    refine ⟨by omega, z.2.1, fun d => ⟨?_, (z.2.2 d).2⟩⟩
    have z0 := (z.2.2 d).1
    have g : sg8 σ (6 * r' + c') = 0 := by unfold sg8; omega
    unfold Ef at hE
    have nA : 6 * r' + c' ≠ A := by omega
    have nB : 6 * r' + c' ≠ B ∨ y = 0 := by omega
    unfold apE
    rw [if_neg nA, g]
    rcases nB with nB | nB
    · rw [if_neg nB]; rfl
    · rw [nB]
      by_cases q : 6 * r' + c' = B
      · rw [if_pos q]; rfl
      · rw [if_neg q]; rfl
  · by_cases hi' : i < σ 56
    · have z := s7 i hi'
      unfold okMv at z ⊢
      have a0 := mv_lg (σ := σ) (κ := κ) (r := r) (c := c) (k := k) (o := o) (A := A) (B := B) (x := x) (y := y) (j := 5 * i) (by omega)
      have a1 := mv_lg (σ := σ) (κ := κ) (r := r) (c := c) (k := k) (o := o) (A := A) (B := B) (x := x) (y := y) (j := 5 * i + 1) (by omega)
      have a2 := mv_lg (σ := σ) (κ := κ) (r := r) (c := c) (k := k) (o := o) (A := A) (B := B) (x := x) (y := y) (j := 5 * i + 2) (by omega)
      have a3 := mv_lg (σ := σ) (κ := κ) (r := r) (c := c) (k := k) (o := o) (A := A) (B := B) (x := x) (y := y) (j := 5 * i + 3) (by omega)
      have a4 := mv_lg (σ := σ) (κ := κ) (r := r) (c := c) (k := k) (o := o) (A := A) (B := B) (x := x) (y := y) (j := 5 * i + 4) (by omega)
      simp only [← Nat.add_assoc] at a1 a2 a3 a4
      rw [a0, a1, a2, a3, a4, e0, e1]
      exact z
    · obtain rfl : i = σ 56 := by omega
      unfold okMv
      rw [mv_0, mv_1, mv_2, mv_3, mv_4, e0, e1]
      unfold Ef at hE
      omega
  · have z := s9 q (by omega)
    rw [Nat.add_assoc, Nat.add_assoc, Nat.add_assoc] at z ⊢
    rw [e0, e1, e56]
    simp (disch := omega) only [mv_si hm]
    omega
