/-! PURE LAYER: acts on a whole row: halve, plain, join -/
theorem h_layParts {C P X0 : Mem} {LP : MemL} {wP vP : Bool} {σ : Sg} (hC : StC C σ) (hs : okS σ) {r : Nat} (hr : r < 4) {v : Nat → Nat} (hP : ∀ c, c < σ 0 → P 1 c = nI (v c)) {F : Nat} (hF : 10 ≤ F) : ∃ C1, StB C1 (rwS σ r v) ∧ f_X9_layParts F X0 C P LP wP vP (nI r) = f_X0_makeAnew F C1 := by
  have h0 := kC hs
  have := fill_up (f_X9_layParts_2 F X0 P LP wP vP (nI r) (fun C_42 => (f_X0_makeAnew F C_42).bind (fun z46 => (some z46)))) (fun C_42 => (f_X0_makeAnew F C_42).bind (fun z46 => (some z46))) 3 0 (6 * r) 0 (σ 0) (fun j => P 1 (j - 6 * r)) C (fun n i N _ hi hN => by
    rw [f_X9_layParts_2]
    have e0 : N 0 6 = nI (σ 0) := by rw [Fl_c hN (by decide)]; exact cC hC
    have e2 : 6 * r + i - 6 * r = i := by omega
    simp only [Nat.zero_add]
    simp (disch := omega) only [l_0, l_1, l_2, l_3, l_4, l_5, l_6, l_7, l_8, l_9, l_10, l_12, l_20, l_24, l_25, l_31, l_32, l_48, l_50, l_56, l_57, l_59, l_97, l_99, l_100, l_120, l_122, l_177, l_178, l_201, l_226, l_255, l_400, l_420, l_600, l_700, l_840, l_1000, l_1300, l_2000, l_1000000, nI_add, mr4, ml4, mr5, ml5, mr6, ml6, mr10, ml10, mr24, ml24, mr201, ml201, mr420, ml420, mr226, ml226, mr2, ml2, nI_clamp, lt_T, lt_F, le_T, le_F, eq_T, eq_F, ck_n, dv_n, cp_n, rem_n, pk_div, at1_same, at1_ne, cb_n, Option.bind_some, if_pos, if_neg, ↓reduceIte, and_self, and_true, true_and, and_false, false_and, not_true_eq_false, not_false_eq_true, nI_sub', e0, e2]) (fun n N hN => by
    rw [f_X9_layParts_2]
    have e0 : N 0 6 = nI (σ 0) := by rw [Fl_c hN (by decide)]; exact cC hC
    simp only [Nat.zero_add]
    simp (disch := omega) only [l_0, l_1, l_2, l_3, l_4, l_5, l_6, l_7, l_8, l_9, l_10, l_12, l_20, l_24, l_25, l_31, l_32, l_48, l_50, l_56, l_57, l_59, l_97, l_99, l_100, l_120, l_122, l_177, l_178, l_201, l_226, l_255, l_400, l_420, l_600, l_700, l_840, l_1000, l_1300, l_2000, l_1000000, nI_add, mr4, ml4, mr5, ml5, mr6, ml6, mr10, ml10, mr24, ml24, mr201, ml201, mr420, ml420, mr226, ml226, mr2, ml2, nI_clamp, lt_T, lt_F, le_T, le_F, eq_T, eq_F, ck_n, dv_n, cp_n, rem_n, pk_div, at1_same, at1_ne, cb_n, Option.bind_some, if_pos, if_neg, ↓reduceIte, and_self, and_true, true_and, and_false, false_and, not_true_eq_false, not_false_eq_true, nI_sub', e0]) (σ 0) 0 F C (by omega) (by omega) (by omega) (Fl_0 C 3 _ _)
  obtain ⟨C1, c1, c2⟩ := this
  refine ⟨C1, StB_rw (StC_B hC) h0 c2 (fun c hc => ?_), ?_⟩
  · have e2 : 6 * r + c - 6 * r = c := by omega
    show P 1 (6 * r + c - 6 * r) = _
    rw [e2]; exact hP c hc
  · unfold f_X9_layParts
    rw [show f_X9_layParts_2 F X0 P LP wP vP (nI r) (fun C_42 => (f_X0_makeAnew F C_42).bind (fun z46 => (some z46))) F C 0 = _ from c1]
    cases f_X0_makeAnew F C1 <;> rfl
theorem m_halve {M T C H Y N S X0 P : Mem} {LM LP : MemL} {wP vP : Bool} {Ks : Nat → Mem} {σ : Sg} {a : Nat} {h : Nat → Sg} (ra : Ra M T C H Ks σ a h) {F : Nat} (hF : 10000 ≤ F) (x1 : Int32) : ∃ v C' H' P' Y' N' S' Ks' M', f_X9_halve F X0 C H P LP wP vP Y N S Ks x1 = some (v, C', H', P', Y', N', S', Ks') ∧ f_X10_halve F M LM x1 = some (v, M') ∧ Out M T C H Y N S Ks M' C' H' Y' N' S' Ks' := by
  obtain ⟨hC, hM, hs, -⟩ := id ra
  have h0 := kC hs
  have h1 := kR hs
  have hF' : 10 ≤ F := by omega
  obtain ⟨x, r1, r2, rfl⟩ := zI_of x1
  unfold f_X9_halve f_X10_halve
  by_cases hx : 0 ≤ x ∧ x < (σ 1 : Int)
  · obtain ⟨r, rfl⟩ := Int.eq_ofNat_of_zero_le hx.1
    have hr : r < σ 1 := by omega
    simp only [zI_c]
    rw [hasRow_n hC h1 F hr, isRow_n hM h1 F hr]
    simp only [Option.bind_some]
    rw [if_neg n10, if_neg n10, h_countersOf hC h0 hF' (by omega), g_countersOf hM h0 hF' (by omega)]
    simp only [Option.bind_some]
    by_cases z : nI (ctN σ r (σ 0)) = 0
    · rw [if_pos z, if_pos z]
      exact ⟨_, _, _, _, _, _, _, _, _, rfl, rfl, .inl ⟨rfl, rfl, rfl, rfl, rfl, rfl, Pm_rfl M⟩⟩
    · rw [if_neg z, if_neg z, h_sumOf hC h0 hF' (by omega), g_sumOf hM h0 hF' (by omega)]
      simp only [Option.bind_some]
      have sl := sm_lt hs (r := r) (by omega)
      have ed : nI (smN σ r (σ 0)) / 2 = nI (smN σ r (σ 0) / 2) := pk_div (d := 2) (by omega) (by decide) (by decide)
      have d2 : ∀ {α : Type} (E : Option α), dv 2 E = E := fun E => dv_ne (by decide)
      simp only [d2]
      rw [ed]
      obtain ⟨P', p1, p2⟩ := h_splitPlain (P := P) (LP := LP) (wP := wP) (vP := vP) hC hs (F := F) (S := smN σ r (σ 0) / 2) hF' (by omega)
      obtain ⟨M1, q1, q2, q3⟩ := g_laysPlain (LM := LM) hM hs (F := F) (S := smN σ r (σ 0) / 2) hF' (by omega)
      have hM1 := StM_p hM q3
      rw [p1, q1]
      simp only [Option.bind_some]
      have bd : ∀ c, c < σ 0 → dg σ (smN σ r (σ 0) / 2) c < 2147483648 := fun c _ => dg_lt (by omega)
      rcases h_partsFit (LP := LP) (wP := wP) (vP := vP) hC h0 p2 bd hF' with ⟨j1, j2⟩ | ⟨j1, j2⟩
      · rcases g_ownFull (LM := LM) hM1 h0 q2 bd hF' with ⟨o1, o2⟩ | ⟨o1, o2⟩
        · rw [j2, o2]
          simp only [Option.bind_some]
          rw [if_neg n10, if_pos n00]
          obtain ⟨H', Y', N', S', Ks', M', b1, b2, b3, b4⟩ := m_own (X0 := X0) (Y := Y) (N := N) (S := S) (LM := LM) (Ra_m q3 ra) hF hr o1 q2
          obtain ⟨C1, c1, c2⟩ := h_layParts (X0 := X0) (LP := LP) (wP := wP) (vP := vP) hC hs (r := r) (by omega) p2 hF'
          obtain ⟨C', e1, e2⟩ := b4 C1 c1
          rw [b1, b2]
          simp only [Option.bind_some]
          rw [c2, e1]
          exact ⟨_, _, _, _, _, _, _, _, _, rfl, rfl, .inr ⟨_, _, _, e2, b3⟩⟩
        · exact absurd j1 o1
      · rcases g_ownFull (LM := LM) hM1 h0 q2 bd hF' with ⟨o1, o2⟩ | ⟨o1, o2⟩
        · exact absurd o1 j1
        · rw [j2, o2]
          simp only [Option.bind_some]
          rw [if_pos n00, if_neg n10]
          exact ⟨_, _, _, _, _, _, _, _, _, rfl, rfl, .inl ⟨rfl, rfl, rfl, rfl, rfl, rfl, q3⟩⟩
  · rw [hasRow_x hC h1 F hx r1 r2, isRow_x hM h1 F hx r1 r2]
    simp only [Option.bind_some]
    rw [if_pos n00, if_pos n00]
    exact ⟨_, _, _, _, _, _, _, _, _, rfl, rfl, .inl ⟨rfl, rfl, rfl, rfl, rfl, rfl, Pm_rfl M⟩⟩
theorem ct_rw {σ : Sg} {r S : Nat} : ∀ c, c ≤ σ 0 → ctN (anewS (rwS σ r (dg σ S))) r c = dgs σ S c ∨ 4 ≤ r ∨ 6 < σ 0
  | 0, _ => .inl rfl
  | c + 1, h => by
    by_cases hr : 4 ≤ r
    · exact .inr (.inl hr)
    · by_cases h6 : 6 < σ 0
      · exact .inr (.inr h6)
      · rcases ct_rw (σ := σ) (r := r) (S := S) c (by omega) with e | e | e
        · left
          show ctN (anewS (rwS σ r (dg σ S))) r c + (anewS (rwS σ r (dg σ S))) (8 + 6 * r + c) = dgs σ S c + dg σ S c
          rw [e, an_lo _ (by omega), Nat.add_assoc 8, rw_i (by omega)]
        · omega
        · omega
theorem m_plain {M T C H Y N S X0 P : Mem} {LM LP : MemL} {wP vP : Bool} {Ks : Nat → Mem} {σ : Sg} {a : Nat} {h : Nat → Sg} (ra : Ra M T C H Ks σ a h) {F : Nat} (hF : 10000 ≤ F) (x1 : Int32) : ∃ v C' H' P' Y' N' S' Ks' M', f_X9_plain F X0 C H P LP wP vP Y N S Ks x1 = some (v, C', H', P', Y', N', S', Ks') ∧ f_X10_plain F M LM x1 = some (v, M') ∧ Out M T C H Y N S Ks M' C' H' Y' N' S' Ks' := by
  obtain ⟨hC, hM, hs, -⟩ := id ra
  have h0 := kC hs
  have h1 := kR hs
  have hF' : 10 ≤ F := by omega
  obtain ⟨x, r1, r2, rfl⟩ := zI_of x1
  unfold f_X9_plain f_X10_plain
  by_cases hx : 0 ≤ x ∧ x < (σ 1 : Int)
  · obtain ⟨r, rfl⟩ := Int.eq_ofNat_of_zero_le hx.1
    have hr : r < σ 1 := by omega
    simp only [zI_c]
    have sl := sm_lt hs (r := r) (by omega)
    rw [hasRow_n hC h1 F hr, isRow_n hM h1 F hr]
    simp only [Option.bind_some]
    rw [if_neg n10, if_neg n10, g_sumOf hM h0 hF' (by omega)]
    simp only [Option.bind_some]
    obtain ⟨P', p1, p2⟩ := h_splitPlain (P := P) (LP := LP) (wP := wP) (vP := vP) hC hs (F := F) (S := smN σ r (σ 0)) hF' sl
    obtain ⟨M1, q1, q2, q3⟩ := g_laysPlain (LM := LM) hM hs (F := F) (S := smN σ r (σ 0)) hF' sl
    have hM1 := StM_p hM q3
    rw [q1]
    simp only [Option.bind_some]
    have bd : ∀ c, c < σ 0 → dg σ (smN σ r (σ 0)) c < 2147483648 := fun c _ => dg_lt sl
    rcases h_isPlain hC hs (F := F) (r := r) hF' hr with ⟨u1, u2⟩ | ⟨u1, u2⟩
    · rcases g_isOwn (LM := LM) hM1 hs (F := F) (r := r) hF' (by omega) sl q2 with ⟨w1, w2⟩ | ⟨w1, w2⟩
      · rw [u2, w2]
        simp only [Option.bind_some]
        rw [if_neg n10, if_neg n10]
        exact ⟨_, _, _, _, _, _, _, _, _, rfl, rfl, .inl ⟨rfl, rfl, rfl, rfl, rfl, rfl, q3⟩⟩
      · exact absurd ((pl_ow hs).mp u1) w1
    · rcases g_isOwn (LM := LM) hM1 hs (F := F) (r := r) hF' (by omega) sl q2 with ⟨w1, w2⟩ | ⟨w1, w2⟩
      · exact absurd ((pl_ow hs).mpr w1) u1
      · rw [u2, w2]
        simp only [Option.bind_some]
        rw [if_pos n00, if_pos n00, h_countersOf hC h0 hF' (by omega), h_sumOf hC h0 hF' (by omega)]
        simp only [Option.bind_some]
        rw [p1]
        simp only [Option.bind_some]
        rcases h_partsFit (LP := LP) (wP := wP) (vP := vP) hC h0 p2 bd hF' with ⟨j1, j2⟩ | ⟨j1, j2⟩
        · rcases g_ownFull (LM := LM) hM1 h0 q2 bd hF' with ⟨o1, o2⟩ | ⟨o1, o2⟩
          · rw [j2, o2]
            simp only [Option.bind_some]
            rw [if_neg n10, if_pos n00, g_countersOf hM1 h0 hF' (by omega)]
            obtain ⟨H', Y', N', S', Ks', M', b1, b2, b3, b4⟩ := m_own (X0 := X0) (Y := Y) (N := N) (S := S) (LM := LM) (Ra_m q3 ra) hF hr o1 q2
            obtain ⟨C1, c1, c2⟩ := h_layParts (X0 := X0) (LP := LP) (wP := wP) (vP := vP) hC hs (r := r) (by omega) p2 hF'
            obtain ⟨C', e1, e2⟩ := b4 C1 c1
            have ec : ctN (anewS (rwS σ r (dg σ (smN σ r (σ 0))))) r (anewS (rwS σ r (dg σ (smN σ r (σ 0)))) 0) = dgs σ (smN σ r (σ 0)) (σ 0) := by
              rw [an_lo _ (by omega), rw_lo (by omega)]
              rcases ct_rw (σ := σ) (r := r) (S := smN σ r (σ 0)) (σ 0) (Nat.le_refl _) with e | e | e
              · exact e
              · omega
              · omega
            rw [b1]
            simp only [Option.bind_some]
            rw [b2]
            simp only [Option.bind_some]
            rw [g_countersOf e2.2.1 e2.2.2.1.1 hF' (by omega), ec, c2, e1]
            exact ⟨_, _, _, _, _, _, _, _, _, rfl, rfl, .inr ⟨_, _, _, e2, b3⟩⟩
          · exact absurd j1 o1
        · rcases g_ownFull (LM := LM) hM1 h0 q2 bd hF' with ⟨o1, o2⟩ | ⟨o1, o2⟩
          · exact absurd o1 j1
          · rw [j2, o2]
            simp only [Option.bind_some]
            rw [if_pos n00, if_neg n10]
            exact ⟨_, _, _, _, _, _, _, _, _, rfl, rfl, .inl ⟨rfl, rfl, rfl, rfl, rfl, rfl, q3⟩⟩
  · rw [hasRow_x hC h1 F hx r1 r2, isRow_x hM h1 F hx r1 r2]
    simp only [Option.bind_some]
    rw [if_pos n00, if_pos n00]
    exact ⟨_, _, _, _, _, _, _, _, _, rfl, rfl, .inl ⟨rfl, rfl, rfl, rfl, rfl, rfl, Pm_rfl M⟩⟩
/-! join -/
theorem an_an {τ : Sg} {r : Nat} {v : Nat → Nat} : anewS (rwS (anewS τ) r v) = anewS (rwS τ r v) := by
  have z : ∀ j, j < 32 → rwS (anewS τ) r v j = rwS τ r v j := fun j hj => by
    unfold rwS
    rw [an_lo τ (j := 0) (by omega), an_lo τ hj]
  funext j
  by_cases h1 : j < 32
  · rw [an_lo _ h1, an_lo _ h1, z j h1]
  · by_cases h2 : j < 56
    · obtain ⟨i, rfl⟩ : ∃ i, j = 32 + i := ⟨j - 32, by omega⟩
      rw [an_be _ (by omega), an_be _ (by omega), z _ (by omega)]
    · rw [an_hi _ (by omega), an_hi _ (by omega)]
theorem twoRows {C X0 : Mem} {σ : Sg} (hC : StC C σ) (h1 : σ 1 ≤ 4) (F : Nat) {x y : Int} (x1 : -2147483648 ≤ x) (x2 : x < 2147483648) (y1 : -2147483648 ≤ y) (y2 : y < 2147483648) : f_X9_areTwoRows F X0 C (zI x) (zI y) = some (if (0 ≤ x ∧ x < (σ 1 : Int)) ∧ (0 ≤ y ∧ y < (σ 1 : Int)) ∧ x ≠ y then nI 1 else nI 0) := by
  unfold f_X9_areTwoRows
  rw [hasRow_z hC h1 F x1 x2, hasRow_z hC h1 F y1 y2]
  by_cases hx : 0 ≤ x ∧ x < (σ 1 : Int)
  · by_cases hy : 0 ≤ y ∧ y < (σ 1 : Int)
    · by_cases he : x = y
      · simp (disch := omega) only [l_0, l_1, l_2, l_3, l_4, l_5, l_6, l_7, l_8, l_9, l_10, l_12, l_20, l_24, l_25, l_31, l_32, l_48, l_50, l_56, l_57, l_59, l_97, l_99, l_100, l_120, l_122, l_177, l_178, l_201, l_226, l_255, l_400, l_420, l_600, l_700, l_840, l_1000, l_1300, l_2000, l_1000000, nI_add, mr4, ml4, mr5, ml5, mr6, ml6, mr10, ml10, mr24, ml24, mr201, ml201, mr420, ml420, mr226, ml226, mr2, ml2, nI_clamp, lt_T, lt_F, le_T, le_F, eq_T, eq_F, ck_n, dv_n, cp_n, rem_n, pk_div, at1_same, at1_ne, cb_n, Option.bind_some, if_pos, if_neg, ↓reduceIte, and_self, and_true, true_and, and_false, false_and, not_true_eq_false, not_false_eq_true, nI_sub', zz_add, zz_sub, zz_mul, zn_add, nz_add, zn_sub, nz_sub, zn_mul, nz_mul, z_neg, n_neg, zlt_T, zlt_F, zle_T, zle_F, zeq_T, zeq_F, zn_lt, nz_lt, zn_le, nz_le, zn_eq, nz_eq]
      · simp (disch := omega) only [l_0, l_1, l_2, l_3, l_4, l_5, l_6, l_7, l_8, l_9, l_10, l_12, l_20, l_24, l_25, l_31, l_32, l_48, l_50, l_56, l_57, l_59, l_97, l_99, l_100, l_120, l_122, l_177, l_178, l_201, l_226, l_255, l_400, l_420, l_600, l_700, l_840, l_1000, l_1300, l_2000, l_1000000, nI_add, mr4, ml4, mr5, ml5, mr6, ml6, mr10, ml10, mr24, ml24, mr201, ml201, mr420, ml420, mr226, ml226, mr2, ml2, nI_clamp, lt_T, lt_F, le_T, le_F, eq_T, eq_F, ck_n, dv_n, cp_n, rem_n, pk_div, at1_same, at1_ne, cb_n, Option.bind_some, if_pos, if_neg, ↓reduceIte, and_self, and_true, true_and, and_false, false_and, not_true_eq_false, not_false_eq_true, nI_sub', zz_add, zz_sub, zz_mul, zn_add, nz_add, zn_sub, nz_sub, zn_mul, nz_mul, z_neg, n_neg, zlt_T, zlt_F, zle_T, zle_F, zeq_T, zeq_F, zn_lt, nz_lt, zn_le, nz_le, zn_eq, nz_eq]
    · simp (disch := omega) only [l_0, l_1, l_2, l_3, l_4, l_5, l_6, l_7, l_8, l_9, l_10, l_12, l_20, l_24, l_25, l_31, l_32, l_48, l_50, l_56, l_57, l_59, l_97, l_99, l_100, l_120, l_122, l_177, l_178, l_201, l_226, l_255, l_400, l_420, l_600, l_700, l_840, l_1000, l_1300, l_2000, l_1000000, nI_add, mr4, ml4, mr5, ml5, mr6, ml6, mr10, ml10, mr24, ml24, mr201, ml201, mr420, ml420, mr226, ml226, mr2, ml2, nI_clamp, lt_T, lt_F, le_T, le_F, eq_T, eq_F, ck_n, dv_n, cp_n, rem_n, pk_div, at1_same, at1_ne, cb_n, Option.bind_some, if_pos, if_neg, ↓reduceIte, and_self, and_true, true_and, and_false, false_and, not_true_eq_false, not_false_eq_true, nI_sub', zz_add, zz_sub, zz_mul, zn_add, nz_add, zn_sub, nz_sub, zn_mul, nz_mul, z_neg, n_neg, zlt_T, zlt_F, zle_T, zle_F, zeq_T, zeq_F, zn_lt, nz_lt, zn_le, nz_le, zn_eq, nz_eq]
  · simp (disch := omega) only [l_0, l_1, l_2, l_3, l_4, l_5, l_6, l_7, l_8, l_9, l_10, l_12, l_20, l_24, l_25, l_31, l_32, l_48, l_50, l_56, l_57, l_59, l_97, l_99, l_100, l_120, l_122, l_177, l_178, l_201, l_226, l_255, l_400, l_420, l_600, l_700, l_840, l_1000, l_1300, l_2000, l_1000000, nI_add, mr4, ml4, mr5, ml5, mr6, ml6, mr10, ml10, mr24, ml24, mr201, ml201, mr420, ml420, mr226, ml226, mr2, ml2, nI_clamp, lt_T, lt_F, le_T, le_F, eq_T, eq_F, ck_n, dv_n, cp_n, rem_n, pk_div, at1_same, at1_ne, cb_n, Option.bind_some, if_pos, if_neg, ↓reduceIte, and_self, and_true, true_and, and_false, false_and, not_true_eq_false, not_false_eq_true, nI_sub', zz_add, zz_sub, zz_mul, zn_add, nz_add, zn_sub, nz_sub, zn_mul, nz_mul, z_neg, n_neg, zlt_T, zlt_F, zle_T, zle_F, zeq_T, zeq_F, zn_lt, nz_lt, zn_le, nz_le, zn_eq, nz_eq]
theorem m_join {M T C H Y N S X0 : Mem} {LM : MemL} {Ks : Nat → Mem} {σ : Sg} {a : Nat} {h : Nat → Sg} (ra : Ra M T C H Ks σ a h) {F : Nat} (hF : 10000 ≤ F) (x1 x2 : Int32) : ∃ v C' H' Y' N' S' Ks' M', f_X9_join F X0 C H Y N S Ks x1 x2 = some (v, C', H', Y', N', S', Ks') ∧ f_X10_join F M LM x1 x2 = some (v, M') ∧ Out M T C H Y N S Ks M' C' H' Y' N' S' Ks' := by
  obtain ⟨hC, hM, hs, -⟩ := id ra
  have h0 := kC hs
  have h1 := kR hs
  have hF' : 10 ≤ F := by omega
  obtain ⟨x, u1, u2, rfl⟩ := zI_of x1
  obtain ⟨y, w1, w2, rfl⟩ := zI_of x2
  unfold f_X9_join f_X10_join
  rw [twoRows hC h1 F u1 u2 w1 w2, isRow_z hM h1 F u1 u2, isRow_z hM h1 F w1 w2]
  by_cases hx : 0 ≤ x ∧ x < (σ 1 : Int)
  · by_cases hy : 0 ≤ y ∧ y < (σ 1 : Int)
    · by_cases he : x = y
      · rw [if_neg (by omega), if_pos hx, if_pos hy]
        simp only [Option.bind_some]
        rw [if_pos n00, if_neg n10, if_neg n10, if_pos (by rw [he])]
        exact ⟨_, _, _, _, _, _, _, _, rfl, rfl, .inl ⟨rfl, rfl, rfl, rfl, rfl, rfl, Pm_rfl M⟩⟩
      · rw [if_pos ⟨hx, hy, he⟩, if_pos hx, if_pos hy]
        obtain ⟨r, rfl⟩ := Int.eq_ofNat_of_zero_le hx.1
        obtain ⟨o, rfl⟩ := Int.eq_ofNat_of_zero_le hy.1
        have hr : r < σ 1 := by omega
        have ho : o < σ 1 := by omega
        have hro : r ≠ o := by omega
        simp only [zI_c, Option.bind_some]
        rw [if_neg n10, if_neg n10, if_neg n10, if_neg (fun e => hro ((nI_eq (by omega) (by omega)).mp e)), h_countersOf hC h0 hF' (by omega), g_countersOf hM h0 hF' (by omega)]
        simp only [Option.bind_some]
        by_cases z : nI (ctN σ r (σ 0)) = 0
        · rw [if_pos z, if_pos z]
          exact ⟨_, _, _, _, _, _, _, _, rfl, rfl, .inl ⟨rfl, rfl, rfl, rfl, rfl, rfl, Pm_rfl M⟩⟩
        · rw [if_neg z, if_neg z]
          have A : ∀ k : Mem → Option (Int32 × Mem), ∃ M1, f_X10_join_33 F LM (nI r) (nI o) k F M (nI 0) = k M1 ∧ Fl M M1 5 0 (σ 0) (fun j => nI (σ (8 + (6 * r + j)) + σ (8 + (6 * o + j)))) := fun k => by
            have := fill_up (f_X10_join_33 F LM (nI r) (nI o) k) k 5 0 0 0 (σ 0) (fun j => nI (σ (8 + (6 * r + j)) + σ (8 + (6 * o + j)))) M (fun n i N _ hi hN => by
              rw [f_X10_join_33]
              have e1 : N 1 = M 1 := Fl_c hN (by decide)
              have hN' : StM N σ := fun j hj => by rw [e1]; exact hM j hj
              have e0 : N 1 0 = nI (σ 0) := hN' 0 (by omega)
              have e2 := g_now (LM := LM) hN' F (r := r) (c := i) (by omega) (by omega)
              have e3 := g_now (LM := LM) hN' F (r := o) (c := i) (by omega) (by omega)
              rw [Nat.add_assoc] at e2 e3
              simp only [Nat.zero_add]
              simp (disch := omega) only [l_0, l_1, l_2, l_3, l_4, l_5, l_6, l_7, l_8, l_9, l_10, l_12, l_20, l_24, l_25, l_31, l_32, l_48, l_50, l_56, l_57, l_59, l_97, l_99, l_100, l_120, l_122, l_177, l_178, l_201, l_226, l_255, l_400, l_420, l_600, l_700, l_840, l_1000, l_1300, l_2000, l_1000000, nI_add, mr4, ml4, mr5, ml5, mr6, ml6, mr10, ml10, mr24, ml24, mr201, ml201, mr420, ml420, mr226, ml226, mr2, ml2, nI_clamp, lt_T, lt_F, le_T, le_F, eq_T, eq_F, ck_n, dv_n, cp_n, rem_n, pk_div, at1_same, at1_ne, cb_n, Option.bind_some, if_pos, if_neg, ↓reduceIte, and_self, and_true, true_and, and_false, false_and, not_true_eq_false, not_false_eq_true, nI_sub', e0, e2, e3]) (fun n N hN => by
              rw [f_X10_join_33]
              have e0 : N 1 0 = nI (σ 0) := by rw [Fl_c hN (by decide)]; exact hM 0 (by omega)
              simp only [Nat.zero_add]
              simp (disch := omega) only [l_0, l_1, l_2, l_3, l_4, l_5, l_6, l_7, l_8, l_9, l_10, l_12, l_20, l_24, l_25, l_31, l_32, l_48, l_50, l_56, l_57, l_59, l_97, l_99, l_100, l_120, l_122, l_177, l_178, l_201, l_226, l_255, l_400, l_420, l_600, l_700, l_840, l_1000, l_1300, l_2000, l_1000000, nI_add, mr4, ml4, mr5, ml5, mr6, ml6, mr10, ml10, mr24, ml24, mr201, ml201, mr420, ml420, mr226, ml226, mr2, ml2, nI_clamp, lt_T, lt_F, le_T, le_F, eq_T, eq_F, ck_n, dv_n, cp_n, rem_n, pk_div, at1_same, at1_ne, cb_n, Option.bind_some, if_pos, if_neg, ↓reduceIte, and_self, and_true, true_and, and_false, false_and, not_true_eq_false, not_false_eq_true, nI_sub', e0]) (σ 0) 0 F M (by omega) (by omega) (by omega) (Fl_0 M 5 _ _)
            simp only [Nat.zero_add] at this
            exact this
          obtain ⟨M1, m1, m2⟩ := A (fun M_68 => (f_X10_isOwnFull F M_68 LM).bind (fun z69 => (if z69 = 0 then (f_X10_takesOwn F M_68 LM (nI o)).bind (fun z79 => f_X10_join_84 F LM (nI r) (nI o) (fun M_107 => (f_X10_anew F M_107 LM).bind (fun z108 => (f_X10_sumOf F z108 LM (nI o)).bind (fun z113 => (some (z113, z108))))) F z79 0) else (some ((-1), M_68)))))
          have p1 : Pm M M1 := Pm_f m2 (by decide) (by decide) (by decide) (by decide) (by decide)
          have hM1 := StM_p hM p1
          have m15 : ∀ c, c < σ 0 → M1 5 c = nI (σ (8 + (6 * r + c)) + σ (8 + (6 * o + c))) := fun c hc => Fl_i m2 (by omega) hc
          have m1' := m1
          rw [← l_0] at m1'
          rw [m1']
          have bd : ∀ c, c < σ 0 → σ (8 + (6 * r + c)) + σ (8 + (6 * o + c)) < 2147483648 := fun c hc => by
            have := (kCe hs (j := 6 * r + c) (by omega)).1
            have := (kCe hs (j := 6 * o + c) (by omega)).1
            omega
          rcases h_joinFits hC hs (r := r) (s := o) (by omega) (by omega) hF' with ⟨j1, j2⟩ | ⟨j1, j2⟩
          · rcases g_ownFull (LM := LM) hM1 h0 m15 bd hF' with ⟨o1, o2⟩ | ⟨o1, o2⟩
            · rw [j2, o2]
              simp only [Option.bind_some]
              rw [if_neg n10, if_pos n00]
              obtain ⟨H', Y', N', S', Ks', M', b1, b2, b3, b4⟩ := m_own (X0 := X0) (Y := Y) (N := N) (S := S) (LM := LM) (Ra_m p1 ra) hF ho (v := fun c => σ (8 + (6 * r + c)) + σ (8 + (6 * o + c))) o1 m15
              have CB := StB_rw (C := C) (C' := mr C 3 (fun j => if 6 * o ≤ j ∧ j < 6 * o + σ 0 then nI (σ (8 + (6 * r + (j - 6 * o))) + σ (8 + j)) else C 3 j)) (r := o) (v := fun c => σ (8 + (6 * r + c)) + σ (8 + (6 * o + c))) (w := fun j => nI (σ (8 + (6 * r + (j - 6 * o))) + σ (8 + j))) (StC_B hC) h0 ⟨fun c hc => mr_n _ _ hc, fun j => by rw [mr_s]⟩ (fun c hc => by
                show nI (σ (8 + (6 * r + (6 * o + c - 6 * o))) + σ (8 + (6 * o + c))) = _
                have e : 6 * o + c - 6 * o = c := by omega
                rw [e])
              obtain ⟨C0, -, e2⟩ := b4 _ CB
              have s0 : (anewS (rwS σ o (fun c => σ (8 + (6 * r + c)) + σ (8 + (6 * o + c))))) 0 = σ 0 := by rw [an_lo _ (by omega), rw_lo (by omega)]
              have s1 : (anewS (rwS σ o (fun c => σ (8 + (6 * r + c)) + σ (8 + (6 * o + c))))) 1 = σ 1 := by rw [an_lo _ (by omega), rw_lo (by omega)]
              have hM' := e2.2.1
              have B := fill_up (f_X10_join_84 F LM (nI r) (nI o) (fun M_107 => (f_X10_anew F M_107 LM).bind (fun z108 => (f_X10_sumOf F z108 LM (nI o)).bind (fun z113 => (some (z113, z108)))))) (fun M_107 => (f_X10_anew F M_107 LM).bind (fun z108 => (f_X10_sumOf F z108 LM (nI o)).bind (fun z113 => (some (z113, z108))))) 1 0 (8 + 6 * r) 0 (σ 0) (fun _ => nI 0) M' (fun n i N _ hi hN => by
                rw [f_X10_join_84]
                have e0 : N 1 0 = nI (σ 0) := by rw [Fl_o hN (by omega), ← s0]; exact hM' 0 (by omega)
                have e3 : 8 + (6 * r + i) = 8 + 6 * r + i := by omega
                unfold f_X10_sets f_X10_cell
                simp only [Nat.zero_add]
                simp (disch := omega) only [l_0, l_1, l_2, l_3, l_4, l_5, l_6, l_7, l_8, l_9, l_10, l_12, l_20, l_24, l_25, l_31, l_32, l_48, l_50, l_56, l_57, l_59, l_97, l_99, l_100, l_120, l_122, l_177, l_178, l_201, l_226, l_255, l_400, l_420, l_600, l_700, l_840, l_1000, l_1300, l_2000, l_1000000, nI_add, mr4, ml4, mr5, ml5, mr6, ml6, mr10, ml10, mr24, ml24, mr201, ml201, mr420, ml420, mr226, ml226, mr2, ml2, nI_clamp, lt_T, lt_F, le_T, le_F, eq_T, eq_F, ck_n, dv_n, cp_n, rem_n, pk_div, at1_same, at1_ne, cb_n, Option.bind_some, if_pos, if_neg, ↓reduceIte, and_self, and_true, true_and, and_false, false_and, not_true_eq_false, not_false_eq_true, nI_sub', e0, e3]) (fun n N hN => by
                rw [f_X10_join_84]
                have e0 : N 1 0 = nI (σ 0) := by rw [Fl_o hN (by omega), ← s0]; exact hM' 0 (by omega)
                simp only [Nat.zero_add]
                simp (disch := omega) only [l_0, l_1, l_2, l_3, l_4, l_5, l_6, l_7, l_8, l_9, l_10, l_12, l_20, l_24, l_25, l_31, l_32, l_48, l_50, l_56, l_57, l_59, l_97, l_99, l_100, l_120, l_122, l_177, l_178, l_201, l_226, l_255, l_400, l_420, l_600, l_700, l_840, l_1000, l_1300, l_2000, l_1000000, nI_add, mr4, ml4, mr5, ml5, mr6, ml6, mr10, ml10, mr24, ml24, mr201, ml201, mr420, ml420, mr226, ml226, mr2, ml2, nI_clamp, lt_T, lt_F, le_T, le_F, eq_T, eq_F, ck_n, dv_n, cp_n, rem_n, pk_div, at1_same, at1_ne, cb_n, Option.bind_some, if_pos, if_neg, ↓reduceIte, and_self, and_true, true_and, and_false, false_and, not_true_eq_false, not_false_eq_true, nI_sub', e0]) (σ 0) 0 F M' (by omega) (by omega) (by omega) (Fl_0 M' 1 _ _)
              obtain ⟨M3, t1, t2⟩ := B
              have t2' : Fl M' M3 1 (8 + 6 * r) (8 + 6 * r + (anewS (rwS σ o (fun c => σ (8 + (6 * r + c)) + σ (8 + (6 * o + c))))) 0) (fun _ => nI 0) := by rw [s0]; exact t2
              have hM3 := StM_rw (v := fun _ => 0) hM' t2' (fun c hc => rfl)
              have hB := okB_rw (r := r) (v := fun _ => 0) (okS_B e2.2.2.1) (by omega) (fun _ _ => by omega)
              have q3 : Pq M' M3 := Pq_f t2 (by decide) (by decide) (by decide) (by decide)
              have D := fill2 (f_X9_join_40 F X0 H' Y' N' S' Ks' (nI r) (nI o) (fun C_103 => (f_X0_makeAnew F C_103).bind (fun z107 => (f_X0_sumOf F z107 (nI o)).bind (fun z115 => (some (z115, z107, H', Y', N', S', Ks')))))) (fun C_103 => (f_X0_makeAnew F C_103).bind (fun z107 => (f_X0_sumOf F z107 (nI o)).bind (fun z115 => (some (z115, z107, H', Y', N', S', Ks'))))) 3 (6 * o) (6 * r) (σ 0) (fun j => if 6 * r ≤ j ∧ j < 6 * r + 6 then nI 0 else nI (σ (8 + j) + σ (8 + (6 * r + (j - 6 * o))))) C (fun n i N hi hN => by
                rw [f_X9_join_40]
                have e0 : N 0 6 = nI (σ 0) := by rw [hN.1 0 (by decide)]; exact cC hC
                have e1 : N 3 (6 * r + i) = nI (σ (8 + (6 * r + i))) := by rw [Fl2_o hN (by omega)]; exact cCe hC (by omega)
                have e2 : N 3 (6 * o + i) = nI (σ (8 + (6 * o + i))) := by rw [Fl2_o hN (by omega)]; exact cCe hC (by omega)
                have f1 : (if 6 * r ≤ 6 * o + i ∧ 6 * o + i < 6 * r + 6 then nI 0 else nI (σ (8 + (6 * o + i)) + σ (8 + (6 * r + (6 * o + i - 6 * o))))) = nI (σ (8 + (6 * o + i)) + σ (8 + (6 * r + i))) := by
                  have e : 6 * o + i - 6 * o = i := by omega
                  rw [if_neg (by omega), e]
                have f2 : (if 6 * r ≤ 6 * r + i ∧ 6 * r + i < 6 * r + 6 then nI 0 else nI (σ (8 + (6 * r + i)) + σ (8 + (6 * r + (6 * r + i - 6 * o))))) = nI 0 := if_pos (by omega)
                simp only [f1, f2]
                simp (disch := omega) only [l_0, l_1, l_2, l_3, l_4, l_5, l_6, l_7, l_8, l_9, l_10, l_12, l_20, l_24, l_25, l_31, l_32, l_48, l_50, l_56, l_57, l_59, l_97, l_99, l_100, l_120, l_122, l_177, l_178, l_201, l_226, l_255, l_400, l_420, l_600, l_700, l_840, l_1000, l_1300, l_2000, l_1000000, nI_add, mr4, ml4, mr5, ml5, mr6, ml6, mr10, ml10, mr24, ml24, mr201, ml201, mr420, ml420, mr226, ml226, mr2, ml2, nI_clamp, lt_T, lt_F, le_T, le_F, eq_T, eq_F, ck_n, dv_n, cp_n, rem_n, pk_div, at1_same, at1_ne, cb_n, Option.bind_some, if_pos, if_neg, ↓reduceIte, and_self, and_true, true_and, and_false, false_and, not_true_eq_false, not_false_eq_true, nI_sub', e0, e1, e2]) (fun n N hN => by
                rw [f_X9_join_40]
                have e0 : N 0 6 = nI (σ 0) := by rw [hN.1 0 (by decide)]; exact cC hC
                simp (disch := omega) only [l_0, l_1, l_2, l_3, l_4, l_5, l_6, l_7, l_8, l_9, l_10, l_12, l_20, l_24, l_25, l_31, l_32, l_48, l_50, l_56, l_57, l_59, l_97, l_99, l_100, l_120, l_122, l_177, l_178, l_201, l_226, l_255, l_400, l_420, l_600, l_700, l_840, l_1000, l_1300, l_2000, l_1000000, nI_add, mr4, ml4, mr5, ml5, mr6, ml6, mr10, ml10, mr24, ml24, mr201, ml201, mr420, ml420, mr226, ml226, mr2, ml2, nI_clamp, lt_T, lt_F, le_T, le_F, eq_T, eq_F, ck_n, dv_n, cp_n, rem_n, pk_div, at1_same, at1_ne, cb_n, Option.bind_some, if_pos, if_neg, ↓reduceIte, and_self, and_true, true_and, and_false, false_and, not_true_eq_false, not_false_eq_true, nI_sub', e0]) (σ 0) 0 F C (by omega) (by omega) (Fl2_0 C 3 _ _ _)
              obtain ⟨C1, c1, c2⟩ := D
              have hC1 : StB C1 (rwS (anewS (rwS σ o (fun c => σ (8 + (6 * r + c)) + σ (8 + (6 * o + c))))) r (fun _ => 0)) := by
                refine ⟨?_, ?_, fun j hj => ?_, fun j hj => ?_⟩
                · rw [c2.1 0 (by decide), rw_lo (by omega), s0]; exact cC hC
                · rw [c2.1 0 (by decide), rw_lo (by omega), s1]; exact cR hC
                · rw [rw_lo (by omega), s0] at hj
                  rw [c2.1 1 (by decide), c2.1 2 (by decide), rw_lo (by omega), rw_wo (by omega), an_lo _ (by omega), rw_lo (by omega), wo_cg (τ := σ) j (fun i g1 g2 => by rw [an_lo _ (by omega), rw_lo (by omega)])]
                  exact ⟨cRt hC hj, cWo hC hj⟩
                · by_cases e : 6 * r ≤ j ∧ j < 6 * r + σ 0
                  · obtain ⟨c, rfl⟩ : ∃ c, j = 6 * r + c := ⟨j - 6 * r, by omega⟩
                    rw [Fl2_i c2 (by omega), if_pos (by omega), rw_i (by rw [s0]; omega)]
                  · rw [rw_o (by rw [s0]; omega), an_lo _ (by omega)]
                    by_cases e2 : 6 * o ≤ j ∧ j < 6 * o + σ 0
                    · obtain ⟨c, rfl⟩ : ∃ c, j = 6 * o + c := ⟨j - 6 * o, by omega⟩
                      have e3 : 6 * o + c - 6 * o = c := by omega
                      rw [Fl2_i c2 (by omega), if_neg (by omega), rw_i (by omega), e3, Nat.add_comm]
                    · rw [Fl2_o c2 (by omega), rw_o (by omega)]
                      exact cCe hC hj
              obtain ⟨M4, C4, g1, g2, g3⟩ := act_anew (LM := LM) e2 q3 hM3 hC1 hB hF
              rw [b1, b2]
              simp only [Option.bind_some]
              rw [show f_X9_join_40 F X0 H' Y' N' S' Ks' (nI r) (nI o) (fun C_103 => (f_X0_makeAnew F C_103).bind (fun z107 => (f_X0_sumOf F z107 (nI o)).bind (fun z115 => (some (z115, z107, H', Y', N', S', Ks'))))) F C 0 = _ from c1, show f_X10_join_84 F LM (nI r) (nI o) (fun M_107 => (f_X10_anew F M_107 LM).bind (fun z108 => (f_X10_sumOf F z108 LM (nI o)).bind (fun z113 => (some (z113, z108))))) F M' 0 = _ from t1, g1, g2]
              simp only [Option.bind_some]
              rw [h_sumOf g3.1 g3.2.2.1.1 hF' (by omega), g_sumOf g3.2.1 g3.2.2.1.1 hF' (by omega)]
              exact ⟨_, _, _, _, _, _, _, _, rfl, rfl, .inr ⟨_, _, _, g3, b3⟩⟩
            · exact absurd j1 o1
          · rcases g_ownFull (LM := LM) hM1 h0 m15 bd hF' with ⟨o1, o2⟩ | ⟨o1, o2⟩
            · exact absurd o1 j1
            · rw [j2, o2]
              simp only [Option.bind_some]
              rw [if_pos n00, if_neg n10]
              exact ⟨_, _, _, _, _, _, _, _, rfl, rfl, .inl ⟨rfl, rfl, rfl, rfl, rfl, rfl, p1⟩⟩
    · rw [if_neg (fun q => hy q.2.1), if_pos hx, if_neg hy]
      simp only [Option.bind_some]
      rw [if_pos n00, if_neg n10, if_pos n00]
      exact ⟨_, _, _, _, _, _, _, _, rfl, rfl, .inl ⟨rfl, rfl, rfl, rfl, rfl, rfl, Pm_rfl M⟩⟩
  · rw [if_neg (fun q => hx q.1), if_neg hx]
    simp only [Option.bind_some]
    rw [if_pos n00, if_pos n00]
    exact ⟨_, _, _, _, _, _, _, _, rfl, rfl, .inl ⟨rfl, rfl, rfl, rfl, rfl, rfl, Pm_rfl M⟩⟩
