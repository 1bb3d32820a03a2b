/-! PURE LAYER: see, unsee -/
theorem ck56 {α : Type} (E : Option α) : ck 56 226 E = E := ck_n (i := 56) (by decide) (by decide)
theorem ck177 {α : Type} (E : Option α) : ck 177 226 E = E := ck_n (i := 177) (by decide) (by decide)
theorem r56 {M : Mem} {σ : Sg} (h : StM M σ) : M 1 (56 : Int32).toNatClampNeg = nI (σ 56) := h 56 (by omega)
theorem r177 {M : Mem} {σ : Sg} (h : StM M σ) : M 1 (177 : Int32).toNatClampNeg = nI (σ 177) := h 177 (by omega)
theorem in0n (F : Nat) {v : Int} {b : Nat} (v1 : -2147483648 ≤ v) (v2 : v < 2147483648) (b2 : b < 2147483648) : f_X10_in F (zI v).toInt64 0 (nI b).toInt64 = some (if 0 ≤ v ∧ v ≤ (b : Int) then nI 1 else nI 0) := by
  rw [t64.1]; exact f_ink F v1 v2 (by decide) b2
theorem m_see {M T C H Y N S X0 : Mem} {LM : MemL} {Ks : Nat → Mem} {σ : Sg} {a : Nat} {h : Nat → Sg} (ra : Ra M T C H Ks σ a h) {F : Nat} (hF : 10000 ≤ F) (x1 x2 x3 x4 : Int32) : ∃ v C' H' Y' N' S' Ks' M', f_X9_see F X0 C H Y N S Ks x1 x2 x3 x4 = some (v, C', H', Y', N', S', Ks') ∧ f_X10_see F M LM x1 x2 x3 x4 = some (v, M') ∧ Out M T C H Y N S Ks M' C' H' Y' N' S' Ks' := by
  obtain ⟨hC, hM, hs, -⟩ := id ra
  have h0 := kC hs
  have h1 := kR hs
  have h5 := kMv hs
  have h6 := kSe hs
  obtain ⟨t, t1, t2, rfl⟩ := zI_of x1
  obtain ⟨r, r1, r2, rfl⟩ := zI_of x2
  obtain ⟨c, c1, c2, rfl⟩ := zI_of x3
  obtain ⟨n, n1, n2, rfl⟩ := zI_of x4
  have nope : f_X9_see F X0 C H Y N S Ks (zI t) (zI r) (zI c) (zI n) = some (-1, C, H, Y, N, S, Ks) → f_X10_see F M LM (zI t) (zI r) (zI c) (zI n) = some (-1, M) → ∃ v C' H' Y' N' S' Ks' M', f_X9_see F X0 C H Y N S Ks (zI t) (zI r) (zI c) (zI n) = some (v, C', H', Y', N', S', Ks') ∧ f_X10_see F M LM (zI t) (zI r) (zI c) (zI n) = some (v, M') ∧ Out M T C H Y N S Ks M' C' H' Y' N' S' Ks' := fun e1 e2 => ⟨_, _, _, _, _, _, _, _, e1, e2, .inl ⟨rfl, rfl, rfl, rfl, rfl, rfl, Pm_rfl M⟩⟩
  by_cases hT : 0 ≤ t ∧ t ≤ (σ 56 : Int)
  · have cl : f_X9_see F X0 C H Y N S Ks (zI t) (zI r) (zI c) (zI n) = (f_X0_hasCell F C (zI r) (zI c)).bind (fun z21 => (if z21 = 0 then f_X9_see_44 F X0 C H Y N S Ks (zI t) (zI r) (zI c) (zI n) 0 else (if (zI n) < 0 then f_X9_see_44 F X0 C H Y N S Ks (zI t) (zI r) (zI c) (zI n) 0 else (if 99 < (zI n) then f_X9_see_44 F X0 C H Y N S Ks (zI t) (zI r) (zI c) (zI n) 0 else f_X9_see_44 F X0 C H Y N S Ks (zI t) (zI r) (zI c) (zI n) 1)))) := by
      unfold f_X9_see
      rw [cMv hC]
      simp (disch := omega) only [l_0, l_1, l_2, l_3, l_4, l_5, l_6, l_7, l_8, l_9, l_10, l_12, l_20, l_24, l_25, l_31, l_32, l_48, l_50, l_56, l_57, l_59, l_97, l_99, l_100, l_120, l_122, l_177, l_178, l_201, l_226, l_255, l_400, l_420, l_600, l_700, l_840, l_1000, l_1300, l_2000, l_1000000, nI_add, mr4, ml4, mr5, ml5, mr6, ml6, mr10, ml10, mr24, ml24, mr201, ml201, mr420, ml420, mr226, ml226, mr2, ml2, nI_clamp, lt_T, lt_F, le_T, le_F, eq_T, eq_F, ck_n, dv_n, cp_n, rem_n, pk_div, at1_same, at1_ne, cb_n, Option.bind_some, if_pos, if_neg, ↓reduceIte, and_self, and_true, true_and, and_false, false_and, not_true_eq_false, not_false_eq_true, nI_sub', zz_add, zz_sub, zz_mul, zn_add, nz_add, zn_sub, nz_sub, zn_mul, nz_mul, z_neg, n_neg, zlt_T, zlt_F, zle_T, zle_F, zeq_T, zeq_F, zn_lt, nz_lt, zn_le, nz_le, zn_eq, nz_eq]
    have rf := f_X10_see.eq_1 F M LM (zI t) (zI r) (zI c) (zI n)
    rw [ck56, r56 hM, in0n F t1 t2 (by omega), if_pos hT] at rf
    simp only [Option.bind_some] at rf
    rw [if_neg n10] at rf
    by_cases hX : (0 ≤ r ∧ r < (σ 1 : Int)) ∧ 0 ≤ c ∧ c < (σ 0 : Int)
    · rw [hasCell_z hC h0 h1 F hX] at cl
      rw [isCell_z hM h0 h1 F hX] at rf
      simp only [Option.bind_some] at cl rf
      rw [if_neg n10] at cl rf
      rw [g_holds F n1 n2] at rf
      by_cases hn : 0 ≤ n ∧ n ≤ 99
      · rw [if_pos hn] at rf
        simp only [Option.bind_some] at rf
        rw [if_neg n10, ck177, r177 hM] at rf
        have cl2 : f_X9_see F X0 C H Y N S Ks (zI t) (zI r) (zI c) (zI n) = f_X9_see_44 F X0 C H Y N S Ks (zI t) (zI r) (zI c) (zI n) 1 := by
          rw [cl]
          simp (disch := omega) only [l_0, l_1, l_2, l_3, l_4, l_5, l_6, l_7, l_8, l_9, l_10, l_12, l_20, l_24, l_25, l_31, l_32, l_48, l_50, l_56, l_57, l_59, l_97, l_99, l_100, l_120, l_122, l_177, l_178, l_201, l_226, l_255, l_400, l_420, l_600, l_700, l_840, l_1000, l_1300, l_2000, l_1000000, nI_add, mr4, ml4, mr5, ml5, mr6, ml6, mr10, ml10, mr24, ml24, mr201, ml201, mr420, ml420, mr226, ml226, mr2, ml2, nI_clamp, lt_T, lt_F, le_T, le_F, eq_T, eq_F, ck_n, dv_n, cp_n, rem_n, pk_div, at1_same, at1_ne, cb_n, Option.bind_some, if_pos, if_neg, ↓reduceIte, and_self, and_true, true_and, and_false, false_and, not_true_eq_false, not_false_eq_true, nI_sub', zz_add, zz_sub, zz_mul, zn_add, nz_add, zn_sub, nz_sub, zn_mul, nz_mul, z_neg, n_neg, zlt_T, zlt_F, zle_T, zle_F, zeq_T, zeq_F, zn_lt, nz_lt, zn_le, nz_le, zn_eq, nz_eq]
        unfold f_X9_see_44 at cl2
        rw [cSe hC] at cl2
        by_cases q : σ 177 = 12
        · refine nope ?_ ?_
          · rw [cl2, q]
            rfl
          · rw [rf, q]
            rfl
        · have l12 : nI (σ 177) < 12 := nI_lt (a := σ 177) (b := 12) (by omega) (by decide)
          rw [if_neg (by decide), if_pos l12] at cl2
          have n12 : ¬ nI (σ 177) = 12 := fun e => q ((nI_eq (a := σ 177) (b := 12) (by omega) (by decide)).mp e)
          rw [if_neg n12] at rf
          obtain ⟨H', Y', N', S', Ks', M2, b1, b2, b3, b4, -, -, b5, b6⟩ := m_begin (X0 := X0) (Y := Y) (N := N) (S := S) (LM := LM) ra hF
          rw [b1] at cl2
          rw [b2] at rf
          obtain ⟨t, rfl⟩ := Int.eq_ofNat_of_zero_le hT.1
          obtain ⟨r, rfl⟩ := Int.eq_ofNat_of_zero_le hX.1.1
          obtain ⟨c, rfl⟩ := Int.eq_ofNat_of_zero_le hX.2.1
          obtain ⟨n, rfl⟩ := Int.eq_ofNat_of_zero_le hn.1
          simp only [zI_c, Option.bind_some] at cl2 rf ⊢
          have m177 : M2 1 177 = nI (σ 177) := b3.2.1 177 (by omega)
          have rf2 : f_X10_see F M LM (nI t) (nI r) (nI c) (nI n) = some (nI (σ 177 + 1), mr M2 1 (upd (upd (upd (upd (upd (M2 1) (178 + 4 * σ 177) (nI t)) (178 + 4 * σ 177 + 1) (nI r)) (178 + 4 * σ 177 + 2) (nI c)) (178 + 4 * σ 177 + 3) (nI n)) 177 (nI (σ 177 + 1)))) := by
            rw [rf]
            simp (disch := omega) only [l_0, l_1, l_2, l_3, l_4, l_5, l_6, l_7, l_8, l_9, l_10, l_12, l_20, l_24, l_25, l_31, l_32, l_48, l_50, l_56, l_57, l_59, l_97, l_99, l_100, l_120, l_122, l_177, l_178, l_201, l_226, l_255, l_400, l_420, l_600, l_700, l_840, l_1000, l_1300, l_2000, l_1000000, nI_add, mr4, ml4, mr5, ml5, mr6, ml6, mr10, ml10, mr24, ml24, mr201, ml201, mr420, ml420, mr226, ml226, mr2, ml2, nI_clamp, lt_T, lt_F, le_T, le_F, eq_T, eq_F, ck_n, dv_n, cp_n, rem_n, pk_div, at1_same, at1_ne, cb_n, Option.bind_some, if_pos, if_neg, ↓reduceIte, and_self, and_true, true_and, and_false, false_and, not_true_eq_false, not_false_eq_true, nI_sub', m177, pk_us, pk_un]
          have c9 := cSe hC
          have cl3 : f_X9_see F X0 C H Y N S Ks (nI t) (nI r) (nI c) (nI n) = some (nI (σ 177 + 1), mr (mr C 6 (upd (upd (upd (upd (C 6) (4 * σ 177) (nI t)) (4 * σ 177 + 1) (nI r)) (4 * σ 177 + 2) (nI c)) (4 * σ 177 + 3) (nI n))) 0 (fu (C 0) 9 (nI (σ 177 + 1))), H', Y', N', S', Ks') := by
            rw [cl2]
            unfold f_X0_addSight
            rw [c9]
            simp (disch := omega) only [l_0, l_1, l_2, l_3, l_4, l_5, l_6, l_7, l_8, l_9, l_10, l_12, l_20, l_24, l_25, l_31, l_32, l_48, l_50, l_56, l_57, l_59, l_97, l_99, l_100, l_120, l_122, l_177, l_178, l_201, l_226, l_255, l_400, l_420, l_600, l_700, l_840, l_1000, l_1300, l_2000, l_1000000, nI_add, mr4, ml4, mr5, ml5, mr6, ml6, mr10, ml10, mr24, ml24, mr201, ml201, mr420, ml420, mr226, ml226, mr2, ml2, nI_clamp, lt_T, lt_F, le_T, le_F, eq_T, eq_F, ck_n, dv_n, cp_n, rem_n, pk_div, at1_same, at1_ne, cb_n, Option.bind_some, if_pos, if_neg, ↓reduceIte, and_self, and_true, true_and, and_false, false_and, not_true_eq_false, not_false_eq_true, nI_sub']
          refine ⟨_, _, _, _, _, _, _, _, cl3, rf2, .inr ⟨seS σ t r c n, _, _, Ra_to b3 (Pq_k M2 _ (by decide) (by decide) (by decide) (by decide)) (StC_se hC h0 h5 (fun j hj => se_lo hj) (fun j hj => ?_) (fun q g0 g6 => ?_) ?_ (fun j hj => ?_)) (fun j hj => ?_) (okS_se hs (fun j hj => se_lo hj) ?_ (fun k hk => ?_)), b4⟩⟩
          · rw [mr_s, fu_n _ _ hj]
          · rw [mr_n _ _ g0, mr_n _ _ g6]
          · rw [mr_s, fu_s, se_177]
          · rw [se_177] at hj
            rw [mr_n _ _ (by decide), mr_s]
            rcases (by omega : j = 4 * σ 177 ∨ j = 4 * σ 177 + 1 ∨ j = 4 * σ 177 + 2 ∨ j = 4 * σ 177 + 3 ∨ j < 4 * σ 177) with rfl | rfl | rfl | rfl | q1
            · simp (disch := omega) only [pk_us, pk_un]
              rw [se_0]
            · simp (disch := omega) only [pk_us, pk_un]
              rw [← Nat.add_assoc, se_1]
            · simp (disch := omega) only [pk_us, pk_un]
              rw [← Nat.add_assoc, se_2]
            · simp (disch := omega) only [pk_us, pk_un]
              rw [← Nat.add_assoc, se_3]
            · simp (disch := omega) only [pk_us, pk_un]
              rw [se_b q1]
              exact cSi hC q1
          · rw [mr_s]
            rcases (by omega : j = 177 ∨ j = 178 + 4 * σ 177 ∨ j = 178 + 4 * σ 177 + 1 ∨ j = 178 + 4 * σ 177 + 2 ∨ j = 178 + 4 * σ 177 + 3 ∨ (j ≠ 177 ∧ j ≠ 178 + 4 * σ 177 ∧ j ≠ 178 + 4 * σ 177 + 1 ∧ j ≠ 178 + 4 * σ 177 + 2 ∧ j ≠ 178 + 4 * σ 177 + 3)) with rfl | rfl | rfl | rfl | rfl | ⟨g0, g1, g2, g3, g4⟩
            · rw [pk_us, se_177]
            · simp (disch := omega) only [pk_us, pk_un]
              rw [se_0]
            · simp (disch := omega) only [pk_us, pk_un]
              rw [se_1]
            · simp (disch := omega) only [pk_us, pk_un]
              rw [se_2]
            · simp (disch := omega) only [pk_us, pk_un]
              rw [se_3]
            · simp (disch := omega) only [pk_us, pk_un]
              unfold seS
              rw [if_neg g0, if_neg g1, if_neg g2, if_neg g3, if_neg g4]
              exact b3.2.1 j hj
          · rw [se_177]; omega
          · rw [se_177] at hk
            by_cases e : k = σ 177
            · subst e
              rw [se_0, se_1, se_2, se_3]
              omega
            · have z := hs.2.2.2.2.2.2.2.2.2 k (by omega)
              rw [Nat.add_assoc, Nat.add_assoc, Nat.add_assoc] at z ⊢
              simp (disch := omega) only [se_b]
              exact z
      · refine nope ?_ ?_
        · rw [cl]
          by_cases q : n < 0
          · have e1 : zI n < 0 := by rw [l_0]; exact of_eq_true (by simp (disch := omega) only [l_0, l_1, l_2, l_3, l_4, l_5, l_6, l_7, l_8, l_9, l_10, l_12, l_20, l_24, l_25, l_31, l_32, l_48, l_50, l_56, l_57, l_59, l_97, l_99, l_100, l_120, l_122, l_177, l_178, l_201, l_226, l_255, l_400, l_420, l_600, l_700, l_840, l_1000, l_1300, l_2000, l_1000000, nI_add, mr4, ml4, mr5, ml5, mr6, ml6, mr10, ml10, mr24, ml24, mr201, ml201, mr420, ml420, mr226, ml226, mr2, ml2, nI_clamp, lt_T, lt_F, le_T, le_F, eq_T, eq_F, ck_n, dv_n, cp_n, rem_n, pk_div, at1_same, at1_ne, cb_n, Option.bind_some, if_pos, if_neg, ↓reduceIte, and_self, and_true, true_and, and_false, false_and, not_true_eq_false, not_false_eq_true, nI_sub', zz_add, zz_sub, zz_mul, zn_add, nz_add, zn_sub, nz_sub, zn_mul, nz_mul, z_neg, n_neg, zlt_T, zlt_F, zle_T, zle_F, zeq_T, zeq_F, zn_lt, nz_lt, zn_le, nz_le, zn_eq, nz_eq])
            rw [if_pos e1]
            rfl
          · have e1 : ¬ zI n < 0 := by rw [l_0]; exact of_eq_false (by simp (disch := omega) only [l_0, l_1, l_2, l_3, l_4, l_5, l_6, l_7, l_8, l_9, l_10, l_12, l_20, l_24, l_25, l_31, l_32, l_48, l_50, l_56, l_57, l_59, l_97, l_99, l_100, l_120, l_122, l_177, l_178, l_201, l_226, l_255, l_400, l_420, l_600, l_700, l_840, l_1000, l_1300, l_2000, l_1000000, nI_add, mr4, ml4, mr5, ml5, mr6, ml6, mr10, ml10, mr24, ml24, mr201, ml201, mr420, ml420, mr226, ml226, mr2, ml2, nI_clamp, lt_T, lt_F, le_T, le_F, eq_T, eq_F, ck_n, dv_n, cp_n, rem_n, pk_div, at1_same, at1_ne, cb_n, Option.bind_some, if_pos, if_neg, ↓reduceIte, and_self, and_true, true_and, and_false, false_and, not_true_eq_false, not_false_eq_true, nI_sub', zz_add, zz_sub, zz_mul, zn_add, nz_add, zn_sub, nz_sub, zn_mul, nz_mul, z_neg, n_neg, zlt_T, zlt_F, zle_T, zle_F, zeq_T, zeq_F, zn_lt, nz_lt, zn_le, nz_le, zn_eq, nz_eq])
            have e2 : 99 < zI n := by rw [l_99]; exact of_eq_true (by simp (disch := omega) only [l_0, l_1, l_2, l_3, l_4, l_5, l_6, l_7, l_8, l_9, l_10, l_12, l_20, l_24, l_25, l_31, l_32, l_48, l_50, l_56, l_57, l_59, l_97, l_99, l_100, l_120, l_122, l_177, l_178, l_201, l_226, l_255, l_400, l_420, l_600, l_700, l_840, l_1000, l_1300, l_2000, l_1000000, nI_add, mr4, ml4, mr5, ml5, mr6, ml6, mr10, ml10, mr24, ml24, mr201, ml201, mr420, ml420, mr226, ml226, mr2, ml2, nI_clamp, lt_T, lt_F, le_T, le_F, eq_T, eq_F, ck_n, dv_n, cp_n, rem_n, pk_div, at1_same, at1_ne, cb_n, Option.bind_some, if_pos, if_neg, ↓reduceIte, and_self, and_true, true_and, and_false, false_and, not_true_eq_false, not_false_eq_true, nI_sub', zz_add, zz_sub, zz_mul, zn_add, nz_add, zn_sub, nz_sub, zn_mul, nz_mul, z_neg, n_neg, zlt_T, zlt_F, zle_T, zle_F, zeq_T, zeq_F, zn_lt, nz_lt, zn_le, nz_le, zn_eq, nz_eq])
            rw [if_neg e1, if_pos e2]
            rfl
        · rw [rf, if_neg hn]
          rfl
    · refine nope ?_ ?_
      · rw [cl, hasCell_x hC h0 h1 F hX r1 r2 c1 c2]
        rfl
      · rw [rf, isCell_x hM h0 h1 F hX r1 r2 c1 c2]
        rfl
  · refine nope ?_ ?_
    · unfold f_X9_see
      rw [cMv hC]
      by_cases q : t < 0
      · have e1 : zI t < 0 := by rw [l_0]; exact of_eq_true (by simp (disch := omega) only [l_0, l_1, l_2, l_3, l_4, l_5, l_6, l_7, l_8, l_9, l_10, l_12, l_20, l_24, l_25, l_31, l_32, l_48, l_50, l_56, l_57, l_59, l_97, l_99, l_100, l_120, l_122, l_177, l_178, l_201, l_226, l_255, l_400, l_420, l_600, l_700, l_840, l_1000, l_1300, l_2000, l_1000000, nI_add, mr4, ml4, mr5, ml5, mr6, ml6, mr10, ml10, mr24, ml24, mr201, ml201, mr420, ml420, mr226, ml226, mr2, ml2, nI_clamp, lt_T, lt_F, le_T, le_F, eq_T, eq_F, ck_n, dv_n, cp_n, rem_n, pk_div, at1_same, at1_ne, cb_n, Option.bind_some, if_pos, if_neg, ↓reduceIte, and_self, and_true, true_and, and_false, false_and, not_true_eq_false, not_false_eq_true, nI_sub', zz_add, zz_sub, zz_mul, zn_add, nz_add, zn_sub, nz_sub, zn_mul, nz_mul, z_neg, n_neg, zlt_T, zlt_F, zle_T, zle_F, zeq_T, zeq_F, zn_lt, nz_lt, zn_le, nz_le, zn_eq, nz_eq])
        rw [if_pos e1]
        rfl
      · have e1 : ¬ zI t < 0 := by rw [l_0]; exact of_eq_false (by simp (disch := omega) only [l_0, l_1, l_2, l_3, l_4, l_5, l_6, l_7, l_8, l_9, l_10, l_12, l_20, l_24, l_25, l_31, l_32, l_48, l_50, l_56, l_57, l_59, l_97, l_99, l_100, l_120, l_122, l_177, l_178, l_201, l_226, l_255, l_400, l_420, l_600, l_700, l_840, l_1000, l_1300, l_2000, l_1000000, nI_add, mr4, ml4, mr5, ml5, mr6, ml6, mr10, ml10, mr24, ml24, mr201, ml201, mr420, ml420, mr226, ml226, mr2, ml2, nI_clamp, lt_T, lt_F, le_T, le_F, eq_T, eq_F, ck_n, dv_n, cp_n, rem_n, pk_div, at1_same, at1_ne, cb_n, Option.bind_some, if_pos, if_neg, ↓reduceIte, and_self, and_true, true_and, and_false, false_and, not_true_eq_false, not_false_eq_true, nI_sub', zz_add, zz_sub, zz_mul, zn_add, nz_add, zn_sub, nz_sub, zn_mul, nz_mul, z_neg, n_neg, zlt_T, zlt_F, zle_T, zle_F, zeq_T, zeq_F, zn_lt, nz_lt, zn_le, nz_le, zn_eq, nz_eq])
        have e2 : nI (σ 56) < zI t := of_eq_true (by simp (disch := omega) only [l_0, l_1, l_2, l_3, l_4, l_5, l_6, l_7, l_8, l_9, l_10, l_12, l_20, l_24, l_25, l_31, l_32, l_48, l_50, l_56, l_57, l_59, l_97, l_99, l_100, l_120, l_122, l_177, l_178, l_201, l_226, l_255, l_400, l_420, l_600, l_700, l_840, l_1000, l_1300, l_2000, l_1000000, nI_add, mr4, ml4, mr5, ml5, mr6, ml6, mr10, ml10, mr24, ml24, mr201, ml201, mr420, ml420, mr226, ml226, mr2, ml2, nI_clamp, lt_T, lt_F, le_T, le_F, eq_T, eq_F, ck_n, dv_n, cp_n, rem_n, pk_div, at1_same, at1_ne, cb_n, Option.bind_some, if_pos, if_neg, ↓reduceIte, and_self, and_true, true_and, and_false, false_and, not_true_eq_false, not_false_eq_true, nI_sub', zz_add, zz_sub, zz_mul, zn_add, nz_add, zn_sub, nz_sub, zn_mul, nz_mul, z_neg, n_neg, zlt_T, zlt_F, zle_T, zle_F, zeq_T, zeq_F, zn_lt, nz_lt, zn_le, nz_le, zn_eq, nz_eq])
        rw [if_neg e1, if_pos e2]
        rfl
    · unfold f_X10_see
      rw [ck56, r56 hM, in0n F t1 t2 (by omega), if_neg hT]
      rfl
