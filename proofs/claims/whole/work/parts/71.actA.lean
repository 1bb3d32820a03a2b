/-! PURE LAYER: acts behind which all begins anew: tools; column, row -/
theorem all_up {α : Type} (G : Nat → Int32 → Option α) (K0 K1 : Option α) (p : Nat → Prop) (b : Nat) (hs : ∀ n i, i < b → (p i → G (n + 1) (nI i) = G n (nI (i + 1))) ∧ (¬ p i → G (n + 1) (nI i) = K0)) (he : ∀ n, G (n + 1) (nI b) = K1) : ∀ d i n, i + d = b → d < n → ((∀ j, i ≤ j → j < b → p j) ∧ G n (nI i) = K1) ∨ ((∃ j, i ≤ j ∧ j < b ∧ ¬ p j) ∧ G n (nI i) = K0)
  | d, i, 0, _, h => by omega
  | 0, i, n + 1, hi, _ => by
    obtain rfl : i = b := by omega
    exact .inl ⟨fun j h1 h2 => by omega, he n⟩
  | d + 1, i, n + 1, hi, hn => by
    by_cases q : p i
    · rw [(hs n i (by omega)).1 q]
      rcases all_up G K0 K1 p b hs he d (i + 1) n (by omega) (by omega) with ⟨h1, h2⟩ | ⟨⟨j, h1, h2, h3⟩, h4⟩
      · refine .inl ⟨fun j g1 g2 => ?_, h2⟩
        by_cases e : j = i
        · rw [e]; exact q
        · exact h1 j (by omega) g2
      · exact .inr ⟨⟨j, by omega, h2, h3⟩, h4⟩
    · exact .inr ⟨⟨i, Nat.le_refl _, by omega, q⟩, (hs n i (by omega)).2 q⟩
def Fl2 (M0 M : Mem) (q pa pb i : Nat) (w : Nat → Int32) : Prop := (∀ c, c ≠ q → M c = M0 c) ∧ ∀ j, M q j = if (pa ≤ j ∧ j < pa + i) ∨ (pb ≤ j ∧ j < pb + i) then w j else M0 q j
theorem Fl2_0 (M : Mem) (q pa pb : Nat) (w : Nat → Int32) : Fl2 M M q pa pb 0 w := ⟨fun _ _ => rfl, fun j => by rw [if_neg (by omega)]⟩
theorem Fl2_s {M0 M : Mem} {q pa pb i : Nat} {w : Nat → Int32} (h : Fl2 M0 M q pa pb i w) : Fl2 M0 (mr M q (upd (upd (M q) (pa + i) (w (pa + i))) (pb + i) (w (pb + i)))) q pa pb (i + 1) w := by
  refine ⟨fun c hc => by rw [mr_n M _ hc]; exact h.1 c hc, fun j => ?_⟩
  rw [mr_s, upd_at, upd_at]
  by_cases e : j = pb + i
  · subst e
    rw [if_pos rfl, if_pos (by omega)]
  · rw [if_neg e]
    by_cases e2 : j = pa + i
    · subst e2
      rw [if_pos rfl, if_pos (by omega)]
    · rw [if_neg e2, h.2 j]
      by_cases g : (pa ≤ j ∧ j < pa + i) ∨ (pb ≤ j ∧ j < pb + i)
      · rw [if_pos g, if_pos (by omega)]
      · rw [if_neg g, if_neg (by omega)]
theorem Fl2_o {M0 M : Mem} {q pa pb i : Nat} {w : Nat → Int32} (h : Fl2 M0 M q pa pb i w) {j : Nat} (h1 : ¬ ((pa ≤ j ∧ j < pa + i) ∨ (pb ≤ j ∧ j < pb + i))) : M q j = M0 q j := by rw [h.2 j, if_neg h1]
theorem Fl2_i {M0 M : Mem} {q pa pb i : Nat} {w : Nat → Int32} (h : Fl2 M0 M q pa pb i w) {j : Nat} (h1 : (pa ≤ j ∧ j < pa + i) ∨ (pb ≤ j ∧ j < pb + i)) : M q j = w j := by rw [h.2 j, if_pos h1]
theorem fill2 {α : Type} (G : Nat → Mem → Int32 → Option α) (k : Mem → Option α) (q pa pb b : Nat) (w : Nat → Int32) (M0 : Mem)
    (hs : ∀ n i M, i < b → Fl2 M0 M q pa pb i w → G (n + 1) M (nI i) = G n (mr M q (upd (upd (M q) (pa + i) (w (pa + i))) (pb + i) (w (pb + i)))) (nI (i + 1)))
    (he : ∀ n M, Fl2 M0 M q pa pb b w → G (n + 1) M (nI b) = k M) :
    ∀ (d i n : Nat) (M : Mem), i + d = b → d < n → Fl2 M0 M q pa pb i w → ∃ M', G n M (nI i) = k M' ∧ Fl2 M0 M' q pa pb b w
  | d, i, 0, M, _, h, _ => by omega
  | 0, i, n + 1, M, hi, _, hI => by
    obtain rfl : i = b := by omega
    exact ⟨M, he n M hI, hI⟩
  | d + 1, i, n + 1, M, hi, hn, hI => by
    rw [hs n i M (by omega) hI]
    exact fill2 G k q pa pb b w M0 hs he d (i + 1) n _ (by omega) (by omega) (Fl2_s hI)
theorem act_anew {M T C H M1 C1 : Mem} {LM : MemL} {Ks : Nat → Mem} {σ τ : Sg} {a : Nat} {h : Nat → Sg} (r : Ra M T C H Ks σ a h) (q : Pq M M1) (hM1 : StM M1 τ) (hC1 : StB C1 τ) (hB : okB τ) {F : Nat} (hF : 10000 ≤ F) : ∃ M' C', f_X10_anew F M1 LM = some M' ∧ f_X0_makeAnew F C1 = some C' ∧ Ra M' T C' H Ks (anewS τ) a h := by
  obtain ⟨M', m1, m2, m3⟩ := g_anew (LM := LM) hM1 hF
  obtain ⟨C', c1, c2⟩ := h_makeAnew hC1 hB.1 F
  exact ⟨M', C', m1, c1, Ra_to r (Pq_tr q m3) c2 m2 (okS_an hB)⟩
theorem m_column {M T C H Y N S X0 : Mem} {LM : MemL} {Ks : Nat → Mem} {σ : Sg} {a : Nat} {h : Nat → Sg} (ra : Ra M T C H Ks σ a h) {F : Nat} (hF : 10000 ≤ F) (x1 : Int32) : ∃ v C' H' Y' N' S' Ks' M', f_X9_column F X0 C H Y N S Ks x1 = some (v, C', H', Y', N', S', Ks') ∧ f_X10_column F M LM x1 = some (v, M') ∧ Out M T C H Y N S Ks M' C' H' Y' N' S' Ks' := by
  obtain ⟨hC, hM, hs, -⟩ := id ra
  have h0 := kC hs
  obtain ⟨x, r1, r2, rfl⟩ := zI_of x1
  have m0 : M 1 0 = nI (σ 0) := hM 0 (by omega)
  unfold f_X9_column f_X10_column f_X0_mayAddColumn
  rw [cC hC, in220 F r1 r2]
  by_cases q6 : σ 0 = 6
  · simp (disch := omega) only [l_0, l_1, l_2, l_3, l_4, l_5, l_6, l_7, l_8, l_9, l_10, l_12, l_20, l_24, l_25, l_31, l_32, l_48, l_50, l_56, l_57, l_59, l_97, l_99, l_100, l_120, l_122, l_177, l_178, l_201, l_226, l_255, l_400, l_420, l_600, l_700, l_840, l_1000, l_1300, l_2000, l_1000000, nI_add, mr4, ml4, mr5, ml5, mr6, ml6, mr10, ml10, mr24, ml24, mr201, ml201, mr420, ml420, mr226, ml226, mr2, ml2, nI_clamp, lt_T, lt_F, le_T, le_F, eq_T, eq_F, ck_n, dv_n, cp_n, rem_n, pk_div, at1_same, at1_ne, cb_n, Option.bind_some, if_pos, if_neg, ↓reduceIte, and_self, and_true, true_and, and_false, false_and, not_true_eq_false, not_false_eq_true, nI_sub', m0]
    exact ⟨_, _, _, _, _, _, _, _, rfl, rfl, .inl ⟨rfl, rfl, rfl, rfl, rfl, rfl, Pm_rfl M⟩⟩
  · by_cases ok : (σ 0 = 0 ∧ x = 1) ∨ (σ 0 ≠ 0 ∧ 2 ≤ x ∧ x ≤ 20)
    · obtain ⟨x, rfl⟩ := Int.eq_ofNat_of_zero_le (by omega : 0 ≤ x)
      simp only [zI_c]
      obtain ⟨H', Y', N', S', Ks', M2, b1, b2, b3, b4, -, -, b5, b6⟩ := m_begin (X0 := X0) (Y := Y) (N := N) (S := S) (LM := LM) ra hF
      have m20 : M2 1 0 = nI (σ 0) := b3.2.1 0 (by omega)
      have hM3 : StM (mr M2 1 (upd (upd (M2 1) (2 + σ 0) (nI x)) 0 (nI (σ 0 + 1)))) (sgU (sgU σ (2 + σ 0) x) 0 (σ 0 + 1)) := fun j hj => by
        rw [mr_s, upd_at, upd_at]
        unfold sgU
        by_cases e : j = 0
        · rw [if_pos e, if_pos e]
        · rw [if_neg e, if_neg e]
          by_cases e2 : j = 2 + σ 0
          · rw [if_pos e2, if_pos e2]
          · rw [if_neg e2, if_neg e2]; exact b3.2.1 j hj
      have qq : Pq M2 (mr M2 1 (upd (upd (M2 1) (2 + σ 0) (nI x)) 0 (nI (σ 0 + 1)))) := Pq_k M2 _ (by decide) (by decide) (by decide) (by decide)
      have t0 : sgU (sgU σ (2 + σ 0) x) 0 (σ 0 + 1) 0 = σ 0 + 1 := sgU_s _ _ _
      have tn : ∀ j, j ≠ 0 → j ≠ 2 + σ 0 → sgU (sgU σ (2 + σ 0) x) 0 (σ 0 + 1) j = σ j := fun j e1 e2 => by rw [sgU_n _ _ e1, sgU_n _ _ e2]
      have tx : sgU (sgU σ (2 + σ 0) x) 0 (σ 0 + 1) (2 + σ 0) = x := by rw [sgU_n _ _ (by omega), sgU_s]
      have hB : okB (sgU (sgU σ (2 + σ 0) x) 0 (σ 0 + 1)) := by
        obtain ⟨s0, s1, s2, s3, s4, s5⟩ := okS_B hs
        refine ⟨by omega, by rw [tn 1 (by omega) (by omega)]; exact s1, by omega, fun _ => ?_, fun j h1 h2 => ?_, fun r c hr hc => ?_⟩
        · by_cases e : σ 0 = 0
          · have e2 : 2 = 2 + σ 0 := by omega
            have := tx
            rw [← e2] at this
            rw [← e2, this]; omega
          · rw [tn 2 (by omega) (by omega)]; exact s3 (by omega)
        · by_cases e : j = σ 0
          · rw [e, tx]; omega
          · rw [tn _ (by omega) (by omega)]; exact s4 j h1 (by omega)
        · rw [t0, tn 1 (by omega) (by omega), tn _ (by omega) (by omega)]
          exact ⟨(s5 r c hr hc).1, fun z => (s5 r c hr hc).2 (by omega)⟩
      have wj : ∀ j, j < σ 0 → wo (sgU (sgU σ (2 + σ 0) x) 0 (σ 0 + 1)) j = wo σ j := fun j hj => wo_cg j (fun i h1 h2 => tn _ (by omega) (by omega))
      have wl : σ 0 ≠ 0 → wo (sgU (sgU σ (2 + σ 0) x) 0 (σ 0 + 1)) (σ 0) = x * wo σ (σ 0 - 1) := fun ne => by
        obtain ⟨p, hp⟩ : ∃ p, σ 0 = p + 1 := ⟨σ 0 - 1, by omega⟩
        have e1 : wo (sgU (sgU σ (2 + σ 0) x) 0 (σ 0 + 1)) (p + 1) = wo (sgU (sgU σ (2 + σ 0) x) 0 (σ 0 + 1)) p * (sgU (sgU σ (2 + σ 0) x) 0 (σ 0 + 1)) (2 + (p + 1)) := rfl
        have e2 : σ 0 - 1 = p := by omega
        rw [← hp] at e1
        rw [e1, tx, wj p (by omega), e2, Nat.mul_comm]
      have cw : ∀ (W : Int32), W = nI (wo (sgU (sgU σ (2 + σ 0) x) 0 (σ 0 + 1)) (σ 0)) → StB (mr (mr (mr C 1 (upd (C 1) (σ 0) (nI x))) 2 (upd (C 2) (σ 0) W)) 0 (fu (C 0) 6 (nI (σ 0 + 1)))) (sgU (sgU σ (2 + σ 0) x) 0 (σ 0 + 1)) := fun W hW => by
        refine ⟨?_, ?_, fun j hj => ?_, fun j hj => ?_⟩
        · rw [mr_s, fu_s, t0]
        · rw [mr_s, fu_n _ _ (by decide), tn 1 (by omega) (by omega)]; exact cR hC
        · simp (disch := omega) only [at1_same, at1_ne]
          rw [t0] at hj
          by_cases e : j = σ 0
          · subst e
            rw [pk_us, pk_us, tx]
            exact ⟨rfl, hW⟩
          · rw [pk_un e, pk_un e, tn _ (by omega) (by omega), wj j (by omega)]
            exact ⟨cRt hC (by omega), cWo hC (by omega)⟩
        · simp (disch := omega) only [at1_same, at1_ne]
          rw [tn _ (by omega) (by omega)]
          exact cCe hC hj
      have A := fun W hW => act_anew (LM := LM) b3 qq hM3 (cw W hW) hB hF
      have i0 : ∀ M', StM M' (anewS (sgU (sgU σ (2 + σ 0) x) 0 (σ 0 + 1))) → M' 1 0 = nI (σ 0 + 1) := fun M' z => by rw [z 0 (by omega), an_lo _ (by omega), t0]
      have j0 : ∀ C', StC C' (anewS (sgU (sgU σ (2 + σ 0) x) 0 (σ 0 + 1))) → C' 0 6 = nI (σ 0 + 1) := fun C' z => by rw [cC z, an_lo _ (by omega), t0]
      unfold f_X10_column_44 f_X0_addColumn
      rw [cC hC]
      by_cases z0 : σ 0 = 0
      · have e1 : x = 1 := by omega
        have wz : (nI 1 : Int32) = nI (wo (sgU (sgU σ (2 + σ 0) x) 0 (σ 0 + 1)) (σ 0)) := by rw [z0]; rfl
        obtain ⟨M', C', a1, a2, a3⟩ := A (nI 1) wz
        have i1 := i0 M' a3.2.1
        have j1 := j0 C' a3.1
        simp only [z0, Nat.zero_add, Nat.add_zero, e1] at *
        simp (disch := omega) only [l_0, l_1, l_2, l_3, l_4, l_5, l_6, l_7, l_8, l_9, l_10, l_12, l_20, l_24, l_25, l_31, l_32, l_48, l_50, l_56, l_57, l_59, l_97, l_99, l_100, l_120, l_122, l_177, l_178, l_201, l_226, l_255, l_400, l_420, l_600, l_700, l_840, l_1000, l_1300, l_2000, l_1000000, nI_add, mr4, ml4, mr5, ml5, mr6, ml6, mr10, ml10, mr24, ml24, mr201, ml201, mr420, ml420, mr226, ml226, mr2, ml2, nI_clamp, lt_T, lt_F, le_T, le_F, eq_T, eq_F, ck_n, dv_n, cp_n, rem_n, pk_div, at1_same, at1_ne, cb_n, Option.bind_some, if_pos, if_neg, ↓reduceIte, and_self, and_true, true_and, and_false, false_and, not_true_eq_false, not_false_eq_true, nI_sub', m0, m20, b1, b2, a1, a2, i1, j1, pk_us, pk_un]
        exact ⟨_, _, _, _, _, _, _, _, rfl, rfl, .inr ⟨_, _, _, a3, b4⟩⟩
      · have wz : (nI (x * wo σ (σ 0 - 1)) : Int32) = nI (wo (sgU (sgU σ (2 + σ 0) x) 0 (σ 0 + 1)) (σ 0)) := by rw [wl z0]
        obtain ⟨M', C', a1, a2, a3⟩ := A (nI (x * wo σ (σ 0 - 1))) wz
        have i1 := i0 M' a3.2.1
        have j1 := j0 C' a3.1
        simp (disch := omega) only [l_0, l_1, l_2, l_3, l_4, l_5, l_6, l_7, l_8, l_9, l_10, l_12, l_20, l_24, l_25, l_31, l_32, l_48, l_50, l_56, l_57, l_59, l_97, l_99, l_100, l_120, l_122, l_177, l_178, l_201, l_226, l_255, l_400, l_420, l_600, l_700, l_840, l_1000, l_1300, l_2000, l_1000000, nI_add, mr4, ml4, mr5, ml5, mr6, ml6, mr10, ml10, mr24, ml24, mr201, ml201, mr420, ml420, mr226, ml226, mr2, ml2, nI_clamp, lt_T, lt_F, le_T, le_F, eq_T, eq_F, ck_n, dv_n, cp_n, rem_n, pk_div, at1_same, at1_ne, cb_n, Option.bind_some, if_pos, if_neg, ↓reduceIte, and_self, and_true, true_and, and_false, false_and, not_true_eq_false, not_false_eq_true, nI_sub', m0, m20, b1, b2, a1, a2, i1, j1, cWo hC, nI_mul', pk_us, pk_un]
        exact ⟨_, _, _, _, _, _, _, _, rfl, rfl, .inr ⟨_, _, _, a3, b4⟩⟩
    · by_cases z0 : σ 0 = 0
      · have ne : x ≠ 1 := by omega
        simp (disch := omega) only [l_0, l_1, l_2, l_3, l_4, l_5, l_6, l_7, l_8, l_9, l_10, l_12, l_20, l_24, l_25, l_31, l_32, l_48, l_50, l_56, l_57, l_59, l_97, l_99, l_100, l_120, l_122, l_177, l_178, l_201, l_226, l_255, l_400, l_420, l_600, l_700, l_840, l_1000, l_1300, l_2000, l_1000000, nI_add, mr4, ml4, mr5, ml5, mr6, ml6, mr10, ml10, mr24, ml24, mr201, ml201, mr420, ml420, mr226, ml226, mr2, ml2, nI_clamp, lt_T, lt_F, le_T, le_F, eq_T, eq_F, ck_n, dv_n, cp_n, rem_n, pk_div, at1_same, at1_ne, cb_n, Option.bind_some, if_pos, if_neg, ↓reduceIte, and_self, and_true, true_and, and_false, false_and, not_true_eq_false, not_false_eq_true, nI_sub', zz_add, zz_sub, zz_mul, zn_add, nz_add, zn_sub, nz_sub, zn_mul, nz_mul, z_neg, n_neg, zlt_T, zlt_F, zle_T, zle_F, zeq_T, zeq_F, zn_lt, nz_lt, zn_le, nz_le, zn_eq, nz_eq, m0]
        exact ⟨_, _, _, _, _, _, _, _, rfl, rfl, .inl ⟨rfl, rfl, rfl, rfl, rfl, rfl, Pm_rfl M⟩⟩
      · by_cases lo : x < 2
        · simp (disch := omega) only [l_0, l_1, l_2, l_3, l_4, l_5, l_6, l_7, l_8, l_9, l_10, l_12, l_20, l_24, l_25, l_31, l_32, l_48, l_50, l_56, l_57, l_59, l_97, l_99, l_100, l_120, l_122, l_177, l_178, l_201, l_226, l_255, l_400, l_420, l_600, l_700, l_840, l_1000, l_1300, l_2000, l_1000000, nI_add, mr4, ml4, mr5, ml5, mr6, ml6, mr10, ml10, mr24, ml24, mr201, ml201, mr420, ml420, mr226, ml226, mr2, ml2, nI_clamp, lt_T, lt_F, le_T, le_F, eq_T, eq_F, ck_n, dv_n, cp_n, rem_n, pk_div, at1_same, at1_ne, cb_n, Option.bind_some, if_pos, if_neg, ↓reduceIte, and_self, and_true, true_and, and_false, false_and, not_true_eq_false, not_false_eq_true, nI_sub', zz_add, zz_sub, zz_mul, zn_add, nz_add, zn_sub, nz_sub, zn_mul, nz_mul, z_neg, n_neg, zlt_T, zlt_F, zle_T, zle_F, zeq_T, zeq_F, zn_lt, nz_lt, zn_le, nz_le, zn_eq, nz_eq, m0]
          exact ⟨_, _, _, _, _, _, _, _, rfl, rfl, .inl ⟨rfl, rfl, rfl, rfl, rfl, rfl, Pm_rfl M⟩⟩
        · simp (disch := omega) only [l_0, l_1, l_2, l_3, l_4, l_5, l_6, l_7, l_8, l_9, l_10, l_12, l_20, l_24, l_25, l_31, l_32, l_48, l_50, l_56, l_57, l_59, l_97, l_99, l_100, l_120, l_122, l_177, l_178, l_201, l_226, l_255, l_400, l_420, l_600, l_700, l_840, l_1000, l_1300, l_2000, l_1000000, nI_add, mr4, ml4, mr5, ml5, mr6, ml6, mr10, ml10, mr24, ml24, mr201, ml201, mr420, ml420, mr226, ml226, mr2, ml2, nI_clamp, lt_T, lt_F, le_T, le_F, eq_T, eq_F, ck_n, dv_n, cp_n, rem_n, pk_div, at1_same, at1_ne, cb_n, Option.bind_some, if_pos, if_neg, ↓reduceIte, and_self, and_true, true_and, and_false, false_and, not_true_eq_false, not_false_eq_true, nI_sub', zz_add, zz_sub, zz_mul, zn_add, nz_add, zn_sub, nz_sub, zn_mul, nz_mul, z_neg, n_neg, zlt_T, zlt_F, zle_T, zle_F, zeq_T, zeq_F, zn_lt, nz_lt, zn_le, nz_le, zn_eq, nz_eq, m0]
          exact ⟨_, _, _, _, _, _, _, _, rfl, rfl, .inl ⟨rfl, rfl, rfl, rfl, rfl, rfl, Pm_rfl M⟩⟩
theorem m_row {M T C H Y N S X0 : Mem} {LM : MemL} {Ks : Nat → Mem} {σ : Sg} {a : Nat} {h : Nat → Sg} (ra : Ra M T C H Ks σ a h) {F : Nat} (hF : 10000 ≤ F) : ∃ v C' H' Y' N' S' Ks' M', f_X9_row F X0 C H Y N S Ks = some (v, C', H', Y', N', S', Ks') ∧ f_X10_row F M LM = some (v, M') ∧ Out M T C H Y N S Ks M' C' H' Y' N' S' Ks' := by
  obtain ⟨hC, hM, hs, -⟩ := id ra
  have h0 := kC hs
  have h1 := kR hs
  have m0 : M 1 0 = nI (σ 0) := hM 0 (by omega)
  have m1 : M 1 1 = nI (σ 1) := hM 1 (by omega)
  unfold f_X9_row f_X10_row f_X0_mayAddRow
  rw [cC hC, cR hC]
  by_cases z0 : σ 0 = 0
  · have z1 : σ 1 = 0 := hs.2.2.1 z0
    simp (disch := omega) only [l_0, l_1, l_2, l_3, l_4, l_5, l_6, l_7, l_8, l_9, l_10, l_12, l_20, l_24, l_25, l_31, l_32, l_48, l_50, l_56, l_57, l_59, l_97, l_99, l_100, l_120, l_122, l_177, l_178, l_201, l_226, l_255, l_400, l_420, l_600, l_700, l_840, l_1000, l_1300, l_2000, l_1000000, nI_add, mr4, ml4, mr5, ml5, mr6, ml6, mr10, ml10, mr24, ml24, mr201, ml201, mr420, ml420, mr226, ml226, mr2, ml2, nI_clamp, lt_T, lt_F, le_T, le_F, eq_T, eq_F, ck_n, dv_n, cp_n, rem_n, pk_div, at1_same, at1_ne, cb_n, Option.bind_some, if_pos, if_neg, ↓reduceIte, and_self, and_true, true_and, and_false, false_and, not_true_eq_false, not_false_eq_true, nI_sub', m0, m1]
    exact ⟨_, _, _, _, _, _, _, _, rfl, rfl, .inl ⟨rfl, rfl, rfl, rfl, rfl, rfl, Pm_rfl M⟩⟩
  · by_cases q4 : σ 1 = 4
    · simp (disch := omega) only [l_0, l_1, l_2, l_3, l_4, l_5, l_6, l_7, l_8, l_9, l_10, l_12, l_20, l_24, l_25, l_31, l_32, l_48, l_50, l_56, l_57, l_59, l_97, l_99, l_100, l_120, l_122, l_177, l_178, l_201, l_226, l_255, l_400, l_420, l_600, l_700, l_840, l_1000, l_1300, l_2000, l_1000000, nI_add, mr4, ml4, mr5, ml5, mr6, ml6, mr10, ml10, mr24, ml24, mr201, ml201, mr420, ml420, mr226, ml226, mr2, ml2, nI_clamp, lt_T, lt_F, le_T, le_F, eq_T, eq_F, ck_n, dv_n, cp_n, rem_n, pk_div, at1_same, at1_ne, cb_n, Option.bind_some, if_pos, if_neg, ↓reduceIte, and_self, and_true, true_and, and_false, false_and, not_true_eq_false, not_false_eq_true, nI_sub', m0, m1]
      exact ⟨_, _, _, _, _, _, _, _, rfl, rfl, .inl ⟨rfl, rfl, rfl, rfl, rfl, rfl, Pm_rfl M⟩⟩
    · obtain ⟨H', Y', N', S', Ks', M2, b1, b2, b3, b4, -, -, b5, b6⟩ := m_begin (X0 := X0) (Y := Y) (N := N) (S := S) (LM := LM) ra hF
      have m21 : M2 1 1 = nI (σ 1) := b3.2.1 1 (by omega)
      have hM3 := StM_u b3.2.1 1 (σ 1 + 1)
      have qq : Pq M2 (mr M2 1 (upd (M2 1) 1 (nI (σ 1 + 1)))) := Pq_k M2 _ (by decide) (by decide) (by decide) (by decide)
      have t1 : sgU σ 1 (σ 1 + 1) 1 = σ 1 + 1 := sgU_s _ _ _
      have tn : ∀ j, j ≠ 1 → sgU σ 1 (σ 1 + 1) j = σ j := fun j e => sgU_n _ _ e
      have hB : okB (sgU σ 1 (σ 1 + 1)) := by
        obtain ⟨s0, s1, s2, s3, s4, s5⟩ := okS_B hs
        refine ⟨by rw [tn 0 (by omega)]; exact s0, by omega, by rw [tn 0 (by omega)]; omega, by rw [tn 0 (by omega), tn 2 (by omega)]; exact s3, fun j g1 g2 => ?_, fun r c hr hc => ?_⟩
        · rw [tn 0 (by omega)] at g2
          rw [tn _ (by omega)]; exact s4 j g1 g2
        · rw [t1, tn 0 (by omega), tn _ (by omega)]
          exact ⟨(s5 r c hr hc).1, fun z => (s5 r c hr hc).2 (by omega)⟩
      have cw : StB (mr C 0 (fu (C 0) 7 (nI (σ 1 + 1)))) (sgU σ 1 (σ 1 + 1)) := by
        refine ⟨?_, ?_, fun j hj => ?_, fun j hj => ?_⟩
        · rw [mr_s, fu_n _ _ (by decide), tn 0 (by omega)]; exact cC hC
        · rw [mr_s, fu_s, t1]
        · rw [tn 0 (by omega)] at hj
          rw [mr_n _ _ (by decide), mr_n _ _ (by decide), tn _ (by omega), wo_cg (τ := σ) j (fun i g1 g2 => tn _ (by omega))]
          exact ⟨cRt hC (by omega), cWo hC (by omega)⟩
        · rw [mr_n _ _ (by decide), tn _ (by omega)]
          exact cCe hC hj
      obtain ⟨M', C', a1, a2, a3⟩ := act_anew (LM := LM) b3 qq hM3 cw hB hF
      have i1 : M' 1 1 = nI (σ 1 + 1) := by rw [a3.2.1 1 (by omega), an_lo _ (by omega), t1]
      have j1 : C' 0 7 = nI (σ 1 + 1) := by rw [cR a3.1, an_lo _ (by omega), t1]
      simp (disch := omega) only [l_0, l_1, l_2, l_3, l_4, l_5, l_6, l_7, l_8, l_9, l_10, l_12, l_20, l_24, l_25, l_31, l_32, l_48, l_50, l_56, l_57, l_59, l_97, l_99, l_100, l_120, l_122, l_177, l_178, l_201, l_226, l_255, l_400, l_420, l_600, l_700, l_840, l_1000, l_1300, l_2000, l_1000000, nI_add, mr4, ml4, mr5, ml5, mr6, ml6, mr10, ml10, mr24, ml24, mr201, ml201, mr420, ml420, mr226, ml226, mr2, ml2, nI_clamp, lt_T, lt_F, le_T, le_F, eq_T, eq_F, ck_n, dv_n, cp_n, rem_n, pk_div, at1_same, at1_ne, cb_n, Option.bind_some, if_pos, if_neg, ↓reduceIte, and_self, and_true, true_and, and_false, false_and, not_true_eq_false, not_false_eq_true, nI_sub', m0, m1, m21, b1, b2, a1, a2, i1, j1]
      exact ⟨_, _, _, _, _, _, _, _, rfl, rfl, .inr ⟨_, _, _, a3, b4⟩⟩
