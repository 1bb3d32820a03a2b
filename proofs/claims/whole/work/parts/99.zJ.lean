/-! PURE LAYER: text: moves -/
theorem g_tr2 {F : Nat} {LM : MemL} {M0 : Mem} (k : Mem → Option Mem) : ∀ (d i m : Nat) (M : Mem), i + d = 226 → d < m → (∀ j, j < i → M 1 j = M0 2 j ∧ M 2 j = M0 1 j) → (∀ j, i ≤ j → M 1 j = M0 1 j ∧ M 2 j = M0 2 j) → (∀ q, q ≠ 1 → q ≠ 2 → M q = M0 q) → ∃ M', f_X10_trades_2 F LM k m M (nI i) = k M' ∧ (∀ j, j < 226 → M' 1 j = M0 2 j ∧ M' 2 j = M0 1 j) ∧ ∀ q, q ≠ 1 → q ≠ 2 → M' q = M0 q
  | d, i, 0, M, _, h, _, _, _ => by omega
  | 0, i, m + 1, M, hi, _, h1, _, h3 => by
    obtain rfl : i = 226 := by omega
    exact ⟨M, by rw [f_X10_trades_2, if_pos (by decide)], h1, h3⟩
  | d + 1, i, m + 1, M, hi, hm, h1, h2, h3 => by
    obtain ⟨e1, e2⟩ := h2 i (Nat.le_refl _)
    obtain ⟨M', a1, a2, a3⟩ := g_tr2 (F := F) (LM := LM) (M0 := M0) k d (i + 1) m (mr (mr M 1 (upd (M 1) i (M 2 i))) 2 (upd (M 2) i (M 1 i))) (by omega) (by omega) (fun j hj => by
      rw [mr_n _ _ (by decide), mr_s, mr_s]
      by_cases q : j = i
      · rw [q, pk_us, pk_us]; exact ⟨e2, e1⟩
      · rw [pk_un q, pk_un q]; exact h1 j (by omega)) (fun j hj => by
      rw [mr_n _ _ (by decide), mr_s, mr_s, pk_un (by omega), pk_un (by omega)]
      exact h2 j (by omega)) (fun q q1 q2 => by rw [mr_n _ _ q2, mr_n _ _ q1]; exact h3 q q1 q2)
    refine ⟨M', ?_, a2, a3⟩
    rw [f_X10_trades_2, if_neg (show ¬ (226 : Int32) ≤ nI i from nI_ge (b := 226) (by omega) (by decide)), ck_n (by omega) (by decide), ck_n (by omega) (by decide), ck_n (by omega) (by decide), ck_n (by omega) (by decide), nI_clamp (by omega), nI_1]
    exact a1
theorem g_trades {F : Nat} (hF : 1000 ≤ F) (M : Mem) (LM : MemL) : ∃ M', f_X10_trades F M LM = some M' ∧ (∀ j, j < 226 → M' 1 j = M 2 j ∧ M' 2 j = M 1 j) ∧ ∀ q, q ≠ 1 → q ≠ 2 → M' q = M q :=
  g_tr2 (M0 := M) (fun M_41 => some M_41) 226 0 F M (by omega) (by omega) (fun j hj => by omega) (fun j _ => ⟨rfl, rfl⟩) (fun _ _ _ => rfl)
/-- as m_can0, with more of what stays -/
def Fr4 (M M' : Mem) : Prop := (∀ q, q ≠ 0 → q ≠ 4 → M' q = M q) ∧ ∀ j, j < 6 ∨ 9 < j → M' 0 j = M 0 j
theorem m_can1 {C E M : Mem} {LM : MemL} {σ : Sg} (hC : StC C σ) (hM : StM M σ) (hs : okS σ) {F : Nat} (hF : 10000 ≤ F) {κ r c k o : Int} (κ1 : -2147483648 ≤ κ) (κ2 : κ < 2147483648) (r1 : -2147483648 ≤ r) (r2 : r < 2147483648) (c1 : -2147483648 ≤ c) (c2 : c < 2147483648) (k1 : -2147483648 ≤ k) (k2 : k < 2147483648) (o1 : -2147483648 ≤ o) (o2 : o < 2147483648) :
    (∃ A B x y E' M', Ef σ κ r c k o A B x y ∧ fitC (sg8 σ) A B x y ∧ f_X0_canMake F C E (zI κ) (zI r) (zI o) (zI c) (zI k) = some (nI 1, E') ∧ Se E' A B x y ∧ f_X10_canMove F M LM (zI κ) (zI r) (zI c) (zI k) (zI o) = some (nI 1, M') ∧ Sp M' A B x y ∧ CeM M' (sg8 σ) ∧ Fr4 M M') ∨ (∃ E' M', f_X0_canMake F C E (zI κ) (zI r) (zI o) (zI c) (zI k) = some (nI 0, E') ∧ f_X10_canMove F M LM (zI κ) (zI r) (zI c) (zI k) (zI o) = some (nI 0, M') ∧ Fr4 M M') := by
  unfold f_X0_canMake f_X10_canMove
  rcases h_describe (E := E) hC hs F κ1 κ2 r1 r2 c1 c2 k1 k2 o1 o2 with ⟨A, B, x, y, E', hE, d1, d2⟩ | ⟨nE, E', d1⟩
  · rcases g_lays (LM := LM) hM hs F κ1 κ2 r1 r2 c1 c2 k1 k2 o1 o2 with ⟨A', B', x', y', M1, hE', l1, l2, l3⟩ | ⟨nE, _⟩
    · obtain ⟨rfl, rfl, rfl, rfl⟩ := Ef_inj hE hE'
      obtain ⟨bA, bB, bx1, bx2, by1, by2, be⟩ := Ef_b hs hE
      obtain ⟨M2, n1, n2, n3⟩ := g_laysNow (LM := LM) (StM_p hM (Fr0_m l3)) hF
      have sp2 := Sp_4 (n3 0 (by decide)) l2
      have pm2 : Fr4 M M2 := ⟨fun q q0 q4 => by rw [n3 q q4, l3.1 q q0], fun j hj => by rw [n3 0 (by decide), l3.2 j hj]⟩
      rw [d1, l1]
      rcases h_stays (CeC_8 hC) d2 bA bB (b8 hs) (by omega) (by omega) F with ⟨f, s1⟩ | ⟨f, s1⟩
      · rcases g_fits (LM := LM) n2 sp2 bA bB (b8 hs) (by omega) (by omega) F with ⟨f', s2⟩ | ⟨f', s2⟩
        · left
          refine ⟨A', B', x', y', E', M2, hE, f, ?_, d2, ?_, sp2, n2, pm2⟩
          · simp (disch := omega) only [l_0, l_1, l_2, l_3, l_4, l_5, l_6, l_7, l_8, l_9, l_10, l_12, l_20, l_24, l_25, l_31, l_32, l_48, l_50, l_56, l_57, l_59, l_97, l_99, l_100, l_120, l_122, l_177, l_178, l_201, l_226, l_255, l_400, l_420, l_600, l_700, l_840, l_1000, l_1300, l_2000, l_1000000, nI_add, mr4, ml4, mr5, ml5, mr6, ml6, mr10, ml10, mr24, ml24, mr201, ml201, mr420, ml420, mr226, ml226, mr2, ml2, nI_clamp, lt_T, lt_F, le_T, le_F, eq_T, eq_F, ck_n, dv_n, cp_n, rem_n, pk_div, at1_same, at1_ne, cb_n, Option.bind_some, if_pos, if_neg, ↓reduceIte, and_self, and_true, true_and, and_false, false_and, not_true_eq_false, not_false_eq_true, nI_sub', s1]
          · simp (disch := omega) only [l_0, l_1, l_2, l_3, l_4, l_5, l_6, l_7, l_8, l_9, l_10, l_12, l_20, l_24, l_25, l_31, l_32, l_48, l_50, l_56, l_57, l_59, l_97, l_99, l_100, l_120, l_122, l_177, l_178, l_201, l_226, l_255, l_400, l_420, l_600, l_700, l_840, l_1000, l_1300, l_2000, l_1000000, nI_add, mr4, ml4, mr5, ml5, mr6, ml6, mr10, ml10, mr24, ml24, mr201, ml201, mr420, ml420, mr226, ml226, mr2, ml2, nI_clamp, lt_T, lt_F, le_T, le_F, eq_T, eq_F, ck_n, dv_n, cp_n, rem_n, pk_div, at1_same, at1_ne, cb_n, Option.bind_some, if_pos, if_neg, ↓reduceIte, and_self, and_true, true_and, and_false, false_and, not_true_eq_false, not_false_eq_true, nI_sub', n1, s2]
        · exact absurd ((fit_cr hs bA bB be).mp f) f'
      · rcases g_fits (LM := LM) n2 sp2 bA bB (b8 hs) (by omega) (by omega) F with ⟨f', s2⟩ | ⟨f', s2⟩
        · exact absurd ((fit_cr hs bA bB be).mpr f') f
        · right
          refine ⟨E', M2, ?_, ?_, pm2⟩
          · simp (disch := omega) only [l_0, l_1, l_2, l_3, l_4, l_5, l_6, l_7, l_8, l_9, l_10, l_12, l_20, l_24, l_25, l_31, l_32, l_48, l_50, l_56, l_57, l_59, l_97, l_99, l_100, l_120, l_122, l_177, l_178, l_201, l_226, l_255, l_400, l_420, l_600, l_700, l_840, l_1000, l_1300, l_2000, l_1000000, nI_add, mr4, ml4, mr5, ml5, mr6, ml6, mr10, ml10, mr24, ml24, mr201, ml201, mr420, ml420, mr226, ml226, mr2, ml2, nI_clamp, lt_T, lt_F, le_T, le_F, eq_T, eq_F, ck_n, dv_n, cp_n, rem_n, pk_div, at1_same, at1_ne, cb_n, Option.bind_some, if_pos, if_neg, ↓reduceIte, and_self, and_true, true_and, and_false, false_and, not_true_eq_false, not_false_eq_true, nI_sub', s1]
          · simp (disch := omega) only [l_0, l_1, l_2, l_3, l_4, l_5, l_6, l_7, l_8, l_9, l_10, l_12, l_20, l_24, l_25, l_31, l_32, l_48, l_50, l_56, l_57, l_59, l_97, l_99, l_100, l_120, l_122, l_177, l_178, l_201, l_226, l_255, l_400, l_420, l_600, l_700, l_840, l_1000, l_1300, l_2000, l_1000000, nI_add, mr4, ml4, mr5, ml5, mr6, ml6, mr10, ml10, mr24, ml24, mr201, ml201, mr420, ml420, mr226, ml226, mr2, ml2, nI_clamp, lt_T, lt_F, le_T, le_F, eq_T, eq_F, ck_n, dv_n, cp_n, rem_n, pk_div, at1_same, at1_ne, cb_n, Option.bind_some, if_pos, if_neg, ↓reduceIte, and_self, and_true, true_and, and_false, false_and, not_true_eq_false, not_false_eq_true, nI_sub', n1, s2]
    · exact absurd hE (nE _ _ _ _)
  · rcases g_lays (LM := LM) hM hs F κ1 κ2 r1 r2 c1 c2 k1 k2 o1 o2 with ⟨A', B', x', y', M1, hE', l1, l2, l3⟩ | ⟨_, M1, l1, l2⟩
    · exact absurd hE' (nE _ _ _ _)
    · right
      rw [d1, l1]
      refine ⟨E', M1, ?_, ?_, fun q q0 _ => l2.1 q q0, l2.2⟩
      · simp (disch := omega) only [l_0, l_1, l_2, l_3, l_4, l_5, l_6, l_7, l_8, l_9, l_10, l_12, l_20, l_24, l_25, l_31, l_32, l_48, l_50, l_56, l_57, l_59, l_97, l_99, l_100, l_120, l_122, l_177, l_178, l_201, l_226, l_255, l_400, l_420, l_600, l_700, l_840, l_1000, l_1300, l_2000, l_1000000, nI_add, mr4, ml4, mr5, ml5, mr6, ml6, mr10, ml10, mr24, ml24, mr201, ml201, mr420, ml420, mr226, ml226, mr2, ml2, nI_clamp, lt_T, lt_F, le_T, le_F, eq_T, eq_F, ck_n, dv_n, cp_n, rem_n, pk_div, at1_same, at1_ne, cb_n, Option.bind_some, if_pos, if_neg, ↓reduceIte, and_self, and_true, true_and, and_false, false_and, not_true_eq_false, not_false_eq_true, nI_sub']
      · simp (disch := omega) only [l_0, l_1, l_2, l_3, l_4, l_5, l_6, l_7, l_8, l_9, l_10, l_12, l_20, l_24, l_25, l_31, l_32, l_48, l_50, l_56, l_57, l_59, l_97, l_99, l_100, l_120, l_122, l_177, l_178, l_201, l_226, l_255, l_400, l_420, l_600, l_700, l_840, l_1000, l_1300, l_2000, l_1000000, nI_add, mr4, ml4, mr5, ml5, mr6, ml6, mr10, ml10, mr24, ml24, mr201, ml201, mr420, ml420, mr226, ml226, mr2, ml2, nI_clamp, lt_T, lt_F, le_T, le_F, eq_T, eq_F, ck_n, dv_n, cp_n, rem_n, pk_div, at1_same, at1_ne, cb_n, Option.bind_some, if_pos, if_neg, ↓reduceIte, and_self, and_true, true_and, and_false, false_and, not_true_eq_false, not_false_eq_true, nI_sub']
theorem LA_f {M M' : Mem} {β : Nat → Nat} {n w p : Nat} (h : LA M β n w p) (g : ∀ j, 30 < j → M' 0 j = M 0 j) : LA M' β n w p := by
  obtain ⟨a, b, c, d⟩ := h
  exact ⟨by rw [g 33 (by omega)]; exact a, by rw [g 32 (by omega)]; exact b, by rw [g 31 (by omega)]; exact c, fun x y => by rw [g 34 (by omega)]; exact d x y⟩
/-- a move that has been read is made, or can't be -/
theorem m_mv141 {F : Nat} (hF : 10000 ≤ F) {R T DR RE M : Mem} {LM : MemL} {τ : Sg} {at0 κ r o c k : Nat} (hC : StC DR τ) (hs : okS τ) (hd : Rd M τ 1) (h35 : M 0 35 = -1) (hκ : κ ≤ 4) (hr : r ≤ 99) (ho : o ≤ 99) (hc : c ≤ 99) (hk : k ≤ 99) (ho4 : κ ≠ 4 → o = 0) (hk2 : κ = 2 ∨ κ = 3 → k = 0) (hR1 : R 1 0 = nI r) :
    (∃ DR' RE' M' τ', f_X6_readMove_141 F R DR RE T (nI at0) (nI κ) (nI o) (nI c) (nI k) = some (1, R, DR', RE') ∧ (f_X10_trades F M LM).bind (fun z76 => ck 56 226 ((if 24 ≤ ((z76 1) (56 : Int32).toNatClampNeg) then f_X10_readsMove_111 F z76 LM (nI at0) (nI κ) (nI r) (nI o) (nI c) (nI k) 0 else (f_X10_canMove F z76 LM (nI κ) (nI r) (nI c) (nI k) (nI o)).bind (fun z100 => (if z100.1 = 0 then f_X10_readsMove_111 F z100.2 LM (nI at0) (nI κ) (nI r) (nI o) (nI c) (nI k) 0 else f_X10_readsMove_111 F z100.2 LM (nI at0) (nI κ) (nI r) (nI o) (nI c) (nI k) 1))))) = some M' ∧ StC DR' τ' ∧ okS τ' ∧ Rd M' τ' 1 ∧ FrL M M' ∧ ∀ j, 30 < j → M' 0 j = M 0 j) ∨
    (∃ R' RE' M', f_X6_readMove_141 F R DR RE T (nI at0) (nI κ) (nI o) (nI c) (nI k) = some (0, R', DR, RE') ∧ R' 0 8 = nI at0 ∧ (f_X10_trades F M LM).bind (fun z76 => ck 56 226 ((if 24 ≤ ((z76 1) (56 : Int32).toNatClampNeg) then f_X10_readsMove_111 F z76 LM (nI at0) (nI κ) (nI r) (nI o) (nI c) (nI k) 0 else (f_X10_canMove F z76 LM (nI κ) (nI r) (nI c) (nI k) (nI o)).bind (fun z100 => (if z100.1 = 0 then f_X10_readsMove_111 F z100.2 LM (nI at0) (nI κ) (nI r) (nI o) (nI c) (nI k) 0 else f_X10_readsMove_111 F z100.2 LM (nI at0) (nI κ) (nI r) (nI o) (nI c) (nI k) 1))))) = some M' ∧ M' 0 35 = nI at0 ∧ FrL M M') := by
  have h5 := kMv hs
  obtain ⟨M1, t1, t2, t3⟩ := g_trades (F := F) (by omega) M LM
  have hM1 : StM M1 τ := fun j hj => by rw [(t2 j hj).1]; exact hd j hj (Or.inl rfl)
  have c04 : ∀ E : Option (Int32 × Mem × Mem × Mem), ck 0 4 E = E := fun E => ck_n (i := 0) (by decide) (by decide)
  have m0c' : (0 : Int32).toNatClampNeg = 0 := rfl
  -- the reference gives back what it traded
  have back : ∀ (M2 : Mem) (τ' : Sg), (∀ j, j < 226 → M2 1 j = nI (τ' j)) → (∀ j, j < 226 → M2 2 j = M 1 j) → M2 3 = M 3 → M2 21 = M 21 → M2 22 = M 22 → (∀ j, j < 6 ∨ 9 < j → M2 0 j = M 0 j) → ∃ M3, f_X10_trades F M2 LM = some M3 ∧ Rd M3 τ' 1 ∧ FrL M M3 ∧ ∀ j, 30 < j → M3 0 j = M 0 j := fun M2 τ' u1 u2 u3 u21 u22 u0 => by
    obtain ⟨M3, v1, v2, v3⟩ := g_trades (F := F) (by omega) M2 LM
    refine ⟨M3, v1, fun j hj _ => by rw [(v2 j hj).2]; exact u1 j hj, ⟨fun j hj => by rw [(v2 j hj).1]; exact u2 j hj, by rw [v3 3 (by decide) (by decide)]; exact u3, by rw [v3 21 (by decide) (by decide)]; exact u21, by rw [v3 22 (by decide) (by decide)]; exact u22, by rw [v3 0 (by decide) (by decide)]; exact u0 4 (by omega), by rw [v3 0 (by decide) (by decide)]; exact u0 29 (by omega)⟩, fun j hj => by rw [v3 0 (by decide) (by decide)]; exact u0 j (by omega)⟩
  have no : ∀ (M2 : Mem), (∀ j, j < 226 → M2 1 j = nI (τ j)) → (∀ j, j < 226 → M2 2 j = M 1 j) → M2 3 = M 3 → M2 21 = M 21 → M2 22 = M 22 → (∀ j, j < 6 ∨ 9 < j → M2 0 j = M 0 j) → ∃ M', f_X10_readsMove_111 F M2 LM (nI at0) (nI κ) (nI r) (nI o) (nI c) (nI k) 0 = some M' ∧ M' 0 35 = nI at0 ∧ FrL M M' := fun M2 u1 u2 u3 u21 u22 u0 => by
    obtain ⟨M3, v1, v2, v3, v4⟩ := back M2 τ u1 u2 u3 u21 u22 u0
    have w : M3 0 35 = -1 := by rw [v4 35 (by omega)]; exact h35
    refine ⟨mr M3 0 (fu (M3 0) 35 (nI at0)), ?_, by rw [mr_s, fu_s], FrL_tr v3 (FrL_W (FrW_35 M3 _))⟩
    unfold f_X10_readsMove_111 f_X10_readsMove_203
    rw [if_pos (rfl : (0 : Int32) = 0), v1, Option.bind_some, if_pos (rfl : (0 : Int32) = 0), g_fails w, Option.bind_some]
  have cno : ∀ RE', f_X6_readMove_182 F R DR RE' T (nI at0) = some (0, mr R 0 (fu (R 0) 8 (nI at0)), DR, RE') := fun RE' => by
    unfold f_X6_readMove_182 f_X6_failAt
    rw [Option.bind_some]
    exact cb_0
  unfold f_X6_readMove_141
  rw [cMv hC, t1, Option.bind_some, ck56, r56 hM1, c04, m0c', hR1]
  by_cases hm : 24 ≤ τ 56
  · have g24 : (24 : Int32) ≤ nI (τ 56) := nI_le (a := 24) hm (by omega)
    rw [if_pos g24, if_pos g24]
    obtain ⟨M', n1, n2, n3⟩ := no M1 hM1 (fun j hj => (t2 j hj).2) (t3 3 (by decide) (by decide)) (t3 21 (by decide) (by decide)) (t3 22 (by decide) (by decide)) (fun j _ => by rw [t3 0 (by decide) (by decide)])
    exact Or.inr ⟨_, RE, M', cno RE, by rw [mr_s, fu_s], n1, n2, n3⟩
  · have hm' : τ 56 < 24 := Nat.lt_of_not_le hm
    have g24 : ¬ (24 : Int32) ≤ nI (τ 56) := nI_ge (b := 24) hm' (by decide)
    rw [if_neg g24, if_neg g24]
    have mc := m_can1 (E := RE) (LM := LM) hC hM1 hs hF (κ := (κ : Int)) (r := (r : Int)) (c := (c : Int)) (k := (k : Int)) (o := (o : Int)) (by omega) (by omega) (by omega) (by omega) (by omega) (by omega) (by omega) (by omega) (by omega) (by omega)
    simp only [zI_c] at mc
    rcases mc with ⟨A, B, x, y, E', M2, hE, ft, d1, d2, d3, d4, d5, fr⟩ | ⟨E', M2, d1, d3, fr⟩
    · obtain ⟨bA, bB, bx1, bx2, by1, by2, be⟩ := Ef_b hs hE
      obtain ⟨DR1, p1, p2, p3⟩ := h_apply (CeC_8 hC) d2 bA bB F
      obtain ⟨DR', w1, w2⟩ := h_writeMove (C := DR1) (m := τ 56) (κ := κ) (r := r) (o := o) (c := c) (k := k) (by rw [p3 0 (by decide)]; exact cMv hC) hm' hκ ho4 hk2 F
      have hst := StC_mv (κ := κ) (r := r) (c := c) (k := k) (o := o) hC hs hm' ft be p2 p3 w2
      have hok := okS_mv hs hm' hE ft ho4 hk2
      obtain ⟨M3, q1, q2, q3⟩ := g_goes (LM := LM) d5 d4 bA bB 1 F
      have hM3 : StM M3 τ := fun j hj => by rw [q3 1 (by decide), fr.1 1 (by decide) (by decide)]; exact hM1 j hj
      obtain ⟨M4, k1, k2, k3⟩ := g_takesNow (LM := LM) hM3 q2 (fun j hj => (ap_ok hs ft be hj).1) hF
      have m56 : M4 1 56 = nI (τ 56) := by
        rw [k2 56 (by omega)]
        unfold tkS
        rw [if_neg (by omega)]
      have ev := mv_eq (σ := τ) (κ := κ) (r := r) (c := c) (k := k) (o := o) (A := A) (B := B) (x := x) (y := y) (s := M4 1) k2
      have o2 : ∀ q, q ≠ 0 → q ≠ 1 → q ≠ 4 → M4 q = M1 q := fun q a b c => by rw [k3 q b, q3 q c, fr.1 q a c]
      have o0 : ∀ j, j < 6 ∨ 9 < j → M4 0 j = M 0 j := fun j hj => by rw [k3 0 (by decide), q3 0 (by decide), fr.2 j hj, t3 0 (by decide) (by decide)]
      obtain ⟨M5, v1, v2, v3, v4⟩ := back (mr M4 1 (upd (upd (upd (upd (upd (upd (M4 1) (57 + 5 * τ 56) (nI κ)) (57 + 5 * τ 56 + 1) (nI r)) (57 + 5 * τ 56 + 2) (nI c)) (57 + 5 * τ 56 + 3) (nI k)) (57 + 5 * τ 56 + 4) (nI o)) 56 (nI (τ 56 + 1)))) (mvS τ κ r c k o A B x y) (fun j hj => by rw [mr_s]; exact ev j hj) (fun j hj => by rw [mr_n _ _ (by decide), o2 2 (by decide) (by decide) (by decide)]; exact (t2 j hj).2) (by rw [mr_n _ _ (by decide), o2 3 (by decide) (by decide) (by decide)]; exact t3 3 (by decide) (by decide)) (by rw [mr_n _ _ (by decide), o2 21 (by decide) (by decide) (by decide)]; exact t3 21 (by decide) (by decide)) (by rw [mr_n _ _ (by decide), o2 22 (by decide) (by decide) (by decide)]; exact t3 22 (by decide) (by decide)) (fun j hj => by rw [mr_n _ _ (by decide)]; exact o0 j hj)
      refine Or.inl ⟨DR', E', M5, mvS τ κ r c k o A B x y, ?_, ?_, hst, hok, v2, v3, v4⟩
      · rw [d1, Option.bind_some, if_neg n10, p1, Option.bind_some, c04, w1, Option.bind_some]
      · rw [d3, Option.bind_some, if_neg n10]
        have q1' : f_X10_goes F M2 LM 1 = some M3 := q1
        have i57 : (57 : Int32) + 5 * nI (τ 56) = nI (57 + 5 * τ 56) := by
          have e1 : (5 : Int32) * nI (τ 56) = nI (5 * τ 56) := nI_mul' 5 _
          rw [e1]; exact nI_add 57 _
        have m56' : M4 1 (56 : Int32).toNatClampNeg = nI (τ 56) := m56
        have c56 : (56 : Int32).toNatClampNeg = 56 := rfl
        have a2' : nI (57 + 5 * τ 56) + 2 = nI (57 + 5 * τ 56 + 2) := nI_add _ 2
        have a3' : nI (57 + 5 * τ 56) + 3 = nI (57 + 5 * τ 56 + 3) := nI_add _ 3
        have a4' : nI (57 + 5 * τ 56) + 4 = nI (57 + 5 * τ 56 + 4) := nI_add _ 4
        have u56 : upd (upd (upd (upd (upd (M4 1) (57 + 5 * τ 56) (nI κ)) (57 + 5 * τ 56 + 1) (nI r)) (57 + 5 * τ 56 + 2) (nI c)) (57 + 5 * τ 56 + 3) (nI k)) (57 + 5 * τ 56 + 4) (nI o) 56 = nI (τ 56) := by
          rw [pk_un (by omega), pk_un (by omega), pk_un (by omega), pk_un (by omega), pk_un (by omega)]; exact m56
        unfold f_X10_readsMove_111 f_X10_readsMove_203
        rw [if_neg (show ¬ (1 : Int32) = 0 by decide), q1', Option.bind_some, k1, Option.bind_some, ck56, m56', i57, nI_1, a2', a3', a4', ck_n (by omega) (by decide), ck_n (by omega) (by decide), ck_n (by omega) (by decide), ck_n (by omega) (by decide), ck_n (by omega) (by decide), ck56, ck56, nI_clamp (by omega), nI_clamp (by omega), nI_clamp (by omega), nI_clamp (by omega), nI_clamp (by omega), c56, u56, nI_1, v1, Option.bind_some, if_neg (show ¬ (1 : Int32) = 0 by decide)]
    · obtain ⟨M', n1, n2, n3⟩ := no M2 (fun j hj => by rw [fr.1 1 (by decide) (by decide)]; exact hM1 j hj) (fun j hj => by rw [fr.1 2 (by decide) (by decide)]; exact (t2 j hj).2) (by rw [fr.1 3 (by decide) (by decide)]; exact t3 3 (by decide) (by decide)) (by rw [fr.1 21 (by decide) (by decide)]; exact t3 21 (by decide) (by decide)) (by rw [fr.1 22 (by decide) (by decide)]; exact t3 22 (by decide) (by decide)) (fun j hj => by rw [fr.2 j hj, t3 0 (by decide) (by decide)])
      refine Or.inr ⟨mr R 0 (fu (R 0) 8 (nI at0)), E', M', ?_, by rw [mr_s, fu_s], ?_, n2, n3⟩
      · rw [d1, Option.bind_some, if_pos n00, cno E']
      · rw [d3, Option.bind_some, if_pos n00, n1]
