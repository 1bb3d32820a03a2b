/-! PURE LAYER: a move is written: class and reference -/
theorem h_writeMove {C : Mem} {m κ r o c k : Nat} (hm : C 0 8 = nI m) (hlt : m < 24) (hκ : κ ≤ 4) (ho : κ ≠ 4 → o = 0) (hk : κ = 2 ∨ κ = 3 → k = 0) (F : Nat) : ∃ C', f_X0_writeMove F C (nI κ) (nI r) (nI o) (nI c) (nI k) = some C' ∧ C' 0 8 = nI (m + 1) ∧ (∀ j, j ≠ 8 → C' 0 j = C 0 j) ∧ (∀ q, q ≠ 0 → q ≠ 5 → C' q = C q) ∧ (∀ j, j < 5 * m → C' 5 j = C 5 j) ∧ C' 5 (5 * m) = nI κ ∧ C' 5 (5 * m + 1) = nI r ∧ C' 5 (5 * m + 2) = nI c ∧ C' 5 (5 * m + 3) = nI k ∧ C' 5 (5 * m + 4) = nI o := by
  unfold f_X0_writeMove f_X0_writeMove_71
  rw [hm]
  have G : ∀ a b : Int32, ∃ C' : Mem, C' = mr (mr (mr C 5 (upd (upd (upd (C 5) (5 * m) (nI κ)) (5 * m + 1) (nI r)) (5 * m + 2) (nI c))) 5 (upd (upd (upd (upd (upd (C 5) (5 * m) (nI κ)) (5 * m + 1) (nI r)) (5 * m + 2) (nI c)) (5 * m + 3) a) (5 * m + 4) b)) 0 (fu (C 0) 8 (nI (m + 1))) ∧ C' 0 8 = nI (m + 1) ∧ (∀ j, j ≠ 8 → C' 0 j = C 0 j) ∧ (∀ q, q ≠ 0 → q ≠ 5 → C' q = C q) ∧ (∀ j, j < 5 * m → C' 5 j = C 5 j) ∧ C' 5 (5 * m) = nI κ ∧ C' 5 (5 * m + 1) = nI r ∧ C' 5 (5 * m + 2) = nI c ∧ C' 5 (5 * m + 3) = a ∧ C' 5 (5 * m + 4) = b := fun a b => by
    refine ⟨_, rfl, ?_, fun j hj => ?_, fun q h0 h5 => ?_, fun j hj => ?_, ?_, ?_, ?_, ?_, ?_⟩
    all_goals simp (disch := omega) only [at1_same, at1_ne, pk_us, pk_un]
  by_cases h4 : κ = 4
  · subst h4
    obtain ⟨C', e, g⟩ := G (nI k) (nI o)
    refine ⟨C', ?_, g⟩
    simp (disch := omega) only [l_0, l_1, l_2, l_3, l_4, l_5, l_6, l_7, l_8, l_9, l_10, l_12, l_20, l_24, l_25, l_31, l_32, l_48, l_50, l_56, l_57, l_59, l_97, l_99, l_100, l_120, l_122, l_177, l_178, l_201, l_226, l_255, l_400, l_420, l_600, l_700, l_840, l_1000, l_1300, l_2000, l_1000000, nI_add, mr4, ml4, mr5, ml5, mr6, ml6, mr10, ml10, mr24, ml24, mr201, ml201, mr420, ml420, mr226, ml226, mr2, ml2, nI_clamp, lt_T, lt_F, le_T, le_F, eq_T, eq_F, ck_n, dv_n, cp_n, rem_n, pk_div, at1_same, at1_ne, cb_n, Option.bind_some, if_pos, if_neg, ↓reduceIte, and_self, and_true, true_and, and_false, false_and, not_true_eq_false, not_false_eq_true, nI_sub', hm]
    rw [e]
  · have ho' := ho h4
    subst ho'
    by_cases h2 : κ = 2
    · have hk' := hk (.inl h2)
      subst hk' h2
      obtain ⟨C', e, g⟩ := G (nI 0) (nI 0)
      refine ⟨C', ?_, g⟩
      simp (disch := omega) only [l_0, l_1, l_2, l_3, l_4, l_5, l_6, l_7, l_8, l_9, l_10, l_12, l_20, l_24, l_25, l_31, l_32, l_48, l_50, l_56, l_57, l_59, l_97, l_99, l_100, l_120, l_122, l_177, l_178, l_201, l_226, l_255, l_400, l_420, l_600, l_700, l_840, l_1000, l_1300, l_2000, l_1000000, nI_add, mr4, ml4, mr5, ml5, mr6, ml6, mr10, ml10, mr24, ml24, mr201, ml201, mr420, ml420, mr226, ml226, mr2, ml2, nI_clamp, lt_T, lt_F, le_T, le_F, eq_T, eq_F, ck_n, dv_n, cp_n, rem_n, pk_div, at1_same, at1_ne, cb_n, Option.bind_some, if_pos, if_neg, ↓reduceIte, and_self, and_true, true_and, and_false, false_and, not_true_eq_false, not_false_eq_true, nI_sub', hm]
      rw [e]
    · by_cases h3 : κ = 3
      · have hk' := hk (.inr h3)
        subst hk' h3
        obtain ⟨C', e, g⟩ := G (nI 0) (nI 0)
        refine ⟨C', ?_, g⟩
        simp (disch := omega) only [l_0, l_1, l_2, l_3, l_4, l_5, l_6, l_7, l_8, l_9, l_10, l_12, l_20, l_24, l_25, l_31, l_32, l_48, l_50, l_56, l_57, l_59, l_97, l_99, l_100, l_120, l_122, l_177, l_178, l_201, l_226, l_255, l_400, l_420, l_600, l_700, l_840, l_1000, l_1300, l_2000, l_1000000, nI_add, mr4, ml4, mr5, ml5, mr6, ml6, mr10, ml10, mr24, ml24, mr201, ml201, mr420, ml420, mr226, ml226, mr2, ml2, nI_clamp, lt_T, lt_F, le_T, le_F, eq_T, eq_F, ck_n, dv_n, cp_n, rem_n, pk_div, at1_same, at1_ne, cb_n, Option.bind_some, if_pos, if_neg, ↓reduceIte, and_self, and_true, true_and, and_false, false_and, not_true_eq_false, not_false_eq_true, nI_sub', hm]
        rw [e]
      · obtain ⟨C', e, g⟩ := G (nI k) (nI 0)
        refine ⟨C', ?_, g⟩
        simp (disch := omega) only [l_0, l_1, l_2, l_3, l_4, l_5, l_6, l_7, l_8, l_9, l_10, l_12, l_20, l_24, l_25, l_31, l_32, l_48, l_50, l_56, l_57, l_59, l_97, l_99, l_100, l_120, l_122, l_177, l_178, l_201, l_226, l_255, l_400, l_420, l_600, l_700, l_840, l_1000, l_1300, l_2000, l_1000000, nI_add, mr4, ml4, mr5, ml5, mr6, ml6, mr10, ml10, mr24, ml24, mr201, ml201, mr420, ml420, mr226, ml226, mr2, ml2, nI_clamp, lt_T, lt_F, le_T, le_F, eq_T, eq_F, ck_n, dv_n, cp_n, rem_n, pk_div, at1_same, at1_ne, cb_n, Option.bind_some, if_pos, if_neg, ↓reduceIte, and_self, and_true, true_and, and_false, false_and, not_true_eq_false, not_false_eq_true, nI_sub', hm]
        rw [e]
theorem StC_mv {C C1 C' : Mem} {σ : Sg} {κ r c k o A B : Nat} {x y : Int} (hC : StC C σ) (hs : okS σ) (hm : σ 56 < 24) (f : fitC (sg8 σ) A B x y) (be : B = A → y = 0) (a1 : CeC C1 (apE (sg8 σ) A B x y 1)) (a2 : ∀ q, q ≠ 3 → C1 q = C q)
    (w : C' 0 8 = nI (σ 56 + 1) ∧ (∀ j, j ≠ 8 → C' 0 j = C1 0 j) ∧ (∀ q, q ≠ 0 → q ≠ 5 → C' q = C1 q) ∧ (∀ j, j < 5 * σ 56 → C' 5 j = C1 5 j) ∧ C' 5 (5 * σ 56) = nI κ ∧ C' 5 (5 * σ 56 + 1) = nI r ∧ C' 5 (5 * σ 56 + 2) = nI c ∧ C' 5 (5 * σ 56 + 3) = nI k ∧ C' 5 (5 * σ 56 + 4) = nI o) : StC C' (mvS σ κ r c k o A B x y) := by
  obtain ⟨w0, w1, w2, w3, w4, w5, w6, w7, w8⟩ := w
  have h0 := kC hs
  refine ⟨?_, ?_, ?_, ?_, fun j hj => ?_, fun j hj => ?_, fun j hj => ?_, fun j hj => ?_⟩
  · rw [w1 6 (by decide), a2 0 (by decide), mv_lo (by omega)]; exact cC hC
  · rw [w1 7 (by decide), a2 0 (by decide), mv_lo (by omega)]; exact cR hC
  · rw [w0, mv_56]
  · rw [w1 9 (by decide), a2 0 (by decide), mv_si hm (by omega)]; exact cSe hC
  · rw [mv_lo (by omega)] at hj
    rw [w2 1 (by decide) (by decide), w2 2 (by decide) (by decide), a2 1 (by decide), a2 2 (by decide), mv_lo (by omega), mv_wo (by omega)]
    exact ⟨cRt hC hj, cWo hC hj⟩
  · rw [w2 3 (by decide) (by decide), w2 4 (by decide) (by decide), a2 4 (by decide), mv_ce hj, mv_be hj, a1 j hj]
    exact ⟨nI_of0 (ap_ok hs f be hj).1, cBe hC hj⟩
  · rw [mv_56] at hj
    by_cases q : j < 5 * σ 56
    · rw [w3 j q, a2 5 (by decide), mv_lg q]; exact cLo hC q
    · rcases (by omega : j = 5 * σ 56 ∨ j = 5 * σ 56 + 1 ∨ j = 5 * σ 56 + 2 ∨ j = 5 * σ 56 + 3 ∨ j = 5 * σ 56 + 4) with rfl | rfl | rfl | rfl | rfl
      · rw [w4, mv_0]
      · rw [w5, ← Nat.add_assoc, mv_1]
      · rw [w6, ← Nat.add_assoc, mv_2]
      · rw [w7, ← Nat.add_assoc, mv_3]
      · rw [w8, ← Nat.add_assoc, mv_4]
  · rw [mv_si hm (by omega)] at hj
    rw [w2 6 (by decide) (by decide), a2 6 (by decide), mv_si hm (by omega)]; exact cSi hC hj
def tkS (σ : Sg) (ce : Nat → Int) : Sg := fun j => if 8 ≤ j ∧ j < 32 then (ce (j - 8)).toNat else σ j
theorem g_takesNow {M : Mem} {LM : MemL} {σ : Sg} {ce : Nat → Int} (hM : StM M σ) (hc : CeM M ce) (h0 : ∀ j, j < 24 → 0 ≤ ce j) {F : Nat} (hF : 10000 ≤ F) : ∃ M', f_X10_takesNow F M LM = some M' ∧ StM M' (tkS σ ce) ∧ ∀ c, c ≠ 1 → M' c = M c := by
  have := fill_up (f_X10_takesNow_2 F LM (fun M_29 => some M_29)) (fun M_29 => some M_29) 1 0 8 0 24 (fun j => M 4 (j - 8)) M (fun n i N _ hi hN => by
      rw [f_X10_takesNow_2]
      have e : N 4 = M 4 := Fl_c hN (by decide)
      have e2 : 8 + i - 8 = i := by omega
      rw [e]
      simp only [Nat.zero_add]
      simp (disch := omega) only [l_0, l_1, l_2, l_3, l_4, l_5, l_6, l_7, l_8, l_9, l_10, l_12, l_20, l_24, l_25, l_31, l_32, l_48, l_50, l_56, l_57, l_59, l_97, l_99, l_100, l_120, l_122, l_177, l_178, l_201, l_226, l_255, l_400, l_420, l_600, l_700, l_840, l_1000, l_1300, l_2000, l_1000000, nI_add, mr4, ml4, mr5, ml5, mr6, ml6, mr10, ml10, mr24, ml24, mr201, ml201, mr420, ml420, mr226, ml226, mr2, ml2, nI_clamp, lt_T, lt_F, le_T, le_F, eq_T, eq_F, ck_n, dv_n, cp_n, rem_n, pk_div, at1_same, at1_ne, cb_n, Option.bind_some, if_pos, if_neg, ↓reduceIte, and_self, and_true, true_and, and_false, false_and, not_true_eq_false, not_false_eq_true, nI_sub', e2]) (fun n N hN => by
      rw [f_X10_takesNow_2]
      simp (disch := omega) only [l_0, l_1, l_2, l_3, l_4, l_5, l_6, l_7, l_8, l_9, l_10, l_12, l_20, l_24, l_25, l_31, l_32, l_48, l_50, l_56, l_57, l_59, l_97, l_99, l_100, l_120, l_122, l_177, l_178, l_201, l_226, l_255, l_400, l_420, l_600, l_700, l_840, l_1000, l_1300, l_2000, l_1000000, nI_add, mr4, ml4, mr5, ml5, mr6, ml6, mr10, ml10, mr24, ml24, mr201, ml201, mr420, ml420, mr226, ml226, mr2, ml2, nI_clamp, lt_T, lt_F, le_T, le_F, eq_T, eq_F, ck_n, dv_n, cp_n, rem_n, pk_div, at1_same, at1_ne, cb_n, Option.bind_some, if_pos, if_neg, ↓reduceIte, and_self, and_true, true_and, and_false, false_and, not_true_eq_false, not_false_eq_true, nI_sub']) 24 0 F M (by omega) (by omega) (by omega) (Fl_0 M 1 _ _)
  obtain ⟨M', m1, m2⟩ := this
  refine ⟨M', m1, fun j hj => ?_, fun c hc => Fl_c m2 hc⟩
  rw [m2.2 j]
  unfold tkS
  by_cases q : 8 ≤ j ∧ j < 32
  · rw [if_pos (by omega), if_pos q]
    show M 4 (j - 8) = _
    rw [hc (j - 8) (by omega)]
    exact nI_of0 (h0 _ (by omega))
  · rw [if_neg (by omega), if_neg q]
    exact hM j hj
theorem mv_eq {σ : Sg} {κ r c k o A B : Nat} {x y : Int} {s : Nat → Int32} (hs : ∀ j, j < 226 → s j = nI (tkS σ (apE (sg8 σ) A B x y 1) j)) : ∀ j, j < 226 → upd (upd (upd (upd (upd (upd s (57 + 5 * σ 56) (nI κ)) (57 + 5 * σ 56 + 1) (nI r)) (57 + 5 * σ 56 + 2) (nI c)) (57 + 5 * σ 56 + 3) (nI k)) (57 + 5 * σ 56 + 4) (nI o)) 56 (nI (σ 56 + 1)) j = nI (mvS σ κ r c k o A B x y j) := fun j hj => by
  have hj' := hs j hj
  rcases (by omega : j = 56 ∨ j = 57 + 5 * σ 56 ∨ j = 57 + 5 * σ 56 + 1 ∨ j = 57 + 5 * σ 56 + 2 ∨ j = 57 + 5 * σ 56 + 3 ∨ j = 57 + 5 * σ 56 + 4 ∨ (j ≠ 56 ∧ j ≠ 57 + 5 * σ 56 ∧ j ≠ 57 + 5 * σ 56 + 1 ∧ j ≠ 57 + 5 * σ 56 + 2 ∧ j ≠ 57 + 5 * σ 56 + 3 ∧ j ≠ 57 + 5 * σ 56 + 4)) with rfl | rfl | rfl | rfl | rfl | rfl | ⟨q0, q1, q2, q3, q4, q5⟩
  · rw [pk_us, mv_56]
  · simp (disch := omega) only [pk_us, pk_un]
    rw [mv_0]
  · simp (disch := omega) only [pk_us, pk_un]
    rw [mv_1]
  · simp (disch := omega) only [pk_us, pk_un]
    rw [mv_2]
  · simp (disch := omega) only [pk_us, pk_un]
    rw [mv_3]
  · simp (disch := omega) only [pk_us, pk_un]
    rw [mv_4]
  · simp (disch := omega) only [pk_us, pk_un]
    rw [hj']
    unfold mvS tkS
    rw [if_neg q0, if_neg q1, if_neg q2, if_neg q3, if_neg q4, if_neg q5]
theorem m_moves {M T C H Y N S E X0 : Mem} {LM : MemL} {Ks : Nat → Mem} {σ : Sg} {a : Nat} {h : Nat → Sg} (ra : Ra M T C H Ks σ a h) {F : Nat} (hF : 10000 ≤ F) {κ : Nat} (hκ : κ ≤ 4) {r c k oz : Int} (r1 : -2147483648 ≤ r) (r2 : r < 2147483648) (c1 : -2147483648 ≤ c) (c2 : c < 2147483648) (k1 : -2147483648 ≤ k) (k2 : k < 2147483648) (o1 : -2147483648 ≤ oz) (o2 : oz < 2147483648) (ho : κ ≠ 4 → oz = 0) (hk : κ = 2 ∨ κ = 3 → k = 0) :
    (∃ E' M', f_X9_makeMove F X0 C H Y N S E Ks (nI κ) (zI r) (zI oz) (zI c) (zI k) = some (nI 0, C, H, Y, N, S, E', Ks) ∧ f_X10_moves F M LM (nI κ) (zI r) (zI c) (zI k) (zI oz) = some (zI (-1), M') ∧ Pm M M') ∨
    (∃ C' H' Y' N' S' E' Ks' M' σ' ρ γ, f_X9_makeMove F X0 C H Y N S E Ks (nI κ) (zI r) (zI oz) (zI c) (zI k) = some (nI 1, C', H', Y', N', S', E', Ks') ∧ f_X10_moves F M LM (nI κ) (zI r) (zI c) (zI k) (zI oz) = some (nI (σ' (8 + (6 * ρ + γ))), M') ∧ Ra M' T C' H' Ks' σ' (dp1 a) (hpush σ h) ∧ Fg Y' N' S' ∧ zI (if κ = 4 then oz else r) = nI ρ ∧ zI c = nI γ ∧ ρ < 4 ∧ γ < 6) := by
  obtain ⟨hC, hM, hs, -⟩ := id ra
  have h0 := kC hs
  have h1 := kR hs
  have h5 := kMv hs
  unfold f_X9_makeMove f_X10_moves
  rw [cMv hC]
  by_cases hm : σ 56 = 24
  · left
    have e0 : M 1 56 = nI 24 := by rw [← hm]; exact hM 56 (by omega)
    refine ⟨E, M, ?_, ?_, Pm_rfl M⟩
    · rw [hm, l_24, if_pos (nI_le (by omega) (by omega))]
      rfl
    · simp (disch := omega) only [l_0, l_1, l_2, l_3, l_4, l_5, l_6, l_7, l_8, l_9, l_10, l_12, l_20, l_24, l_25, l_31, l_32, l_48, l_50, l_56, l_57, l_59, l_97, l_99, l_100, l_120, l_122, l_177, l_178, l_201, l_226, l_255, l_400, l_420, l_600, l_700, l_840, l_1000, l_1300, l_2000, l_1000000, nI_add, mr4, ml4, mr5, ml5, mr6, ml6, mr10, ml10, mr24, ml24, mr201, ml201, mr420, ml420, mr226, ml226, mr2, ml2, nI_clamp, lt_T, lt_F, le_T, le_F, eq_T, eq_F, ck_n, dv_n, cp_n, rem_n, pk_div, at1_same, at1_ne, cb_n, Option.bind_some, if_pos, if_neg, ↓reduceIte, and_self, and_true, true_and, and_false, false_and, not_true_eq_false, not_false_eq_true, nI_sub', e0]
      rfl
  · have hm' : σ 56 < 24 := by omega
    rcases m_can0 (E := E) (LM := LM) hC hM hs hF (κ := (κ : Int)) (by omega) (by omega) r1 r2 c1 c2 k1 k2 o1 o2 with ⟨A, B, x, y, E', M1, hE, ft, d1, d2, d3, d4, d5, p1⟩ | ⟨E', M1, d1, d3, p1⟩
    · right
      obtain ⟨bA, bB, bx1, bx2, by1, by2, be⟩ := Ef_b hs hE
      have hE0 := hE
      unfold Ef at hE0
      obtain ⟨r, rfl⟩ := Int.eq_ofNat_of_zero_le hE0.1
      obtain ⟨c, rfl⟩ := Int.eq_ofNat_of_zero_le hE0.2.2.1
      obtain ⟨k, rfl⟩ : ∃ n : Nat, k = (n : Int) := ⟨k.toNat, by omega⟩
      obtain ⟨o, rfl⟩ : ∃ n : Nat, oz = (n : Int) := ⟨oz.toNat, by omega⟩
      simp only [zI_c] at d1 d3 ⊢
      have ra1 := Ra_m p1 ra
      obtain ⟨H', Y', N', S', Ks', M2, b1, b2, b3, b4, -, -, b5, b6⟩ := m_begin (X0 := X0) (Y := Y) (N := N) (S := S) (LM := LM) ra1 hF
      have sp2 : Sp M2 A B x y := by
        unfold Sp at d4 ⊢
        rw [b6 6 (by decide), b6 7 (by decide), b6 8 (by decide), b6 9 (by decide)]
        exact d4
      have ce2 : CeM M2 (sg8 σ) := fun j hj => by rw [b5 4 (by decide) (by decide)]; exact d5 j hj
      obtain ⟨M3, g1, g2, g3⟩ := g_goes (LM := LM) ce2 sp2 bA bB 1 F
      have hM3 : StM M3 σ := fun j hj => by rw [g3 1 (by decide)]; exact b3.2.1 j hj
      obtain ⟨M4, t1, t2, t3⟩ := g_takesNow (LM := LM) hM3 g2 (fun j hj => (ap_ok hs ft be hj).1) hF
      obtain ⟨C1, a1, a2, a3⟩ := h_apply (CeC_8 hC) d2 bA bB F
      have c8 : C1 0 8 = nI (σ 56) := by rw [a3 0 (by decide)]; exact cMv hC
      obtain ⟨C', w1, w2⟩ := h_writeMove (r := r) (o := o) (c := c) (k := k) c8 hm' hκ (by omega) (by omega) F
      have hs' := okS_mv (k := k) (o := o) hs hm' hE ft (by omega) (by omega)
      have hC' := StC_mv hC hs hm' ft be a2 a3 w2
      have m56 : M4 1 56 = nI (σ 56) := t2 56 (by omega)
      have mev := mv_eq (σ := σ) (κ := κ) (r := r) (c := c) (k := k) (o := o) (A := A) (B := B) (x := x) (y := y) t2
      have q4 : Pq M2 M4 := ⟨by rw [t3 3 (by decide), g3 3 (by decide)], by rw [t3 21 (by decide), g3 21 (by decide)], by rw [t3 22 (by decide), g3 22 (by decide)], by rw [t3 0 (by decide), g3 0 (by decide)], by rw [t3 0 (by decide), g3 0 (by decide)]⟩
      refine ⟨C', H', Y', N', S', E', Ks', mr M4 1 (upd (upd (upd (upd (upd (upd (M4 1) (57 + 5 * σ 56) (nI κ)) (57 + 5 * σ 56 + 1) (nI r)) (57 + 5 * σ 56 + 2) (nI c)) (57 + 5 * σ 56 + 3) (nI k)) (57 + 5 * σ 56 + 4) (nI o)) 56 (nI (σ 56 + 1))), mvS σ κ r c k o A B x y, if κ = 4 then o else r, c, ?_, ?_, ?_, b4, ?_, rfl, ?_, by omega⟩
      · simp (disch := omega) only [l_0, l_1, l_2, l_3, l_4, l_5, l_6, l_7, l_8, l_9, l_10, l_12, l_20, l_24, l_25, l_31, l_32, l_48, l_50, l_56, l_57, l_59, l_97, l_99, l_100, l_120, l_122, l_177, l_178, l_201, l_226, l_255, l_400, l_420, l_600, l_700, l_840, l_1000, l_1300, l_2000, l_1000000, nI_add, mr4, ml4, mr5, ml5, mr6, ml6, mr10, ml10, mr24, ml24, mr201, ml201, mr420, ml420, mr226, ml226, mr2, ml2, nI_clamp, lt_T, lt_F, le_T, le_F, eq_T, eq_F, ck_n, dv_n, cp_n, rem_n, pk_div, at1_same, at1_ne, cb_n, Option.bind_some, if_pos, if_neg, ↓reduceIte, and_self, and_true, true_and, and_false, false_and, not_true_eq_false, not_false_eq_true, nI_sub', d1, b1, a1, w1]
      · have e56 : M 1 56 = nI (σ 56) := hM 56 (by omega)
        have g1' : f_X10_goes F M2 LM (nI 1) = some M3 := g1
        have rd : ∀ ρ, ρ < 4 → M4 1 (8 + (6 * ρ + c)) = nI (mvS σ κ r c k o A B x y (8 + (6 * ρ + c))) := fun ρ hρ => by
          have := mev (8 + (6 * ρ + c)) (by omega)
          simp (disch := omega) only [pk_un] at this
          exact this
        unfold f_X10_now f_X10_cell
        by_cases hκ4 : κ = 4
        · subst hκ4
          simp (disch := omega) only [l_0, l_1, l_2, l_3, l_4, l_5, l_6, l_7, l_8, l_9, l_10, l_12, l_20, l_24, l_25, l_31, l_32, l_48, l_50, l_56, l_57, l_59, l_97, l_99, l_100, l_120, l_122, l_177, l_178, l_201, l_226, l_255, l_400, l_420, l_600, l_700, l_840, l_1000, l_1300, l_2000, l_1000000, nI_add, mr4, ml4, mr5, ml5, mr6, ml6, mr10, ml10, mr24, ml24, mr201, ml201, mr420, ml420, mr226, ml226, mr2, ml2, nI_clamp, lt_T, lt_F, le_T, le_F, eq_T, eq_F, ck_n, dv_n, cp_n, rem_n, pk_div, at1_same, at1_ne, cb_n, Option.bind_some, if_pos, if_neg, ↓reduceIte, and_self, and_true, true_and, and_false, false_and, not_true_eq_false, not_false_eq_true, nI_sub', e56, d3, b2, g1', t1, m56, rd, pk_us, pk_un]
        · simp (disch := omega) only [l_0, l_1, l_2, l_3, l_4, l_5, l_6, l_7, l_8, l_9, l_10, l_12, l_20, l_24, l_25, l_31, l_32, l_48, l_50, l_56, l_57, l_59, l_97, l_99, l_100, l_120, l_122, l_177, l_178, l_201, l_226, l_255, l_400, l_420, l_600, l_700, l_840, l_1000, l_1300, l_2000, l_1000000, nI_add, mr4, ml4, mr5, ml5, mr6, ml6, mr10, ml10, mr24, ml24, mr201, ml201, mr420, ml420, mr226, ml226, mr2, ml2, nI_clamp, lt_T, lt_F, le_T, le_F, eq_T, eq_F, ck_n, dv_n, cp_n, rem_n, pk_div, at1_same, at1_ne, cb_n, Option.bind_some, if_pos, if_neg, ↓reduceIte, and_self, and_true, true_and, and_false, false_and, not_true_eq_false, not_false_eq_true, nI_sub', e56, d3, b2, g1', t1, m56, rd, pk_us, pk_un]
      · exact Ra_to b3 (Pq_tr q4 (Pq_k M4 _ (by decide) (by decide) (by decide) (by decide))) hC' (fun j hj => by rw [mr_s]; exact mev j hj) hs'
      · by_cases hκ4 : κ = 4
        · rw [if_pos hκ4, if_pos hκ4, zI_c]
        · rw [if_neg hκ4, if_neg hκ4, zI_c]
      · by_cases hκ4 : κ = 4
        · rw [if_pos hκ4]; omega
        · rw [if_neg hκ4]; omega
    · left
      simp only [zI_c] at d1 d3
      refine ⟨E', M1, ?_, ?_, p1⟩
      · simp (disch := omega) only [l_0, l_1, l_2, l_3, l_4, l_5, l_6, l_7, l_8, l_9, l_10, l_12, l_20, l_24, l_25, l_31, l_32, l_48, l_50, l_56, l_57, l_59, l_97, l_99, l_100, l_120, l_122, l_177, l_178, l_201, l_226, l_255, l_400, l_420, l_600, l_700, l_840, l_1000, l_1300, l_2000, l_1000000, nI_add, mr4, ml4, mr5, ml5, mr6, ml6, mr10, ml10, mr24, ml24, mr201, ml201, mr420, ml420, mr226, ml226, mr2, ml2, nI_clamp, lt_T, lt_F, le_T, le_F, eq_T, eq_F, ck_n, dv_n, cp_n, rem_n, pk_div, at1_same, at1_ne, cb_n, Option.bind_some, if_pos, if_neg, ↓reduceIte, and_self, and_true, true_and, and_false, false_and, not_true_eq_false, not_false_eq_true, nI_sub', d1]
      · have e56 : M 1 56 = nI (σ 56) := hM 56 (by omega)
        simp (disch := omega) only [l_0, l_1, l_2, l_3, l_4, l_5, l_6, l_7, l_8, l_9, l_10, l_12, l_20, l_24, l_25, l_31, l_32, l_48, l_50, l_56, l_57, l_59, l_97, l_99, l_100, l_120, l_122, l_177, l_178, l_201, l_226, l_255, l_400, l_420, l_600, l_700, l_840, l_1000, l_1300, l_2000, l_1000000, nI_add, mr4, ml4, mr5, ml5, mr6, ml6, mr10, ml10, mr24, ml24, mr201, ml201, mr420, ml420, mr226, ml226, mr2, ml2, nI_clamp, lt_T, lt_F, le_T, le_F, eq_T, eq_F, ck_n, dv_n, cp_n, rem_n, pk_div, at1_same, at1_ne, cb_n, Option.bind_some, if_pos, if_neg, ↓reduceIte, and_self, and_true, true_and, and_false, false_and, not_true_eq_false, not_false_eq_true, nI_sub', e56, d3, n_neg]
        rfl
/-! what an act of the class and of the reference leaves -/
def Out (M T C H Y N S : Mem) (Ks : Nat → Mem) (M' C' H' Y' N' S' : Mem) (Ks' : Nat → Mem) : Prop := (C' = C ∧ H' = H ∧ Y' = Y ∧ N' = N ∧ S' = S ∧ Ks' = Ks ∧ Pm M M') ∨ ∃ σ' a' h', Ra M' T C' H' Ks' σ' a' h' ∧ Fg Y' N' S'
theorem m_put0 {M T C H Y N S E X0 : Mem} {LM : MemL} {Ks : Nat → Mem} {σ : Sg} {a : Nat} {h : Nat → Sg} (ra : Ra M T C H Ks σ a h) {F : Nat} (hF : 10000 ≤ F) {κ : Nat} (hκ : κ ≤ 1) (x2 x3 x4 : Int32) : ∃ v C' H' Y' N' S' E' Ks' M', f_X9_put_10 F X0 C H Y N S E Ks x2 x3 x4 (nI κ) = some (v, C', H', Y', N', S', E', Ks') ∧ f_X10_put_10 F M LM x2 x3 x4 (nI κ) = some (v, M') ∧ Out M T C H Y N S Ks M' C' H' Y' N' S' Ks' := by
  obtain ⟨r, r1, r2, rfl⟩ := zI_of x2
  obtain ⟨c, c1, c2, rfl⟩ := zI_of x3
  obtain ⟨k, k1, k2, rfl⟩ := zI_of x4
  have z0 : (0 : Int32) = zI 0 := rfl
  unfold f_X9_put_10 f_X10_put_10
  rw [z0]
  rcases m_moves (X0 := X0) (Y := Y) (N := N) (S := S) (E := E) (LM := LM) ra hF (κ := κ) (by omega) r1 r2 c1 c2 k1 k2 (oz := 0) (by omega) (by omega) (fun _ => rfl) (by omega) with ⟨E', M', e1, e2, p⟩ | ⟨C', H', Y', N', S', E', Ks', M', σ', ρ, γ, e1, e2, ra', fg, e3, e4, hρ, hγ⟩
  · rw [e1, e2]
    simp only [Option.bind_some]
    rw [if_pos (show nI 0 = zI 0 from rfl)]
    exact ⟨_, _, _, _, _, _, _, _, _, rfl, rfl, .inl ⟨rfl, rfl, rfl, rfl, rfl, rfl, p⟩⟩
  · rw [if_neg (by omega)] at e3
    rw [e1, e2]
    simp only [Option.bind_some]
    rw [if_neg (show ¬ nI 1 = zI 0 by decide), e3, e4, h_cellAt ra'.1 F hρ hγ, Nat.add_assoc]
    exact ⟨_, _, _, _, _, _, _, _, _, rfl, rfl, .inr ⟨_, _, _, ra', fg⟩⟩
theorem m_put {M T C H Y N S E X0 : Mem} {LM : MemL} {Ks : Nat → Mem} {σ : Sg} {a : Nat} {h : Nat → Sg} (ra : Ra M T C H Ks σ a h) {F : Nat} (hF : 10000 ≤ F) (x1 x2 x3 x4 : Int32) : ∃ v C' H' Y' N' S' E' Ks' M', f_X9_put F X0 C H Y N S E Ks x1 x2 x3 x4 = some (v, C', H', Y', N', S', E', Ks') ∧ f_X10_put F M LM x1 x2 x3 x4 = some (v, M') ∧ Out M T C H Y N S Ks M' C' H' Y' N' S' Ks' := by
  unfold f_X9_put f_X10_put
  by_cases q : x1 = 0
  · rw [if_pos q, if_pos q]
    exact m_put0 ra hF (κ := 0) (by omega) x2 x3 x4
  · rw [if_neg q, if_neg q]
    exact m_put0 ra hF (κ := 1) (by omega) x2 x3 x4
theorem m_carry0 {M T C H Y N S E X0 : Mem} {LM : MemL} {Ks : Nat → Mem} {σ : Sg} {a : Nat} {h : Nat → Sg} (ra : Ra M T C H Ks σ a h) {F : Nat} (hF : 10000 ≤ F) {κ : Nat} (hκ : κ = 2 ∨ κ = 3) (x2 x3 : Int32) : ∃ v C' H' Y' N' S' E' Ks' M', f_X9_carry_10 F X0 C H Y N S E Ks x2 x3 (nI κ) = some (v, C', H', Y', N', S', E', Ks') ∧ f_X10_carry_10 F M LM x2 x3 (nI κ) = some (v, M') ∧ Out M T C H Y N S Ks M' C' H' Y' N' S' Ks' := by
  obtain ⟨r, r1, r2, rfl⟩ := zI_of x2
  obtain ⟨c, c1, c2, rfl⟩ := zI_of x3
  have z0 : (0 : Int32) = zI 0 := rfl
  unfold f_X9_carry_10 f_X10_carry_10
  rw [z0]
  rcases m_moves (X0 := X0) (Y := Y) (N := N) (S := S) (E := E) (LM := LM) ra hF (κ := κ) (by omega) r1 r2 c1 c2 (k := 0) (by omega) (by omega) (oz := 0) (by omega) (by omega) (fun _ => rfl) (fun _ => rfl) with ⟨E', M', e1, e2, p⟩ | ⟨C', H', Y', N', S', E', Ks', M', σ', ρ, γ, e1, e2, ra', fg, e3, e4, hρ, hγ⟩
  · rw [e1, e2]
    simp only [Option.bind_some]
    rw [if_pos (show nI 0 = zI 0 from rfl)]
    exact ⟨_, _, _, _, _, _, _, _, _, rfl, rfl, .inl ⟨rfl, rfl, rfl, rfl, rfl, rfl, p⟩⟩
  · rw [if_neg (by omega)] at e3
    rw [e1, e2]
    simp only [Option.bind_some]
    rw [if_neg (show ¬ nI 1 = zI 0 by decide), e3, e4, h_cellAt ra'.1 F hρ hγ, Nat.add_assoc]
    exact ⟨_, _, _, _, _, _, _, _, _, rfl, rfl, .inr ⟨_, _, _, ra', fg⟩⟩
theorem m_carry {M T C H Y N S E X0 : Mem} {LM : MemL} {Ks : Nat → Mem} {σ : Sg} {a : Nat} {h : Nat → Sg} (ra : Ra M T C H Ks σ a h) {F : Nat} (hF : 10000 ≤ F) (x1 x2 x3 : Int32) : ∃ v C' H' Y' N' S' E' Ks' M', f_X9_carry F X0 C H Y N S E Ks x1 x2 x3 = some (v, C', H', Y', N', S', E', Ks') ∧ f_X10_carry F M LM x1 x2 x3 = some (v, M') ∧ Out M T C H Y N S Ks M' C' H' Y' N' S' Ks' := by
  unfold f_X9_carry f_X10_carry
  by_cases q : x1 = 0
  · rw [if_pos q, if_pos q]
    exact m_carry0 ra hF (κ := 2) (by omega) x2 x3
  · rw [if_neg q, if_neg q]
    exact m_carry0 ra hF (κ := 3) (by omega) x2 x3
theorem m_shift {M T C H Y N S E X0 : Mem} {LM : MemL} {Ks : Nat → Mem} {σ : Sg} {a : Nat} {h : Nat → Sg} (ra : Ra M T C H Ks σ a h) {F : Nat} (hF : 10000 ≤ F) (x1 x2 x3 x4 : Int32) : ∃ v C' H' Y' N' S' E' Ks' M', f_X9_shift F X0 C H Y N S E Ks x1 x2 x3 x4 = some (v, C', H', Y', N', S', E', Ks') ∧ f_X10_shift F M LM x1 x2 x3 x4 = some (v, M') ∧ Out M T C H Y N S Ks M' C' H' Y' N' S' Ks' := by
  obtain ⟨r, r1, r2, rfl⟩ := zI_of x1
  obtain ⟨o, o1, o2, rfl⟩ := zI_of x2
  obtain ⟨c, c1, c2, rfl⟩ := zI_of x3
  obtain ⟨k, k1, k2, rfl⟩ := zI_of x4
  unfold f_X9_shift f_X10_shift
  rw [l_4]
  rcases m_moves (X0 := X0) (Y := Y) (N := N) (S := S) (E := E) (LM := LM) ra hF (κ := 4) (by omega) r1 r2 c1 c2 k1 k2 o1 o2 (by omega) (by omega) with ⟨E', M', e1, e2, p⟩ | ⟨C', H', Y', N', S', E', Ks', M', σ', ρ, γ, e1, e2, ra', fg, e3, e4, hρ, hγ⟩
  · rw [e1, e2]
    simp only [Option.bind_some]
    rw [if_pos n00]
    exact ⟨_, _, _, _, _, _, _, _, _, rfl, rfl, .inl ⟨rfl, rfl, rfl, rfl, rfl, rfl, p⟩⟩
  · rw [if_pos rfl] at e3
    rw [e1, e2]
    simp only [Option.bind_some]
    rw [if_neg n10, e3, e4, h_cellAt ra'.1 F hρ hγ, Nat.add_assoc]
    exact ⟨_, _, _, _, _, _, _, _, _, rfl, rfl, .inr ⟨_, _, _, ra', fg⟩⟩
