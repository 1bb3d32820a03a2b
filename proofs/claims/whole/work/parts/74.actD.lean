/-! PURE LAYER: drop, see, unsee, slide, strike -/
def drS (σ : Sg) (r : Nat) : Sg := fun j => if j = 1 then σ 1 - 1 else if 8 + 6 * r ≤ j ∧ j < 32 then (if j + 6 < 32 then σ (j + 6) else 0) else σ j
theorem dr_lo {σ : Sg} {r j : Nat} (h : j < 8) (h1 : j ≠ 1) : drS σ r j = σ j := by
  unfold drS
  rw [if_neg h1, if_neg (by omega)]
theorem dr_1 {σ : Sg} {r : Nat} : drS σ r 1 = σ 1 - 1 := if_pos rfl
theorem dr_wo {σ : Sg} {r : Nat} {j : Nat} (h : j < 6) : wo (drS σ r) j = wo σ j := wo_cg j (fun i h1 h2 => dr_lo (by omega) (by omega))
theorem dr_b {σ : Sg} {r j : Nat} (h : j < 6 * r) : drS σ r (8 + j) = σ (8 + j) := by
  unfold drS
  rw [if_neg (by omega), if_neg (by omega)]
theorem dr_m {σ : Sg} {r j : Nat} (h : 6 * r ≤ j) (h2 : j < 18) : drS σ r (8 + j) = σ (8 + (j + 6)) := by
  unfold drS
  rw [if_neg (by omega), if_pos (by omega), if_pos (by omega), Nat.add_assoc]
theorem dr_t {σ : Sg} {r j : Nat} (h : 6 * r ≤ j) (h1 : 18 ≤ j) (h2 : j < 24) : drS σ r (8 + j) = 0 := by
  unfold drS
  rw [if_neg (by omega), if_pos (by omega), if_neg (by omega)]
theorem cell0 {σ : Sg} (hs : okS σ) {j : Nat} (hj : j < 24) (h : 6 * σ 1 ≤ j) : σ (8 + j) = 0 := by
  have e := (okS_B hs).2.2.2.2.2 (j / 6) (j % 6) (by omega) (by omega)
  have e1 : 6 * (j / 6) + j % 6 = j := by omega
  rw [e1] at e
  exact e.2 (by omega)
theorem okB_dr {σ : Sg} {r : Nat} (hs : okS σ) (hr : r < σ 1) : okB (drS σ r) := by
  obtain ⟨s0, s1, s2, s3, s4, s5⟩ := okS_B hs
  have e0 := dr_lo (σ := σ) (r := r) (j := 0) (by omega) (by omega)
  have e2 := dr_lo (σ := σ) (r := r) (j := 2) (by omega) (by omega)
  have e1 := dr_1 (σ := σ) (r := r)
  refine ⟨by omega, by omega, by omega, by omega, fun j h1 h2 => ?_, fun r' c' hr' hc' => ?_⟩
  · rw [e0] at h2
    rw [dr_lo (by omega) (by omega)]; exact s4 j h1 h2
  · rw [e0, e1]
    by_cases q : r' < r
    · rw [dr_b (by omega)]
      have z := s5 r' c' hr' hc'
      exact ⟨z.1, fun w => z.2 (by omega)⟩
    · by_cases q2 : r' < 3
      · rw [dr_m (by omega) (by omega)]
        have z := s5 (r' + 1) c' (by omega) hc'
        have e : 6 * (r' + 1) + c' = 6 * r' + c' + 6 := by omega
        rw [e] at z
        exact ⟨z.1, fun w => z.2 (by omega)⟩
      · rw [dr_t (by omega) (by omega) (by omega)]
        exact ⟨by omega, fun _ => rfl⟩
theorem h_rmLoop {F : Nat} {C0 : Mem} {r m : Nat} (k : Mem → Option Mem) (h7 : C0 0 7 = nI m) (hm : m ≤ 4) (h1 : 1 ≤ m) : ∀ (d i n : Nat) (C : Mem), i + d = m - 1 → r ≤ i → d < n → (∀ c, c ≠ 3 → C c = C0 c) → (∀ j, C 3 j = if 6 * r ≤ j ∧ j < 6 * i then C0 3 (j + 6) else C0 3 j) → ∃ C', f_X0_removeRow_2 F k n C (nI i) = k C' ∧ (∀ c, c ≠ 3 → C' c = C0 c) ∧ ∀ j, C' 3 j = if 6 * r ≤ j ∧ j < 6 * (m - 1) then C0 3 (j + 6) else C0 3 j
  | d, i, 0, C, _, _, h, _, _ => by omega
  | 0, i, n + 1, C, hi, hr, _, hc, hj => by
    obtain rfl : i = m - 1 := by omega
    refine ⟨C, ?_, hc, hj⟩
    rw [f_X0_removeRow_2]
    have e : C 0 7 = nI m := by rw [hc 0 (by decide)]; exact h7
    simp (disch := omega) only [l_0, l_1, l_2, l_3, l_4, l_5, l_6, l_7, l_8, l_9, l_10, l_12, l_20, l_24, l_25, l_31, l_32, l_48, l_50, l_56, l_57, l_59, l_97, l_99, l_100, l_120, l_122, l_177, l_178, l_201, l_226, l_255, l_400, l_420, l_600, l_700, l_840, l_1000, l_1300, l_2000, l_1000000, nI_add, mr4, ml4, mr5, ml5, mr6, ml6, mr10, ml10, mr24, ml24, mr201, ml201, mr420, ml420, mr226, ml226, mr2, ml2, nI_clamp, lt_T, lt_F, le_T, le_F, eq_T, eq_F, ck_n, dv_n, cp_n, rem_n, pk_div, at1_same, at1_ne, cb_n, Option.bind_some, if_pos, if_neg, ↓reduceIte, and_self, and_true, true_and, and_false, false_and, not_true_eq_false, not_false_eq_true, nI_sub', e]
  | d + 1, i, n + 1, C, hi, hr, hn, hc, hj => by
    rw [f_X0_removeRow_2]
    have e : C 0 7 = nI m := by rw [hc 0 (by decide)]; exact h7
    simp (disch := omega) only [l_0, l_1, l_2, l_3, l_4, l_5, l_6, l_7, l_8, l_9, l_10, l_12, l_20, l_24, l_25, l_31, l_32, l_48, l_50, l_56, l_57, l_59, l_97, l_99, l_100, l_120, l_122, l_177, l_178, l_201, l_226, l_255, l_400, l_420, l_600, l_700, l_840, l_1000, l_1300, l_2000, l_1000000, nI_add, mr4, ml4, mr5, ml5, mr6, ml6, mr10, ml10, mr24, ml24, mr201, ml201, mr420, ml420, mr226, ml226, mr2, ml2, nI_clamp, lt_T, lt_F, le_T, le_F, eq_T, eq_F, ck_n, dv_n, cp_n, rem_n, pk_div, at1_same, at1_ne, cb_n, Option.bind_some, if_pos, if_neg, ↓reduceIte, and_self, and_true, true_and, and_false, false_and, not_true_eq_false, not_false_eq_true, nI_sub', e]
    refine h_rmLoop k h7 hm h1 d (i + 1) n _ (by omega) (by omega) (by omega) (fun c q => by rw [mr_n _ _ q]; exact hc c q) (fun j => ?_)
    rw [mr_s, cpy_at]
    by_cases q : 6 * i ≤ j ∧ j < 6 * i + 6
    · rw [if_pos q, hj, if_neg (by omega), if_pos (by omega)]
      congr 1
      omega
    · rw [if_neg q, hj]
      by_cases q2 : 6 * r ≤ j ∧ j < 6 * i
      · rw [if_pos q2, if_pos (by omega)]
      · rw [if_neg q2, if_neg (by omega)]
theorem h_removeRow {C : Mem} {σ : Sg} (hC : StC C σ) (hs : okS σ) {r : Nat} (hr : r < σ 1) {F : Nat} (hF : 10 ≤ F) : ∃ C', f_X0_removeRow F C (nI r) = some C' ∧ StB C' (drS σ r) := by
  have h0 := kC hs
  have h1 := kR hs
  unfold f_X0_removeRow
  obtain ⟨C1, a1, a2, a3⟩ := h_rmLoop (F := F) (r := r) (m := σ 1) (fun C_41 => (f_X0_emptyRow F C_41 ((C_41 0 7) - 1)).bind (fun z48 => (some (mr z48 0 (fu (z48 0) 7 ((z48 0 7) - 1)))))) (cR hC) h1 (by omega) (σ 1 - 1 - r) r F C (by omega) (by omega) (by omega) (fun _ _ => rfl) (fun j => by rw [if_neg (by omega)])
  have e7 : C1 0 7 - 1 = nI (σ 1 - 1) := by
    rw [a2 0 (by decide), cR hC]
    exact nI_sub' (b := 1) (by omega)
  obtain ⟨C2, b1, b2⟩ := fill_up (f_X0_emptyRow_2 F (nI (σ 1 - 1)) (fun C_26 => (some C_26))) (fun C_26 => (some C_26)) 3 0 (6 * (σ 1 - 1)) 0 6 (fun _ => nI 0) C1 (fun n i N _ hi hN => by
    rw [f_X0_emptyRow_2]
    simp only [Nat.zero_add]
    simp (disch := omega) only [l_0, l_1, l_2, l_3, l_4, l_5, l_6, l_7, l_8, l_9, l_10, l_12, l_20, l_24, l_25, l_31, l_32, l_48, l_50, l_56, l_57, l_59, l_97, l_99, l_100, l_120, l_122, l_177, l_178, l_201, l_226, l_255, l_400, l_420, l_600, l_700, l_840, l_1000, l_1300, l_2000, l_1000000, nI_add, mr4, ml4, mr5, ml5, mr6, ml6, mr10, ml10, mr24, ml24, mr201, ml201, mr420, ml420, mr226, ml226, mr2, ml2, nI_clamp, lt_T, lt_F, le_T, le_F, eq_T, eq_F, ck_n, dv_n, cp_n, rem_n, pk_div, at1_same, at1_ne, cb_n, Option.bind_some, if_pos, if_neg, ↓reduceIte, and_self, and_true, true_and, and_false, false_and, not_true_eq_false, not_false_eq_true, nI_sub']) (fun n N hN => by
    rw [f_X0_emptyRow_2]
    simp only [Nat.zero_add]
    simp (disch := omega) only [l_0, l_1, l_2, l_3, l_4, l_5, l_6, l_7, l_8, l_9, l_10, l_12, l_20, l_24, l_25, l_31, l_32, l_48, l_50, l_56, l_57, l_59, l_97, l_99, l_100, l_120, l_122, l_177, l_178, l_201, l_226, l_255, l_400, l_420, l_600, l_700, l_840, l_1000, l_1300, l_2000, l_1000000, nI_add, mr4, ml4, mr5, ml5, mr6, ml6, mr10, ml10, mr24, ml24, mr201, ml201, mr420, ml420, mr226, ml226, mr2, ml2, nI_clamp, lt_T, lt_F, le_T, le_F, eq_T, eq_F, ck_n, dv_n, cp_n, rem_n, pk_div, at1_same, at1_ne, cb_n, Option.bind_some, if_pos, if_neg, ↓reduceIte, and_self, and_true, true_and, and_false, false_and, not_true_eq_false, not_false_eq_true, nI_sub']) 6 0 F C1 (by omega) (by omega) (by omega) (Fl_0 C1 3 _ _)
  have b1' : f_X0_emptyRow F C1 (nI (σ 1 - 1)) = some C2 := b1
  have e72 : C2 0 7 - 1 = nI (σ 1 - 1) := by rw [Fl_c b2 (by decide)]; exact e7
  rw [a1, e7, b1']
  simp only [Option.bind_some]
  rw [e72]
  refine ⟨_, rfl, ?_, ?_, fun j hj => ?_, fun j hj => ?_⟩
  · rw [mr_s, fu_n _ _ (by decide), Fl_c b2 (by decide), a2 0 (by decide), dr_lo (by omega) (by omega)]; exact cC hC
  · rw [mr_s, fu_s, dr_1]
  · rw [dr_lo (by omega) (by omega)] at hj
    rw [mr_n _ _ (by decide), mr_n _ _ (by decide), Fl_c b2 (by decide), Fl_c b2 (by decide), a2 1 (by decide), a2 2 (by decide), dr_lo (by omega) (by omega), dr_wo (by omega)]
    exact ⟨cRt hC hj, cWo hC hj⟩
  · rw [mr_n _ _ (by decide)]
    by_cases q : 6 * (σ 1 - 1) ≤ j ∧ j < 6 * (σ 1 - 1) + 6
    · rw [Fl_i b2 (by omega) (by omega)]
      by_cases q2 : j < 18
      · rw [dr_m (by omega) q2, cell0 hs (by omega) (by omega)]
      · rw [dr_t (by omega) (by omega) hj]
    · rw [Fl_o b2 (by omega), a3 j]
      by_cases q2 : 6 * r ≤ j ∧ j < 6 * (σ 1 - 1)
      · rw [if_pos q2, dr_m (by omega) (by omega)]
        exact cCe hC (by omega)
      · rw [if_neg q2]
        by_cases q3 : j < 6 * r
        · rw [dr_b q3]; exact cCe hC hj
        · rw [cCe hC hj, cell0 hs hj (by omega)]
          by_cases q4 : j < 18
          · rw [dr_m (by omega) q4, cell0 hs (by omega) (by omega)]
          · rw [dr_t (by omega) (by omega) hj]
theorem m_drop {M T C H Y N S X0 : Mem} {LM : MemL} {Ks : Nat → Mem} {σ : Sg} {a : Nat} {h : Nat → Sg} (ra : Ra M T C H Ks σ a h) {F : Nat} (hF : 10000 ≤ F) (x1 : Int32) : ∃ v C' H' Y' N' S' Ks' M', f_X9_drop F X0 C H Y N S Ks x1 = some (v, C', H', Y', N', S', Ks') ∧ f_X10_drop F M LM x1 = some (v, M') ∧ Out M T C H Y N S Ks M' C' H' Y' N' S' Ks' := by
  obtain ⟨hC, hM, hs, -⟩ := id ra
  have h0 := kC hs
  have h1 := kR hs
  have hF' : 10 ≤ F := by omega
  obtain ⟨x, r1, r2, rfl⟩ := zI_of x1
  unfold f_X9_drop f_X10_drop
  by_cases hx : 0 ≤ x ∧ x < (σ 1 : Int)
  · obtain ⟨r, rfl⟩ := Int.eq_ofNat_of_zero_le hx.1
    have hr : r < σ 1 := by omega
    simp only [zI_c]
    rw [hasRow_n hC h1 F hr, isRow_n hM h1 F hr]
    simp only [Option.bind_some]
    rw [if_neg n10, if_neg n10, h_sumOf hC h0 hF' (by omega)]
    simp only [Option.bind_some]
    obtain ⟨H', Y', N', S', Ks', M2, b1, b2, b3, b4, -, -, b5, b6⟩ := m_begin (X0 := X0) (Y := Y) (N := N) (S := S) (LM := LM) ra hF
    rw [b1, b2]
    simp only [Option.bind_some]
    rw [g_sumOf b3.2.1 h0 hF' (by omega)]
    simp only [Option.bind_some]
    obtain ⟨C1, c1, c2⟩ := h_removeRow hC hs hr hF'
    have A := fill_up (f_X10_drop_25 F LM (nI (smN σ r (σ 0))) (fun M_71 => ck 1 226 (ck 1 226 ((f_X10_anew F (mr M_71 1 (upd (M_71 1) (1 : Int32).toNatClampNeg (((M_71 1) (1 : Int32).toNatClampNeg) - 1))) LM).bind (fun z82 => (some (nI (smN σ r (σ 0)), z82))))))) (fun M_71 => ck 1 226 (ck 1 226 ((f_X10_anew F (mr M_71 1 (upd (M_71 1) (1 : Int32).toNatClampNeg (((M_71 1) (1 : Int32).toNatClampNeg) - 1))) LM).bind (fun z82 => (some (nI (smN σ r (σ 0)), z82)))))) 1 0 8 (6 * r) 24 (fun j => if j + 6 < 32 then M2 1 (j + 6) else nI 0) M2 (fun n i N hi0 hi hN => by
      rw [f_X10_drop_25]
      simp only [Nat.zero_add]
      by_cases q : i + 6 < 24
      · have e1 : N 1 (8 + i + 6) = M2 1 (8 + i + 6) := Fl_o hN (by omega)
        have e2 : (if 8 + i + 6 < 32 then M2 1 (8 + i + 6) else nI 0) = M2 1 (8 + i + 6) := if_pos (by omega)
        simp only [e2]
        simp (disch := omega) only [l_0, l_1, l_2, l_3, l_4, l_5, l_6, l_7, l_8, l_9, l_10, l_12, l_20, l_24, l_25, l_31, l_32, l_48, l_50, l_56, l_57, l_59, l_97, l_99, l_100, l_120, l_122, l_177, l_178, l_201, l_226, l_255, l_400, l_420, l_600, l_700, l_840, l_1000, l_1300, l_2000, l_1000000, nI_add, mr4, ml4, mr5, ml5, mr6, ml6, mr10, ml10, mr24, ml24, mr201, ml201, mr420, ml420, mr226, ml226, mr2, ml2, nI_clamp, lt_T, lt_F, le_T, le_F, eq_T, eq_F, ck_n, dv_n, cp_n, rem_n, pk_div, at1_same, at1_ne, cb_n, Option.bind_some, if_pos, if_neg, ↓reduceIte, and_self, and_true, true_and, and_false, false_and, not_true_eq_false, not_false_eq_true, nI_sub', e1]
      · have e2 : (if 8 + i + 6 < 32 then M2 1 (8 + i + 6) else nI 0) = nI 0 := if_neg (by omega)
        simp only [e2]
        simp (disch := omega) only [l_0, l_1, l_2, l_3, l_4, l_5, l_6, l_7, l_8, l_9, l_10, l_12, l_20, l_24, l_25, l_31, l_32, l_48, l_50, l_56, l_57, l_59, l_97, l_99, l_100, l_120, l_122, l_177, l_178, l_201, l_226, l_255, l_400, l_420, l_600, l_700, l_840, l_1000, l_1300, l_2000, l_1000000, nI_add, mr4, ml4, mr5, ml5, mr6, ml6, mr10, ml10, mr24, ml24, mr201, ml201, mr420, ml420, mr226, ml226, mr2, ml2, nI_clamp, lt_T, lt_F, le_T, le_F, eq_T, eq_F, ck_n, dv_n, cp_n, rem_n, pk_div, at1_same, at1_ne, cb_n, Option.bind_some, if_pos, if_neg, ↓reduceIte, and_self, and_true, true_and, and_false, false_and, not_true_eq_false, not_false_eq_true, nI_sub']) (fun n N hN => by
      rw [f_X10_drop_25]
      simp only [Nat.zero_add]
      rw [l_24, if_pos (nI_le (by omega) (by omega))]) (24 - 6 * r) (6 * r) F M2 (by omega) (by omega) (by omega) (Fl_0 M2 1 _ _)
    obtain ⟨M3, t1, t2⟩ := A
    have e31 : M3 1 1 = nI (σ 1) := by rw [Fl_o t2 (by omega)]; exact b3.2.1 1 (by omega)
    have q3 : Pq M2 M3 := Pq_f t2 (by decide) (by decide) (by decide) (by decide)
    have e31' : M3 1 1 - nI 1 = nI (σ 1 - 1) := by rw [e31]; exact nI_sub' (b := 1) (by omega)
    have hM4 : StM (mr M3 1 (upd (M3 1) 1 (nI (σ 1 - 1)))) (drS σ r) := fun j hj => by
      rw [mr_s, upd_at]
      by_cases e : j = 1
      · rw [if_pos e, e, dr_1]
      · rw [if_neg e, t2.2 j]
        unfold drS
        rw [if_neg e]
        by_cases q : 8 + 6 * r ≤ j ∧ j < 32
        · rw [if_pos (by omega), if_pos q]
          show (if j + 6 < 32 then M2 1 (j + 6) else nI 0) = _
          by_cases q2 : j + 6 < 32
          · rw [if_pos q2, if_pos q2]; exact b3.2.1 _ (by omega)
          · rw [if_neg q2, if_neg q2]
        · rw [if_neg (by omega), if_neg q]; exact b3.2.1 j hj
    obtain ⟨M', C', g1, g2, g3⟩ := act_anew (LM := LM) b3 (Pq_tr q3 (Pq_k M3 _ (by decide) (by decide) (by decide) (by decide))) hM4 c2 (okB_dr hs hr) hF
    have e6 : (6 : Int32) * nI r = nI (0 + 6 * r) := by rw [Nat.zero_add]; exact nI_mul' 6 r
    rw [e6, t1, c1]
    simp only [Option.bind_some]
    rw [g2]
    simp (disch := omega) only [l_0, l_1, l_2, l_3, l_4, l_5, l_6, l_7, l_8, l_9, l_10, l_12, l_20, l_24, l_25, l_31, l_32, l_48, l_50, l_56, l_57, l_59, l_97, l_99, l_100, l_120, l_122, l_177, l_178, l_201, l_226, l_255, l_400, l_420, l_600, l_700, l_840, l_1000, l_1300, l_2000, l_1000000, nI_add, mr4, ml4, mr5, ml5, mr6, ml6, mr10, ml10, mr24, ml24, mr201, ml201, mr420, ml420, mr226, ml226, mr2, ml2, nI_clamp, lt_T, lt_F, le_T, le_F, eq_T, eq_F, ck_n, dv_n, cp_n, rem_n, pk_div, at1_same, at1_ne, cb_n, Option.bind_some, if_pos, if_neg, ↓reduceIte, and_self, and_true, true_and, and_false, false_and, not_true_eq_false, not_false_eq_true, nI_sub', e31', g1]
    exact ⟨_, _, _, _, _, _, _, _, rfl, rfl, .inr ⟨_, _, _, g3, b4⟩⟩
  · rw [hasRow_x hC h1 F hx r1 r2, isRow_x hM h1 F hx r1 r2]
    simp only [Option.bind_some]
    rw [if_pos n00, if_pos n00]
    exact ⟨_, _, _, _, _, _, _, _, rfl, rfl, .inl ⟨rfl, rfl, rfl, rfl, rfl, rfl, Pm_rfl M⟩⟩
/-! see, unsee -/
def seS (σ : Sg) (t r c n : Nat) : Sg := fun j => if j = 177 then σ 177 + 1 else if j = 178 + 4 * σ 177 then t else if j = 178 + 4 * σ 177 + 1 then r else if j = 178 + 4 * σ 177 + 2 then c else if j = 178 + 4 * σ 177 + 3 then n else σ j
theorem se_lo {σ : Sg} {t r c n j : Nat} (h : j < 177) : seS σ t r c n j = σ j := by
  unfold seS
  rw [if_neg (by omega), if_neg (by omega), if_neg (by omega), if_neg (by omega), if_neg (by omega)]
theorem se_177 {σ : Sg} {t r c n : Nat} : seS σ t r c n 177 = σ 177 + 1 := if_pos rfl
theorem se_b {σ : Sg} {t r c n j : Nat} (h : j < 4 * σ 177) : seS σ t r c n (178 + j) = σ (178 + j) := by
  unfold seS
  rw [if_neg (by omega), if_neg (by omega), if_neg (by omega), if_neg (by omega), if_neg (by omega)]
theorem se_0 {σ : Sg} {t r c n : Nat} : seS σ t r c n (178 + 4 * σ 177) = t := by
  unfold seS
  rw [if_neg (by omega), if_pos rfl]
theorem se_1 {σ : Sg} {t r c n : Nat} : seS σ t r c n (178 + 4 * σ 177 + 1) = r := by
  unfold seS
  rw [if_neg (by omega), if_neg (by omega), if_pos rfl]
theorem se_2 {σ : Sg} {t r c n : Nat} : seS σ t r c n (178 + 4 * σ 177 + 2) = c := by
  unfold seS
  rw [if_neg (by omega), if_neg (by omega), if_neg (by omega), if_pos rfl]
theorem se_3 {σ : Sg} {t r c n : Nat} : seS σ t r c n (178 + 4 * σ 177 + 3) = n := by
  unfold seS
  rw [if_neg (by omega), if_neg (by omega), if_neg (by omega), if_neg (by omega), if_pos rfl]
/-- a state that is another's but for what was seen -/
theorem okS_se {σ τ : Sg} (hs : okS σ) (lo : ∀ j, j < 177 → τ j = σ j) (h1 : τ 177 ≤ 12) (h2 : ∀ k, k < τ 177 → τ (178 + 4 * k) ≤ σ 56 ∧ τ (178 + 4 * k + 1) < σ 1 ∧ τ (178 + 4 * k + 2) < σ 0 ∧ τ (178 + 4 * k + 3) ≤ 99) : okS τ := by
  obtain ⟨s0, s1, s2, s3, s4, s5, s6, s7, s8, s9⟩ := hs
  have e0 := lo 0 (by omega)
  have e1 := lo 1 (by omega)
  have e2 := lo 2 (by omega)
  have e56 := lo 56 (by omega)
  refine ⟨by omega, by omega, by omega, by omega, fun j g1 g2 => ?_, fun r c hr hc => ?_, by omega, fun i hi => ?_, h1, fun k hk => ?_⟩
  · rw [lo _ (by omega)]; exact s4 j g1 (by omega)
  · rw [lo _ (by omega), lo _ (by omega), e0, e1]; exact s5 r c hr hc
  · have z := s7 i (by omega)
    unfold okMv at z ⊢
    simp (disch := omega) only [lo]
    exact z
  · rw [e56, e1, e0]; exact h2 k hk
theorem StC_se {C C' : Mem} {σ τ : Sg} (hC : StC C σ) (h0 : σ 0 ≤ 6) (h5 : σ 56 ≤ 24) (lo : ∀ j, j < 177 → τ j = σ j) (c0 : ∀ j, j ≠ 9 → C' 0 j = C 0 j) (cc : ∀ c, c ≠ 0 → c ≠ 6 → C' c = C c) (h9 : C' 0 9 = nI (τ 177)) (h6 : ∀ j, j < 4 * τ 177 → C' 6 j = nI (τ (178 + j))) : StC C' τ := by
  refine ⟨?_, ?_, ?_, h9, fun j hj => ?_, fun j hj => ?_, fun j hj => ?_, h6⟩
  · rw [c0 6 (by decide), lo 0 (by omega)]; exact cC hC
  · rw [c0 7 (by decide), lo 1 (by omega)]; exact cR hC
  · rw [c0 8 (by decide), lo 56 (by omega)]; exact cMv hC
  · rw [lo 0 (by omega)] at hj
    rw [cc 1 (by decide) (by decide), cc 2 (by decide) (by decide), lo _ (by omega), wo_cg (τ := σ) j (fun i g1 g2 => lo _ (by omega))]
    exact ⟨cRt hC hj, cWo hC hj⟩
  · rw [cc 3 (by decide) (by decide), cc 4 (by decide) (by decide), lo _ (by omega), lo _ (by omega)]
    exact ⟨cCe hC hj, cBe hC hj⟩
  · rw [lo 56 (by omega)] at hj
    rw [cc 5 (by decide) (by decide), lo _ (by omega)]
    exact cLo hC hj
