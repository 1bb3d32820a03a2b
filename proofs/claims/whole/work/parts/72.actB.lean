/-! PURE LAYER: acts on a whole row: clear, doubled, halve, plain -/
def rwS (σ : Sg) (r : Nat) (v : Nat → Nat) : Sg := fun j => if 8 + 6 * r ≤ j ∧ j < 8 + 6 * r + σ 0 then v (j - (8 + 6 * r)) else σ j
theorem rw_lo {σ : Sg} {r : Nat} {v : Nat → Nat} {j : Nat} (h : j < 8) : rwS σ r v j = σ j := if_neg (by omega)
theorem rw_i {σ : Sg} {r : Nat} {v : Nat → Nat} {c : Nat} (h : c < σ 0) : rwS σ r v (8 + (6 * r + c)) = v c := by
  unfold rwS
  rw [if_pos (by omega)]
  congr 1
  omega
theorem rw_o {σ : Sg} {r : Nat} {v : Nat → Nat} {j : Nat} (h : ¬ (8 + 6 * r ≤ j ∧ j < 8 + 6 * r + σ 0)) : rwS σ r v j = σ j := if_neg h
theorem rw_wo {σ : Sg} {r : Nat} {v : Nat → Nat} {j : Nat} (h : j < 6) : wo (rwS σ r v) j = wo σ j := wo_cg j (fun i h1 h2 => rw_lo (by omega))
theorem okB_rw {σ : Sg} {r : Nat} {v : Nat → Nat} (h : okB σ) (hr : r < σ 1) (hv : ∀ c, c < σ 0 → v c ≤ 99) : okB (rwS σ r v) := by
  obtain ⟨s0, s1, s2, s3, s4, s5⟩ := h
  refine ⟨by rw [rw_lo (by omega)]; exact s0, by rw [rw_lo (by omega)]; exact s1, by rw [rw_lo (by omega), rw_lo (by omega)]; exact s2, by rw [rw_lo (by omega), rw_lo (by omega)]; exact s3, fun j h1 h2 => ?_, fun r' c' hr' hc' => ?_⟩
  · rw [rw_lo (by omega)] at h2
    rw [rw_lo (by omega)]; exact s4 j h1 h2
  · have z := s5 r' c' hr' hc'
    rw [rw_lo (j := 0) (by omega), rw_lo (j := 1) (by omega)]
    by_cases e : 8 + 6 * r ≤ 8 + (6 * r' + c') ∧ 8 + (6 * r' + c') < 8 + 6 * r + σ 0
    · have e1 : r' = r := by omega
      subst e1
      rw [rw_i (by omega)]
      exact ⟨hv c' (by omega), fun q => by omega⟩
    · rw [rw_o e]
      exact z
theorem StB_rw {C C' : Mem} {σ : Sg} {r : Nat} {v : Nat → Nat} {w : Nat → Int32} (h : StB C σ) (h0 : σ 0 ≤ 6) (f : Fl C C' 3 (6 * r) (6 * r + σ 0) w) (hw : ∀ c, c < σ 0 → w (6 * r + c) = nI (v c)) : StB C' (rwS σ r v) := by
  refine ⟨?_, ?_, fun j hj => ?_, fun j hj => ?_⟩
  · rw [Fl_c f (by decide), rw_lo (by omega)]; exact h.1
  · rw [Fl_c f (by decide), rw_lo (by omega)]; exact h.2.1
  · rw [rw_lo (by omega)] at hj
    rw [Fl_c f (by decide), Fl_c f (by decide), rw_lo (by omega), rw_wo (by omega)]
    exact h.2.2.1 j hj
  · by_cases e : 6 * r ≤ j ∧ j < 6 * r + σ 0
    · obtain ⟨c, rfl⟩ : ∃ c, j = 6 * r + c := ⟨j - 6 * r, by omega⟩
      rw [Fl_i f e.1 e.2, hw c (by omega), rw_i (by omega)]
    · rw [Fl_o f (by omega), rw_o (by omega)]
      exact h.2.2.2 j hj
theorem StM_rw {M M' : Mem} {σ : Sg} {r : Nat} {v : Nat → Nat} {w : Nat → Int32} (h : StM M σ) (f : Fl M M' 1 (8 + 6 * r) (8 + 6 * r + σ 0) w) (hw : ∀ c, c < σ 0 → w (8 + 6 * r + c) = nI (v c)) : StM M' (rwS σ r v) := fun j hj => by
  by_cases e : 8 + 6 * r ≤ j ∧ j < 8 + 6 * r + σ 0
  · obtain ⟨c, rfl⟩ : ∃ c, j = 8 + 6 * r + c := ⟨j - (8 + 6 * r), by omega⟩
    rw [Fl_i f e.1 e.2, hw c (by omega), Nat.add_assoc, rw_i (by omega)]
  · rw [Fl_o f (by omega), rw_o e]
    exact h j hj
theorem g_tkOwn {LM : MemL} {M : Mem} {σ : Sg} (hM : StM M σ) (h0 : σ 0 ≤ 6) {r : Nat} (hr : r < 4) {F : Nat} (hF : 10000 ≤ F) (k : Mem → Option Mem) : ∃ M', f_X10_takesOwn_6 F LM (nI r) k F M (nI 0) = k M' ∧ Fl M M' 1 (8 + 6 * r) (8 + 6 * r + σ 0) (fun j => M 5 (j - (8 + 6 * r))) := by
  refine fill_up (f_X10_takesOwn_6 F LM (nI r) k) k 1 0 (8 + 6 * r) 0 (σ 0) (fun j => M 5 (j - (8 + 6 * r))) M (fun n i N _ hi hN => ?_) (fun n N hN => ?_) (σ 0) 0 F M (by omega) (by omega) (by omega) (Fl_0 M 1 _ _)
  · rw [f_X10_takesOwn_6]
    have e0 : N 1 0 = nI (σ 0) := by rw [Fl_o hN (by omega)]; exact hM 0 (by omega)
    have e5 : N 5 = M 5 := Fl_c hN (by decide)
    have e2 : 8 + 6 * r + i - (8 + 6 * r) = i := by omega
    have e3 : 8 + (6 * r + i) = 8 + 6 * r + i := by omega
    unfold f_X10_sets f_X10_cell
    rw [e5]
    simp only [Nat.zero_add]
    simp (disch := omega) only [l_0, l_1, l_2, l_3, l_4, l_5, l_6, l_7, l_8, l_9, l_10, l_12, l_20, l_24, l_25, l_31, l_32, l_48, l_50, l_56, l_57, l_59, l_97, l_99, l_100, l_120, l_122, l_177, l_178, l_201, l_226, l_255, l_400, l_420, l_600, l_700, l_840, l_1000, l_1300, l_2000, l_1000000, nI_add, mr4, ml4, mr5, ml5, mr6, ml6, mr10, ml10, mr24, ml24, mr201, ml201, mr420, ml420, mr226, ml226, mr2, ml2, nI_clamp, lt_T, lt_F, le_T, le_F, eq_T, eq_F, ck_n, dv_n, cp_n, rem_n, pk_div, at1_same, at1_ne, cb_n, Option.bind_some, if_pos, if_neg, ↓reduceIte, and_self, and_true, true_and, and_false, false_and, not_true_eq_false, not_false_eq_true, nI_sub', e0, e2, e3]
  · rw [f_X10_takesOwn_6]
    have e0 : N 1 0 = nI (σ 0) := by rw [Fl_o hN (by omega)]; exact hM 0 (by omega)
    simp only [Nat.zero_add]
    simp (disch := omega) only [l_0, l_1, l_2, l_3, l_4, l_5, l_6, l_7, l_8, l_9, l_10, l_12, l_20, l_24, l_25, l_31, l_32, l_48, l_50, l_56, l_57, l_59, l_97, l_99, l_100, l_120, l_122, l_177, l_178, l_201, l_226, l_255, l_400, l_420, l_600, l_700, l_840, l_1000, l_1300, l_2000, l_1000000, nI_add, mr4, ml4, mr5, ml5, mr6, ml6, mr10, ml10, mr24, ml24, mr201, ml201, mr420, ml420, mr226, ml226, mr2, ml2, nI_clamp, lt_T, lt_F, le_T, le_F, eq_T, eq_F, ck_n, dv_n, cp_n, rem_n, pk_div, at1_same, at1_ne, cb_n, Option.bind_some, if_pos, if_neg, ↓reduceIte, and_self, and_true, true_and, and_false, false_and, not_true_eq_false, not_false_eq_true, nI_sub', e0]
/-- a row is put down anew: class (its loop given) and reference -/
theorem m_own {M T C H Y N S X0 : Mem} {LM : MemL} {Ks : Nat → Mem} {σ : Sg} {a : Nat} {h : Nat → Sg} (ra : Ra M T C H Ks σ a h) {F : Nat} (hF : 10000 ≤ F) {r : Nat} (hr : r < σ 1) {v : Nat → Nat} (hv : ∀ c, c < σ 0 → v c ≤ 99) (hM5 : ∀ c, c < σ 0 → M 5 c = nI (v c)) : ∃ H' Y' N' S' Ks' M', f_X9_beginAct F X0 C H Y N S Ks = some (H', Y', N', S', Ks') ∧ f_X10_takesOwn F M LM (nI r) = some M' ∧ Fg Y' N' S' ∧ ∀ C1, StB C1 (rwS σ r v) → ∃ C', f_X0_makeAnew F C1 = some C' ∧ Ra M' T C' H' Ks' (anewS (rwS σ r v)) (dp1 a) (hpush σ h) := by
  obtain ⟨hC, hM, hs, -⟩ := id ra
  have h0 := kC hs
  have h1 := kR hs
  obtain ⟨H', Y', N', S', Ks', M2, b1, b2, b3, b4, -, -, b5, b6⟩ := m_begin (X0 := X0) (Y := Y) (N := N) (S := S) (LM := LM) ra hF
  obtain ⟨M3, c1, c2⟩ := g_tkOwn (LM := LM) b3.2.1 h0 (r := r) (by omega) hF (fun M_34 => (f_X10_anew F M_34 LM).bind (fun z35 => (some z35)))
  have hM3 : StM M3 (rwS σ r v) := StM_rw b3.2.1 c2 (fun c hc => by
    have e : 8 + 6 * r + c - (8 + 6 * r) = c := by omega
    show M2 5 (8 + 6 * r + c - (8 + 6 * r)) = _
    rw [e, b5 5 (by decide) (by decide)]
    exact hM5 c hc)
  have q3 : Pq M2 M3 := Pq_f c2 (by decide) (by decide) (by decide) (by decide)
  have hB := okB_rw (okS_B hs) hr hv
  obtain ⟨M', m1, m2, m3⟩ := g_anew (LM := LM) hM3 hF
  refine ⟨H', Y', N', S', Ks', M', b1, ?_, b4, fun C1 hC1 => ?_⟩
  · unfold f_X10_takesOwn
    rw [b2]
    simp only [Option.bind_some]
    have e : f_X10_takesOwn_6 F LM (nI r) (fun M_34 => (f_X10_anew F M_34 LM).bind (fun z35 => (some z35))) F M2 0 = (f_X10_anew F M3 LM).bind (fun z35 => (some z35)) := c1
    rw [e, m1]
    rfl
  · obtain ⟨C', c1, c2⟩ := h_makeAnew hC1 hB.1 F
    exact ⟨C', c1, Ra_to b3 (Pq_tr q3 m3) c2 m2 (okS_an hB)⟩
theorem m_clear {M T C H Y N S X0 : Mem} {LM : MemL} {Ks : Nat → Mem} {σ : Sg} {a : Nat} {h : Nat → Sg} (ra : Ra M T C H Ks σ a h) {F : Nat} (hF : 10000 ≤ F) (x1 : Int32) : ∃ v C' H' Y' N' S' Ks' M', f_X9_clear F X0 C H Y N S Ks x1 = some (v, C', H', Y', N', S', Ks') ∧ f_X10_clear F M LM x1 = some (v, M') ∧ Out M T C H Y N S Ks M' C' H' Y' N' S' Ks' := by
  obtain ⟨hC, hM, hs, -⟩ := id ra
  have h0 := kC hs
  have h1 := kR hs
  have hF' : 10 ≤ F := by omega
  obtain ⟨x, r1, r2, rfl⟩ := zI_of x1
  unfold f_X9_clear f_X10_clear
  by_cases hx : 0 ≤ x ∧ x < (σ 1 : Int)
  · obtain ⟨r, rfl⟩ := Int.eq_ofNat_of_zero_le hx.1
    have hr : r < σ 1 := by omega
    simp only [zI_c]
    rw [hasRow_n hC h1 F hr, isRow_n hM h1 F hr]
    simp only [Option.bind_some]
    rw [if_neg n10, if_neg n10, h_countersOf hC h0 hF' (by omega), g_countersOf hM h0 hF' (by omega)]
    simp only [Option.bind_some]
    by_cases z : nI (ctN σ r (σ 0)) = 0
    · rw [if_pos z, if_pos z]
      exact ⟨_, _, _, _, _, _, _, _, rfl, rfl, .inl ⟨rfl, rfl, rfl, rfl, rfl, rfl, Pm_rfl M⟩⟩
    · rw [if_neg z, if_neg z, h_sumOf hC h0 hF' (by omega), g_sumOf hM h0 hF' (by omega)]
      simp only [Option.bind_some]
      have := fill_up (f_X10_clear_26 F LM (nI r) (nI (smN σ r (σ 0))) (fun M_49 => (f_X10_takesOwn F M_49 LM (nI r)).bind (fun z51 => (some (nI (smN σ r (σ 0)), z51))))) (fun M_49 => (f_X10_takesOwn F M_49 LM (nI r)).bind (fun z51 => (some (nI (smN σ r (σ 0)), z51)))) 5 0 0 0 (σ 0) (fun _ => nI 0) M (fun n i N _ hi hN => by
        rw [f_X10_clear_26]
        have e0 : N 1 0 = nI (σ 0) := by rw [Fl_c hN (by decide)]; exact hM 0 (by omega)
        simp only [Nat.zero_add]
        simp (disch := omega) only [l_0, l_1, l_2, l_3, l_4, l_5, l_6, l_7, l_8, l_9, l_10, l_12, l_20, l_24, l_25, l_31, l_32, l_48, l_50, l_56, l_57, l_59, l_97, l_99, l_100, l_120, l_122, l_177, l_178, l_201, l_226, l_255, l_400, l_420, l_600, l_700, l_840, l_1000, l_1300, l_2000, l_1000000, nI_add, mr4, ml4, mr5, ml5, mr6, ml6, mr10, ml10, mr24, ml24, mr201, ml201, mr420, ml420, mr226, ml226, mr2, ml2, nI_clamp, lt_T, lt_F, le_T, le_F, eq_T, eq_F, ck_n, dv_n, cp_n, rem_n, pk_div, at1_same, at1_ne, cb_n, Option.bind_some, if_pos, if_neg, ↓reduceIte, and_self, and_true, true_and, and_false, false_and, not_true_eq_false, not_false_eq_true, nI_sub', e0]) (fun n N hN => by
        rw [f_X10_clear_26]
        have e0 : N 1 0 = nI (σ 0) := by rw [Fl_c hN (by decide)]; exact hM 0 (by omega)
        simp only [Nat.zero_add]
        simp (disch := omega) only [l_0, l_1, l_2, l_3, l_4, l_5, l_6, l_7, l_8, l_9, l_10, l_12, l_20, l_24, l_25, l_31, l_32, l_48, l_50, l_56, l_57, l_59, l_97, l_99, l_100, l_120, l_122, l_177, l_178, l_201, l_226, l_255, l_400, l_420, l_600, l_700, l_840, l_1000, l_1300, l_2000, l_1000000, nI_add, mr4, ml4, mr5, ml5, mr6, ml6, mr10, ml10, mr24, ml24, mr201, ml201, mr420, ml420, mr226, ml226, mr2, ml2, nI_clamp, lt_T, lt_F, le_T, le_F, eq_T, eq_F, ck_n, dv_n, cp_n, rem_n, pk_div, at1_same, at1_ne, cb_n, Option.bind_some, if_pos, if_neg, ↓reduceIte, and_self, and_true, true_and, and_false, false_and, not_true_eq_false, not_false_eq_true, nI_sub', e0]) (σ 0) 0 F M (by omega) (by omega) (by omega) (Fl_0 M 5 _ _)
      obtain ⟨M1, m1, m2⟩ := this
      have p1 : Pm M M1 := Pm_f m2 (by decide) (by decide) (by decide) (by decide) (by decide)
      obtain ⟨H', Y', N', S', Ks', M', b1, b2, b3, b4⟩ := m_own (X0 := X0) (Y := Y) (N := N) (S := S) (LM := LM) (Ra_m p1 ra) hF hr (v := fun _ => 0) (fun _ _ => by omega) (fun c hc => by rw [Fl_i m2 (by omega) (by omega)])
      have := fill_up (f_X0_emptyRow_2 F (nI r) (fun C_26 => (some C_26))) (fun C_26 => (some C_26)) 3 0 (6 * r) 0 6 (fun _ => nI 0) C (fun n i N _ hi hN => by
        rw [f_X0_emptyRow_2]
        simp only [Nat.zero_add]
        simp (disch := omega) only [l_0, l_1, l_2, l_3, l_4, l_5, l_6, l_7, l_8, l_9, l_10, l_12, l_20, l_24, l_25, l_31, l_32, l_48, l_50, l_56, l_57, l_59, l_97, l_99, l_100, l_120, l_122, l_177, l_178, l_201, l_226, l_255, l_400, l_420, l_600, l_700, l_840, l_1000, l_1300, l_2000, l_1000000, nI_add, mr4, ml4, mr5, ml5, mr6, ml6, mr10, ml10, mr24, ml24, mr201, ml201, mr420, ml420, mr226, ml226, mr2, ml2, nI_clamp, lt_T, lt_F, le_T, le_F, eq_T, eq_F, ck_n, dv_n, cp_n, rem_n, pk_div, at1_same, at1_ne, cb_n, Option.bind_some, if_pos, if_neg, ↓reduceIte, and_self, and_true, true_and, and_false, false_and, not_true_eq_false, not_false_eq_true, nI_sub']) (fun n N hN => by
        rw [f_X0_emptyRow_2]
        simp only [Nat.zero_add]
        simp (disch := omega) only [l_0, l_1, l_2, l_3, l_4, l_5, l_6, l_7, l_8, l_9, l_10, l_12, l_20, l_24, l_25, l_31, l_32, l_48, l_50, l_56, l_57, l_59, l_97, l_99, l_100, l_120, l_122, l_177, l_178, l_201, l_226, l_255, l_400, l_420, l_600, l_700, l_840, l_1000, l_1300, l_2000, l_1000000, nI_add, mr4, ml4, mr5, ml5, mr6, ml6, mr10, ml10, mr24, ml24, mr201, ml201, mr420, ml420, mr226, ml226, mr2, ml2, nI_clamp, lt_T, lt_F, le_T, le_F, eq_T, eq_F, ck_n, dv_n, cp_n, rem_n, pk_div, at1_same, at1_ne, cb_n, Option.bind_some, if_pos, if_neg, ↓reduceIte, and_self, and_true, true_and, and_false, false_and, not_true_eq_false, not_false_eq_true, nI_sub']) 6 0 F C (by omega) (by omega) (by omega) (Fl_0 C 3 _ _)
      obtain ⟨C1, c1, c2⟩ := this
      have c1' : f_X0_emptyRow F C (nI r) = some C1 := c1
      have hC1 : StB C1 (rwS σ r (fun _ => 0)) := by
        refine ⟨?_, ?_, fun j hj => ?_, fun j hj => ?_⟩
        · rw [Fl_c c2 (by decide), rw_lo (by omega)]; exact cC hC
        · rw [Fl_c c2 (by decide), rw_lo (by omega)]; exact cR hC
        · rw [rw_lo (by omega)] at hj
          rw [Fl_c c2 (by decide), Fl_c c2 (by decide), rw_lo (by omega), rw_wo (by omega)]
          exact ⟨cRt hC hj, cWo hC hj⟩
        · by_cases e : 6 * r ≤ j ∧ j < 6 * r + 6
          · obtain ⟨c, rfl⟩ : ∃ c, j = 6 * r + c := ⟨j - 6 * r, by omega⟩
            rw [Fl_i c2 (by omega) (by omega)]
            by_cases e2 : c < σ 0
            · rw [rw_i e2]
            · rw [rw_o (by omega)]
              have := ((okS_B hs).2.2.2.2.2 r c (by omega) (by omega)).2 (by omega)
              rw [this]
          · rw [Fl_o c2 (by omega), rw_o (by omega)]
            exact cCe hC hj
      obtain ⟨C', d1, d2⟩ := b4 C1 hC1
      have m1' : f_X10_clear_26 F LM (nI r) (nI (smN σ r (σ 0))) (fun M_49 => (f_X10_takesOwn F M_49 LM (nI r)).bind (fun z51 => (some (nI (smN σ r (σ 0)), z51)))) F M 0 = some (nI (smN σ r (σ 0)), M') := by
        rw [show f_X10_clear_26 F LM (nI r) (nI (smN σ r (σ 0))) (fun M_49 => (f_X10_takesOwn F M_49 LM (nI r)).bind (fun z51 => (some (nI (smN σ r (σ 0)), z51)))) F M 0 = _ from m1, b2]
        rfl
      rw [m1', b1, c1']
      simp only [Option.bind_some]
      rw [d1]
      exact ⟨_, _, _, _, _, _, _, _, rfl, rfl, .inr ⟨_, _, _, d2, b3⟩⟩
  · rw [hasRow_x hC h1 F hx r1 r2, isRow_x hM h1 F hx r1 r2]
    simp only [Option.bind_some]
    rw [if_pos n00, if_pos n00]
    exact ⟨_, _, _, _, _, _, _, _, rfl, rfl, .inl ⟨rfl, rfl, rfl, rfl, rfl, rfl, Pm_rfl M⟩⟩
theorem g_ownFull {M : Mem} {LM : MemL} {σ : Sg} (hM : StM M σ) (h0 : σ 0 ≤ 6) {v : Nat → Nat} (hM5 : ∀ c, c < σ 0 → M 5 c = nI (v c)) (hb : ∀ c, c < σ 0 → v c < 2147483648) {F : Nat} (hF : 10 ≤ F) : ((∀ c, c < σ 0 → v c ≤ 99) ∧ f_X10_isOwnFull F M LM = some (nI 0)) ∨ (¬ (∀ c, c < σ 0 → v c ≤ 99) ∧ f_X10_isOwnFull F M LM = some (nI 1)) := by
  have m0 : M 1 0 = nI (σ 0) := hM 0 (by omega)
  rcases all_up (f_X10_isOwnFull_2 F M LM (some 1) (some 0)) (some 1) (some 0) (fun c => v c ≤ 99) (σ 0) (fun n i hi => by
    have := hb i hi
    rw [f_X10_isOwnFull_2]
    constructor
    · intro q
      simp (disch := omega) only [l_0, l_1, l_2, l_3, l_4, l_5, l_6, l_7, l_8, l_9, l_10, l_12, l_20, l_24, l_25, l_31, l_32, l_48, l_50, l_56, l_57, l_59, l_97, l_99, l_100, l_120, l_122, l_177, l_178, l_201, l_226, l_255, l_400, l_420, l_600, l_700, l_840, l_1000, l_1300, l_2000, l_1000000, nI_add, mr4, ml4, mr5, ml5, mr6, ml6, mr10, ml10, mr24, ml24, mr201, ml201, mr420, ml420, mr226, ml226, mr2, ml2, nI_clamp, lt_T, lt_F, le_T, le_F, eq_T, eq_F, ck_n, dv_n, cp_n, rem_n, pk_div, at1_same, at1_ne, cb_n, Option.bind_some, if_pos, if_neg, ↓reduceIte, and_self, and_true, true_and, and_false, false_and, not_true_eq_false, not_false_eq_true, nI_sub', m0, hM5]
    · intro q
      simp (disch := omega) only [l_0, l_1, l_2, l_3, l_4, l_5, l_6, l_7, l_8, l_9, l_10, l_12, l_20, l_24, l_25, l_31, l_32, l_48, l_50, l_56, l_57, l_59, l_97, l_99, l_100, l_120, l_122, l_177, l_178, l_201, l_226, l_255, l_400, l_420, l_600, l_700, l_840, l_1000, l_1300, l_2000, l_1000000, nI_add, mr4, ml4, mr5, ml5, mr6, ml6, mr10, ml10, mr24, ml24, mr201, ml201, mr420, ml420, mr226, ml226, mr2, ml2, nI_clamp, lt_T, lt_F, le_T, le_F, eq_T, eq_F, ck_n, dv_n, cp_n, rem_n, pk_div, at1_same, at1_ne, cb_n, Option.bind_some, if_pos, if_neg, ↓reduceIte, and_self, and_true, true_and, and_false, false_and, not_true_eq_false, not_false_eq_true, nI_sub', m0, hM5]) (fun n => by
    rw [f_X10_isOwnFull_2]
    simp (disch := omega) only [l_0, l_1, l_2, l_3, l_4, l_5, l_6, l_7, l_8, l_9, l_10, l_12, l_20, l_24, l_25, l_31, l_32, l_48, l_50, l_56, l_57, l_59, l_97, l_99, l_100, l_120, l_122, l_177, l_178, l_201, l_226, l_255, l_400, l_420, l_600, l_700, l_840, l_1000, l_1300, l_2000, l_1000000, nI_add, mr4, ml4, mr5, ml5, mr6, ml6, mr10, ml10, mr24, ml24, mr201, ml201, mr420, ml420, mr226, ml226, mr2, ml2, nI_clamp, lt_T, lt_F, le_T, le_F, eq_T, eq_F, ck_n, dv_n, cp_n, rem_n, pk_div, at1_same, at1_ne, cb_n, Option.bind_some, if_pos, if_neg, ↓reduceIte, and_self, and_true, true_and, and_false, false_and, not_true_eq_false, not_false_eq_true, nI_sub', m0]) (σ 0) 0 F (by omega) (by omega) with ⟨h1, h2⟩ | ⟨⟨j, h1, h2, h3⟩, h4⟩
  · exact .inl ⟨fun c hc => h1 c (by omega) hc, h2⟩
  · exact .inr ⟨fun z => h3 (z j h2), h4⟩
theorem h_partsFit {C P : Mem} {LP : MemL} {wP vP : Bool} {σ : Sg} (hC : StC C σ) (h0 : σ 0 ≤ 6) {v : Nat → Nat} (hP : ∀ c, c < σ 0 → P 1 c = nI (v c)) (hb : ∀ c, c < σ 0 → v c < 2147483648) {F : Nat} (hF : 10 ≤ F) : ((∀ c, c < σ 0 → v c ≤ 99) ∧ f_X5_partsFit F P LP wP vP C = some (nI 1)) ∨ (¬ (∀ c, c < σ 0 → v c ≤ 99) ∧ f_X5_partsFit F P LP wP vP C = some (nI 0)) := by
  rcases all_up (f_X5_partsFit_2 F P LP wP vP C (some 0) (some 1)) (some 0) (some 1) (fun c => v c ≤ 99) (σ 0) (fun n i hi => by
    have := hb i hi
    rw [f_X5_partsFit_2]
    constructor
    · intro q
      simp (disch := omega) only [l_0, l_1, l_2, l_3, l_4, l_5, l_6, l_7, l_8, l_9, l_10, l_12, l_20, l_24, l_25, l_31, l_32, l_48, l_50, l_56, l_57, l_59, l_97, l_99, l_100, l_120, l_122, l_177, l_178, l_201, l_226, l_255, l_400, l_420, l_600, l_700, l_840, l_1000, l_1300, l_2000, l_1000000, nI_add, mr4, ml4, mr5, ml5, mr6, ml6, mr10, ml10, mr24, ml24, mr201, ml201, mr420, ml420, mr226, ml226, mr2, ml2, nI_clamp, lt_T, lt_F, le_T, le_F, eq_T, eq_F, ck_n, dv_n, cp_n, rem_n, pk_div, at1_same, at1_ne, cb_n, Option.bind_some, if_pos, if_neg, ↓reduceIte, and_self, and_true, true_and, and_false, false_and, not_true_eq_false, not_false_eq_true, nI_sub', cC hC, hP]
    · intro q
      simp (disch := omega) only [l_0, l_1, l_2, l_3, l_4, l_5, l_6, l_7, l_8, l_9, l_10, l_12, l_20, l_24, l_25, l_31, l_32, l_48, l_50, l_56, l_57, l_59, l_97, l_99, l_100, l_120, l_122, l_177, l_178, l_201, l_226, l_255, l_400, l_420, l_600, l_700, l_840, l_1000, l_1300, l_2000, l_1000000, nI_add, mr4, ml4, mr5, ml5, mr6, ml6, mr10, ml10, mr24, ml24, mr201, ml201, mr420, ml420, mr226, ml226, mr2, ml2, nI_clamp, lt_T, lt_F, le_T, le_F, eq_T, eq_F, ck_n, dv_n, cp_n, rem_n, pk_div, at1_same, at1_ne, cb_n, Option.bind_some, if_pos, if_neg, ↓reduceIte, and_self, and_true, true_and, and_false, false_and, not_true_eq_false, not_false_eq_true, nI_sub', cC hC, hP]) (fun n => by
    rw [f_X5_partsFit_2]
    simp (disch := omega) only [l_0, l_1, l_2, l_3, l_4, l_5, l_6, l_7, l_8, l_9, l_10, l_12, l_20, l_24, l_25, l_31, l_32, l_48, l_50, l_56, l_57, l_59, l_97, l_99, l_100, l_120, l_122, l_177, l_178, l_201, l_226, l_255, l_400, l_420, l_600, l_700, l_840, l_1000, l_1300, l_2000, l_1000000, nI_add, mr4, ml4, mr5, ml5, mr6, ml6, mr10, ml10, mr24, ml24, mr201, ml201, mr420, ml420, mr226, ml226, mr2, ml2, nI_clamp, lt_T, lt_F, le_T, le_F, eq_T, eq_F, ck_n, dv_n, cp_n, rem_n, pk_div, at1_same, at1_ne, cb_n, Option.bind_some, if_pos, if_neg, ↓reduceIte, and_self, and_true, true_and, and_false, false_and, not_true_eq_false, not_false_eq_true, nI_sub', cC hC]) (σ 0) 0 F (by omega) (by omega) with ⟨h1, h2⟩ | ⟨⟨j, h1, h2, h3⟩, h4⟩
  · exact .inl ⟨fun c hc => h1 c (by omega) hc, h2⟩
  · exact .inr ⟨fun z => h3 (z j h2), h4⟩
theorem h_joinFits {C : Mem} {σ : Sg} (hC : StC C σ) (hs : okS σ) {r s : Nat} (hr : r < 4) (hq : s < 4) {F : Nat} (hF : 10 ≤ F) : ((∀ c, c < σ 0 → σ (8 + (6 * r + c)) + σ (8 + (6 * s + c)) ≤ 99) ∧ f_X0_joinFits F C (nI r) (nI s) = some (nI 1)) ∨ (¬ (∀ c, c < σ 0 → σ (8 + (6 * r + c)) + σ (8 + (6 * s + c)) ≤ 99) ∧ f_X0_joinFits F C (nI r) (nI s) = some (nI 0)) := by
  have h0 := kC hs
  rcases all_up (f_X0_joinFits_2 F C (nI r) (nI s) (some 0) (some 1)) (some 0) (some 1) (fun c => σ (8 + (6 * r + c)) + σ (8 + (6 * s + c)) ≤ 99) (σ 0) (fun n i hi => by
    have k1 := (kCe hs (j := 6 * r + i) (by omega)).1
    have k2 := (kCe hs (j := 6 * s + i) (by omega)).1
    rw [f_X0_joinFits_2]
    constructor
    · intro q
      simp (disch := omega) only [l_0, l_1, l_2, l_3, l_4, l_5, l_6, l_7, l_8, l_9, l_10, l_12, l_20, l_24, l_25, l_31, l_32, l_48, l_50, l_56, l_57, l_59, l_97, l_99, l_100, l_120, l_122, l_177, l_178, l_201, l_226, l_255, l_400, l_420, l_600, l_700, l_840, l_1000, l_1300, l_2000, l_1000000, nI_add, mr4, ml4, mr5, ml5, mr6, ml6, mr10, ml10, mr24, ml24, mr201, ml201, mr420, ml420, mr226, ml226, mr2, ml2, nI_clamp, lt_T, lt_F, le_T, le_F, eq_T, eq_F, ck_n, dv_n, cp_n, rem_n, pk_div, at1_same, at1_ne, cb_n, Option.bind_some, if_pos, if_neg, ↓reduceIte, and_self, and_true, true_and, and_false, false_and, not_true_eq_false, not_false_eq_true, nI_sub', cC hC, cCe hC]
    · intro q
      simp (disch := omega) only [l_0, l_1, l_2, l_3, l_4, l_5, l_6, l_7, l_8, l_9, l_10, l_12, l_20, l_24, l_25, l_31, l_32, l_48, l_50, l_56, l_57, l_59, l_97, l_99, l_100, l_120, l_122, l_177, l_178, l_201, l_226, l_255, l_400, l_420, l_600, l_700, l_840, l_1000, l_1300, l_2000, l_1000000, nI_add, mr4, ml4, mr5, ml5, mr6, ml6, mr10, ml10, mr24, ml24, mr201, ml201, mr420, ml420, mr226, ml226, mr2, ml2, nI_clamp, lt_T, lt_F, le_T, le_F, eq_T, eq_F, ck_n, dv_n, cp_n, rem_n, pk_div, at1_same, at1_ne, cb_n, Option.bind_some, if_pos, if_neg, ↓reduceIte, and_self, and_true, true_and, and_false, false_and, not_true_eq_false, not_false_eq_true, nI_sub', cC hC, cCe hC]) (fun n => by
    rw [f_X0_joinFits_2]
    simp (disch := omega) only [l_0, l_1, l_2, l_3, l_4, l_5, l_6, l_7, l_8, l_9, l_10, l_12, l_20, l_24, l_25, l_31, l_32, l_48, l_50, l_56, l_57, l_59, l_97, l_99, l_100, l_120, l_122, l_177, l_178, l_201, l_226, l_255, l_400, l_420, l_600, l_700, l_840, l_1000, l_1300, l_2000, l_1000000, nI_add, mr4, ml4, mr5, ml5, mr6, ml6, mr10, ml10, mr24, ml24, mr201, ml201, mr420, ml420, mr226, ml226, mr2, ml2, nI_clamp, lt_T, lt_F, le_T, le_F, eq_T, eq_F, ck_n, dv_n, cp_n, rem_n, pk_div, at1_same, at1_ne, cb_n, Option.bind_some, if_pos, if_neg, ↓reduceIte, and_self, and_true, true_and, and_false, false_and, not_true_eq_false, not_false_eq_true, nI_sub', cC hC]) (σ 0) 0 F (by omega) (by omega) with ⟨h1, h2⟩ | ⟨⟨j, h1, h2, h3⟩, h4⟩
  · exact .inl ⟨fun c hc => h1 c (by omega) hc, h2⟩
  · exact .inr ⟨fun z => h3 (z j h2), h4⟩
theorem m_doubled {M T C H Y N S X0 : Mem} {LM : MemL} {Ks : Nat → Mem} {σ : Sg} {a : Nat} {h : Nat → Sg} (ra : Ra M T C H Ks σ a h) {F : Nat} (hF : 10000 ≤ F) (x1 : Int32) : ∃ v C' H' Y' N' S' Ks' M', f_X9_doubled F X0 C H Y N S Ks x1 = some (v, C', H', Y', N', S', Ks') ∧ f_X10_doubled F M LM x1 = some (v, M') ∧ Out M T C H Y N S Ks M' C' H' Y' N' S' Ks' := by
  obtain ⟨hC, hM, hs, -⟩ := id ra
  have h0 := kC hs
  have h1 := kR hs
  have hF' : 10 ≤ F := by omega
  obtain ⟨x, r1, r2, rfl⟩ := zI_of x1
  unfold f_X9_doubled f_X10_doubled
  by_cases hx : 0 ≤ x ∧ x < (σ 1 : Int)
  · obtain ⟨r, rfl⟩ := Int.eq_ofNat_of_zero_le hx.1
    have hr : r < σ 1 := by omega
    simp only [zI_c]
    rw [hasRow_n hC h1 F hr, isRow_n hM h1 F hr]
    simp only [Option.bind_some]
    rw [if_neg n10, if_neg n10, h_countersOf hC h0 hF' (by omega), g_countersOf hM h0 hF' (by omega)]
    simp only [Option.bind_some]
    by_cases z : nI (ctN σ r (σ 0)) = 0
    · rw [if_pos z, if_pos z]
      exact ⟨_, _, _, _, _, _, _, _, rfl, rfl, .inl ⟨rfl, rfl, rfl, rfl, rfl, rfl, Pm_rfl M⟩⟩
    · rw [if_neg z, if_neg z]
      have A : ∀ k : Mem → Option (Int32 × Mem), ∃ M1, f_X10_doubled_20 F LM (nI r) k F M (nI 0) = k M1 ∧ Fl M M1 5 0 (σ 0) (fun j => nI (2 * σ (8 + (6 * r + j)))) := fun k => by
        have := fill_up (f_X10_doubled_20 F LM (nI r) k) k 5 0 0 0 (σ 0) (fun j => nI (2 * σ (8 + (6 * r + j)))) M (fun n i N _ hi hN => by
          rw [f_X10_doubled_20]
          have e1 : N 1 = M 1 := Fl_c hN (by decide)
          have hN' : StM N σ := fun j hj => by rw [e1]; exact hM j hj
          have e0 : N 1 0 = nI (σ 0) := hN' 0 (by omega)
          have e2 := g_now (LM := LM) hN' F (r := r) (c := i) (by omega) (by omega)
          rw [Nat.add_assoc] at e2
          simp only [Nat.zero_add]
          simp (disch := omega) only [l_0, l_1, l_2, l_3, l_4, l_5, l_6, l_7, l_8, l_9, l_10, l_12, l_20, l_24, l_25, l_31, l_32, l_48, l_50, l_56, l_57, l_59, l_97, l_99, l_100, l_120, l_122, l_177, l_178, l_201, l_226, l_255, l_400, l_420, l_600, l_700, l_840, l_1000, l_1300, l_2000, l_1000000, nI_add, mr4, ml4, mr5, ml5, mr6, ml6, mr10, ml10, mr24, ml24, mr201, ml201, mr420, ml420, mr226, ml226, mr2, ml2, nI_clamp, lt_T, lt_F, le_T, le_F, eq_T, eq_F, ck_n, dv_n, cp_n, rem_n, pk_div, at1_same, at1_ne, cb_n, Option.bind_some, if_pos, if_neg, ↓reduceIte, and_self, and_true, true_and, and_false, false_and, not_true_eq_false, not_false_eq_true, nI_sub', e0, e2]) (fun n N hN => by
          rw [f_X10_doubled_20]
          have e0 : N 1 0 = nI (σ 0) := by rw [Fl_c hN (by decide)]; exact hM 0 (by omega)
          simp only [Nat.zero_add]
          simp (disch := omega) only [l_0, l_1, l_2, l_3, l_4, l_5, l_6, l_7, l_8, l_9, l_10, l_12, l_20, l_24, l_25, l_31, l_32, l_48, l_50, l_56, l_57, l_59, l_97, l_99, l_100, l_120, l_122, l_177, l_178, l_201, l_226, l_255, l_400, l_420, l_600, l_700, l_840, l_1000, l_1300, l_2000, l_1000000, nI_add, mr4, ml4, mr5, ml5, mr6, ml6, mr10, ml10, mr24, ml24, mr201, ml201, mr420, ml420, mr226, ml226, mr2, ml2, nI_clamp, lt_T, lt_F, le_T, le_F, eq_T, eq_F, ck_n, dv_n, cp_n, rem_n, pk_div, at1_same, at1_ne, cb_n, Option.bind_some, if_pos, if_neg, ↓reduceIte, and_self, and_true, true_and, and_false, false_and, not_true_eq_false, not_false_eq_true, nI_sub', e0]) (σ 0) 0 F M (by omega) (by omega) (by omega) (Fl_0 M 5 _ _)
        simp only [Nat.zero_add] at this
        exact this
      obtain ⟨M1, m1, m2⟩ := A (fun M_50 => (f_X10_isOwnFull F M_50 LM).bind (fun z51 => (if z51 = 0 then (f_X10_takesOwn F M_50 LM (nI r)).bind (fun z61 => (f_X10_sumOf F z61 LM (nI r)).bind (fun z66 => (some (z66, z61)))) else (some ((-1), M_50)))))
      have p1 : Pm M M1 := Pm_f m2 (by decide) (by decide) (by decide) (by decide) (by decide)
      have hM1 := StM_p hM p1
      have m15 : ∀ c, c < σ 0 → M1 5 c = nI (2 * σ (8 + (6 * r + c))) := fun c hc => Fl_i m2 (by omega) hc
      have m1' := m1
      rw [← l_0] at m1'
      rw [m1']
      rcases h_joinFits hC hs (r := r) (s := r) (by omega) (by omega) hF' with ⟨j1, j2⟩ | ⟨j1, j2⟩
      · rcases g_ownFull (LM := LM) hM1 h0 m15 (fun c hc => by have := (kCe hs (j := 6 * r + c) (by omega)).1; omega) hF' with ⟨o1, o2⟩ | ⟨o1, o2⟩
        · rw [j2, o2]
          simp only [Option.bind_some]
          rw [if_neg n10, if_pos n00]
          obtain ⟨H', Y', N', S', Ks', M', b1, b2, b3, b4⟩ := m_own (X0 := X0) (Y := Y) (N := N) (S := S) (LM := LM) (Ra_m p1 ra) hF hr (v := fun c => 2 * σ (8 + (6 * r + c))) o1 m15
          have := fill_up (f_X9_doubled_42 F X0 H' Y' N' S' Ks' (nI r) (fun C_77 => (f_X0_makeAnew F C_77).bind (fun z81 => (f_X0_sumOf F z81 (nI r)).bind (fun z89 => (some (z89, z81, H', Y', N', S', Ks')))))) (fun C_77 => (f_X0_makeAnew F C_77).bind (fun z81 => (f_X0_sumOf F z81 (nI r)).bind (fun z89 => (some (z89, z81, H', Y', N', S', Ks'))))) 3 0 (6 * r) 0 (σ 0) (fun j => nI (2 * σ (8 + j))) C (fun n i N _ hi hN => by
            rw [f_X9_doubled_42]
            have e0 : N 0 6 = nI (σ 0) := by rw [Fl_c hN (by decide)]; exact cC hC
            have e1 : N 3 (6 * r + i) = nI (σ (8 + (6 * r + i))) := by rw [Fl_o hN (by omega)]; exact cCe hC (by omega)
            simp only [Nat.zero_add]
            simp (disch := omega) only [l_0, l_1, l_2, l_3, l_4, l_5, l_6, l_7, l_8, l_9, l_10, l_12, l_20, l_24, l_25, l_31, l_32, l_48, l_50, l_56, l_57, l_59, l_97, l_99, l_100, l_120, l_122, l_177, l_178, l_201, l_226, l_255, l_400, l_420, l_600, l_700, l_840, l_1000, l_1300, l_2000, l_1000000, nI_add, mr4, ml4, mr5, ml5, mr6, ml6, mr10, ml10, mr24, ml24, mr201, ml201, mr420, ml420, mr226, ml226, mr2, ml2, nI_clamp, lt_T, lt_F, le_T, le_F, eq_T, eq_F, ck_n, dv_n, cp_n, rem_n, pk_div, at1_same, at1_ne, cb_n, Option.bind_some, if_pos, if_neg, ↓reduceIte, and_self, and_true, true_and, and_false, false_and, not_true_eq_false, not_false_eq_true, nI_sub', e0, e1]) (fun n N hN => by
            rw [f_X9_doubled_42]
            have e0 : N 0 6 = nI (σ 0) := by rw [Fl_c hN (by decide)]; exact cC hC
            simp only [Nat.zero_add]
            simp (disch := omega) only [l_0, l_1, l_2, l_3, l_4, l_5, l_6, l_7, l_8, l_9, l_10, l_12, l_20, l_24, l_25, l_31, l_32, l_48, l_50, l_56, l_57, l_59, l_97, l_99, l_100, l_120, l_122, l_177, l_178, l_201, l_226, l_255, l_400, l_420, l_600, l_700, l_840, l_1000, l_1300, l_2000, l_1000000, nI_add, mr4, ml4, mr5, ml5, mr6, ml6, mr10, ml10, mr24, ml24, mr201, ml201, mr420, ml420, mr226, ml226, mr2, ml2, nI_clamp, lt_T, lt_F, le_T, le_F, eq_T, eq_F, ck_n, dv_n, cp_n, rem_n, pk_div, at1_same, at1_ne, cb_n, Option.bind_some, if_pos, if_neg, ↓reduceIte, and_self, and_true, true_and, and_false, false_and, not_true_eq_false, not_false_eq_true, nI_sub', e0]) (σ 0) 0 F C (by omega) (by omega) (by omega) (Fl_0 C 3 _ _)
          obtain ⟨C1, c1, c2⟩ := this
          have hC1 : StB C1 (rwS σ r (fun c => 2 * σ (8 + (6 * r + c)))) := StB_rw (StC_B hC) h0 c2 (fun c hc => rfl)
          obtain ⟨C', d1, d2⟩ := b4 C1 hC1
          have c1' : f_X9_doubled_42 F X0 H' Y' N' S' Ks' (nI r) (fun C_77 => (f_X0_makeAnew F C_77).bind (fun z81 => (f_X0_sumOf F z81 (nI r)).bind (fun z89 => (some (z89, z81, H', Y', N', S', Ks'))))) F C 0 = _ := c1
          rw [b1, b2]
          simp only [Option.bind_some]
          rw [c1', d1]
          simp only [Option.bind_some]
          rw [h_sumOf d2.1 d2.2.2.1.1 hF' (by omega), g_sumOf d2.2.1 d2.2.2.1.1 hF' (by omega)]
          exact ⟨_, _, _, _, _, _, _, _, rfl, rfl, .inr ⟨_, _, _, d2, b3⟩⟩
        · exact absurd (fun c hc => by have := j1 c hc; omega) o1
      · rcases g_ownFull (LM := LM) hM1 h0 m15 (fun c hc => by have := (kCe hs (j := 6 * r + c) (by omega)).1; omega) hF' with ⟨o1, o2⟩ | ⟨o1, o2⟩
        · exact absurd (fun c hc => by have := o1 c hc; omega) j1
        · rw [j2, o2]
          simp only [Option.bind_some]
          rw [if_pos n00, if_neg n10]
          exact ⟨_, _, _, _, _, _, _, _, rfl, rfl, .inl ⟨rfl, rfl, rfl, rfl, rfl, rfl, p1⟩⟩
  · rw [hasRow_x hC h1 F hx r1 r2, isRow_x hM h1 F hx r1 r2]
    simp only [Option.bind_some]
    rw [if_pos n00, if_pos n00]
    exact ⟨_, _, _, _, _, _, _, _, rfl, rfl, .inl ⟨rfl, rfl, rfl, rfl, rfl, rfl, Pm_rfl M⟩⟩
