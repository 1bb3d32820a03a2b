/-! PURE LAYER: slide, strike -/
theorem okS_tk {σ : Sg} {ce : Nat → Int} (hs : okS σ) (h1 : ∀ j, j < 24 → 0 ≤ ce j ∧ ce j ≤ 99) (h2 : ∀ r c, r < 4 → c < 6 → σ 1 ≤ r ∨ σ 0 ≤ c → ce (6 * r + c) = 0) : okS (tkS σ ce) := by
  obtain ⟨s0, s1, s2, s3, s4, s5, s6, s7, s8, s9⟩ := hs
  have lo : ∀ j, ¬ (8 ≤ j ∧ j < 32) → tkS σ ce j = σ j := fun j hj => if_neg hj
  have e0 := lo 0 (by omega)
  have e1 := lo 1 (by omega)
  have e2 := lo 2 (by omega)
  have e56 := lo 56 (by omega)
  have e177 := lo 177 (by omega)
  refine ⟨by omega, by omega, by omega, by omega, fun j g1 g2 => ?_, fun r c hr hc => ?_, by omega, fun i hi => ?_, by omega, fun k hk => ?_⟩
  · rw [lo _ (by omega)]; exact s4 j g1 (by omega)
  · have z := s5 r c hr hc
    have e : tkS σ ce (8 + 6 * r + c) = (ce (6 * r + c)).toNat := by
      unfold tkS
      rw [if_pos (by omega)]
      congr 2
      omega
    have q := h1 (6 * r + c) (by omega)
    rw [lo (32 + 6 * r + c) (by omega), e, e0, e1]
    refine ⟨by omega, z.2.1, fun w => ⟨?_, (z.2.2 w).2⟩⟩
    rw [h2 r c hr hc w]; rfl
  · have z := s7 i (by omega)
    unfold okMv at z ⊢
    simp (disch := omega) only [lo]
    exact z
  · have z := s9 k (by omega)
    simp (disch := omega) only [lo]
    exact z
theorem ap_0 {σ : Sg} (hs : okS σ) {A B : Nat} {x y t : Int} (hA : A / 6 < σ 1 ∧ A % 6 < σ 0) (hB : B / 6 < σ 1 ∧ B % 6 < σ 0) : ∀ r c, r < 4 → c < 6 → σ 1 ≤ r ∨ σ 0 ≤ c → apE (sg8 σ) A B x y t (6 * r + c) = 0 := fun r c hr hc w => by
  have z := ((okS_B hs).2.2.2.2.2 r c hr hc).2 w
  unfold apE sg8
  rw [z, if_neg (by omega), if_neg (by omega)]
  rfl
theorem StC_tk {C C' : Mem} {σ : Sg} {ce : Nat → Int} (hC : StC C σ) (h0 : σ 0 ≤ 6) (a1 : CeC C' ce) (a2 : ∀ q, q ≠ 3 → C' q = C q) (h1 : ∀ j, j < 24 → 0 ≤ ce j) : StC C' (tkS σ ce) := by
  have lo : ∀ j, ¬ (8 ≤ j ∧ j < 32) → tkS σ ce j = σ j := fun j hj => if_neg hj
  refine ⟨?_, ?_, ?_, ?_, fun j hj => ?_, fun j hj => ?_, fun j hj => ?_, fun j hj => ?_⟩
  · rw [a2 0 (by decide), lo 0 (by omega)]; exact cC hC
  · rw [a2 0 (by decide), lo 1 (by omega)]; exact cR hC
  · rw [a2 0 (by decide), lo 56 (by omega)]; exact cMv hC
  · rw [a2 0 (by decide), lo 177 (by omega)]; exact cSe hC
  · rw [lo 0 (by omega)] at hj
    rw [a2 1 (by decide), a2 2 (by decide), lo _ (by omega), wo_cg (τ := σ) j (fun i g1 g2 => lo _ (by omega))]
    exact ⟨cRt hC hj, cWo hC hj⟩
  · have e : tkS σ ce (8 + j) = (ce j).toNat := by
      unfold tkS
      rw [if_pos (by omega)]
      congr 2
      omega
    rw [e, lo _ (by omega), a2 4 (by decide), a1 j hj]
    exact ⟨nI_of0 (h1 j hj), cBe hC hj⟩
  · rw [lo 56 (by omega)] at hj
    rw [a2 5 (by decide), lo _ (by omega)]; exact cLo hC hj
  · rw [lo 177 (by omega)] at hj
    rw [a2 6 (by decide), lo _ (by omega)]; exact cSi hC hj
theorem h_tellSlide {E : Mem} {A B : Nat} (up : Int32) (hu : (up = 0 ∧ B + 1 = A) ∨ (¬ up = 0 ∧ B = A + 1)) (F : Nat) : ∃ E', f_X1_tellSlide F E (nI A) up = some E' ∧ Se E' A B (-1) 1 := by
  unfold f_X1_tellSlide f_X1_tellSlide_16
  rcases hu with ⟨u, b⟩ | ⟨u, b⟩
  · have e : nI A - 1 = nI B := by rw [← b]; exact nI_pred B
    obtain ⟨E', t0, t1, t2, t3, t4⟩ := Se_tell E F (nI A) (-1) (nI B) 1
    rw [if_pos u, e, t0]
    exact ⟨E', rfl, t1, t2, t3, t4⟩
  · have e : nI A + 1 = nI B := by rw [b]; exact nI_1 A
    obtain ⟨E', t0, t1, t2, t3, t4⟩ := Se_tell E F (nI A) (-1) (nI B) 1
    rw [if_neg u, e, t0]
    exact ⟨E', rfl, t1, t2, t3, t4⟩
theorem m_slide0 {M T C H Y N S E X0 : Mem} {LM : MemL} {Ks : Nat → Mem} {σ : Sg} {a : Nat} {h : Nat → Sg} (ra : Ra M T C H Ks σ a h) {F : Nat} (hF : 10000 ≤ F) {r c to : Nat} (hr : r < σ 1) (hc : c < σ 0) (ht : to < σ 0) {up : Int32} (hu : (up = 0 ∧ to + 1 = c) ∨ (¬ up = 0 ∧ to = c + 1)) : ∃ v C' H' Y' N' S' E' Ks' M', f_X9_slide_13 F X0 C H Y N S E Ks (nI r) (nI c) up (nI to) = some (v, C', H', Y', N', S', E', Ks') ∧ f_X10_slide F M LM (nI r) (nI c) up = some (v, M') ∧ Out M T C H Y N S Ks M' C' H' Y' N' S' Ks' := by
  obtain ⟨hC, hM, hs, -⟩ := id ra
  have h0 := kC hs
  have h1 := kR hs
  have hF' : 10 ≤ F := by omega
  obtain ⟨M1, l1, l2, l3⟩ := g_laysNow (LM := LM) hM hF
  have p1 := Pm_4 l3
  have hM1 := StM_p hM p1
  obtain ⟨E', e1, e2⟩ := h_tellSlide (E := E) (A := 6 * r + c) (B := 6 * r + to) up (hu.imp (fun q => ⟨q.1, by have := q.2; omega⟩) (fun q => ⟨q.1, by have := q.2; omega⟩)) F
  have kA := (kCe hs (j := 6 * r + c) (by omega)).1
  have kB := (kCe hs (j := 6 * r + to) (by omega)).1
  have cA : M1 4 (6 * r + c) = nI (σ (8 + (6 * r + c))) := by rw [l2 _ (by omega)]; exact zI_c _
  have cB : M1 4 (6 * r + to) = nI (σ (8 + (6 * r + to))) := by rw [l2 _ (by omega)]; exact zI_c _
  have eA : nI r * 6 + nI c = nI (6 * r + c) := cell_nI r c
  have sl : f_X10_slips F M1 LM (nI r) (nI c) up = f_X10_slips_13 F M1 LM (nI r) (nI c) (nI to) := by
    unfold f_X10_slips
    rcases hu with ⟨u, b⟩ | ⟨u, b⟩
    · have e : nI c - 1 = nI to := by rw [← b]; exact nI_pred to
      rw [if_pos u, e]
    · have e : nI c + 1 = nI to := by rw [b]; exact nI_1 c
      rw [if_neg u, e]
  unfold f_X9_slide_13 f_X10_slide
  rw [l1]
  simp only [Option.bind_some]
  rw [sl, hasCell_n hC h0 h1 F hr hc, hasCol_n hC h0 F ht]
  simp only [Option.bind_some]
  rw [if_neg n10, if_neg n10, eA, e1]
  simp only [Option.bind_some]
  have fr : fitC (sg8 σ) (6 * r + c) (6 * r + to) (-1) 1 ↔ (1 ≤ σ (8 + (6 * r + c)) ∧ σ (8 + (6 * r + to)) < 99) := by
    unfold fitC sg8
    omega
  have s13 : f_X10_slips_13 F M1 LM (nI r) (nI c) (nI to) = some (if 1 ≤ σ (8 + (6 * r + c)) ∧ σ (8 + (6 * r + to)) < 99 then nI 1 else nI 0) := by
    unfold f_X10_slips_13 f_X10_cell
    rw [isCell_n hM1 h0 h1 F hr hc, isCol_n hM1 h0 F ht]
    by_cases q1 : 1 ≤ σ (8 + (6 * r + c))
    · by_cases q2 : σ (8 + (6 * r + to)) < 99
      · simp (disch := omega) only [l_0, l_1, l_2, l_3, l_4, l_5, l_6, l_7, l_8, l_9, l_10, l_12, l_20, l_24, l_25, l_31, l_32, l_48, l_50, l_56, l_57, l_59, l_97, l_99, l_100, l_120, l_122, l_177, l_178, l_201, l_226, l_255, l_400, l_420, l_600, l_700, l_840, l_1000, l_1300, l_2000, l_1000000, nI_add, mr4, ml4, mr5, ml5, mr6, ml6, mr10, ml10, mr24, ml24, mr201, ml201, mr420, ml420, mr226, ml226, mr2, ml2, nI_clamp, lt_T, lt_F, le_T, le_F, eq_T, eq_F, ck_n, dv_n, cp_n, rem_n, pk_div, at1_same, at1_ne, cb_n, Option.bind_some, if_pos, if_neg, ↓reduceIte, and_self, and_true, true_and, and_false, false_and, not_true_eq_false, not_false_eq_true, nI_sub', cA, cB]
      · simp (disch := omega) only [l_0, l_1, l_2, l_3, l_4, l_5, l_6, l_7, l_8, l_9, l_10, l_12, l_20, l_24, l_25, l_31, l_32, l_48, l_50, l_56, l_57, l_59, l_97, l_99, l_100, l_120, l_122, l_177, l_178, l_201, l_226, l_255, l_400, l_420, l_600, l_700, l_840, l_1000, l_1300, l_2000, l_1000000, nI_add, mr4, ml4, mr5, ml5, mr6, ml6, mr10, ml10, mr24, ml24, mr201, ml201, mr420, ml420, mr226, ml226, mr2, ml2, nI_clamp, lt_T, lt_F, le_T, le_F, eq_T, eq_F, ck_n, dv_n, cp_n, rem_n, pk_div, at1_same, at1_ne, cb_n, Option.bind_some, if_pos, if_neg, ↓reduceIte, and_self, and_true, true_and, and_false, false_and, not_true_eq_false, not_false_eq_true, nI_sub', cA, cB]
    · simp (disch := omega) only [l_0, l_1, l_2, l_3, l_4, l_5, l_6, l_7, l_8, l_9, l_10, l_12, l_20, l_24, l_25, l_31, l_32, l_48, l_50, l_56, l_57, l_59, l_97, l_99, l_100, l_120, l_122, l_177, l_178, l_201, l_226, l_255, l_400, l_420, l_600, l_700, l_840, l_1000, l_1300, l_2000, l_1000000, nI_add, mr4, ml4, mr5, ml5, mr6, ml6, mr10, ml10, mr24, ml24, mr201, ml201, mr420, ml420, mr226, ml226, mr2, ml2, nI_clamp, lt_T, lt_F, le_T, le_F, eq_T, eq_F, ck_n, dv_n, cp_n, rem_n, pk_div, at1_same, at1_ne, cb_n, Option.bind_some, if_pos, if_neg, ↓reduceIte, and_self, and_true, true_and, and_false, false_and, not_true_eq_false, not_false_eq_true, nI_sub', cA, cB]
  rw [s13]
  rcases h_stays (CeC_8 hC) e2 (by omega) (by omega) (b8 hs) (by omega) (by omega) F with ⟨f, s1⟩ | ⟨f, s1⟩
  · rw [s1, if_pos (fr.mp f)]
    simp only [Option.bind_some]
    rw [if_neg n10, if_neg n10]
    obtain ⟨H', Y', N', S', Ks', M2, b1, b2, b3, b4, -, -, b5, b6⟩ := m_begin (X0 := X0) (Y := Y) (N := N) (S := S) (LM := LM) (Ra_m p1 ra) hF
    obtain ⟨C1, a1, a2, a3⟩ := h_apply (CeC_8 hC) e2 (by omega) (by omega) F
    have ok : ∀ j, j < 24 → 0 ≤ apE (sg8 σ) (6 * r + c) (6 * r + to) (-1) 1 1 j ∧ apE (sg8 σ) (6 * r + c) (6 * r + to) (-1) 1 1 j ≤ 99 := fun j hj => ap_ok hs f (by omega) hj
    have hs' : okS (tkS σ (apE (sg8 σ) (6 * r + c) (6 * r + to) (-1) 1 1)) := okS_tk hs ok (ap_0 hs (by omega) (by omega))
    have hC1 := StC_tk hC h0 a2 a3 (fun j hj => (ok j hj).1)
    have fA := (fr.mp f).1
    have n1 : f_X10_now F M2 LM (nI r) (nI c) = some (nI (σ (8 + (6 * r + c)))) := by rw [g_now b3.2.1 F (by omega) (by omega), Nat.add_assoc]
    have m8 : ∀ j, j < 226 → upd (upd (M2 1) (8 + (6 * r + c)) (nI (σ (8 + (6 * r + c)) - 1))) (8 + (6 * r + to)) (nI (σ (8 + (6 * r + to)) + 1)) j = nI (tkS σ (apE (sg8 σ) (6 * r + c) (6 * r + to) (-1) 1 1) j) := fun j hj => by
      rw [upd_at, upd_at]
      unfold tkS
      by_cases g1 : j = 8 + (6 * r + to)
      · subst g1
        have z : apE (sg8 σ) (6 * r + c) (6 * r + to) (-1) 1 1 (8 + (6 * r + to) - 8) = (σ (8 + (6 * r + to)) : Int) + 1 := by
          have e : 8 + (6 * r + to) - 8 = 6 * r + to := by omega
          rw [e]
          unfold apE sg8
          rw [if_neg (by omega), if_pos rfl]
          omega
        rw [if_pos rfl, if_pos (by omega), z]
        congr 1
      · rw [if_neg g1]
        by_cases g2 : j = 8 + (6 * r + c)
        · subst g2
          have z : apE (sg8 σ) (6 * r + c) (6 * r + to) (-1) 1 1 (8 + (6 * r + c) - 8) = (σ (8 + (6 * r + c)) : Int) - 1 := by
            have e : 8 + (6 * r + c) - 8 = 6 * r + c := by omega
            rw [e]
            unfold apE sg8
            rw [if_pos rfl, if_neg (by omega)]
            omega
          rw [if_pos rfl, if_pos (by omega), z]
          congr 1
          omega
        · rw [if_neg g2]
          by_cases g3 : 8 ≤ j ∧ j < 32
          · have z : apE (sg8 σ) (6 * r + c) (6 * r + to) (-1) 1 1 (j - 8) = (σ j : Int) := by
              unfold apE sg8
              have e : 8 + (j - 8) = j := by omega
              rw [if_neg (by omega), if_neg (by omega), e]
              omega
            rw [if_pos g3, z]
            exact b3.2.1 j hj
          · rw [if_neg g3]
            exact b3.2.1 j hj
    have hM4 : StM (mr (mr M2 1 (upd (M2 1) (8 + (6 * r + c)) (nI (σ (8 + (6 * r + c)) - 1)))) 1 (upd (upd (M2 1) (8 + (6 * r + c)) (nI (σ (8 + (6 * r + c)) - 1))) (8 + (6 * r + to)) (nI (σ (8 + (6 * r + to)) + 1)))) (tkS σ (apE (sg8 σ) (6 * r + c) (6 * r + to) (-1) 1 1)) := fun j hj => by rw [mr_s]; exact m8 j hj
    have q4 : Pq M2 (mr (mr M2 1 (upd (M2 1) (8 + (6 * r + c)) (nI (σ (8 + (6 * r + c)) - 1)))) 1 (upd (upd (M2 1) (8 + (6 * r + c)) (nI (σ (8 + (6 * r + c)) - 1))) (8 + (6 * r + to)) (nI (σ (8 + (6 * r + to)) + 1)))) := Pq_tr (Pq_k M2 _ (by decide) (by decide) (by decide) (by decide)) (Pq_k _ _ (by decide) (by decide) (by decide) (by decide))
    have wT : ∀ j, j < 6 → wo (tkS σ (apE (sg8 σ) (6 * r + c) (6 * r + to) (-1) 1 1)) j = wo σ j := fun j hj => wo_cg j (fun i g1 g2 => if_neg (by omega))
    have M2B : M2 1 (8 + (6 * r + to)) = nI (σ (8 + (6 * r + to))) := b3.2.1 _ (by omega)
    have e47 : f_X10_slide_47 F (mr M2 1 (upd (M2 1) (8 + (6 * r + c)) (nI (σ (8 + (6 * r + c)) - 1)))) LM (nI r) (nI c) up (nI to) = some (nI (wo σ to) - nI (wo σ c), mr (mr M2 1 (upd (M2 1) (8 + (6 * r + c)) (nI (σ (8 + (6 * r + c)) - 1)))) 1 (upd (upd (M2 1) (8 + (6 * r + c)) (nI (σ (8 + (6 * r + c)) - 1))) (8 + (6 * r + to)) (nI (σ (8 + (6 * r + to)) + 1)))) := by
      have ch : f_X10_changeOf F (mr (mr M2 1 (upd (M2 1) (8 + (6 * r + c)) (nI (σ (8 + (6 * r + c)) - 1)))) 1 (upd (upd (M2 1) (8 + (6 * r + c)) (nI (σ (8 + (6 * r + c)) - 1))) (8 + (6 * r + to)) (nI (σ (8 + (6 * r + to)) + 1)))) LM (nI c) up = some (nI (wo σ to) - nI (wo σ c)) := by
        unfold f_X10_changeOf f_X10_changeOf_14
        rcases hu with ⟨u, b⟩ | ⟨u, b⟩
        · have e : nI c - 1 = nI to := by rw [← b]; exact nI_pred to
          rw [if_pos u, e, g_worthOf hM4 hF' (by omega), g_worthOf hM4 hF' (by omega), wT to (by omega), wT c (by omega)]
          rfl
        · have e : nI c + 1 = nI to := by rw [b]; exact nI_1 c
          rw [if_neg u, e, g_worthOf hM4 hF' (by omega), g_worthOf hM4 hF' (by omega), wT to (by omega), wT c (by omega)]
          rfl
      unfold f_X10_slide_47 f_X10_now f_X10_sets f_X10_cell
      simp (disch := omega) only [l_0, l_1, l_2, l_3, l_4, l_5, l_6, l_7, l_8, l_9, l_10, l_12, l_20, l_24, l_25, l_31, l_32, l_48, l_50, l_56, l_57, l_59, l_97, l_99, l_100, l_120, l_122, l_177, l_178, l_201, l_226, l_255, l_400, l_420, l_600, l_700, l_840, l_1000, l_1300, l_2000, l_1000000, nI_add, mr4, ml4, mr5, ml5, mr6, ml6, mr10, ml10, mr24, ml24, mr201, ml201, mr420, ml420, mr226, ml226, mr2, ml2, nI_clamp, lt_T, lt_F, le_T, le_F, eq_T, eq_F, ck_n, dv_n, cp_n, rem_n, pk_div, at1_same, at1_ne, cb_n, Option.bind_some, if_pos, if_neg, ↓reduceIte, and_self, and_true, true_and, and_false, false_and, not_true_eq_false, not_false_eq_true, nI_sub', pk_us, pk_un, M2B, ch]
    have st : f_X10_sets F M2 LM (nI r) (nI c) (nI (σ (8 + (6 * r + c))) - 1) = some (mr M2 1 (upd (M2 1) (8 + (6 * r + c)) (nI (σ (8 + (6 * r + c)) - 1)))) := by
      unfold f_X10_sets f_X10_cell
      simp (disch := omega) only [l_0, l_1, l_2, l_3, l_4, l_5, l_6, l_7, l_8, l_9, l_10, l_12, l_20, l_24, l_25, l_31, l_32, l_48, l_50, l_56, l_57, l_59, l_97, l_99, l_100, l_120, l_122, l_177, l_178, l_201, l_226, l_255, l_400, l_420, l_600, l_700, l_840, l_1000, l_1300, l_2000, l_1000000, nI_add, mr4, ml4, mr5, ml5, mr6, ml6, mr10, ml10, mr24, ml24, mr201, ml201, mr420, ml420, mr226, ml226, mr2, ml2, nI_clamp, lt_T, lt_F, le_T, le_F, eq_T, eq_F, ck_n, dv_n, cp_n, rem_n, pk_div, at1_same, at1_ne, cb_n, Option.bind_some, if_pos, if_neg, ↓reduceIte, and_self, and_true, true_and, and_false, false_and, not_true_eq_false, not_false_eq_true, nI_sub']
    rw [b1, b2, a1]
    simp only [Option.bind_some]
    rw [n1]
    simp only [Option.bind_some]
    rw [st]
    simp only [Option.bind_some]
    have up47 : (if up = 0 then f_X10_slide_47 F (mr M2 1 (upd (M2 1) (8 + (6 * r + c)) (nI (σ (8 + (6 * r + c)) - 1)))) LM (nI r) (nI c) up (nI c - 1) else f_X10_slide_47 F (mr M2 1 (upd (M2 1) (8 + (6 * r + c)) (nI (σ (8 + (6 * r + c)) - 1)))) LM (nI r) (nI c) up (nI c + 1)) = f_X10_slide_47 F (mr M2 1 (upd (M2 1) (8 + (6 * r + c)) (nI (σ (8 + (6 * r + c)) - 1)))) LM (nI r) (nI c) up (nI to) := by
      rcases hu with ⟨u, b⟩ | ⟨u, b⟩
      · have e : nI c - 1 = nI to := by rw [← b]; exact nI_pred to
        rw [if_pos u, e]
      · have e : nI c + 1 = nI to := by rw [b]; exact nI_1 c
        rw [if_neg u, e]
    rw [up47, e47]
    have w1 : C1 2 to = nI (wo σ to) := by rw [a3 2 (by decide)]; exact cWo hC ht
    have w2 : C1 2 c = nI (wo σ c) := by rw [a3 2 (by decide)]; exact cWo hC hc
    rw [ck_n (by omega) (by decide), ck_n (by omega) (by decide), nI_clamp (by omega), nI_clamp (by omega), w1, w2]
    exact ⟨_, _, _, _, _, _, _, _, _, rfl, rfl, .inr ⟨_, _, _, Ra_to b3 q4 hC1 hM4 hs', b4⟩⟩
  · rw [s1, if_neg (fun q => f (fr.mpr q))]
    simp only [Option.bind_some]
    rw [if_pos n00, if_pos n00]
    exact ⟨_, _, _, _, _, _, _, _, _, rfl, rfl, .inl ⟨rfl, rfl, rfl, rfl, rfl, rfl, p1⟩⟩
theorem m_slide {M T C H Y N S E X0 : Mem} {LM : MemL} {Ks : Nat → Mem} {σ : Sg} {a : Nat} {h : Nat → Sg} (ra : Ra M T C H Ks σ a h) {F : Nat} (hF : 10000 ≤ F) (x1 x2 up : Int32) : ∃ v C' H' Y' N' S' E' Ks' M', f_X9_slide F X0 C H Y N S E Ks x1 x2 up = some (v, C', H', Y', N', S', E', Ks') ∧ f_X10_slide F M LM x1 x2 up = some (v, M') ∧ Out M T C H Y N S Ks M' C' H' Y' N' S' Ks' := by
  obtain ⟨hC, hM, hs, -⟩ := id ra
  have h0 := kC hs
  have h1 := kR hs
  obtain ⟨r, r1, r2, rfl⟩ := zI_of x1
  obtain ⟨c, c1, c2, rfl⟩ := zI_of x2
  obtain ⟨M1, l1, l2, l3⟩ := g_laysNow (LM := LM) hM hF
  have p1 := Pm_4 l3
  have hM1 := StM_p hM p1
  by_cases hX : (0 ≤ r ∧ r < (σ 1 : Int)) ∧ 0 ≤ c ∧ c < (σ 0 : Int)
  · have hz := hasCell_z hC h0 h1 F hX
    have iz := isCell_z (LM := LM) hM1 h0 h1 F hX
    obtain ⟨r, rfl⟩ := Int.eq_ofNat_of_zero_le hX.1.1
    obtain ⟨c, rfl⟩ := Int.eq_ofNat_of_zero_le hX.2.1
    simp only [zI_c] at hz iz ⊢
    unfold f_X9_slide
    by_cases u : up = 0
    · rw [if_pos u]
      by_cases q : 1 ≤ c
      · have e : nI c - 1 = nI (c - 1) := nI_sub' (b := 1) q
        rw [e]
        exact m_slide0 ra hF (by omega) (by omega) (by omega) (.inl ⟨u, by omega⟩)
      · have ez : c = 0 := by omega
        subst ez
        have e : nI 0 - 1 = zI (-1) := rfl
        unfold f_X9_slide_13 f_X10_slide f_X10_slips f_X10_slips_13
        rw [l1]
        simp only [Option.bind_some]
        rw [if_pos u, e, iz, hz, hasCol_x hC h0 F (by omega) (by omega) (by omega), isCol_x hM1 h0 F (by omega) (by omega) (by omega)]
        exact ⟨_, _, _, _, _, _, _, _, _, rfl, rfl, .inl ⟨rfl, rfl, rfl, rfl, rfl, rfl, p1⟩⟩
    · rw [if_neg u]
      have e : nI c + 1 = nI (c + 1) := nI_1 c
      rw [e]
      by_cases q : c + 1 < σ 0
      · exact m_slide0 ra hF (by omega) (by omega) (by omega) (.inr ⟨u, rfl⟩)
      · unfold f_X9_slide_13 f_X10_slide f_X10_slips f_X10_slips_13
        rw [l1]
        simp only [Option.bind_some]
        rw [if_neg u, e, iz, hz, hasCol_o hC h0 F (by omega) (by omega), isCol_o hM1 h0 F (by omega) (by omega)]
        exact ⟨_, _, _, _, _, _, _, _, _, rfl, rfl, .inl ⟨rfl, rfl, rfl, rfl, rfl, rfl, p1⟩⟩
  · have hz := hasCell_x hC h0 h1 F hX r1 r2 c1 c2
    have iz := isCell_x (LM := LM) hM1 h0 h1 F hX r1 r2 c1 c2
    unfold f_X9_slide f_X9_slide_13 f_X10_slide f_X10_slips f_X10_slips_13
    rw [l1]
    simp only [Option.bind_some]
    rw [hz, iz]
    by_cases u : up = 0
    · rw [if_pos u, if_pos u]
      exact ⟨_, _, _, _, _, _, _, _, _, rfl, rfl, .inl ⟨rfl, rfl, rfl, rfl, rfl, rfl, p1⟩⟩
    · rw [if_neg u, if_neg u]
      exact ⟨_, _, _, _, _, _, _, _, _, rfl, rfl, .inl ⟨rfl, rfl, rfl, rfl, rfl, rfl, p1⟩⟩
