/-! PURE LAYER: all slides: the reference; slides, slideAt, times -/
def SoM (M : Mem) (σ : Sg) (q : Nat) : Prop := M 0 24 = nI (slN σ q) ∧ ∀ i, i < slN σ q → M 15 i = nI (slF σ q i / 48) ∧ M 16 i = nI (slF σ q i / 2 % 24 / 6) ∧ M 17 i = nI (slF σ q i / 2 % 24 % 6) ∧ M 18 i = nI (slF σ q i % 2)
theorem SoM_skip {N : Mem} {σ : Sg} {q d : Nat} (h : SoM N σ q) (hn : ∀ p, q ≤ p → p < q + d → ¬ slP σ p) : SoM N σ (q + d) := by
  obtain ⟨a, b⟩ := sl_skip d hn
  unfold SoM
  rw [a, b]
  exact h
theorem SoM_z {M M' : Mem} {σ : Sg} {q : Nat} (p : Pz M M') (h : SoM M σ q) : SoM M' σ q := by
  unfold SoM
  rw [p.2 24 (by decide), p.1 15 (by decide) (by decide), p.1 16 (by decide) (by decide), p.1 17 (by decide) (by decide), p.1 18 (by decide) (by decide)]
  exact h
theorem nar01 {up : Nat} (h : up < 2) : vp_nar .boolean (nI up) = nI up := by
  rcases (by omega : up = 0 ∨ up = 1) with rfl | rfl
  · rfl
  · rfl
theorem g_ls66 {LM : MemL} {σ : Sg} (hs : okS σ) {F : Nat} (hF : 10000 ≤ F) {t r c up : Nat} (ht : t ≤ σ 56) (hr : r < σ 1) (hc : c < σ 0) (hu : up < 2) (k : Mem → Int32 → Option Mem) {M : Mem} (hM : StM M σ) (hq : SoM M σ (48 * t + 12 * r + 2 * c + up)) : ∃ M', f_X10_laysSlides_66 F M LM (nI t) (nI r) (nI c) (nI up) (nI t) (nI r) (nI c) (nI up) k = k M' (nI (up + 1)) ∧ Pm M M' ∧ SoM M' σ (48 * t + 12 * r + 2 * c + up + 1) := by
  have h0 := kC hs
  have h1 := kR hs
  have h5 := kMv hs
  obtain ⟨to, hv⟩ : ∃ to, (to < σ 0 ∧ ((up = 0 ∧ to + 1 = c) ∨ (up = 1 ∧ to = c + 1))) ∨ (to = 100 ∧ ((up = 0 ∧ c = 0) ∨ (up = 1 ∧ σ 0 ≤ c + 1))) := by
    rcases (by omega : up = 0 ∨ up = 1) with e | e
    · by_cases w : c = 0
      · exact ⟨100, .inr ⟨rfl, .inl ⟨e, w⟩⟩⟩
      · exact ⟨c - 1, .inl ⟨by omega, .inl ⟨e, by omega⟩⟩⟩
    · by_cases w : σ 0 ≤ c + 1
      · exact ⟨100, .inr ⟨rfl, .inr ⟨e, w⟩⟩⟩
      · exact ⟨c + 1, .inl ⟨by omega, .inr ⟨e, rfl⟩⟩⟩
  have iff : slP σ (48 * t + 12 * r + 2 * c + up) ↔ (to < σ 0 ∧ Ex σ t t (6 * r + c) (6 * r + to) (-1) 1) := by
    rcases hv with ⟨a, b⟩ | ⟨a, b⟩
    · rw [slP_iff ht hr h1 hc h0 b a]
      exact ⟨fun z => ⟨a, z⟩, fun z => z.2⟩
    · exact ⟨fun z => absurd z (slP_no (by omega) (by omega) hu (by omega)), fun z => by omega⟩
  obtain ⟨M1, p, h⟩ := g_explains (LM := LM) hM hs hF ht hr hc (to := to) (nI up) (hv.imp (fun z => ⟨z.1, z.2.imp (fun w => ⟨by rw [w.1]; rfl, w.2⟩) (fun w => ⟨by rw [w.1]; exact n10, w.2⟩)⟩) (fun z => ⟨z.1, z.2.imp (fun w => ⟨by rw [w.1]; rfl, w.2⟩) (fun w => ⟨by rw [w.1]; exact n10, w.2⟩)⟩))
  have nl := sl_le h0 (q := 48 * t + 12 * r + 2 * c + up) (by omega)
  have hq1 := SoM_z p hq
  have u1 : nI up + 1 = nI (up + 1) := nI_1 up
  unfold f_X10_laysSlides_66
  rcases h with ⟨x1, x2⟩ | ⟨x1, x2⟩
  · have P := iff.mpr x1
    obtain ⟨sT1, sT2⟩ := sl_T P
    rw [x2, Option.bind_some, if_neg n10]
    dsimp only
    rw [hq1.1, ck_n (by omega) (by decide), ck_n (by omega) (by decide), ck_n (by omega) (by decide), nI_clamp (by omega)]
    have e1 : (48 * t + 12 * r + 2 * c + up) / 48 = t := by omega
    have e2 : (48 * t + 12 * r + 2 * c + up) / 2 % 24 / 6 = r := by omega
    have e3 : (48 * t + 12 * r + 2 * c + up) / 2 % 24 % 6 = c := by omega
    have e4 : (48 * t + 12 * r + 2 * c + up) % 2 = up := by omega
    have key : ∀ M' : Mem, M' = mr (mr (mr (mr (mr M1 15 (upd (M1 15) (slN σ (48 * t + 12 * r + 2 * c + up)) (nI t))) 16 (upd (M1 16) (slN σ (48 * t + 12 * r + 2 * c + up)) (nI r))) 17 (upd (M1 17) (slN σ (48 * t + 12 * r + 2 * c + up)) (nI c))) 18 (upd (M1 18) (slN σ (48 * t + 12 * r + 2 * c + up)) (nI up))) 0 (fu (M1 0) 24 (nI (slN σ (48 * t + 12 * r + 2 * c + up) + 1))) → Pm M M' ∧ SoM M' σ (48 * t + 12 * r + 2 * c + up + 1) := fun M' hM' => by
      subst hM'
      refine ⟨Pm_tr (Pz_m p) ⟨?_, ?_, ?_, ?_, ?_, ?_⟩, ?_, fun i hi => ?_⟩
      · simp (disch := omega) only [at1_same, at1_ne]
      · simp (disch := omega) only [at1_same, at1_ne]
      · simp (disch := omega) only [at1_same, at1_ne]
      · simp (disch := omega) only [at1_same, at1_ne]
      · simp (disch := omega) only [at1_same, at1_ne]
      · simp (disch := omega) only [at1_same, at1_ne]
      · rw [mr_s, fu_s, sT1]
      · rw [sT1] at hi
        simp (disch := omega) only [at1_same, at1_ne]
        rw [sT2 i]
        by_cases e : i = slN σ (48 * t + 12 * r + 2 * c + up)
        · rw [if_pos e, e, pk_us, pk_us, pk_us, pk_us, e1, e2, e3, e4]
          exact ⟨rfl, rfl, rfl, rfl⟩
        · rw [if_neg e, pk_un e, pk_un e, pk_un e, pk_un e]
          exact hq1.2 i (by omega)
    have fin : ∀ s2 : Int32, s2 = nI up → f_X10_laysSlides_124 F (mr (mr (mr M1 15 (upd (M1 15) (slN σ (48 * t + 12 * r + 2 * c + up)) (nI t))) 16 (upd (M1 16) (slN σ (48 * t + 12 * r + 2 * c + up)) (nI r))) 17 (upd (M1 17) (slN σ (48 * t + 12 * r + 2 * c + up)) (nI c))) LM (nI t) (nI r) (nI c) (nI up) (nI (slN σ (48 * t + 12 * r + 2 * c + up))) s2 k = k (mr (mr (mr (mr (mr M1 15 (upd (M1 15) (slN σ (48 * t + 12 * r + 2 * c + up)) (nI t))) 16 (upd (M1 16) (slN σ (48 * t + 12 * r + 2 * c + up)) (nI r))) 17 (upd (M1 17) (slN σ (48 * t + 12 * r + 2 * c + up)) (nI c))) 18 (upd (M1 18) (slN σ (48 * t + 12 * r + 2 * c + up)) (nI up))) 0 (fu (M1 0) 24 (nI (slN σ (48 * t + 12 * r + 2 * c + up) + 1)))) (nI (up + 1)) := fun s2 hs2 => by
      unfold f_X10_laysSlides_124
      rw [hs2, nar01 hu, u1]
      simp (disch := omega) only [l_0, l_1, l_2, l_3, l_4, l_5, l_6, l_7, l_8, l_9, l_10, l_12, l_20, l_24, l_25, l_31, l_32, l_48, l_50, l_56, l_57, l_59, l_97, l_99, l_100, l_120, l_122, l_177, l_178, l_201, l_226, l_255, l_400, l_420, l_600, l_700, l_840, l_1000, l_1300, l_2000, l_1000000, nI_add, mr4, ml4, mr5, ml5, mr6, ml6, mr10, ml10, mr24, ml24, mr201, ml201, mr420, ml420, mr226, ml226, mr2, ml2, nI_clamp, lt_T, lt_F, le_T, le_F, eq_T, eq_F, ck_n, dv_n, cp_n, rem_n, pk_div, at1_same, at1_ne, cb_n, Option.bind_some, if_pos, if_neg, ↓reduceIte, and_self, and_true, true_and, and_false, false_and, not_true_eq_false, not_false_eq_true, nI_sub', hq1.1]
    obtain ⟨k1, k2⟩ := key _ rfl
    refine ⟨_, ?_, k1, k2⟩
    by_cases w : up = 1
    · rw [if_pos (by rw [w]; rfl)]
      exact fin 1 (by rw [w]; rfl)
    · have w0 : up = 0 := by omega
      rw [if_neg (by rw [w0]; decide)]
      exact fin 0 (by rw [w0]; rfl)
  · have P : ¬ slP σ (48 * t + 12 * r + 2 * c + up) := fun z => x1 (iff.mp z)
    refine ⟨M1, ?_, Pz_m p, SoM_skip (d := 1) hq1 (fun p g1 g2 => by
      have : p = 48 * t + 12 * r + 2 * c + up := by omega
      rw [this]; exact P)⟩
    rw [x2, Option.bind_some, if_pos n00, u1]
theorem g_ls32 {LM : MemL} {σ : Sg} (hs : okS σ) {F : Nat} (hF : 10000 ≤ F) {t r : Nat} (ht : t ≤ σ 56) (hr : r < σ 1) (k : Mem → Option Mem) : ∀ (d c n : Nat) (M : Mem), c + d = σ 0 → d < n → StM M σ → SoM M σ (48 * t + 12 * r + 2 * c) → ∃ M', f_X10_laysSlides_32 F LM (nI t) (nI r) k n M (nI c) = k M' ∧ Pm M M' ∧ SoM M' σ (48 * t + 12 * r + 12)
  | d, c, 0, M, _, h, _, _ => by omega
  | 0, c, n + 1, M, hc, _, hM, hq => by
    obtain rfl : c = σ 0 := by omega
    have h0 := kC hs
    have h1 := kR hs
    have m0 : M 1 0 = nI (σ 0) := hM 0 (by omega)
    refine ⟨M, ?_, Pm_rfl M, ?_⟩
    · rw [f_X10_laysSlides_32]
      simp (disch := omega) only [l_0, l_1, l_2, l_3, l_4, l_5, l_6, l_7, l_8, l_9, l_10, l_12, l_20, l_24, l_25, l_31, l_32, l_48, l_50, l_56, l_57, l_59, l_97, l_99, l_100, l_120, l_122, l_177, l_178, l_201, l_226, l_255, l_400, l_420, l_600, l_700, l_840, l_1000, l_1300, l_2000, l_1000000, nI_add, mr4, ml4, mr5, ml5, mr6, ml6, mr10, ml10, mr24, ml24, mr201, ml201, mr420, ml420, mr226, ml226, mr2, ml2, nI_clamp, lt_T, lt_F, le_T, le_F, eq_T, eq_F, ck_n, dv_n, cp_n, rem_n, pk_div, at1_same, at1_ne, cb_n, Option.bind_some, if_pos, if_neg, ↓reduceIte, and_self, and_true, true_and, and_false, false_and, not_true_eq_false, not_false_eq_true, nI_sub', m0]
    · have := SoM_skip (d := 12 - 2 * σ 0) hq (fun p g1 g2 => by
        obtain ⟨c, up, e, hc, hu, hc2⟩ : ∃ c up, p = 48 * t + 12 * r + 2 * c + up ∧ c < 6 ∧ up < 2 ∧ σ 0 ≤ c := ⟨(p - (48 * t + 12 * r)) / 2, (p - (48 * t + 12 * r)) % 2, by omega, by omega, by omega, by omega⟩
        rw [e]
        exact slP_no (by omega) hc hu (by omega))
      have e : 48 * t + 12 * r + 2 * σ 0 + (12 - 2 * σ 0) = 48 * t + 12 * r + 12 := by omega
      rw [e] at this
      exact this
  | d + 1, c, n + 1, M, hc, hn, hM, hq => by
    have h0 := kC hs
    have m0 : M 1 0 = nI (σ 0) := hM 0 (by omega)
    obtain ⟨M1, a1, a2, a3⟩ := g_ls66 (LM := LM) hs hF (t := t) (r := r) (c := c) (up := 0) ht hr (by omega) (by omega) (f_X10_laysSlides_45 F LM (nI t) (nI r) (nI c) (fun M_141 => f_X10_laysSlides_32 F LM (nI t) (nI r) k n M_141 (nI (c + 1))) (F - 1)) hM hq
    obtain ⟨M2, b1, b2, b3⟩ := g_ls66 (LM := LM) hs hF (t := t) (r := r) (c := c) (up := 1) ht hr (by omega) (by omega) (f_X10_laysSlides_45 F LM (nI t) (nI r) (nI c) (fun M_141 => f_X10_laysSlides_32 F LM (nI t) (nI r) k n M_141 (nI (c + 1))) (F - 2)) (StM_p hM a2) a3
    obtain ⟨M', e1, e2, e3⟩ := g_ls32 (LM := LM) hs hF ht hr k d (c + 1) n M2 (by omega) (by omega) (StM_p hM (Pm_tr a2 b2)) (by
      have e : 48 * t + 12 * r + 2 * (c + 1) = 48 * t + 12 * r + 2 * c + 1 + 1 := by omega
      rw [e]; exact b3)
    refine ⟨M', ?_, Pm_tr (Pm_tr a2 b2) e2, e3⟩
    have c1 : nI c + 1 = nI (c + 1) := nI_1 c
    have f45 : f_X10_laysSlides_45 F LM (nI t) (nI r) (nI c) (fun M_141 => f_X10_laysSlides_32 F LM (nI t) (nI r) k n M_141 (nI (c + 1))) F M 0 = f_X10_laysSlides_32 F LM (nI t) (nI r) k n M2 (nI (c + 1)) := by
      obtain ⟨F3, hF3⟩ : ∃ F3, F = F3 + 3 := ⟨F - 3, by omega⟩
      have g1 : F - 1 = F3 + 2 := by omega
      have g2 : F - 2 = F3 + 1 := by omega
      rw [g1] at a1
      rw [g2] at b1
      have step0 : ∀ (m : Nat), f_X10_laysSlides_45 F LM (nI t) (nI r) (nI c) (fun M_141 => f_X10_laysSlides_32 F LM (nI t) (nI r) k n M_141 (nI (c + 1))) (m + 1) M 0 = f_X10_laysSlides_66 F M LM (nI t) (nI r) (nI c) 0 (nI t) (nI r) (nI c) 0 (f_X10_laysSlides_45 F LM (nI t) (nI r) (nI c) (fun M_141 => f_X10_laysSlides_32 F LM (nI t) (nI r) k n M_141 (nI (c + 1))) m) := fun m => by
        rw [f_X10_laysSlides_45, if_neg (by decide), if_neg (by decide)]
      have step1 : ∀ (m : Nat) (M : Mem), f_X10_laysSlides_45 F LM (nI t) (nI r) (nI c) (fun M_141 => f_X10_laysSlides_32 F LM (nI t) (nI r) k n M_141 (nI (c + 1))) (m + 1) M 1 = f_X10_laysSlides_66 F M LM (nI t) (nI r) (nI c) 1 (nI t) (nI r) (nI c) 1 (f_X10_laysSlides_45 F LM (nI t) (nI r) (nI c) (fun M_141 => f_X10_laysSlides_32 F LM (nI t) (nI r) k n M_141 (nI (c + 1))) m) := fun m M => by
        rw [f_X10_laysSlides_45, if_neg (by decide), if_pos rfl]
      have step2 : ∀ (m : Nat) (M : Mem), f_X10_laysSlides_45 F LM (nI t) (nI r) (nI c) (fun M_141 => f_X10_laysSlides_32 F LM (nI t) (nI r) k n M_141 (nI (c + 1))) (m + 1) M (nI 2) = f_X10_laysSlides_32 F LM (nI t) (nI r) k n M (nI (c + 1)) := fun m M => by
        rw [f_X10_laysSlides_45, if_pos (by decide)]
      have s0 := step0 (F3 + 2)
      have s1 := step1 (F3 + 1) M1
      have s2 := step2 F3 M2
      have ff : F3 + 2 + 1 = F := by omega
      rw [ff] at s0
      rw [s0]
      refine Eq.trans a1 ?_
      refine Eq.trans s1 ?_
      refine Eq.trans b1 ?_
      exact s2
    rw [f_X10_laysSlides_32, c1]
    have ckk : ∀ E : Option Mem, ck 0 226 E = E := fun E => ck_n (i := 0) (by decide) (by decide)
    have m0' : M 1 (0 : Int32).toNatClampNeg = nI (σ 0) := m0
    rw [ckk, m0', if_neg (nI_ge (by omega) (by omega)), f45]
    exact e1
theorem g_ls20 {LM : MemL} {σ : Sg} (hs : okS σ) {F : Nat} (hF : 10000 ≤ F) {t : Nat} (ht : t ≤ σ 56) (k : Mem → Option Mem) : ∀ (d r n : Nat) (M : Mem), r + d = σ 1 → d < n → StM M σ → SoM M σ (48 * t + 12 * r) → ∃ M', f_X10_laysSlides_20 F LM (nI t) k n M (nI r) = k M' ∧ Pm M M' ∧ SoM M' σ (48 * (t + 1))
  | d, r, 0, M, _, h, _, _ => by omega
  | 0, r, n + 1, M, hr, _, hM, hq => by
    obtain rfl : r = σ 1 := by omega
    have h1 := kR hs
    have m1 : M 1 1 = nI (σ 1) := hM 1 (by omega)
    refine ⟨M, ?_, Pm_rfl M, ?_⟩
    · rw [f_X10_laysSlides_20]
      simp (disch := omega) only [l_0, l_1, l_2, l_3, l_4, l_5, l_6, l_7, l_8, l_9, l_10, l_12, l_20, l_24, l_25, l_31, l_32, l_48, l_50, l_56, l_57, l_59, l_97, l_99, l_100, l_120, l_122, l_177, l_178, l_201, l_226, l_255, l_400, l_420, l_600, l_700, l_840, l_1000, l_1300, l_2000, l_1000000, nI_add, mr4, ml4, mr5, ml5, mr6, ml6, mr10, ml10, mr24, ml24, mr201, ml201, mr420, ml420, mr226, ml226, mr2, ml2, nI_clamp, lt_T, lt_F, le_T, le_F, eq_T, eq_F, ck_n, dv_n, cp_n, rem_n, pk_div, at1_same, at1_ne, cb_n, Option.bind_some, if_pos, if_neg, ↓reduceIte, and_self, and_true, true_and, and_false, false_and, not_true_eq_false, not_false_eq_true, nI_sub', m1]
    · have := SoM_skip (d := 48 - 12 * σ 1) hq (fun p g1 g2 => by
        obtain ⟨r, c, up, e, hr, hc, hu, hc2⟩ : ∃ r c up, p = 48 * t + 12 * r + 2 * c + up ∧ r < 4 ∧ c < 6 ∧ up < 2 ∧ σ 1 ≤ r := ⟨(p - 48 * t) / 12, (p - 48 * t) % 12 / 2, (p - 48 * t) % 2, by omega, by omega, by omega, by omega, by omega⟩
        rw [e]
        exact slP_no hr hc hu (by omega))
      have e : 48 * t + 12 * σ 1 + (48 - 12 * σ 1) = 48 * (t + 1) := by omega
      rw [e] at this
      exact this
  | d + 1, r, n + 1, M, hr, hn, hM, hq => by
    have h0 := kC hs
    have h1 := kR hs
    have m1 : M 1 (1 : Int32).toNatClampNeg = nI (σ 1) := hM 1 (by omega)
    have ckk : ∀ E : Option Mem, ck 1 226 E = E := fun E => ck_n (i := 1) (by decide) (by decide)
    obtain ⟨M1, a1, a2, a3⟩ := g_ls32 (LM := LM) hs hF (t := t) (r := r) ht (by omega) (fun M_147 => f_X10_laysSlides_20 F LM (nI t) k n M_147 (nI (r + 1))) (σ 0) 0 F M (by omega) (by omega) hM hq
    obtain ⟨M', e1, e2, e3⟩ := g_ls20 (LM := LM) hs hF ht k d (r + 1) n M1 (by omega) (by omega) (StM_p hM a2) (by
      have e : 48 * t + 12 * (r + 1) = 48 * t + 12 * r + 12 := by omega
      rw [e]; exact a3)
    refine ⟨M', ?_, Pm_tr a2 e2, e3⟩
    have c1 : nI r + 1 = nI (r + 1) := nI_1 r
    rw [f_X10_laysSlides_20, ckk, m1, if_neg (nI_ge (by omega) (by omega)), c1, ← e1]
    exact a1
theorem g_ls7 {LM : MemL} {σ : Sg} (hs : okS σ) {F : Nat} (hF : 10000 ≤ F) (k : Mem → Option Mem) : ∀ (d t n : Nat) (M : Mem), t + d = σ 56 + 1 → d < n → StM M σ → SoM M σ (48 * t) → ∃ M', f_X10_laysSlides_7 F LM k n M (nI t) = k M' ∧ Pm M M' ∧ SoM M' σ (48 * (σ 56 + 1))
  | d, t, 0, M, _, h, _, _ => by omega
  | 0, t, n + 1, M, ht, _, hM, hq => by
    obtain rfl : t = σ 56 + 1 := by omega
    have h5 := kMv hs
    refine ⟨M, ?_, Pm_rfl M, hq⟩
    rw [f_X10_laysSlides_7, ck56, r56 hM, if_pos (nI_lt (by omega) (by omega))]
  | d + 1, t, n + 1, M, ht, hn, hM, hq => by
    have h1 := kR hs
    have h5 := kMv hs
    obtain ⟨M1, a1, a2, a3⟩ := g_ls20 (LM := LM) hs hF (t := t) (by omega) (fun M_153 => f_X10_laysSlides_7 F LM k n M_153 (nI (t + 1))) (σ 1) 0 F M (by omega) (by omega) hM hq
    obtain ⟨M', e1, e2, e3⟩ := g_ls7 (LM := LM) hs hF k d (t + 1) n M1 (by omega) (by omega) (StM_p hM a2) a3
    refine ⟨M', ?_, Pm_tr a2 e2, e3⟩
    have c1 : nI t + 1 = nI (t + 1) := nI_1 t
    rw [f_X10_laysSlides_7, ck56, r56 hM, if_neg (nI_nlt (by omega) (by omega)), c1, ← e1]
    exact a1
theorem g_laysSlides {M : Mem} {LM : MemL} {σ : Sg} (hM : StM M σ) (hs : okS σ) {F : Nat} (hF : 10000 ≤ F) : ∃ M', f_X10_laysSlides F M LM = some M' ∧ Pm M M' ∧ SoM M' σ (48 * (σ 56 + 1)) := by
  have h5 := kMv hs
  have p0 : Pm M (mr M 0 (fu (M 0) 24 0)) := Pm_0 M _ (fu_n _ _ (by decide)) (fu_n _ _ (by decide))
  obtain ⟨M', e1, e2, e3⟩ := g_ls7 (LM := LM) hs hF (fun M_159 => (some M_159)) (σ 56 + 1) 0 F (mr M 0 (fu (M 0) 24 0)) (by omega) (by omega) (StM_p hM p0) ⟨by rw [mr_s, fu_s]; rfl, fun i hi => absurd hi (Nat.not_lt_zero _)⟩
  exact ⟨M', e1, Pm_tr p0 e2, e3⟩
theorem m_slides {C M N NE X0 : Mem} {LM : MemL} {σ : Sg} (hC : StC C σ) (hM : StM M σ) (hs : okS σ) (hN : CaN N σ) {F : Nat} (hF : 10000 ≤ F) : ∃ v N' NE' M', f_X9_slides F X0 C N NE = some (v, N', NE') ∧ f_X10_slides F M LM = some (v, M') ∧ Pm M M' ∧ CaN N' σ := by
  obtain ⟨N', NE', a1, a2, a3, a4⟩ := h_findSlides (NE := NE) hC hs hN hF
  obtain ⟨M', b1, b2, b3⟩ := g_laysSlides (LM := LM) hM hs hF
  unfold f_X9_slides f_X10_slides
  rw [a1, b1, Option.bind_some, Option.bind_some, b3.1]
  refine ⟨_, N', NE', M', ?_, rfl, b2, a4⟩
  show some (N' 0 11, N', NE') = _
  rw [a3.1]
theorem sl_inf {σ : Sg} (hs : okS σ) {i : Nat} (hi : i < slN σ (48 * (σ 56 + 1))) : slF σ (48 * (σ 56 + 1)) i < 1200 ∧ slF σ (48 * (σ 56 + 1)) i / 48 ≤ 24 ∧ slF σ (48 * (σ 56 + 1)) i / 2 % 24 / 6 < σ 1 ∧ slF σ (48 * (σ 56 + 1)) i / 2 % 24 % 6 < σ 0 ∧ (slF σ (48 * (σ 56 + 1)) i % 2 = 1 → slF σ (48 * (σ 56 + 1)) i / 2 % 24 % 6 + 1 < σ 0) ∧ (slF σ (48 * (σ 56 + 1)) i % 2 = 0 → 1 ≤ slF σ (48 * (σ 56 + 1)) i / 2 % 24 % 6) := by
  have h5 := kMv hs
  obtain ⟨a, b⟩ := sl_b _ i hi
  obtain ⟨p1, p2, p3, p4, p5, -⟩ := b
  exact ⟨by omega, by omega, p2, p3, p4, p5⟩
theorem h_slTime {N : Mem} {σ : Sg} (hs : okS σ) (hS : So N σ) (F : Nat) {i : Nat} (hi : i < slN σ (48 * (σ 56 + 1))) : f_X2_slideTime F N (nI i) = some (nI (slF σ (48 * (σ 56 + 1)) i / 48)) := by
  have h0 := kC hs
  have h5 := kMv hs
  have le := sl_le h0 (q := 48 * (σ 56 + 1)) (by omega)
  have b := sl_inf hs hi
  unfold f_X2_slideTime
  rw [ck_n (by omega) (by decide), nI_clamp (by omega), hS.2 i hi, l_48, dv_n (by omega) (by omega), pk_div (by omega) (by omega) (by omega)]
theorem h_slCell {N : Mem} {σ : Sg} (hs : okS σ) (hS : So N σ) (F : Nat) {i : Nat} (hi : i < slN σ (48 * (σ 56 + 1))) : f_X2_slideCell F N (nI i) = some (nI (slF σ (48 * (σ 56 + 1)) i / 2 % 24)) := by
  have h0 := kC hs
  have h5 := kMv hs
  have le := sl_le h0 (q := 48 * (σ 56 + 1)) (by omega)
  have b := sl_inf hs hi
  unfold f_X2_slideCell
  rw [ck_n (by omega) (by decide), nI_clamp (by omega), hS.2 i hi, l_24, l_2, dv_n (by omega) (by omega), dv_n (by omega) (by omega), pk_div (by omega) (by omega) (by omega), pk_div (by omega) (by omega) (by omega), nI_mul', rem_n]
theorem h_slUp {N : Mem} {σ : Sg} (hs : okS σ) (hS : So N σ) (F : Nat) {i : Nat} (hi : i < slN σ (48 * (σ 56 + 1))) : f_X2_slidesUp F N (nI i) = some (nI (slF σ (48 * (σ 56 + 1)) i % 2)) := by
  have h0 := kC hs
  have h5 := kMv hs
  have le := sl_le h0 (q := 48 * (σ 56 + 1)) (by omega)
  have b := sl_inf hs hi
  unfold f_X2_slidesUp
  rw [ck_n (by omega) (by decide), nI_clamp (by omega), hS.2 i hi, l_2, dv_n (by omega) (by omega), pk_div (by omega) (by omega) (by omega), nI_mul', rem_n]
  rcases (by omega : slF σ (48 * (σ 56 + 1)) i % 2 = 0 ∨ slF σ (48 * (σ 56 + 1)) i % 2 = 1) with e | e
  · rw [e]; rfl
  · rw [e]; rfl
theorem m_slideAt {C M N NE X0 : Mem} {LM : MemL} {σ : Sg} (hC : StC C σ) (hM : StM M σ) (hs : okS σ) (hN : CaN N σ) {F : Nat} (hF : 10000 ≤ F) (x1 x2 : Int32) : ∃ v N' NE' M', f_X9_slideAt F X0 C N NE x1 x2 = some (v, N', NE') ∧ f_X10_slideAt F M LM x1 x2 = some (v, M') ∧ Pm M M' ∧ CaN N' σ := by
  have h0 := kC hs
  have h1 := kR hs
  have h5 := kMv hs
  have le := sl_le h0 (q := 48 * (σ 56 + 1)) (by omega)
  obtain ⟨N', NE', a1, a2, a3, a4⟩ := h_findSlides (NE := NE) hC hs hN hF
  obtain ⟨M', b1, b2, b3⟩ := g_laysSlides (LM := LM) hM hs hF
  have hM' := StM_p hM b2
  obtain ⟨x, u1, u2, rfl⟩ := zI_of x1
  obtain ⟨w, w1, w2, rfl⟩ := zI_of x2
  have eq : nI (slN σ (48 * (σ 56 + 1))) - 1 = zI ((slN σ (48 * (σ 56 + 1)) : Int) - ((1 : Nat) : Int)) := nn_sub _ 1
  have i1 : f_X10_in F (zI x).toInt64 0 (nI (slN σ (48 * (σ 56 + 1))) - 1).toInt64 = some (if 0 ≤ x ∧ x < (slN σ (48 * (σ 56 + 1)) : Int) then nI 1 else nI 0) := by
    rw [eq, t64.1, ← zI_c, f_inz F u1 u2 (by omega) (by omega) (by omega) (by omega)]
    by_cases q : 0 ≤ x ∧ x < (slN σ (48 * (σ 56 + 1)) : Int)
    · rw [if_pos q, if_pos (by omega)]
    · rw [if_neg q, if_neg (by omega)]
      rfl
  have cl : f_X9_slideAt F X0 C N NE (zI x) (zI w) = (if zI x < 0 then (some ((-2), N', NE')) else (if nI (slN σ (48 * (σ 56 + 1))) ≤ zI x then (some ((-2), N', NE')) else (if zI w < 0 then (some ((-2), N', NE')) else (if zI w ≤ 4 then (f_X2_tellSlide F N' C (zI x) (zI w)).bind (fun z48 => (some (z48, N', NE'))) else (some ((-2), N', NE')))))) := by
    unfold f_X9_slideAt
    rw [a1, ← a3.1]
    rfl
  have rf := f_X10_slideAt.eq_1 F M LM (zI x) (zI w)
  rw [b1, Option.bind_some, b3.1, i1] at rf
  rw [cl]
  by_cases hx : 0 ≤ x ∧ x < (slN σ (48 * (σ 56 + 1)) : Int)
  · obtain ⟨i, rfl⟩ := Int.eq_ofNat_of_zero_le hx.1
    have hi : i < slN σ (48 * (σ 56 + 1)) := by omega
    have b := sl_inf hs hi
    obtain ⟨r1, r2, r3, r4⟩ := b3.2 i hi
    have g1 := h_slTime hs a3 F hi
    have g2 := h_slCell hs a3 F hi
    have g3 := h_slUp hs a3 F hi
    rw [if_pos hx, Option.bind_some, if_neg n10, in04 F w1 w2] at rf
    rw [if_neg (by rw [zI_c]; exact nI_pos (by omega)), if_neg (by rw [zI_c]; exact nI_ge hi (by omega))]
    by_cases hw : 0 ≤ w ∧ w ≤ 4
    · obtain ⟨w, rfl⟩ := Int.eq_ofNat_of_zero_le hw.1
      rw [if_pos hw, Option.bind_some, if_neg n10] at rf
      rw [if_neg (by rw [zI_c]; exact nI_pos (by omega)), if_pos (by rw [zI_c]; exact nI_le (b := 4) (by omega) (by decide))]
      simp only [zI_c] at rf ⊢
      have d6 : ∀ {α : Type} (E : Option α), dv 6 E = E := fun E => dv_ne (by decide)
      have ts : ∀ y : Int32, f_X2_tellSlide F N' C (nI i) y = (if y = 0 then some (nI (slF σ (48 * (σ 56 + 1)) i / 48)) else if y = 1 then some (nI (slF σ (48 * (σ 56 + 1)) i / 2 % 24 / 6)) else if y = 2 then some (nI (slF σ (48 * (σ 56 + 1)) i / 2 % 24 % 6)) else if y = 3 then (if nI (slF σ (48 * (σ 56 + 1)) i % 2) = 0 then (some 0) else (some 1)) else (if nI (slF σ (48 * (σ 56 + 1)) i % 2) = 0 then f_X2_tellSlide_93 F N' C (nI (slF σ (48 * (σ 56 + 1)) i / 2 % 24 % 6)) (nI (slF σ (48 * (σ 56 + 1)) i / 2 % 24 % 6) - 1) else f_X2_tellSlide_93 F N' C (nI (slF σ (48 * (σ 56 + 1)) i / 2 % 24 % 6)) (nI (slF σ (48 * (σ 56 + 1)) i / 2 % 24 % 6) + 1))) := fun y => by
        unfold f_X2_tellSlide
        rw [g1, g2, Option.bind_some, d6, g3, Option.bind_some]
        have e1 : nI (slF σ (48 * (σ 56 + 1)) i / 2 % 24) / 6 = nI (slF σ (48 * (σ 56 + 1)) i / 2 % 24 / 6) := pk_div (d := 6) (by omega) (by decide) (by decide)
        have e2 : nI (slF σ (48 * (σ 56 + 1)) i / 2 % 24) - nI (slF σ (48 * (σ 56 + 1)) i / 2 % 24 / 6) * 6 = nI (slF σ (48 * (σ 56 + 1)) i / 2 % 24 % 6) := by rw [l_6, nI_mul', rem_n]
        rw [Option.bind_some, Option.bind_some, d6, e1, e2]
      rw [ts]
      rcases (by omega : w = 0 ∨ w = 1 ∨ w = 2 ∨ w = 3 ∨ w = 4) with rfl | rfl | rfl | rfl | rfl
      · rw [rf, if_pos n00, if_pos n00, ck_n (by omega) (by decide), nI_clamp (by omega), r1]
        exact ⟨_, _, _, _, rfl, rfl, b2, a4⟩
      · rw [rf, if_neg n10, if_neg n10, if_pos (show nI 1 = 1 from rfl), if_pos (show nI 1 = 1 from rfl), ck_n (by omega) (by decide), nI_clamp (by omega), r2]
        exact ⟨_, _, _, _, rfl, rfl, b2, a4⟩
      · rw [rf, if_neg (show ¬ nI 2 = 0 by decide), if_neg (show ¬ nI 2 = 0 by decide), if_neg (show ¬ nI 2 = 1 by decide), if_neg (show ¬ nI 2 = 1 by decide), if_pos (show nI 2 = 2 from rfl), if_pos (show nI 2 = 2 from rfl), ck_n (by omega) (by decide), nI_clamp (by omega), r3]
        exact ⟨_, _, _, _, rfl, rfl, b2, a4⟩
      · rw [rf, if_neg (show ¬ nI 3 = 0 by decide), if_neg (show ¬ nI 3 = 0 by decide), if_neg (show ¬ nI 3 = 1 by decide), if_neg (show ¬ nI 3 = 1 by decide), if_neg (show ¬ nI 3 = 2 by decide), if_neg (show ¬ nI 3 = 2 by decide), if_pos (show nI 3 = 3 from rfl), if_pos (show nI 3 = 3 from rfl), ck_n (by omega) (by decide), nI_clamp (by omega), r4]
        rcases (by omega : slF σ (48 * (σ 56 + 1)) i % 2 = 0 ∨ slF σ (48 * (σ 56 + 1)) i % 2 = 1) with e | e
        · rw [e, if_pos n00, if_pos n00]
          exact ⟨_, _, _, _, rfl, rfl, b2, a4⟩
        · rw [e, if_neg n10, if_neg n10]
          exact ⟨_, _, _, _, rfl, rfl, b2, a4⟩
      · rw [rf, if_neg (show ¬ nI 4 = 0 by decide), if_neg (show ¬ nI 4 = 0 by decide), if_neg (show ¬ nI 4 = 1 by decide), if_neg (show ¬ nI 4 = 1 by decide), if_neg (show ¬ nI 4 = 2 by decide), if_neg (show ¬ nI 4 = 2 by decide), if_neg (show ¬ nI 4 = 3 by decide), if_neg (show ¬ nI 4 = 3 by decide), ck_n (by omega) (by decide), ck_n (by omega) (by decide), nI_clamp (by omega), r3, r4]
        have hF' : 10 ≤ F := by omega
        have wv : ∀ to, to < σ 0 → f_X2_tellSlide_93 F N' C (nI (slF σ (48 * (σ 56 + 1)) i / 2 % 24 % 6)) (nI to) = some (nI (wo σ to) - nI (wo σ (slF σ (48 * (σ 56 + 1)) i / 2 % 24 % 6))) := fun to hto => by
          unfold f_X2_tellSlide_93
          rw [hasCol_n hC h0 F hto, Option.bind_some, if_neg n10, ck_n (by omega) (by decide), ck_n (by omega) (by decide), nI_clamp (by omega), nI_clamp (by omega), cWo hC hto, cWo hC b.2.2.2.1]
        have wm : ∀ to, to < σ 0 → f_X10_changeOf_14 F M' LM (nI (slF σ (48 * (σ 56 + 1)) i / 2 % 24 % 6)) (nI to) = some (nI (wo σ to) - nI (wo σ (slF σ (48 * (σ 56 + 1)) i / 2 % 24 % 6))) := fun to hto => by
          unfold f_X10_changeOf_14
          rw [g_worthOf hM' hF' (by omega), Option.bind_some, g_worthOf hM' hF' (by omega), Option.bind_some]
        unfold f_X10_changeOf
        rcases (by omega : slF σ (48 * (σ 56 + 1)) i % 2 = 0 ∨ slF σ (48 * (σ 56 + 1)) i % 2 = 1) with e | e
        · have eto : nI (slF σ (48 * (σ 56 + 1)) i / 2 % 24 % 6) - 1 = nI (slF σ (48 * (σ 56 + 1)) i / 2 % 24 % 6 - 1) := nI_sub' (b := 1) (by have := b.2.2.2.2.2 e; omega)
          rw [e, if_pos n00, if_pos n00, eto, wv _ (by omega), wm _ (by omega)]
          exact ⟨_, _, _, _, rfl, rfl, b2, a4⟩
        · have eto : nI (slF σ (48 * (σ 56 + 1)) i / 2 % 24 % 6) + 1 = nI (slF σ (48 * (σ 56 + 1)) i / 2 % 24 % 6 + 1) := nI_1 _
          rw [e, if_neg n10, if_neg n10, eto, wv _ (b.2.2.2.2.1 e), wm _ (b.2.2.2.2.1 e)]
          exact ⟨_, _, _, _, rfl, rfl, b2, a4⟩
    · rw [if_neg hw, Option.bind_some, if_pos n00] at rf
      rw [rf]
      by_cases q : w < 0
      · have g1 : zI w < 0 := by rw [l_0]; exact of_eq_true (by simp (disch := omega) only [l_0, l_1, l_2, l_3, l_4, l_5, l_6, l_7, l_8, l_9, l_10, l_12, l_20, l_24, l_25, l_31, l_32, l_48, l_50, l_56, l_57, l_59, l_97, l_99, l_100, l_120, l_122, l_177, l_178, l_201, l_226, l_255, l_400, l_420, l_600, l_700, l_840, l_1000, l_1300, l_2000, l_1000000, nI_add, mr4, ml4, mr5, ml5, mr6, ml6, mr10, ml10, mr24, ml24, mr201, ml201, mr420, ml420, mr226, ml226, mr2, ml2, nI_clamp, lt_T, lt_F, le_T, le_F, eq_T, eq_F, ck_n, dv_n, cp_n, rem_n, pk_div, at1_same, at1_ne, cb_n, Option.bind_some, if_pos, if_neg, ↓reduceIte, and_self, and_true, true_and, and_false, false_and, not_true_eq_false, not_false_eq_true, nI_sub', zz_add, zz_sub, zz_mul, zn_add, nz_add, zn_sub, nz_sub, zn_mul, nz_mul, z_neg, n_neg, zlt_T, zlt_F, zle_T, zle_F, zeq_T, zeq_F, zn_lt, nz_lt, zn_le, nz_le, zn_eq, nz_eq])
        rw [if_pos g1]
        exact ⟨_, _, _, _, rfl, rfl, b2, a4⟩
      · have g1 : ¬ zI w < 0 := by rw [l_0]; exact of_eq_false (by simp (disch := omega) only [l_0, l_1, l_2, l_3, l_4, l_5, l_6, l_7, l_8, l_9, l_10, l_12, l_20, l_24, l_25, l_31, l_32, l_48, l_50, l_56, l_57, l_59, l_97, l_99, l_100, l_120, l_122, l_177, l_178, l_201, l_226, l_255, l_400, l_420, l_600, l_700, l_840, l_1000, l_1300, l_2000, l_1000000, nI_add, mr4, ml4, mr5, ml5, mr6, ml6, mr10, ml10, mr24, ml24, mr201, ml201, mr420, ml420, mr226, ml226, mr2, ml2, nI_clamp, lt_T, lt_F, le_T, le_F, eq_T, eq_F, ck_n, dv_n, cp_n, rem_n, pk_div, at1_same, at1_ne, cb_n, Option.bind_some, if_pos, if_neg, ↓reduceIte, and_self, and_true, true_and, and_false, false_and, not_true_eq_false, not_false_eq_true, nI_sub', zz_add, zz_sub, zz_mul, zn_add, nz_add, zn_sub, nz_sub, zn_mul, nz_mul, z_neg, n_neg, zlt_T, zlt_F, zle_T, zle_F, zeq_T, zeq_F, zn_lt, nz_lt, zn_le, nz_le, zn_eq, nz_eq])
        have g2 : ¬ zI w ≤ 4 := by rw [l_4]; exact of_eq_false (by simp (disch := omega) only [l_0, l_1, l_2, l_3, l_4, l_5, l_6, l_7, l_8, l_9, l_10, l_12, l_20, l_24, l_25, l_31, l_32, l_48, l_50, l_56, l_57, l_59, l_97, l_99, l_100, l_120, l_122, l_177, l_178, l_201, l_226, l_255, l_400, l_420, l_600, l_700, l_840, l_1000, l_1300, l_2000, l_1000000, nI_add, mr4, ml4, mr5, ml5, mr6, ml6, mr10, ml10, mr24, ml24, mr201, ml201, mr420, ml420, mr226, ml226, mr2, ml2, nI_clamp, lt_T, lt_F, le_T, le_F, eq_T, eq_F, ck_n, dv_n, cp_n, rem_n, pk_div, at1_same, at1_ne, cb_n, Option.bind_some, if_pos, if_neg, ↓reduceIte, and_self, and_true, true_and, and_false, false_and, not_true_eq_false, not_false_eq_true, nI_sub', zz_add, zz_sub, zz_mul, zn_add, nz_add, zn_sub, nz_sub, zn_mul, nz_mul, z_neg, n_neg, zlt_T, zlt_F, zle_T, zle_F, zeq_T, zeq_F, zn_lt, nz_lt, zn_le, nz_le, zn_eq, nz_eq])
        rw [if_neg g1, if_neg g2]
        exact ⟨_, _, _, _, rfl, rfl, b2, a4⟩
  · rw [if_neg hx, Option.bind_some, if_pos n00] at rf
    rw [rf]
    by_cases q : x < 0
    · have e1 : zI x < 0 := by rw [l_0]; exact of_eq_true (by simp (disch := omega) only [l_0, l_1, l_2, l_3, l_4, l_5, l_6, l_7, l_8, l_9, l_10, l_12, l_20, l_24, l_25, l_31, l_32, l_48, l_50, l_56, l_57, l_59, l_97, l_99, l_100, l_120, l_122, l_177, l_178, l_201, l_226, l_255, l_400, l_420, l_600, l_700, l_840, l_1000, l_1300, l_2000, l_1000000, nI_add, mr4, ml4, mr5, ml5, mr6, ml6, mr10, ml10, mr24, ml24, mr201, ml201, mr420, ml420, mr226, ml226, mr2, ml2, nI_clamp, lt_T, lt_F, le_T, le_F, eq_T, eq_F, ck_n, dv_n, cp_n, rem_n, pk_div, at1_same, at1_ne, cb_n, Option.bind_some, if_pos, if_neg, ↓reduceIte, and_self, and_true, true_and, and_false, false_and, not_true_eq_false, not_false_eq_true, nI_sub', zz_add, zz_sub, zz_mul, zn_add, nz_add, zn_sub, nz_sub, zn_mul, nz_mul, z_neg, n_neg, zlt_T, zlt_F, zle_T, zle_F, zeq_T, zeq_F, zn_lt, nz_lt, zn_le, nz_le, zn_eq, nz_eq])
      rw [if_pos e1]
      exact ⟨_, _, _, _, rfl, rfl, b2, a4⟩
    · have e1 : ¬ zI x < 0 := by rw [l_0]; exact of_eq_false (by simp (disch := omega) only [l_0, l_1, l_2, l_3, l_4, l_5, l_6, l_7, l_8, l_9, l_10, l_12, l_20, l_24, l_25, l_31, l_32, l_48, l_50, l_56, l_57, l_59, l_97, l_99, l_100, l_120, l_122, l_177, l_178, l_201, l_226, l_255, l_400, l_420, l_600, l_700, l_840, l_1000, l_1300, l_2000, l_1000000, nI_add, mr4, ml4, mr5, ml5, mr6, ml6, mr10, ml10, mr24, ml24, mr201, ml201, mr420, ml420, mr226, ml226, mr2, ml2, nI_clamp, lt_T, lt_F, le_T, le_F, eq_T, eq_F, ck_n, dv_n, cp_n, rem_n, pk_div, at1_same, at1_ne, cb_n, Option.bind_some, if_pos, if_neg, ↓reduceIte, and_self, and_true, true_and, and_false, false_and, not_true_eq_false, not_false_eq_true, nI_sub', zz_add, zz_sub, zz_mul, zn_add, nz_add, zn_sub, nz_sub, zn_mul, nz_mul, z_neg, n_neg, zlt_T, zlt_F, zle_T, zle_F, zeq_T, zeq_F, zn_lt, nz_lt, zn_le, nz_le, zn_eq, nz_eq])
      have e2 : nI (slN σ (48 * (σ 56 + 1))) ≤ zI x := of_eq_true (by simp (disch := omega) only [l_0, l_1, l_2, l_3, l_4, l_5, l_6, l_7, l_8, l_9, l_10, l_12, l_20, l_24, l_25, l_31, l_32, l_48, l_50, l_56, l_57, l_59, l_97, l_99, l_100, l_120, l_122, l_177, l_178, l_201, l_226, l_255, l_400, l_420, l_600, l_700, l_840, l_1000, l_1300, l_2000, l_1000000, nI_add, mr4, ml4, mr5, ml5, mr6, ml6, mr10, ml10, mr24, ml24, mr201, ml201, mr420, ml420, mr226, ml226, mr2, ml2, nI_clamp, lt_T, lt_F, le_T, le_F, eq_T, eq_F, ck_n, dv_n, cp_n, rem_n, pk_div, at1_same, at1_ne, cb_n, Option.bind_some, if_pos, if_neg, ↓reduceIte, and_self, and_true, true_and, and_false, false_and, not_true_eq_false, not_false_eq_true, nI_sub', zz_add, zz_sub, zz_mul, zn_add, nz_add, zn_sub, nz_sub, zn_mul, nz_mul, z_neg, n_neg, zlt_T, zlt_F, zle_T, zle_F, zeq_T, zeq_F, zn_lt, nz_lt, zn_le, nz_le, zn_eq, nz_eq])
      rw [if_neg e1, if_pos e2]
      exact ⟨_, _, _, _, rfl, rfl, b2, a4⟩
theorem m_ti {M N : Mem} {LM : MemL} {σ : Sg} (hs : okS σ) (hS : So N σ) (hSM : SoM M σ (48 * (σ 56 + 1))) {F : Nat} : ∀ (d i n : Nat) (a : Int32), i + d = slN σ (48 * (σ 56 + 1)) → d < n → ∃ b, f_X2_slideTimes_4 F N (fun x => some x) n a (nI i) = some b ∧ f_X10_times_8 F M LM (fun x => some (x, M)) n a (nI i) = some (b, M)
  | d, i, 0, a, _, h => by omega
  | 0, i, n + 1, a, hi, _ => by
    obtain rfl : i = slN σ (48 * (σ 56 + 1)) := by omega
    have h0 := kC hs
    have h5 := kMv hs
    have le := sl_le h0 (q := 48 * (σ 56 + 1)) (by omega)
    refine ⟨a, ?_, ?_⟩
    · rw [f_X2_slideTimes_4, hS.1, if_pos (nI_le (by omega) (by omega))]
    · rw [f_X10_times_8, hSM.1, if_pos (nI_le (by omega) (by omega))]
  | d + 1, i, n + 1, a, hi, hn => by
    have h0 := kC hs
    have h5 := kMv hs
    have le := sl_le h0 (q := 48 * (σ 56 + 1)) (by omega)
    have g1 := h_slTime hs hS F (i := i) (by omega)
    have r1 := (hSM.2 i (by omega)).1
    obtain ⟨b, e1, e2⟩ := m_ti (M := M) (N := N) (LM := LM) hs hS hSM (F := F) d (i + 1) n (a ||| (1 <<< (nI (slF σ (48 * (σ 56 + 1)) i / 48) &&& 31))) (by omega) (by omega)
    refine ⟨b, ?_, ?_⟩
    · rw [f_X2_slideTimes_4, hS.1, if_neg (nI_ge (by omega) (by omega)), g1, Option.bind_some, nI_1]
      exact e1
    · rw [f_X10_times_8, hSM.1, if_neg (nI_ge (by omega) (by omega)), ck_n (by omega) (by decide), nI_clamp (by omega), r1, nI_1]
      exact e2
theorem m_times {C M N NE X0 : Mem} {LM : MemL} {σ : Sg} (hC : StC C σ) (hM : StM M σ) (hs : okS σ) (hN : CaN N σ) {F : Nat} (hF : 10000 ≤ F) : ∃ v N' NE' M', f_X9_times F X0 C N NE = some (v, N', NE') ∧ f_X10_times F M LM = some (v, M') ∧ Pm M M' ∧ CaN N' σ := by
  have h0 := kC hs
  have h5 := kMv hs
  have le := sl_le h0 (q := 48 * (σ 56 + 1)) (by omega)
  obtain ⟨N', NE', a1, a2, a3, a4⟩ := h_findSlides (NE := NE) hC hs hN hF
  obtain ⟨M', b1, b2, b3⟩ := g_laysSlides (LM := LM) hM hs hF
  obtain ⟨b, e1, e2⟩ := m_ti (LM := LM) hs a3 b3 (F := F) (slN σ (48 * (σ 56 + 1))) 0 F 0 (by omega) (by omega)
  have e1' : f_X2_slideTimes F N' = some b := e1
  have e2' : f_X10_times_8 F M' LM (fun x1_33 => some (x1_33, M')) F 0 0 = some (b, M') := e2
  unfold f_X9_times f_X10_times
  rw [a1, b1, Option.bind_some, Option.bind_some]
  dsimp only
  rw [e1', e2']
  exact ⟨_, _, _, _, rfl, rfl, b2, a4⟩
