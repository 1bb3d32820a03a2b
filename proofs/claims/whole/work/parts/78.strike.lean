/-! PURE LAYER: moves of the log; strike -/
def EfL (σ : Sg) (i A B : Nat) (x y : Int) : Prop := Ef σ (σ (57 + 5 * i) : Int) (σ (57 + 5 * i + 1) : Int) (σ (57 + 5 * i + 2) : Int) (σ (57 + 5 * i + 3) : Int) (σ (57 + 5 * i + 4) : Int) A B x y
theorem lg_b {σ : Sg} (hs : okS σ) {i : Nat} (hi : i < σ 56) : σ (57 + 5 * i) ≤ 4 ∧ σ (57 + 5 * i + 1) < 4 ∧ σ (57 + 5 * i + 2) < 6 ∧ σ (57 + 5 * i + 3) ≤ 99 ∧ σ (57 + 5 * i + 4) < 4 := by
  have h0 := kC hs
  have h1 := kR hs
  have z := hs.2.2.2.2.2.2.2.1 i hi
  unfold okMv at z
  omega
theorem Ef_log {σ : Sg} (hs : okS σ) {i : Nat} (hi : i < σ 56) : ∃ A B x y, EfL σ i A B x y := by
  have z := hs.2.2.2.2.2.2.2.1 i hi
  unfold okMv at z
  obtain ⟨z0, z1, z2, z3, z4, z5, z6⟩ := z
  unfold EfL Ef
  rcases (by omega : σ (57 + 5 * i) = 0 ∨ σ (57 + 5 * i) = 1 ∨ σ (57 + 5 * i) = 2 ∨ σ (57 + 5 * i) = 3 ∨ σ (57 + 5 * i) = 4) with e | e | e | e | e
  · have w := z3 (by omega)
    exact ⟨6 * σ (57 + 5 * i + 1) + σ (57 + 5 * i + 2), 6 * σ (57 + 5 * i + 1) + σ (57 + 5 * i + 2), (σ (57 + 5 * i + 3) : Int), 0, by omega, by omega, by omega, by omega, by omega, .inl ⟨by omega, by omega, by omega, rfl, rfl, rfl⟩⟩
  · have w := z3 (by omega)
    exact ⟨6 * σ (57 + 5 * i + 1) + σ (57 + 5 * i + 2), 6 * σ (57 + 5 * i + 1) + σ (57 + 5 * i + 2), -(σ (57 + 5 * i + 3) : Int), 0, by omega, by omega, by omega, by omega, by omega, .inr (.inl ⟨by omega, by omega, by omega, rfl, rfl, rfl⟩)⟩
  · have w := z4 e
    exact ⟨6 * σ (57 + 5 * i + 1) + σ (57 + 5 * i + 2), 6 * σ (57 + 5 * i + 1) + σ (57 + 5 * i + 2) + 1, -(σ (2 + ((σ (57 + 5 * i + 2) : Int).toNat + 1)) : Int), 1, by omega, by omega, by omega, by omega, by omega, .inr (.inr (.inl ⟨by omega, by omega, rfl, rfl, rfl⟩))⟩
  · have w := z5 e
    exact ⟨6 * σ (57 + 5 * i + 1) + σ (57 + 5 * i + 2), 6 * σ (57 + 5 * i + 1) + σ (57 + 5 * i + 2) - 1, -1, (σ (2 + (σ (57 + 5 * i + 2) : Int).toNat) : Int), by omega, by omega, by omega, by omega, by omega, .inr (.inr (.inr (.inl ⟨by omega, by omega, rfl, by omega, rfl⟩)))⟩
  · have w := z6 e
    exact ⟨6 * σ (57 + 5 * i + 1) + σ (57 + 5 * i + 2), 6 * σ (57 + 5 * i + 4) + σ (57 + 5 * i + 2), -(σ (57 + 5 * i + 3) : Int), (σ (57 + 5 * i + 3) : Int), by omega, by omega, by omega, by omega, by omega, .inr (.inr (.inr (.inr ⟨by omega, by omega, by omega, by omega, by omega, by omega, rfl, by omega, rfl⟩)))⟩
theorem EfL_b {σ : Sg} (hs : okS σ) {i A B : Nat} {x y : Int} (h : EfL σ i A B x y) : A < 24 ∧ B < 24 ∧ -99 ≤ x ∧ x ≤ 99 ∧ -99 ≤ y ∧ y ≤ 99 ∧ (B = A → y = 0) := Ef_b hs h
theorem EfL_i {σ : Sg} {i A B A' B' : Nat} {x y x' y' : Int} (h : EfL σ i A B x y) (g : EfL σ i A' B' x' y') : A' = A ∧ B' = B ∧ x' = x ∧ y' = y := Ef_inj h g
theorem EfL_c {σ : Sg} {i A B : Nat} {x y : Int} (hs : okS σ) (h : EfL σ i A B x y) : (A / 6 < σ 1 ∧ A % 6 < σ 0) ∧ (B / 6 < σ 1 ∧ B % 6 < σ 0) := by
  have h0 := kC hs
  unfold EfL Ef at h
  omega
theorem h_dLog {C E : Mem} {σ : Sg} (hC : StC C σ) (hs : okS σ) (F : Nat) {i : Nat} (hi : i < σ 56) {A B : Nat} {x y : Int} (hE : EfL σ i A B x y) : ∃ E', f_X0_describeLogged F C E (nI i) = some (nI 1, E') ∧ Se E' A B x y := by
  have h5 := kMv hs
  have b := lg_b hs hi
  unfold f_X0_describeLogged
  rcases h_describe (E := E) hC hs F (κ := (σ (57 + 5 * i) : Int)) (r := (σ (57 + 5 * i + 1) : Int)) (c := (σ (57 + 5 * i + 2) : Int)) (k := (σ (57 + 5 * i + 3) : Int)) (o := (σ (57 + 5 * i + 4) : Int)) (by omega) (by omega) (by omega) (by omega) (by omega) (by omega) (by omega) (by omega) (by omega) (by omega) with ⟨A', B', x', y', E', hE', d1, d2⟩ | ⟨nE, _⟩
  · obtain ⟨rfl, rfl, rfl, rfl⟩ := Ef_inj hE hE'
    simp only [zI_c] at d1
    refine ⟨E', ?_, d2⟩
    simp (disch := omega) only [l_0, l_1, l_2, l_3, l_4, l_5, l_6, l_7, l_8, l_9, l_10, l_12, l_20, l_24, l_25, l_31, l_32, l_48, l_50, l_56, l_57, l_59, l_97, l_99, l_100, l_120, l_122, l_177, l_178, l_201, l_226, l_255, l_400, l_420, l_600, l_700, l_840, l_1000, l_1300, l_2000, l_1000000, nI_add, mr4, ml4, mr5, ml5, mr6, ml6, mr10, ml10, mr24, ml24, mr201, ml201, mr420, ml420, mr226, ml226, mr2, ml2, nI_clamp, lt_T, lt_F, le_T, le_F, eq_T, eq_F, ck_n, dv_n, cp_n, rem_n, pk_div, at1_same, at1_ne, cb_n, Option.bind_some, if_pos, if_neg, ↓reduceIte, and_self, and_true, true_and, and_false, false_and, not_true_eq_false, not_false_eq_true, nI_sub', cLo hC, ← Nat.add_assoc, d1]
  · exact absurd hE (nE _ _ _ _)
theorem g_lLog {M : Mem} {LM : MemL} {σ : Sg} (hM : StM M σ) (hs : okS σ) (F : Nat) {i : Nat} (hi : i < σ 56) {A B : Nat} {x y : Int} (hE : EfL σ i A B x y) : ∃ M', f_X10_laysLogged F M LM (nI i) = some M' ∧ Sp M' A B x y ∧ Fr0 M M' := by
  have h5 := kMv hs
  have b := lg_b hs hi
  unfold f_X10_laysLogged
  rcases g_lays (LM := LM) hM hs F (κ := (σ (57 + 5 * i) : Int)) (r := (σ (57 + 5 * i + 1) : Int)) (c := (σ (57 + 5 * i + 2) : Int)) (k := (σ (57 + 5 * i + 3) : Int)) (o := (σ (57 + 5 * i + 4) : Int)) (by omega) (by omega) (by omega) (by omega) (by omega) (by omega) (by omega) (by omega) (by omega) (by omega) with ⟨A', B', x', y', M', hE', d1, d2, d3⟩ | ⟨nE, _⟩
  · obtain ⟨rfl, rfl, rfl, rfl⟩ := Ef_inj hE hE'
    simp only [zI_c] at d1
    refine ⟨M', ?_, d2, d3⟩
    simp (disch := omega) only [l_0, l_1, l_2, l_3, l_4, l_5, l_6, l_7, l_8, l_9, l_10, l_12, l_20, l_24, l_25, l_31, l_32, l_48, l_50, l_56, l_57, l_59, l_97, l_99, l_100, l_120, l_122, l_177, l_178, l_201, l_226, l_255, l_400, l_420, l_600, l_700, l_840, l_1000, l_1300, l_2000, l_1000000, nI_add, mr4, ml4, mr5, ml5, mr6, ml6, mr10, ml10, mr24, ml24, mr201, ml201, mr420, ml420, mr226, ml226, mr2, ml2, nI_clamp, lt_T, lt_F, le_T, le_F, eq_T, eq_F, ck_n, dv_n, cp_n, rem_n, pk_div, at1_same, at1_ne, cb_n, Option.bind_some, if_pos, if_neg, ↓reduceIte, and_self, and_true, true_and, and_false, false_and, not_true_eq_false, not_false_eq_true, nI_sub', mS hM, d1]
  · exact absurd hE (nE _ _ _ _)
theorem h_reverse {E : Mem} {A B : Nat} {x y : Int} (h : Se E A B x y) (F : Nat) : ∃ E', f_X1_reverse F E = some E' ∧ Se E' A B (-x) (-y) := by
  obtain ⟨e0, e1, e2, e3⟩ := h
  refine ⟨_, rfl, ?_, ?_, ?_, ?_⟩
  · rw [mr_s, fu_n _ _ (by decide), fu_n _ _ (by decide)]; exact e0
  · rw [mr_s, fu_n _ _ (by decide), fu_s, e1, z_neg]
  · rw [mr_s, fu_n _ _ (by decide), fu_n _ _ (by decide)]; exact e2
  · rw [mr_s, fu_s, e3, z_neg]
theorem ap_neg (ce : Nat → Int) (A B : Nat) (x y : Int) : apE ce A B x y (-1) = apE ce A B (-x) (-y) 1 := by
  funext j
  unfold apE
  rw [Int.neg_one_mul, Int.neg_one_mul, Int.one_mul, Int.one_mul]
def stS (σ : Sg) (ce : Nat → Int) : Sg := fun j => if j = 56 then σ 56 - 1 else if 57 + 5 * (σ 56 - 1) ≤ j ∧ j < 57 + 5 * (σ 56 - 1) + 5 then 0 else tkS σ ce j
theorem st_56 {σ : Sg} {ce : Nat → Int} : stS σ ce 56 = σ 56 - 1 := if_pos rfl
theorem st_lo {σ : Sg} {ce : Nat → Int} {j : Nat} (h : j < 56) : stS σ ce j = tkS σ ce j := by
  unfold stS
  rw [if_neg (by omega), if_neg (by omega)]
theorem st_hi {σ : Sg} {ce : Nat → Int} {j : Nat} (h5 : σ 56 ≤ 24) (h1 : 1 ≤ σ 56) (h : 177 ≤ j) : stS σ ce j = σ j := by
  unfold stS tkS
  rw [if_neg (by omega), if_neg (by omega), if_neg (by omega)]
theorem st_lg {σ : Sg} {ce : Nat → Int} {j : Nat} (h : j < 5 * (σ 56 - 1)) : stS σ ce (57 + j) = σ (57 + j) := by
  unfold stS tkS
  rw [if_neg (by omega), if_neg (by omega), if_neg (by omega)]
theorem st_wo {σ : Sg} {ce : Nat → Int} {j : Nat} (h : j < 6) : wo (stS σ ce) j = wo σ j := wo_cg j (fun i h1 h2 => by rw [st_lo (by omega)]; exact if_neg (by omega))
theorem okS_st {σ : Sg} {ce : Nat → Int} (hs : okS σ) (h5 : 1 ≤ σ 56) (h1 : ∀ j, j < 24 → 0 ≤ ce j ∧ ce j ≤ 99) (h2 : ∀ r c, r < 4 → c < 6 → σ 1 ≤ r ∨ σ 0 ≤ c → ce (6 * r + c) = 0) : okS (sgU (stS σ ce) 177 0) := by
  have k5 := kMv hs
  obtain ⟨s0, s1, s2, s3, s4, s5, s6, s7, s8, s9⟩ := okS_tk hs h1 h2
  have g : ∀ j, j < 56 → sgU (stS σ ce) 177 0 j = tkS σ ce j := fun j hj => by rw [sgU_n _ _ (by omega), st_lo hj]
  have t56 : tkS σ ce 56 = σ 56 := if_neg (by omega)
  have e56 : sgU (stS σ ce) 177 0 56 = σ 56 - 1 := by rw [sgU_n _ _ (by omega), st_56]
  have e0 := g 0 (by omega)
  have e1 := g 1 (by omega)
  have e2 := g 2 (by omega)
  have e177 : sgU (stS σ ce) 177 0 177 = 0 := sgU_s _ _ _
  refine ⟨by omega, by omega, by omega, by omega, fun j g1 g2 => ?_, fun r c hr hc => ?_, by omega, fun i hi => ?_, by omega, fun k hk => by omega⟩
  · rw [g _ (by omega)]; exact s4 j g1 (by omega)
  · rw [g _ (by omega), g _ (by omega), e0, e1]; exact s5 r c hr hc
  · have z := s7 i (by omega)
    have gl : ∀ j, 57 ≤ j → j < 57 + 5 * (σ 56 - 1) → sgU (stS σ ce) 177 0 j = tkS σ ce j := fun j q1 q2 => by
      obtain ⟨q, rfl⟩ : ∃ q, j = 57 + q := ⟨j - 57, by omega⟩
      rw [sgU_n _ _ (by omega), st_lg (by omega)]
      exact (if_neg (by omega)).symm
    unfold okMv at z ⊢
    rw [e0, e1]
    simp (disch := omega) only [gl]
    exact z
theorem m_strike {M T C H Y N S E X0 : Mem} {LM : MemL} {Ks : Nat → Mem} {σ : Sg} {a : Nat} {h : Nat → Sg} (ra : Ra M T C H Ks σ a h) {F : Nat} (hF : 10000 ≤ F) : ∃ v C' H' Y' N' S' E' Ks' M', f_X9_strike F X0 C H Y N S E Ks = some (v, C', H', Y', N', S', E', Ks') ∧ f_X10_strike F M LM = some (v, M') ∧ Out M T C H Y N S Ks M' C' H' Y' N' S' Ks' := by
  obtain ⟨hC, hM, hs, -⟩ := id ra
  have h0 := kC hs
  have h1 := kR hs
  have h5 := kMv hs
  have h6 := kSe hs
  unfold f_X9_strike f_X10_strike
  rw [ck56, ck56, r56 hM, cMv hC]
  by_cases q0 : σ 56 = 0
  · rw [q0, if_pos n00, if_pos n00]
    exact ⟨_, _, _, _, _, _, _, _, _, rfl, rfl, .inl ⟨rfl, rfl, rfl, rfl, rfl, rfl, Pm_rfl M⟩⟩
  · have nz : ¬ nI (σ 56) = 0 := nI_ne0 (by omega) (by omega)
    have pr : nI (σ 56) - 1 = nI (σ 56 - 1) := nI_sub' (b := 1) (by omega)
    rw [if_neg nz, if_neg nz, pr]
    obtain ⟨A, B, x, y, hE⟩ := Ef_log hs (i := σ 56 - 1) (by omega)
    obtain ⟨bA, bB, bx1, bx2, by1, by2, be⟩ := EfL_b hs hE
    obtain ⟨E1, d1, d2⟩ := h_dLog (E := E) hC hs F (i := σ 56 - 1) (by omega) hE
    obtain ⟨E2, v1, v2⟩ := h_reverse d2 F
    obtain ⟨M1, l1, l2, l3⟩ := g_lLog (LM := LM) hM hs F (i := σ 56 - 1) (by omega) hE
    obtain ⟨M2, n1, n2, n3⟩ := g_laysNow (LM := LM) (StM_p hM (Fr0_m l3)) hF
    have sp2 := Sp_4 (n3 0 (by decide)) l2
    obtain ⟨M3, g1, g2, g3⟩ := g_goes (LM := LM) n2 sp2 bA bB (-1) F
    have g1' : f_X10_goes F M2 LM (-1) = some M3 := g1
    rw [ap_neg] at g2
    have p3 : Pm M M3 := Pm_tr (Fr0_m l3) (Pm_tr (Pm_4 n3) (Pm_4 g3))
    have hM3 := StM_p hM p3
    have sp3 := Sp_4 (g3 0 (by decide)) sp2
    rw [d1, l1]
    simp only [Option.bind_some]
    rw [v1, n1]
    simp only [Option.bind_some]
    rw [g1']
    simp only [Option.bind_some]
    have cA := (kCe hs bA).1
    have cB := (kCe hs bB).1
    have be' : B = A → -y = 0 := fun e => by rw [be e]; rfl
    have vA : apE (sg8 σ) A B (-x) (-y) 1 A = (σ (8 + A) : Int) - x := by
      unfold apE sg8
      rw [if_pos rfl]
      by_cases e : A = B
      · have := be e.symm
        rw [if_pos e]; omega
      · rw [if_neg e]; omega
    have vB : B ≠ A → apE (sg8 σ) A B (-x) (-y) 1 B = (σ (8 + B) : Int) - y := fun e => by
      unfold apE sg8
      rw [if_neg e, if_pos rfl]; omega
    have wA : M3 4 A = zI ((σ (8 + A) : Int) - x) := by rw [g2 A bA, vA]
    have hAA := g_holds F (v := (σ (8 + A) : Int) - x) (by omega) (by omega)
    have go : fitC (sg8 σ) A B (-x) (-y) → (ck (M3 0 6) 24 ((f_X10_holds F ((M3 4) ((M3 0 6)).toNatClampNeg)).bind (fun z43 => (if z43 = 0 then (some ((-2), M3)) else (if (M3 0 7) = (-1) then f_X10_strike_75 F M3 LM else ck (M3 0 7) 24 ((f_X10_holds F ((M3 4) ((M3 0 7)).toNatClampNeg)).bind (fun z66 => (if z66 = 0 then (some ((-2), M3)) else f_X10_strike_75 F M3 LM)))))))) = f_X10_strike_75 F M3 LM := fun f => by
      unfold fitC sg8 at f
      obtain ⟨s1, s2, s3⟩ := sp3
      rw [s1, ck_n bA (by decide), nI_clamp (by omega), wA, hAA, if_pos (by omega)]
      simp only [Option.bind_some]
      rw [if_neg n10]
      rcases s3 with ⟨s3, e, e2⟩ | ⟨s3, s4, ne⟩
      · rw [s3, if_pos (show zI (-1) = (-1 : Int32) from rfl)]
      · have ee : ¬ nI B = (-1 : Int32) := fun z => by
          have := congrArg Int32.toInt z
          rw [nI_toInt (by omega)] at this
          have h2 : (-1 : Int32).toInt = -1 := by decide
          omega
        have wB : M3 4 B = zI ((σ (8 + B) : Int) - y) := by rw [g2 B bB, vB ne]
        rw [s3, if_neg ee, ck_n bB (by decide), nI_clamp (by omega), wB, g_holds F (by omega) (by omega), if_pos (by omega)]
        simp only [Option.bind_some]
        rw [if_neg n10]
    have no : ¬ fitC (sg8 σ) A B (-x) (-y) → (ck (M3 0 6) 24 ((f_X10_holds F ((M3 4) ((M3 0 6)).toNatClampNeg)).bind (fun z43 => (if z43 = 0 then (some ((-2), M3)) else (if (M3 0 7) = (-1) then f_X10_strike_75 F M3 LM else ck (M3 0 7) 24 ((f_X10_holds F ((M3 4) ((M3 0 7)).toNatClampNeg)).bind (fun z66 => (if z66 = 0 then (some ((-2), M3)) else f_X10_strike_75 F M3 LM)))))))) = some (-2, M3) := fun f => by
      unfold fitC sg8 at f
      obtain ⟨s1, s2, s3⟩ := sp3
      rw [s1, ck_n bA (by decide), nI_clamp (by omega), wA, hAA]
      by_cases f1 : 0 ≤ (σ (8 + A) : Int) - x ∧ (σ (8 + A) : Int) - x ≤ 99
      · rw [if_pos f1]
        simp only [Option.bind_some]
        rw [if_neg n10]
        rcases s3 with ⟨s3, e, e2⟩ | ⟨s3, s4, ne⟩
        · subst e
          exact absurd ⟨by omega, by omega⟩ f
        · have ee : ¬ nI B = (-1 : Int32) := fun z => by
            have := congrArg Int32.toInt z
            rw [nI_toInt (by omega)] at this
            have h2 : (-1 : Int32).toInt = -1 := by decide
            omega
          have wB : M3 4 B = zI ((σ (8 + B) : Int) - y) := by rw [g2 B bB, vB ne]
          rw [s3, if_neg ee, ck_n bB (by decide), nI_clamp (by omega), wB, g_holds F (by omega) (by omega), if_neg (by omega)]
          rfl
      · rw [if_neg f1]
        rfl
    rcases h_stays (CeC_8 hC) v2 bA bB (b8 hs) (by omega) (by omega) F with ⟨f, s1⟩ | ⟨f, s1⟩
    · rw [s1, go f]
      simp only [Option.bind_some]
      rw [if_neg n10]
      unfold f_X10_strike_75
      obtain ⟨H', Y', N', S', Ks', M4, b1, b2, b3, b4, -, -, b5, b6⟩ := m_begin (X0 := X0) (Y := Y) (N := N) (S := S) (LM := LM) (Ra_m p3 ra) hF
      have ce4 : CeM M4 (apE (sg8 σ) A B (-x) (-y) 1) := fun j hj => by rw [b5 4 (by decide) (by decide)]; exact g2 j hj
      have ok := fun j (hj : j < 24) => ap_ok hs f be' hj
      obtain ⟨M5, t1, t2, t3⟩ := g_takesNow (LM := LM) b3.2.1 ce4 (fun j hj => (ok j hj).1) hF
      obtain ⟨C1, a1, a2, a3⟩ := h_apply (CeC_8 hC) v2 bA bB F
      have hC1 := StC_tk hC h0 a2 a3 (fun j hj => (ok j hj).1)
      have t56 : tkS σ (apE (sg8 σ) A B (-x) (-y) 1) 56 = σ 56 := if_neg (by omega)
      have m56 : M5 1 56 = nI (σ 56) := by rw [t2 56 (by omega), t56]
      have hok := okS_st hs (by omega) ok (ap_0 hs (EfL_c hs hE).1 (EfL_c hs hE).2)
      rw [b1, b2]
      simp only [Option.bind_some]
      rw [t1, a1]
      simp only [Option.bind_some]
      rw [ck56, ck56]
      have e5 : M5 1 (56 : Int32).toNatClampNeg - 1 = nI (σ 56 - 1) := by
        show M5 1 56 - 1 = _
        rw [m56, pr]
      rw [e5]
      have R96 : ∀ k : Mem → Option (Int32 × Mem), ∃ M6, f_X10_strike_96 F LM k F (mr M5 1 (upd (M5 1) (56 : Int32).toNatClampNeg (nI (σ 56 - 1)))) (nI 0) = k M6 ∧ Fl (mr M5 1 (upd (M5 1) 56 (nI (σ 56 - 1)))) M6 1 (57 + 5 * (σ 56 - 1)) (57 + 5 * (σ 56 - 1) + 5) (fun _ => nI 0) := fun k =>
        fill_up (f_X10_strike_96 F LM k) k 1 0 (57 + 5 * (σ 56 - 1)) 0 5 (fun _ => nI 0) (mr M5 1 (upd (M5 1) 56 (nI (σ 56 - 1)))) (fun n i N _ hi hN => by
          rw [f_X10_strike_96]
          have e0 : N 1 56 = nI (σ 56 - 1) := by rw [Fl_o hN (by omega), mr_s, pk_us]
          simp only [Nat.zero_add]
          simp (disch := omega) only [l_0, l_1, l_2, l_3, l_4, l_5, l_6, l_7, l_8, l_9, l_10, l_12, l_20, l_24, l_25, l_31, l_32, l_48, l_50, l_56, l_57, l_59, l_97, l_99, l_100, l_120, l_122, l_177, l_178, l_201, l_226, l_255, l_400, l_420, l_600, l_700, l_840, l_1000, l_1300, l_2000, l_1000000, nI_add, mr4, ml4, mr5, ml5, mr6, ml6, mr10, ml10, mr24, ml24, mr201, ml201, mr420, ml420, mr226, ml226, mr2, ml2, nI_clamp, lt_T, lt_F, le_T, le_F, eq_T, eq_F, ck_n, dv_n, cp_n, rem_n, pk_div, at1_same, at1_ne, cb_n, Option.bind_some, if_pos, if_neg, ↓reduceIte, and_self, and_true, true_and, and_false, false_and, not_true_eq_false, not_false_eq_true, nI_sub', e0]) (fun n N hN => by
          rw [f_X10_strike_96]
          simp (disch := omega) only [l_0, l_1, l_2, l_3, l_4, l_5, l_6, l_7, l_8, l_9, l_10, l_12, l_20, l_24, l_25, l_31, l_32, l_48, l_50, l_56, l_57, l_59, l_97, l_99, l_100, l_120, l_122, l_177, l_178, l_201, l_226, l_255, l_400, l_420, l_600, l_700, l_840, l_1000, l_1300, l_2000, l_1000000, nI_add, mr4, ml4, mr5, ml5, mr6, ml6, mr10, ml10, mr24, ml24, mr201, ml201, mr420, ml420, mr226, ml226, mr2, ml2, nI_clamp, lt_T, lt_F, le_T, le_F, eq_T, eq_F, ck_n, dv_n, cp_n, rem_n, pk_div, at1_same, at1_ne, cb_n, Option.bind_some, if_pos, if_neg, ↓reduceIte, and_self, and_true, true_and, and_false, false_and, not_true_eq_false, not_false_eq_true, nI_sub']) 5 0 F _ (by omega) (by omega) (by omega) (Fl_0 _ 1 _ _)
      obtain ⟨M6, u1, u2⟩ := R96 (fun M_127 => ck 177 226 (f_X10_strike_138 F LM (fun M_175 => ck 56 226 ((some (((M_175 1) (56 : Int32).toNatClampNeg), M_175)))) F M_127 (((M_127 1) (177 : Int32).toNatClampNeg) - 1)))
      have hM6 : StM M6 (stS σ (apE (sg8 σ) A B (-x) (-y) 1)) := fun j hj => by
        rw [u2.2 j]
        unfold stS
        by_cases w1 : j = 56
        · rw [if_neg (by omega), if_pos w1, w1, mr_s, pk_us]
        · rw [if_neg w1]
          by_cases w2 : 57 + 5 * (σ 56 - 1) ≤ j ∧ j < 57 + 5 * (σ 56 - 1) + 5
          · rw [if_pos w2, if_pos w2]
          · rw [if_neg w2, if_neg w2, mr_s, pk_un w1]
            exact t2 j hj
      have c6 : ∀ c, c ≠ 1 → M6 c = M4 c := fun c hc => by rw [Fl_c u2 hc, mr_n _ _ hc, t3 c hc]
      have u1' : f_X10_strike_96 F LM (fun M_127 => ck 177 226 (f_X10_strike_138 F LM (fun M_175 => ck 56 226 ((some (((M_175 1) (56 : Int32).toNatClampNeg), M_175)))) F M_127 (((M_127 1) (177 : Int32).toNatClampNeg) - 1))) F (mr M5 1 (upd (M5 1) (56 : Int32).toNatClampNeg (nI (σ 56 - 1)))) 0 = _ := u1
      rw [u1', ck177, r177 hM6, st_hi h5 (by omega) (by omega)]
      have c18 : C1 0 8 - 1 = nI (σ 56 - 1) := by rw [a3 0 (by decide), cMv hC, pr]
      rw [c18]
      have hC2 : StC (mr C1 0 (fu (C1 0) 8 (nI (σ 56 - 1)))) (stS σ (apE (sg8 σ) A B (-x) (-y) 1)) := by
        refine ⟨?_, ?_, ?_, ?_, fun j hj => ?_, fun j hj => ?_, fun j hj => ?_, fun j hj => ?_⟩
        · rw [mr_s, fu_n _ _ (by decide), st_lo (by omega)]; exact cC hC1
        · rw [mr_s, fu_n _ _ (by decide), st_lo (by omega)]; exact cR hC1
        · rw [mr_s, fu_s, st_56]
        · rw [mr_s, fu_n _ _ (by decide), st_hi h5 (by omega) (by omega), a3 0 (by decide)]; exact cSe hC
        · rw [st_lo (by omega)] at hj
          have hj' : j < σ 0 := hj
          rw [mr_n _ _ (by decide), mr_n _ _ (by decide), st_lo (by omega), st_wo (by omega)]
          refine ⟨cRt hC1 hj, ?_⟩
          rw [a3 2 (by decide)]; exact cWo hC hj'
        · rw [mr_n _ _ (by decide), mr_n _ _ (by decide), st_lo (by omega), st_lo (by omega)]
          exact ⟨cCe hC1 hj, cBe hC1 hj⟩
        · rw [st_56] at hj
          rw [mr_n _ _ (by decide), st_lg hj, a3 5 (by decide)]
          exact cLo hC (by omega)
        · rw [st_hi h5 (by omega) (by omega)] at hj
          rw [mr_n _ _ (by decide), st_hi h5 (by omega) (by omega), a3 6 (by decide)]
          exact cSi hC hj
      have s177 : stS σ (apE (sg8 σ) A B (-x) (-y) 1) 177 = σ 177 := st_hi h5 (by omega) (by omega)
      have s0 : stS σ (apE (sg8 σ) A B (-x) (-y) 1) 0 = σ 0 := by rw [st_lo (by omega)]; exact if_neg (by omega)
      have s1' : stS σ (apE (sg8 σ) A B (-x) (-y) 1) 1 = σ 1 := by rw [st_lo (by omega)]; exact if_neg (by omega)
      have V0 : okV (stS σ (apE (sg8 σ) A B (-x) (-y) 1)) (stS σ (apE (sg8 σ) A B (-x) (-y) 1)) (σ 56 - 1) (σ 177) := by
        refine ⟨fun _ _ => rfl, by omega, by omega, fun i hi => ?_, fun i g1 g2 => by omega⟩
        have z := hs.2.2.2.2.2.2.2.2.2 i (by omega)
        have st2 : ∀ j, 177 ≤ j → stS σ (apE (sg8 σ) A B (-x) (-y) 1) j = σ j := fun j hj => st_hi h5 (by omega) hj
        rw [s0, s1', st2 _ (by omega), st2 (178 + 4 * i + 2) (by omega), st2 (178 + 4 * i + 3) (by omega)]
        exact z.2
      have bt : ∀ k, k < σ 177 → stS σ (apE (sg8 σ) A B (-x) (-y) 1) (178 + 4 * k) ≤ 24 := fun k hk => by
        rw [st_hi h5 (by omega) (by omega)]
        have z := (hs.2.2.2.2.2.2.2.2.2 k hk).1
        omega
      obtain ⟨M7, x1, ⟨x2, x3⟩, x4⟩ := drop_loop (f_X10_strike_138 F LM (fun M_175 => ck 56 226 ((some (((M_175 1) (56 : Int32).toNatClampNeg), M_175))))) (fun M_175 => ck 56 226 ((some (((M_175 1) (56 : Int32).toNatClampNeg), M_175)))) (fun M τ => StM M τ ∧ ∀ c, c ≠ 1 → M c = M4 c) (fun k => σ 56 - 1 < stS σ (apE (sg8 σ) A B (-x) (-y) 1) (178 + 4 * k)) (stS σ (apE (sg8 σ) A B (-x) (-y) 1)) (σ 56 - 1) (σ 177) (stS σ (apE (sg8 σ) A B (-x) (-y) 1)) (fun k hk q => by omega)
        (fun n k N τ hk hi hV hR q => by
          have r1 : N 1 (178 + 4 * k) = nI (stS σ (apE (sg8 σ) A B (-x) (-y) 1) (178 + 4 * k)) := by rw [hR.1 _ (by omega), hi (4 * k) (by omega)]
          have r2 : N 1 56 = nI (σ 56 - 1) := by rw [hR.1 56 (by omega), hV.1 56 (by omega), st_56]
          have bk := bt k hk
          obtain ⟨N', g1, g2, g3⟩ := g_unsees (LM := LM) hR.1 (k := k) (by have := hV.2.2.1; omega) hV.2.1 hF
          refine ⟨N', ?_, g2, fun c hc => by rw [g3 c hc]; exact hR.2 c hc⟩
          rw [f_X10_strike_138]
          simp (disch := omega) only [l_0, l_1, l_2, l_3, l_4, l_5, l_6, l_7, l_8, l_9, l_10, l_12, l_20, l_24, l_25, l_31, l_32, l_48, l_50, l_56, l_57, l_59, l_97, l_99, l_100, l_120, l_122, l_177, l_178, l_201, l_226, l_255, l_400, l_420, l_600, l_700, l_840, l_1000, l_1300, l_2000, l_1000000, nI_add, mr4, ml4, mr5, ml5, mr6, ml6, mr10, ml10, mr24, ml24, mr201, ml201, mr420, ml420, mr226, ml226, mr2, ml2, nI_clamp, lt_T, lt_F, le_T, le_F, eq_T, eq_F, ck_n, dv_n, cp_n, rem_n, pk_div, at1_same, at1_ne, cb_n, Option.bind_some, if_pos, if_neg, ↓reduceIte, and_self, and_true, true_and, and_false, false_and, not_true_eq_false, not_false_eq_true, nI_sub', zz_add, zz_sub, zz_mul, zn_add, nz_add, zn_sub, nz_sub, zn_mul, nz_mul, z_neg, n_neg, zlt_T, zlt_F, zle_T, zle_F, zeq_T, zeq_F, zn_lt, nz_lt, zn_le, nz_le, zn_eq, nz_eq, dn_s, dn_z, r1, r2, g1])
        (fun n k N τ hk hi hV hR q => by
          have r1 : N 1 (178 + 4 * k) = nI (stS σ (apE (sg8 σ) A B (-x) (-y) 1) (178 + 4 * k)) := by rw [hR.1 _ (by omega), hi (4 * k) (by omega)]
          have r2 : N 1 56 = nI (σ 56 - 1) := by rw [hR.1 56 (by omega), hV.1 56 (by omega), st_56]
          have bk := bt k hk
          refine ⟨N, ?_, hR⟩
          rw [f_X10_strike_138]
          simp (disch := omega) only [l_0, l_1, l_2, l_3, l_4, l_5, l_6, l_7, l_8, l_9, l_10, l_12, l_20, l_24, l_25, l_31, l_32, l_48, l_50, l_56, l_57, l_59, l_97, l_99, l_100, l_120, l_122, l_177, l_178, l_201, l_226, l_255, l_400, l_420, l_600, l_700, l_840, l_1000, l_1300, l_2000, l_1000000, nI_add, mr4, ml4, mr5, ml5, mr6, ml6, mr10, ml10, mr24, ml24, mr201, ml201, mr420, ml420, mr226, ml226, mr2, ml2, nI_clamp, lt_T, lt_F, le_T, le_F, eq_T, eq_F, ck_n, dv_n, cp_n, rem_n, pk_div, at1_same, at1_ne, cb_n, Option.bind_some, if_pos, if_neg, ↓reduceIte, and_self, and_true, true_and, and_false, false_and, not_true_eq_false, not_false_eq_true, nI_sub', zz_add, zz_sub, zz_mul, zn_add, nz_add, zn_sub, nz_sub, zn_mul, nz_mul, z_neg, n_neg, zlt_T, zlt_F, zle_T, zle_F, zeq_T, zeq_F, zn_lt, nz_lt, zn_le, nz_le, zn_eq, nz_eq, dn_s, dn_z, r1, r2])
        (fun n N => by
          rw [f_X10_strike_138]
          simp (disch := omega) only [l_0, l_1, l_2, l_3, l_4, l_5, l_6, l_7, l_8, l_9, l_10, l_12, l_20, l_24, l_25, l_31, l_32, l_48, l_50, l_56, l_57, l_59, l_97, l_99, l_100, l_120, l_122, l_177, l_178, l_201, l_226, l_255, l_400, l_420, l_600, l_700, l_840, l_1000, l_1300, l_2000, l_1000000, nI_add, mr4, ml4, mr5, ml5, mr6, ml6, mr10, ml10, mr24, ml24, mr201, ml201, mr420, ml420, mr226, ml226, mr2, ml2, nI_clamp, lt_T, lt_F, le_T, le_F, eq_T, eq_F, ck_n, dv_n, cp_n, rem_n, pk_div, at1_same, at1_ne, cb_n, Option.bind_some, if_pos, if_neg, ↓reduceIte, and_self, and_true, true_and, and_false, false_and, not_true_eq_false, not_false_eq_true, nI_sub', zz_add, zz_sub, zz_mul, zn_add, nz_add, zn_sub, nz_sub, zn_mul, nz_mul, z_neg, n_neg, zlt_T, zlt_F, zle_T, zle_F, zeq_T, zeq_F, zn_lt, nz_lt, zn_le, nz_le, zn_eq, nz_eq, dn_0]) (σ 177) F M6 (stS σ (apE (sg8 σ) A B (-x) (-y) 1)) (by omega) (by omega) (fun i _ => rfl) V0 ⟨hM6, c6⟩
      obtain ⟨C7, y1, y2, y4⟩ := drop_loop (f_X0_dropSightsBehind_7 F (nI (σ 56 - 1)) (fun C_34 => (some C_34))) (fun C_34 => (some C_34)) StC (fun k => σ 56 - 1 < stS σ (apE (sg8 σ) A B (-x) (-y) 1) (178 + 4 * k)) (stS σ (apE (sg8 σ) A B (-x) (-y) 1)) (σ 56 - 1) (σ 177) (stS σ (apE (sg8 σ) A B (-x) (-y) 1)) (fun k hk q => by omega)
        (fun n k N τ hk hi hV hR q => by
          have k1 := hV.2.2.1
          have k2 := hV.2.1
          have r1 : N 6 (4 * k) = nI (stS σ (apE (sg8 σ) A B (-x) (-y) 1) (178 + 4 * k)) := by rw [cSi hR (by omega), hi (4 * k) (by omega)]
          have bk := bt k hk
          obtain ⟨N', g1, g2⟩ := h_dropSight hR (by rw [hV.1 0 (by omega), s0]; exact h0) (by rw [hV.1 56 (by omega), st_56]; omega) (k := k) (by omega) hV.2.1 F
          refine ⟨N', ?_, g2⟩
          rw [f_X0_dropSightsBehind_7]
          simp (disch := omega) only [l_0, l_1, l_2, l_3, l_4, l_5, l_6, l_7, l_8, l_9, l_10, l_12, l_20, l_24, l_25, l_31, l_32, l_48, l_50, l_56, l_57, l_59, l_97, l_99, l_100, l_120, l_122, l_177, l_178, l_201, l_226, l_255, l_400, l_420, l_600, l_700, l_840, l_1000, l_1300, l_2000, l_1000000, nI_add, mr4, ml4, mr5, ml5, mr6, ml6, mr10, ml10, mr24, ml24, mr201, ml201, mr420, ml420, mr226, ml226, mr2, ml2, nI_clamp, lt_T, lt_F, le_T, le_F, eq_T, eq_F, ck_n, dv_n, cp_n, rem_n, pk_div, at1_same, at1_ne, cb_n, Option.bind_some, if_pos, if_neg, ↓reduceIte, and_self, and_true, true_and, and_false, false_and, not_true_eq_false, not_false_eq_true, nI_sub', zz_add, zz_sub, zz_mul, zn_add, nz_add, zn_sub, nz_sub, zn_mul, nz_mul, z_neg, n_neg, zlt_T, zlt_F, zle_T, zle_F, zeq_T, zeq_F, zn_lt, nz_lt, zn_le, nz_le, zn_eq, nz_eq, dn_s, dn_z, r1, g1])
        (fun n k N τ hk hi hV hR q => by
          have k1 := hV.2.2.1
          have k2 := hV.2.1
          have r1 : N 6 (4 * k) = nI (stS σ (apE (sg8 σ) A B (-x) (-y) 1) (178 + 4 * k)) := by rw [cSi hR (by omega), hi (4 * k) (by omega)]
          have bk := bt k hk
          refine ⟨N, ?_, hR⟩
          rw [f_X0_dropSightsBehind_7]
          simp (disch := omega) only [l_0, l_1, l_2, l_3, l_4, l_5, l_6, l_7, l_8, l_9, l_10, l_12, l_20, l_24, l_25, l_31, l_32, l_48, l_50, l_56, l_57, l_59, l_97, l_99, l_100, l_120, l_122, l_177, l_178, l_201, l_226, l_255, l_400, l_420, l_600, l_700, l_840, l_1000, l_1300, l_2000, l_1000000, nI_add, mr4, ml4, mr5, ml5, mr6, ml6, mr10, ml10, mr24, ml24, mr201, ml201, mr420, ml420, mr226, ml226, mr2, ml2, nI_clamp, lt_T, lt_F, le_T, le_F, eq_T, eq_F, ck_n, dv_n, cp_n, rem_n, pk_div, at1_same, at1_ne, cb_n, Option.bind_some, if_pos, if_neg, ↓reduceIte, and_self, and_true, true_and, and_false, false_and, not_true_eq_false, not_false_eq_true, nI_sub', zz_add, zz_sub, zz_mul, zn_add, nz_add, zn_sub, nz_sub, zn_mul, nz_mul, z_neg, n_neg, zlt_T, zlt_F, zle_T, zle_F, zeq_T, zeq_F, zn_lt, nz_lt, zn_le, nz_le, zn_eq, nz_eq, dn_s, dn_z, r1])
        (fun n N => by
          rw [f_X0_dropSightsBehind_7]
          simp (disch := omega) only [l_0, l_1, l_2, l_3, l_4, l_5, l_6, l_7, l_8, l_9, l_10, l_12, l_20, l_24, l_25, l_31, l_32, l_48, l_50, l_56, l_57, l_59, l_97, l_99, l_100, l_120, l_122, l_177, l_178, l_201, l_226, l_255, l_400, l_420, l_600, l_700, l_840, l_1000, l_1300, l_2000, l_1000000, nI_add, mr4, ml4, mr5, ml5, mr6, ml6, mr10, ml10, mr24, ml24, mr201, ml201, mr420, ml420, mr226, ml226, mr2, ml2, nI_clamp, lt_T, lt_F, le_T, le_F, eq_T, eq_F, ck_n, dv_n, cp_n, rem_n, pk_div, at1_same, at1_ne, cb_n, Option.bind_some, if_pos, if_neg, ↓reduceIte, and_self, and_true, true_and, and_false, false_and, not_true_eq_false, not_false_eq_true, nI_sub', zz_add, zz_sub, zz_mul, zn_add, nz_add, zn_sub, nz_sub, zn_mul, nz_mul, z_neg, n_neg, zlt_T, zlt_F, zle_T, zle_F, zeq_T, zeq_F, zn_lt, nz_lt, zn_le, nz_le, zn_eq, nz_eq, dn_0]) (σ 177) F (mr C1 0 (fu (C1 0) 8 (nI (σ 56 - 1)))) (stS σ (apE (sg8 σ) A B (-x) (-y) 1)) (by omega) (by omega) (fun i _ => rfl) V0 hC2
      have x1' : f_X10_strike_138 F LM (fun M_175 => ck 56 226 ((some (((M_175 1) (56 : Int32).toNatClampNeg), M_175)))) F M6 (nI (σ 177) - 1) = _ := x1
      have y1' : f_X0_dropSightsBehind F (mr C1 0 (fu (C1 0) 8 (nI (σ 56 - 1)))) (nI (σ 56 - 1)) = some C7 := by
        unfold f_X0_dropSightsBehind
        have e9 : (mr C1 0 (fu (C1 0) 8 (nI (σ 56 - 1)))) 0 9 = nI (σ 177) := by rw [cSe hC2, s177]
        rw [e9]
        exact y1
      rw [x1', ck56, r56 x2, y1']
      simp only [Option.bind_some]
      rw [cMv y2]
      have hs7 : okS (dropR (fun k => σ 56 - 1 < stS σ (apE (sg8 σ) A B (-x) (-y) 1) (178 + 4 * k)) (σ 177) (stS σ (apE (sg8 σ) A B (-x) (-y) 1))) := okS_V hok (by rw [st_56]; exact x4)
      have q7 : Pq M4 M7 := ⟨x3 3 (by decide), x3 21 (by decide), x3 22 (by decide), by rw [x3 0 (by decide)], by rw [x3 0 (by decide)]⟩
      exact ⟨_, _, _, _, _, _, _, _, _, rfl, rfl, .inr ⟨_, _, _, Ra_to b3 q7 y2 x2 hs7, b4⟩⟩
    · rw [s1, no f]
      simp only [Option.bind_some]
      rw [if_pos n00]
      exact ⟨_, _, _, _, _, _, _, _, _, rfl, rfl, .inl ⟨rfl, rfl, rfl, rfl, rfl, rfl, p3⟩⟩
