/-! PURE LAYER: start, sieve -/
def OutN (M T C H Y S : Mem) (Ks : Nat → Mem) (σ : Sg) (M' C' H' Y' N' S' : Mem) (Ks' : Nat → Mem) : Prop := (C' = C ∧ H' = H ∧ Y' = Y ∧ S' = S ∧ Ks' = Ks ∧ CaN N' σ ∧ Pm M M') ∨ ∃ σ' a' h', Ra M' T C' H' Ks' σ' a' h' ∧ Fg Y' N' S'
theorem g_asBegan {M : Mem} {LM : MemL} {σ : Sg} (hM : StM M σ) (hs : okS σ) {F : Nat} (hF : 10000 ≤ F) : ((∀ j, j < 24 → σ (8 + j) = σ (32 + j)) ∧ f_X10_isAsBegan F M LM = some (nI 1)) ∨ (¬ (∀ j, j < 24 → σ (8 + j) = σ (32 + j)) ∧ f_X10_isAsBegan F M LM = some (nI 0)) := by
  rcases all_up (f_X10_isAsBegan_2 F M LM (some 0) (some 1)) (some 0) (some 1) (fun j => σ (8 + j) = σ (32 + j)) 24 (fun n i hi => by
    have k := kCe hs hi
    rw [f_X10_isAsBegan_2]
    constructor
    · intro q
      simp (disch := omega) only [l_0, l_1, l_2, l_3, l_4, l_5, l_6, l_7, l_8, l_9, l_10, l_12, l_20, l_24, l_25, l_31, l_32, l_48, l_50, l_56, l_57, l_59, l_97, l_99, l_100, l_120, l_122, l_177, l_178, l_201, l_226, l_255, l_400, l_420, l_600, l_700, l_840, l_1000, l_1300, l_2000, l_1000000, nI_add, mr4, ml4, mr5, ml5, mr6, ml6, mr10, ml10, mr24, ml24, mr201, ml201, mr420, ml420, mr226, ml226, mr2, ml2, nI_clamp, lt_T, lt_F, le_T, le_F, eq_T, eq_F, ck_n, dv_n, cp_n, rem_n, pk_div, at1_same, at1_ne, cb_n, Option.bind_some, if_pos, if_neg, ↓reduceIte, and_self, and_true, true_and, and_false, false_and, not_true_eq_false, not_false_eq_true, nI_sub', mS hM]
    · intro q
      simp (disch := omega) only [l_0, l_1, l_2, l_3, l_4, l_5, l_6, l_7, l_8, l_9, l_10, l_12, l_20, l_24, l_25, l_31, l_32, l_48, l_50, l_56, l_57, l_59, l_97, l_99, l_100, l_120, l_122, l_177, l_178, l_201, l_226, l_255, l_400, l_420, l_600, l_700, l_840, l_1000, l_1300, l_2000, l_1000000, nI_add, mr4, ml4, mr5, ml5, mr6, ml6, mr10, ml10, mr24, ml24, mr201, ml201, mr420, ml420, mr226, ml226, mr2, ml2, nI_clamp, lt_T, lt_F, le_T, le_F, eq_T, eq_F, ck_n, dv_n, cp_n, rem_n, pk_div, at1_same, at1_ne, cb_n, Option.bind_some, if_pos, if_neg, ↓reduceIte, and_self, and_true, true_and, and_false, false_and, not_true_eq_false, not_false_eq_true, nI_sub', mS hM]) (fun n => by
    rw [f_X10_isAsBegan_2]
    simp (disch := omega) only [l_0, l_1, l_2, l_3, l_4, l_5, l_6, l_7, l_8, l_9, l_10, l_12, l_20, l_24, l_25, l_31, l_32, l_48, l_50, l_56, l_57, l_59, l_97, l_99, l_100, l_120, l_122, l_177, l_178, l_201, l_226, l_255, l_400, l_420, l_600, l_700, l_840, l_1000, l_1300, l_2000, l_1000000, nI_add, mr4, ml4, mr5, ml5, mr6, ml6, mr10, ml10, mr24, ml24, mr201, ml201, mr420, ml420, mr226, ml226, mr2, ml2, nI_clamp, lt_T, lt_F, le_T, le_F, eq_T, eq_F, ck_n, dv_n, cp_n, rem_n, pk_div, at1_same, at1_ne, cb_n, Option.bind_some, if_pos, if_neg, ↓reduceIte, and_self, and_true, true_and, and_false, false_and, not_true_eq_false, not_false_eq_true, nI_sub']) 24 0 F (by omega) (by omega) with ⟨h1, h2⟩ | ⟨⟨j, h1, h2, h3⟩, h4⟩
  · exact .inl ⟨fun c hc => h1 c (by omega) hc, h2⟩
  · exact .inr ⟨fun z => h3 (z j h2), h4⟩
theorem m_start0 {M T C H Y N NE S X0 : Mem} {LM : MemL} {Ks : Nat → Mem} {σ : Sg} {a : Nat} {h : Nat → Sg} (ra : Ra M T C H Ks σ a h) {F : Nat} (hF : 10000 ≤ F) : ∃ C' H' Y' N' S' Ks' M', f_X9_start_38 F X0 C H Y N NE S Ks (nI (σ 56)) = some (nI (σ 56), C', H', Y', N', NE, S', Ks') ∧ f_X10_start_30 F M LM = some (nI (σ 56), M') ∧ ∃ σ' a' h', Ra M' T C' H' Ks' σ' a' h' ∧ Fg Y' N' S' := by
  obtain ⟨hC, hM, hs, -⟩ := id ra
  obtain ⟨H', Y', N', S', Ks', M2, b1, b2, b3, b4, -, -, b5, b6⟩ := m_begin (X0 := X0) (Y := Y) (N := N) (S := S) (LM := LM) ra hF
  obtain ⟨M', C', g1, g2, g3⟩ := act_anew (LM := LM) b3 (Pq_rfl M2) b3.2.1 (StC_B hC) (okS_B hs) hF
  unfold f_X9_start_38 f_X10_start_30
  rw [b1, b2]
  simp only [Option.bind_some]
  rw [ck56, g1, g2]
  simp only [Option.bind_some]
  rw [r56 b3.2.1]
  exact ⟨_, _, _, _, _, _, _, rfl, rfl, _, _, _, g3, b4⟩
theorem m_start {M T C H Y N NE S X0 : Mem} {LM : MemL} {Ks : Nat → Mem} {σ : Sg} {a : Nat} {h : Nat → Sg} (ra : Ra M T C H Ks σ a h) (hN : CaN N σ) {F : Nat} (hF : 10000 ≤ F) : ∃ v C' H' Y' N' NE' S' Ks' M', f_X9_start F X0 C H Y N NE S Ks = some (v, C', H', Y', N', NE', S', Ks') ∧ f_X10_start F M LM = some (v, M') ∧ OutN M T C H Y S Ks σ M' C' H' Y' N' S' Ks' := by
  obtain ⟨hC, hM, hs, -⟩ := id ra
  have h5 := kMv hs
  have h6 := kSe hs
  unfold f_X9_start f_X10_start
  rw [ck56, r56 hM, ck177, r177 hM, cMv hC, cSe hC]
  have go := fun (N NE : Mem) => m_start0 (X0 := X0) (Y := Y) (N := N) (NE := NE) (S := S) (LM := LM) ra hF
  by_cases q0 : σ 56 = 0
  · have z0 : nI (σ 56) = 0 := by rw [q0]; rfl
    rw [if_pos z0, if_pos z0]
    by_cases q1 : σ 177 = 0
    · have z1 : nI (σ 177) = 0 := by rw [q1]; rfl
      rw [if_pos z1, if_pos z1]
      obtain ⟨N', NE', a1, a2⟩ := h_cellsApart (NE := NE) hC hs hN hF
      have iff : dfN σ 24 = 0 ↔ ∀ j, j < 24 → σ (8 + j) = σ (32 + j) := by
        rw [df_0 σ 24, q0]
        show (∀ i, i < 24 → (σ (32 + i) : Int) = (σ (8 + i) : Int)) ↔ _
        exact ⟨fun h j hj => by have := h j hj; omega, fun h j hj => by have := h j hj; omega⟩
      have dl := df_le σ 24
      rw [a1]
      simp only [Option.bind_some]
      rcases g_asBegan (LM := LM) hM hs hF with ⟨g1, g2⟩ | ⟨g1, g2⟩
      · rw [g2, iff.mpr g1]
        simp only [Option.bind_some]
        rw [if_pos n00, if_neg n10]
        exact ⟨_, _, _, _, _, _, _, _, _, rfl, rfl, .inl ⟨rfl, rfl, rfl, rfl, rfl, a2, Pm_rfl M⟩⟩
      · have nz : ¬ nI (dfN σ 24) = 0 := nI_ne0 (Nat.pos_of_ne_zero fun z => g1 (iff.mp z)) (by omega)
        rw [g2]
        simp only [Option.bind_some]
        rw [if_neg nz, if_pos n00]
        obtain ⟨C', H', Y', N2, S', Ks', M', e1, e2, e3⟩ := go N' NE'
        rw [e1, e2]
        exact ⟨_, _, _, _, _, _, _, _, _, rfl, rfl, .inr e3⟩
    · have z1 : ¬ nI (σ 177) = 0 := nI_ne0 (by omega) (by omega)
      rw [if_neg z1, if_neg z1]
      obtain ⟨C', H', Y', N2, S', Ks', M', e1, e2, e3⟩ := go N NE
      rw [e1, e2]
      exact ⟨_, _, _, _, _, _, _, _, _, rfl, rfl, .inr e3⟩
  · have z0 : ¬ nI (σ 56) = 0 := nI_ne0 (by omega) (by omega)
    rw [if_neg z0, if_neg z0]
    obtain ⟨C', H', Y', N2, S', Ks', M', e1, e2, e3⟩ := go N NE
    rw [e1, e2]
    exact ⟨_, _, _, _, _, _, _, _, _, rfl, rfl, .inr e3⟩
/-! sieve -/
theorem EfL_cg {σ τ : Sg} (hs : okS σ) (lo : ∀ j, j < 177 → τ j = σ j) {i : Nat} (hi : i < σ 56) {A B : Nat} {x y : Int} (h : EfL σ i A B x y) : EfL τ i A B x y := by
  have h5 := kMv hs
  have b := lg_b hs hi
  unfold EfL Ef at h ⊢
  rw [lo 1 (by omega), lo 0 (by omega), lo (57 + 5 * i) (by omega), lo (57 + 5 * i + 1) (by omega), lo (57 + 5 * i + 2) (by omega), lo (57 + 5 * i + 3) (by omega), lo (57 + 5 * i + 4) (by omega), lo (2 + ((σ (57 + 5 * i + 2) : Int).toNat + 1)) (by omega), lo (2 + (σ (57 + 5 * i + 2) : Int).toNat) (by omega)]
  exact h
theorem eff_cg {σ τ : Sg} (hs : okS σ) (ht : okS τ) (lo : ∀ j, j < 177 → τ j = σ j) {i : Nat} (hi : i < σ 56) : eff τ i = eff σ i := by
  have h1 := EfL_cg hs lo hi (eff_ok hs hi)
  have h2 := eff_ok ht (i := i) (by rw [lo 56 (by omega)]; exact hi)
  obtain ⟨e1, e2, e3, e4⟩ := EfL_i h1 h2
  exact Prod.ext e1 (Prod.ext e2 (Prod.ext e3 e4))
theorem ly_cg {σ τ : Sg} (hs : okS σ) (ht : okS τ) (lo : ∀ j, j < 177 → τ j = σ j) : ∀ t, t ≤ σ 56 → ∀ j, j < 24 → ly τ t j = ly σ t j
  | 0, _, j, hj => by
    show (τ (32 + j) : Int) = (σ (32 + j) : Int)
    rw [lo _ (by omega)]
  | t + 1, h, j, hj => by
    show apE (ly τ t) (eff τ t).1 (eff τ t).2.1 (eff τ t).2.2.1 (eff τ t).2.2.2 1 j = apE (ly σ t) (eff σ t).1 (eff σ t).2.1 (eff σ t).2.2.1 (eff σ t).2.2.2 1 j
    rw [eff_cg hs ht lo (by omega)]
    unfold apE
    rw [ly_cg hs ht lo t (by omega) j hj]
theorem lk_cg {σ τ : Sg} (hs : okS σ) (ht : okS τ) (lo : ∀ j, j < 177 → τ j = σ j) {k : Nat} (hk : k < σ 177) (hi : ∀ i, i < 4 * (k + 1) → τ (178 + i) = σ (178 + i)) : lk τ k = lk σ k := by
  have e0 := hi (4 * k) (by omega)
  have e1 := hi (4 * k + 1) (by omega)
  have e2 := hi (4 * k + 2) (by omega)
  have e3 := hi (4 * k + 3) (by omega)
  rw [← Nat.add_assoc, ] at e1 e2 e3
  have b := si_b hs hk
  unfold lk
  have s1 : siT τ k = siT σ k := e0
  have s2 : siC τ k = siC σ k := by unfold siC; rw [e1, e2]
  rw [s1, s2, e3, ly_cg hs ht lo _ b.1 _ b.2.1]
noncomputable def cntP (p : Nat → Prop) : Nat → Nat
  | 0 => 0
  | k + 1 => cntP p k + (@ite _ (p k) (Classical.propDecidable _) 1 0)
theorem cntP_T {p : Nat → Prop} {k : Nat} (h : p k) : cntP p (k + 1) = cntP p k + 1 := by
  show cntP p k + (@ite _ (p k) (Classical.propDecidable _) 1 0) = _
  rw [if_pos h]
theorem cntP_F {p : Nat → Prop} {k : Nat} (h : ¬ p k) : cntP p (k + 1) = cntP p k := by
  show cntP p k + (@ite _ (p k) (Classical.propDecidable _) 1 0) = _
  rw [if_neg h, Nat.add_zero]
theorem cntP_le (p : Nat → Prop) : ∀ k, cntP p k ≤ k
  | 0 => Nat.le_refl _
  | k + 1 => by
    have := cntP_le p k
    by_cases q : p k
    · rw [cntP_T q]; omega
    · rw [cntP_F q]; omega
theorem cntP_0 (p : Nat → Prop) : ∀ k, cntP p k = 0 ↔ ∀ i, i < k → ¬ p i
  | 0 => ⟨fun _ i hi => by omega, fun _ => rfl⟩
  | k + 1 => by
    have ih := cntP_0 p k
    by_cases q : p k
    · rw [cntP_T q]
      exact ⟨fun h => by omega, fun h => absurd q (h k (by omega))⟩
    · rw [cntP_F q, ih]
      refine ⟨fun h i hi => ?_, fun h i hi => h i (by omega)⟩
      by_cases w : i = k
      · rw [w]; exact q
      · exact h i (by omega)
theorem dropR_n {p : Nat → Prop} : ∀ (k : Nat) (τ : Sg), k ≤ τ 177 → dropR p k τ 177 + cntP p k = τ 177
  | 0, τ, _ => rfl
  | k + 1, τ, h => by
    by_cases q : p k
    · rw [dropR_T q, cntP_T q]
      have e : unS τ k 177 = τ 177 - 1 := un_177
      have := dropR_n (p := p) k (unS τ k) (by rw [e]; omega)
      omega
    · rw [dropR_F q, cntP_F q]
      exact dropR_n k τ (by omega)
theorem g_sv4 {LM : MemL} {σ : Sg} (hs : okS σ) {F : Nat} (hF : 10000 ≤ F) (k : Mem → Int32 → Option (Int32 × Mem)) : ∀ (d i n : Nat) (M : Mem), StM M σ → i + d = σ 177 → d < n → ∃ M', f_X10_sieve_4 F LM k n M (nI (cntP (fun k => lk σ k ≠ 0) i)) (nI i) = k M' (nI (cntP (fun k => lk σ k ≠ 0) (σ 177))) ∧ Pm M M'
  | d, i, 0, M, _, _, h => by omega
  | 0, i, n + 1, M, hM, hi, _ => by
    obtain rfl : i = σ 177 := by omega
    have h6 := kSe hs
    refine ⟨M, ?_, Pm_rfl M⟩
    rw [f_X10_sieve_4, ck177, r177 hM, if_pos (nI_le (by omega) (by omega))]
  | d + 1, i, n + 1, M, hM, hi, hn => by
    have h6 := kSe hs
    obtain ⟨M1, b1, b2⟩ := g_isRight (LM := LM) hM hs hF (k := i) (by omega)
    obtain ⟨M', e1, e2⟩ := g_sv4 (LM := LM) hs hF k d (i + 1) n M1 (StM_p hM b2) (by omega) (by omega)
    refine ⟨M', ?_, Pm_tr b2 e2⟩
    rw [f_X10_sieve_4, ck177, r177 hM, if_neg (nI_ge (by omega) (by omega)), b1]
    simp only [Option.bind_some]
    by_cases g : lk σ i = 0
    · rw [cntP_F (p := fun k => lk σ k ≠ 0) (fun z => z g)] at e1
      rw [if_pos g, if_neg n10, nI_1]
      exact e1
    · rw [cntP_T (p := fun k => lk σ k ≠ 0) g] at e1
      rw [if_neg g, if_pos n00, nI_1, nI_1]
      exact e1
theorem m_sieve {M T C H Y N NE S X0 : Mem} {LM : MemL} {Ks : Nat → Mem} {σ : Sg} {a : Nat} {h : Nat → Sg} (ra : Ra M T C H Ks σ a h) (hN : CaN N σ) {F : Nat} (hF : 10000 ≤ F) : ∃ v C' H' Y' N' NE' S' Ks' M', f_X9_sieve F X0 C H Y N NE S Ks = some (v, C', H', Y', N', NE', S', Ks') ∧ f_X10_sieve F M LM = some (v, M') ∧ OutN M T C H Y S Ks σ M' C' H' Y' N' S' Ks' := by
  obtain ⟨hC, hM, hs, -⟩ := id ra
  have h0 := kC hs
  have h5 := kMv hs
  have h6 := kSe hs
  obtain ⟨N', NE', a1, a2, a3, a4⟩ := h_layC (NE := NE) hC hs hF hN
  have c := h_fw7 (F := F) (NE := NE') hC hs a2.2.2.2 (σ 177) 0 F (by omega) (by omega)
  obtain ⟨M1, g1, g2⟩ := g_sv4 (LM := LM) hs hF (fun M_33 x1_33 => (if x1_33 = 0 then (some ((-1), M_33)) else (f_X10_keeps F M_33 LM).bind (fun z40 => ck 177 226 (f_X10_sieve_54 F LM x1_33 (fun M_77 => (some (x1_33, M_77))) F z40 (((z40 1) (177 : Int32).toNatClampNeg) - 1))))) (σ 177) 0 F M hM (by omega) (by omega)
  have g1' : f_X10_sieve F M LM = _ := g1
  rw [g1']
  have cl := cntP_le (fun k => lk σ k ≠ 0) (σ 177)
  have c0 := cntP_0 (fun k => lk σ k ≠ 0) (σ 177)
  unfold f_X9_sieve f_X2_firstWrong
  rw [a1]
  simp only [Option.bind_some]
  rcases c with ⟨c1, c2⟩ | ⟨q, c1, c2, c3, c4, c5⟩
  · rw [show f_X2_firstWrong_7 F N' NE' C (fun x2_24 => some (x2_24, N', NE')) (some (-2, N', NE')) F 0 = _ from c2]
    simp only [Option.bind_some]
    have z : cntP (fun k => lk σ k ≠ 0) (σ 177) = 0 := c0.mpr (fun i hi z => z (c1 i (by omega) hi))
    rw [z, if_pos n00, if_pos trivial]
    exact ⟨_, _, _, _, _, _, _, _, _, rfl, rfl, .inl ⟨rfl, rfl, rfl, rfl, rfl, a3, g2⟩⟩
  · rw [show f_X2_firstWrong_7 F N' NE' C (fun x2_24 => some (x2_24, N', NE')) (some (-2, N', NE')) F 0 = _ from c5]
    simp only [Option.bind_some]
    have nz : cntP (fun k => lk σ k ≠ 0) (σ 177) ≠ 0 := fun z => (c0.mp z) q c2 c3
    have nq : ¬ nI q = (-2 : Int32) := fun z => by
      have := congrArg Int32.toInt z
      rw [nI_toInt (by omega)] at this
      have h2 : (-2 : Int32).toInt = -2 := by decide
      omega
    rw [if_neg nq, if_neg (nI_ne0 (by omega) (by omega))]
    obtain ⟨H', Y', N2, S', Ks', M2, b1, b2, b3, b4, -, bN, b5, b6⟩ := m_begin (X0 := X0) (Y := Y) (N := N') (S := S) (LM := LM) (Ra_m g2 ra) hF
    rw [b1, b2]
    simp only [Option.bind_some]
    rw [ck177, r177 b3.2.1, cSe hC]
    have V0 := okS_V0 hs
    have N25 : ∀ k, k < σ 177 → N2 5 k = zI (lk σ k) := fun k hk => by rw [bN 5 (by decide)]; exact a2.2.2.2 k hk
    have okt : ∀ k τ, k < σ 177 → (∀ i, i < 4 * (k + 1) → τ (178 + i) = σ (178 + i)) → okV σ τ (σ 56) (k + 1) → okS τ := fun k τ hk hi hV => okS_V (okS_0 hs) ⟨hV.1, hV.2.1, by omega, hV.2.2.2.1, fun i g1 g2 => by
      by_cases w : k + 1 ≤ i
      · exact hV.2.2.2.2 i w g2
      · rw [hi (4 * i) (by omega)]
        exact (hs.2.2.2.2.2.2.2.2.2 i (by omega)).1⟩
    obtain ⟨M7, x1, ⟨x2, x3⟩, x4⟩ := drop_loop (f_X10_sieve_54 F LM (nI (cntP (fun k => lk σ k ≠ 0) (σ 177))) (fun M_77 => (some (nI (cntP (fun k => lk σ k ≠ 0) (σ 177)), M_77)))) (fun M_77 => (some (nI (cntP (fun k => lk σ k ≠ 0) (σ 177)), M_77))) (fun M τ => StM M τ ∧ Pq M2 M) (fun k => lk σ k ≠ 0) σ (σ 56) (σ 177) σ (fun k hk _ => (hs.2.2.2.2.2.2.2.2.2 k hk).1)
      (fun n k N τ hk hi hV hR q => by
        have ht := okt k τ hk hi hV
        have hk' : k < τ 177 := by have := hV.2.2.1; omega
        obtain ⟨Na, r1, r2⟩ := g_isRight (LM := LM) hR.1 ht hF hk'
        rw [lk_cg hs ht hV.1 hk hi] at r1
        obtain ⟨Nb, u1, u2, u3⟩ := g_unsees (LM := LM) (StM_p hR.1 r2) hk' hV.2.1 hF
        refine ⟨Nb, ?_, u2, Pq_tr hR.2 (Pq_tr (Pm_q r2) ⟨u3 3 (by decide), u3 21 (by decide), u3 22 (by decide), by rw [u3 0 (by decide)], by rw [u3 0 (by decide)]⟩)⟩
        rw [f_X10_sieve_54]
        rw [if_neg q] at r1
        simp (disch := omega) only [l_0, l_1, l_2, l_3, l_4, l_5, l_6, l_7, l_8, l_9, l_10, l_12, l_20, l_24, l_25, l_31, l_32, l_48, l_50, l_56, l_57, l_59, l_97, l_99, l_100, l_120, l_122, l_177, l_178, l_201, l_226, l_255, l_400, l_420, l_600, l_700, l_840, l_1000, l_1300, l_2000, l_1000000, nI_add, mr4, ml4, mr5, ml5, mr6, ml6, mr10, ml10, mr24, ml24, mr201, ml201, mr420, ml420, mr226, ml226, mr2, ml2, nI_clamp, lt_T, lt_F, le_T, le_F, eq_T, eq_F, ck_n, dv_n, cp_n, rem_n, pk_div, at1_same, at1_ne, cb_n, Option.bind_some, if_pos, if_neg, ↓reduceIte, and_self, and_true, true_and, and_false, false_and, not_true_eq_false, not_false_eq_true, nI_sub', zz_add, zz_sub, zz_mul, zn_add, nz_add, zn_sub, nz_sub, zn_mul, nz_mul, z_neg, n_neg, zlt_T, zlt_F, zle_T, zle_F, zeq_T, zeq_F, zn_lt, nz_lt, zn_le, nz_le, zn_eq, nz_eq, dn_s, dn_z, r1, u1])
      (fun n k N τ hk hi hV hR q => by
        have ht := okt k τ hk hi hV
        have hk' : k < τ 177 := by have := hV.2.2.1; omega
        obtain ⟨Na, r1, r2⟩ := g_isRight (LM := LM) hR.1 ht hF hk'
        rw [lk_cg hs ht hV.1 hk hi] at r1
        refine ⟨Na, ?_, StM_p hR.1 r2, Pq_tr hR.2 (Pm_q r2)⟩
        have q' : lk σ k = 0 := Decidable.not_not.mp q
        rw [f_X10_sieve_54]
        rw [if_pos q'] at r1
        simp (disch := omega) only [l_0, l_1, l_2, l_3, l_4, l_5, l_6, l_7, l_8, l_9, l_10, l_12, l_20, l_24, l_25, l_31, l_32, l_48, l_50, l_56, l_57, l_59, l_97, l_99, l_100, l_120, l_122, l_177, l_178, l_201, l_226, l_255, l_400, l_420, l_600, l_700, l_840, l_1000, l_1300, l_2000, l_1000000, nI_add, mr4, ml4, mr5, ml5, mr6, ml6, mr10, ml10, mr24, ml24, mr201, ml201, mr420, ml420, mr226, ml226, mr2, ml2, nI_clamp, lt_T, lt_F, le_T, le_F, eq_T, eq_F, ck_n, dv_n, cp_n, rem_n, pk_div, at1_same, at1_ne, cb_n, Option.bind_some, if_pos, if_neg, ↓reduceIte, and_self, and_true, true_and, and_false, false_and, not_true_eq_false, not_false_eq_true, nI_sub', zz_add, zz_sub, zz_mul, zn_add, nz_add, zn_sub, nz_sub, zn_mul, nz_mul, z_neg, n_neg, zlt_T, zlt_F, zle_T, zle_F, zeq_T, zeq_F, zn_lt, nz_lt, zn_le, nz_le, zn_eq, nz_eq, dn_s, dn_z, r1])
      (fun n N => by
        rw [f_X10_sieve_54]
        simp (disch := omega) only [l_0, l_1, l_2, l_3, l_4, l_5, l_6, l_7, l_8, l_9, l_10, l_12, l_20, l_24, l_25, l_31, l_32, l_48, l_50, l_56, l_57, l_59, l_97, l_99, l_100, l_120, l_122, l_177, l_178, l_201, l_226, l_255, l_400, l_420, l_600, l_700, l_840, l_1000, l_1300, l_2000, l_1000000, nI_add, mr4, ml4, mr5, ml5, mr6, ml6, mr10, ml10, mr24, ml24, mr201, ml201, mr420, ml420, mr226, ml226, mr2, ml2, nI_clamp, lt_T, lt_F, le_T, le_F, eq_T, eq_F, ck_n, dv_n, cp_n, rem_n, pk_div, at1_same, at1_ne, cb_n, Option.bind_some, if_pos, if_neg, ↓reduceIte, and_self, and_true, true_and, and_false, false_and, not_true_eq_false, not_false_eq_true, nI_sub', zz_add, zz_sub, zz_mul, zn_add, nz_add, zn_sub, nz_sub, zn_mul, nz_mul, z_neg, n_neg, zlt_T, zlt_F, zle_T, zle_F, zeq_T, zeq_F, zn_lt, nz_lt, zn_le, nz_le, zn_eq, nz_eq, dn_0]) (σ 177) F M2 σ (by omega) (by omega) (fun i _ => rfl) V0 ⟨b3.2.1, Pq_rfl M2⟩
    obtain ⟨C7, y1, y2, y4⟩ := drop_loop (f_X9_sieve_34 F X0 H' Y' N2 NE' S' Ks' (nI (σ 177)) (fun C_64 => (some (((nI (σ 177)) - (C_64 0 9)), C_64, H', Y', N2, NE', S', Ks')))) (fun C_64 => (some (((nI (σ 177)) - (C_64 0 9)), C_64, H', Y', N2, NE', S', Ks'))) StC (fun k => lk σ k ≠ 0) σ (σ 56) (σ 177) σ (fun k hk _ => (hs.2.2.2.2.2.2.2.2.2 k hk).1)
      (fun n k N τ hk hi hV hR q => by
        have k1 := hV.2.2.1
        have k2 := hV.2.1
        have r1 := N25 k hk
        have b := lk_b hs hk
        obtain ⟨N', g1, g2⟩ := h_dropSight hR (by rw [hV.1 0 (by omega)]; exact h0) (by rw [hV.1 56 (by omega)]; exact h5) (k := k) (by omega) hV.2.1 F
        refine ⟨N', ?_, g2⟩
        rw [f_X9_sieve_34]
        simp (disch := omega) only [l_0, l_1, l_2, l_3, l_4, l_5, l_6, l_7, l_8, l_9, l_10, l_12, l_20, l_24, l_25, l_31, l_32, l_48, l_50, l_56, l_57, l_59, l_97, l_99, l_100, l_120, l_122, l_177, l_178, l_201, l_226, l_255, l_400, l_420, l_600, l_700, l_840, l_1000, l_1300, l_2000, l_1000000, nI_add, mr4, ml4, mr5, ml5, mr6, ml6, mr10, ml10, mr24, ml24, mr201, ml201, mr420, ml420, mr226, ml226, mr2, ml2, nI_clamp, lt_T, lt_F, le_T, le_F, eq_T, eq_F, ck_n, dv_n, cp_n, rem_n, pk_div, at1_same, at1_ne, cb_n, Option.bind_some, if_pos, if_neg, ↓reduceIte, and_self, and_true, true_and, and_false, false_and, not_true_eq_false, not_false_eq_true, nI_sub', zz_add, zz_sub, zz_mul, zn_add, nz_add, zn_sub, nz_sub, zn_mul, nz_mul, z_neg, n_neg, zlt_T, zlt_F, zle_T, zle_F, zeq_T, zeq_F, zn_lt, nz_lt, zn_le, nz_le, zn_eq, nz_eq, dn_s, dn_z, r1, g1])
      (fun n k N τ hk hi hV hR q => by
        have k1 := hV.2.2.1
        have k2 := hV.2.1
        have r1 := N25 k hk
        have q' : lk σ k = 0 := Decidable.not_not.mp q
        rw [q'] at r1
        have r1' : N2 5 k = nI 0 := r1
        refine ⟨N, ?_, hR⟩
        rw [f_X9_sieve_34]
        simp (disch := omega) only [l_0, l_1, l_2, l_3, l_4, l_5, l_6, l_7, l_8, l_9, l_10, l_12, l_20, l_24, l_25, l_31, l_32, l_48, l_50, l_56, l_57, l_59, l_97, l_99, l_100, l_120, l_122, l_177, l_178, l_201, l_226, l_255, l_400, l_420, l_600, l_700, l_840, l_1000, l_1300, l_2000, l_1000000, nI_add, mr4, ml4, mr5, ml5, mr6, ml6, mr10, ml10, mr24, ml24, mr201, ml201, mr420, ml420, mr226, ml226, mr2, ml2, nI_clamp, lt_T, lt_F, le_T, le_F, eq_T, eq_F, ck_n, dv_n, cp_n, rem_n, pk_div, at1_same, at1_ne, cb_n, Option.bind_some, if_pos, if_neg, ↓reduceIte, and_self, and_true, true_and, and_false, false_and, not_true_eq_false, not_false_eq_true, nI_sub', zz_add, zz_sub, zz_mul, zn_add, nz_add, zn_sub, nz_sub, zn_mul, nz_mul, z_neg, n_neg, zlt_T, zlt_F, zle_T, zle_F, zeq_T, zeq_F, zn_lt, nz_lt, zn_le, nz_le, zn_eq, nz_eq, dn_s, dn_z, r1'])
      (fun n N => by
        rw [f_X9_sieve_34]
        simp (disch := omega) only [l_0, l_1, l_2, l_3, l_4, l_5, l_6, l_7, l_8, l_9, l_10, l_12, l_20, l_24, l_25, l_31, l_32, l_48, l_50, l_56, l_57, l_59, l_97, l_99, l_100, l_120, l_122, l_177, l_178, l_201, l_226, l_255, l_400, l_420, l_600, l_700, l_840, l_1000, l_1300, l_2000, l_1000000, nI_add, mr4, ml4, mr5, ml5, mr6, ml6, mr10, ml10, mr24, ml24, mr201, ml201, mr420, ml420, mr226, ml226, mr2, ml2, nI_clamp, lt_T, lt_F, le_T, le_F, eq_T, eq_F, ck_n, dv_n, cp_n, rem_n, pk_div, at1_same, at1_ne, cb_n, Option.bind_some, if_pos, if_neg, ↓reduceIte, and_self, and_true, true_and, and_false, false_and, not_true_eq_false, not_false_eq_true, nI_sub', zz_add, zz_sub, zz_mul, zn_add, nz_add, zn_sub, nz_sub, zn_mul, nz_mul, z_neg, n_neg, zlt_T, zlt_F, zle_T, zle_F, zeq_T, zeq_F, zn_lt, nz_lt, zn_le, nz_le, zn_eq, nz_eq, dn_0]) (σ 177) F C σ (by omega) (by omega) (fun i _ => rfl) V0 hC
    rw [show f_X10_sieve_54 F LM (nI (cntP (fun k => lk σ k ≠ 0) (σ 177))) (fun M_77 => (some (nI (cntP (fun k => lk σ k ≠ 0) (σ 177)), M_77))) F M2 (nI (σ 177) - 1) = _ from x1, show f_X9_sieve_34 F X0 H' Y' N2 NE' S' Ks' (nI (σ 177)) (fun C_64 => (some (((nI (σ 177)) - (C_64 0 9)), C_64, H', Y', N2, NE', S', Ks'))) F C (nI (σ 177) - 1) = _ from y1]
    have dn' := dropR_n (p := fun k => lk σ k ≠ 0) (σ 177) σ (Nat.le_refl _)
    have e9 : nI (σ 177) - C7 0 9 = nI (cntP (fun k => lk σ k ≠ 0) (σ 177)) := by
      rw [cSe y2, nI_sub' (by omega)]
      congr 1
      omega
    rw [e9]
    exact ⟨_, _, _, _, _, _, _, _, _, rfl, rfl, .inr ⟨_, _, _, Ra_to b3 x3 y2 x2 (okS_V (okS_0 hs) x4), b4⟩⟩
