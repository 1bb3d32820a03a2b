/-! PURE LAYER: answers alike: counters -/
theorem h_ctAll {C : Mem} {σ : Sg} (hC : StC C σ) (hs : okS σ) {F : Nat} (hF : 10 ≤ F) (k : Int32 → Option Int32) : ∀ (d i n : Nat), i + d = σ 1 → d < n → f_X0_countersOfAll_4 F C k n (nI (cuR σ i)) (nI i) = k (nI (cuR σ (σ 1)))
  | d, i, 0, _, h => by omega
  | d, i, n + 1, hi, hn => by
    have h1 := hs.2.1
    unfold f_X0_countersOfAll_4
    rw [hC.2.1]
    cases d with
    | zero =>
      have e : i = σ 1 := by omega
      subst e
      rw [if_pos (nI_le (Nat.le_refl _) (by omega))]
    | succ d =>
      rw [if_neg (nI_ge (by omega) (by omega)), h_countersOf hC hs.1 hF (by omega)]
      simp only [Option.bind_some]
      rw [nI_add, nI_1]
      exact h_ctAll hC hs hF k d (i + 1) n (by omega) (by omega)
theorem g_ctAll {M : Mem} {LM : MemL} {σ : Sg} (hM : StM M σ) (hs : okS σ) {F : Nat} (hF : 10 ≤ F) (k : Int32 → Option Int32) : ∀ (d i n : Nat), i + d = σ 1 → d < n → f_X10_counters_28 F M LM k n (nI (cuR σ i)) (nI i) = k (nI (cuR σ (σ 1)))
  | d, i, 0, _, h => by omega
  | d, i, n + 1, hi, hn => by
    have h1 := hs.2.1
    have hck : ∀ E : Option Int32, ck 1 226 E = E := fun E => ck_n (i := 1) (by decide) (by decide)
    have e0 : M 1 (1 : Int32).toNatClampNeg = nI (σ 1) := hM 1 (by omega)
    unfold f_X10_counters_28
    rw [hck, e0]
    cases d with
    | zero =>
      have e : i = σ 1 := by omega
      subst e
      rw [if_pos (nI_le (Nat.le_refl _) (by omega))]
    | succ d =>
      rw [if_neg (nI_ge (by omega) (by omega)), g_countersOf hM hs.1 hF (by omega)]
      simp only [Option.bind_some]
      rw [nI_add, nI_1]
      exact g_ctAll hM hs hF k d (i + 1) n (by omega) (by omega)
theorem m_counters {C M X0 : Mem} {LM : MemL} {σ : Sg} (hC : StC C σ) (hM : StM M σ) (hs : okS σ) {F : Nat} (hF : 10 ≤ F) (x : Int32) : ∃ v, f_X9_counters F X0 C x = some v ∧ f_X10_counters F M LM x = some v := by
  have h1 := hs.2.1
  unfold f_X9_counters f_X10_counters
  by_cases hx : x = -1
  · rw [if_pos hx, if_pos hx]
    have e1 : f_X0_countersOfAll F C = some (nI (cuR σ (σ 1))) := by
      unfold f_X0_countersOfAll
      exact h_ctAll hC hs hF _ (σ 1) 0 F (by omega) (by omega)
    have e2 : f_X10_counters_28 F M LM (fun x2_52 => some x2_52) F 0 0 = some (nI (cuR σ (σ 1))) := g_ctAll hM hs hF _ (σ 1) 0 F (by omega) (by omega)
    rw [e1, e2]
    exact ⟨_, rfl, rfl⟩
  · rw [if_neg hx, if_neg hx, h_hasRow hC, g_isRow hM h1]
    simp only [Option.bind_some]
    by_cases h : 0 ≤ x ∧ x < nI (σ 1)
    · rw [if_pos h, if_neg (by decide), if_neg (by decide)]
      obtain ⟨r, hr, rfl⟩ := ix_of (n := σ 1) (by omega) h
      rw [h_countersOf hC hs.1 hF (by omega), g_countersOf hM hs.1 hF (by omega)]
      exact ⟨_, rfl, rfl⟩
    · rw [if_neg h, if_pos rfl, if_pos rfl]
      exact ⟨_, rfl, rfl⟩
