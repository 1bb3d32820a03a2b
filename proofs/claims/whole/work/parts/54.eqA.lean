/-! PURE LAYER: answers alike: of, sum, counters, compare -/
theorem ix_of {x : Int32} {n : Nat} (hn : n < 2 ^ 31) (h : 0 ≤ x ∧ x < nI n) : ∃ r, r < n ∧ x = nI r := by
  obtain ⟨r, hr, rfl⟩ := nI_of (Int32.not_lt.mpr h.1)
  exact ⟨r, (nI_ltI hr hn).mp h.2, rfl⟩
theorem m_of {C M X0 : Mem} {LM : MemL} {σ : Sg} (hC : StC C σ) (hM : StM M σ) (hs : okS σ) (F : Nat) (x y : Int32) : ∃ v, f_X9_of F X0 C x y = some v ∧ f_X10_of F M LM x y = some v := by
  unfold f_X9_of f_X10_of
  rw [h_hasCell hC, g_isCell hM hs.1 hs.2.1]
  have h0 := hs.1
  have h1 := hs.2.1
  simp only [Option.bind_some]
  by_cases h : (0 ≤ x ∧ x < nI (σ 1)) ∧ 0 ≤ y ∧ y < nI (σ 0)
  · rw [if_pos h, if_neg (by decide), if_neg (by decide)]
    obtain ⟨r, hr, rfl⟩ := ix_of (n := σ 1) (by omega) h.1
    obtain ⟨c, hc, rfl⟩ := ix_of (n := σ 0) (by omega) h.2
    rw [h_cellAt hC F (by omega) (by omega), g_now hM F (by omega) (by omega)]
    exact ⟨_, rfl, rfl⟩
  · rw [if_neg h, if_pos rfl, if_pos rfl]
    exact ⟨_, rfl, rfl⟩
theorem m_compare {C M X0 : Mem} {LM : MemL} {σ : Sg} (hC : StC C σ) (hM : StM M σ) (hs : okS σ) {F : Nat} (hF : 10 ≤ F) (x y : Int32) : ∃ v, f_X9_compare F X0 C x y = some v ∧ f_X10_compare F M LM x y = some v := by
  unfold f_X9_compare f_X10_compare
  have h0 := hs.1
  have h1 := hs.2.1
  rw [h_hasRow hC, g_isRow hM h1]
  simp only [Option.bind_some]
  by_cases h : 0 ≤ x ∧ x < nI (σ 1)
  · rw [if_pos h, if_neg (by decide), if_neg (by decide)]
    obtain ⟨r, hr, rfl⟩ := ix_of (n := σ 1) (by omega) h
    rw [h_hasRow hC, g_isRow hM h1]
    simp only [Option.bind_some]
    by_cases h' : 0 ≤ y ∧ y < nI (σ 1)
    · rw [if_pos h', if_neg (by decide), if_neg (by decide)]
      obtain ⟨q, hq, rfl⟩ := ix_of (n := σ 1) (by omega) h'
      rw [h_sumOf hC h0 hF (by omega), g_sumOf hM h0 hF (by omega)]
      simp only [Option.bind_some]
      rw [h_sumOf hC h0 hF (by omega), g_sumOf hM h0 hF (by omega)]
      simp only [Option.bind_some]
      by_cases g1 : nI (smN σ r (σ 0)) ≤ nI (smN σ q (σ 0))
      · rw [if_pos g1]
        by_cases g2 : nI (smN σ r (σ 0)) = nI (smN σ q (σ 0))
        · rw [if_pos g2]; exact ⟨_, rfl, rfl⟩
        · rw [if_neg g2]; exact ⟨_, rfl, rfl⟩
      · rw [if_neg g1]; exact ⟨_, rfl, rfl⟩
    · rw [if_neg h', if_pos rfl, if_pos rfl]
      exact ⟨_, rfl, rfl⟩
  · rw [if_neg h, if_pos rfl, if_pos rfl]
    exact ⟨_, rfl, rfl⟩
