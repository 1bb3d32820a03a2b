/-! PURE LAYER: pays, paysOf -/
theorem m_two {C M X0 : Mem} {LM : MemL} {σ : Sg} (hC : StC C σ) (hM : StM M σ) (hs : okS σ) (F : Nat) (x1 x2 x3 : Int32) : (∃ r q s, r < σ 1 ∧ q < σ 1 ∧ r ≠ q ∧ 1 ≤ s ∧ s < 2147483648 ∧ x1 = nI r ∧ x2 = nI q ∧ x3 = nI s ∧ f_X9_areTwoRows F X0 C x1 x2 = some 1 ∧ f_X10_canPay F M LM x1 x2 x3 = some 1 ∧ 1 ≤ x3 ∧ ¬ x3 < 1) ∨ (f_X10_canPay F M LM x1 x2 x3 = some 0 ∧ (f_X9_areTwoRows F X0 C x1 x2 = some 0 ∨ (f_X9_areTwoRows F X0 C x1 x2 = some 1 ∧ x3 < 1 ∧ ¬ 1 ≤ x3))) := by
  have h1 := kR hs
  unfold f_X9_areTwoRows f_X10_canPay
  rcases ix_cases x1 (n := σ 1) (by omega) with ⟨r, hr, rfl⟩ | hn
  · rw [hasRow_n hC h1 F hr, isRow_n hM h1 F hr, Option.bind_some, Option.bind_some, if_neg n10, if_neg n10]
    rcases ix_cases x2 (n := σ 1) (by omega) with ⟨q, hq, rfl⟩ | hn
    · rw [hasRow_n hC h1 F hq, isRow_n hM h1 F hq, Option.bind_some, Option.bind_some, if_neg n10, if_neg n10]
      by_cases e : nI r = nI q
      · rw [if_pos e, if_pos e]
        exact Or.inr ⟨rfl, Or.inl rfl⟩
      · rw [if_neg e, if_neg e]
        by_cases g : x3 < 1
        · rw [if_pos g]
          exact Or.inr ⟨rfl, Or.inr ⟨rfl, g, Int32.not_le.mpr g⟩⟩
        · rw [if_neg g]
          obtain ⟨z, z1, z2, rfl⟩ := zI_of x3
          have zp : 1 ≤ z := by
            have := Int32.not_lt.mp g
            rw [Int32.le_iff_toInt_le, zI_toInt z1 z2, show (1 : Int32).toInt = 1 by decide] at this
            exact this
          exact Or.inl ⟨r, q, z.toNat, hr, hq, fun w => e (by rw [w]), by omega, by omega, rfl, rfl, nI_of0 (by omega), rfl, rfl, Int32.not_lt.mp g, g⟩
    · rw [h_hasRow hC, g_isRow hM h1, if_neg hn, Option.bind_some, Option.bind_some, if_pos (rfl : (0 : Int32) = 0), if_pos (rfl : (0 : Int32) = 0)]
      exact Or.inr ⟨rfl, Or.inl rfl⟩
  · rw [h_hasRow hC, g_isRow hM h1, if_neg hn, Option.bind_some, Option.bind_some, if_pos (rfl : (0 : Int32) = 0), if_pos (rfl : (0 : Int32) = 0)]
    exact Or.inr ⟨rfl, Or.inl rfl⟩
theorem Pm_x {M M' : Mem} (h : ∀ x, x ≠ 9 → x ≠ 10 → x ≠ 11 → x ≠ 12 → M' x = M x) : Pm M M' := ⟨h _ (by decide) (by decide) (by decide) (by decide), h _ (by decide) (by decide) (by decide) (by decide), h _ (by decide) (by decide) (by decide) (by decide), h _ (by decide) (by decide) (by decide) (by decide), by rw [h 0 (by decide) (by decide) (by decide) (by decide)], by rw [h 0 (by decide) (by decide) (by decide) (by decide)]⟩
theorem m_pays {C M Y X0 : Mem} {LM : MemL} {σ : Sg} (hC : StC C σ) (hM : StM M σ) (hs : okS σ) (hY : CaY Y σ) {F : Nat} (hF : 10000 ≤ F) (x1 x2 x3 : Int32) : ∃ v Y' M' LM', f_X9_pays F X0 C Y x1 x2 x3 = some (v, Y') ∧ f_X10_pays F M LM x1 x2 x3 = some (v, M', LM') ∧ Pm M M' ∧ CaY Y' σ := by
  have h1 := kR hs
  unfold f_X9_pays f_X10_pays
  rcases m_two (X0 := X0) (LM := LM) hC hM hs F x1 x2 x3 with ⟨r, q, s, hr, hq, _, s1, s2, rfl, rfl, rfl, e1, e2, e3, e4⟩ | ⟨e1, e2⟩
  · have h0' := kCR hs (by omega)
    obtain ⟨a, Y', b1, b2, b3⟩ := h_settle (F := F) (by omega) hC hs hY hr hq s1 s2
    obtain ⟨a', M', LM', c1, c2, c3⟩ := g_payment (F := F) (LM := LM) hF hM hs hr hq s2
    refine ⟨a, Y', M', LM', ?_, ?_, Pm_x c3, b2⟩
    · rw [e1, Option.bind_some, if_neg (show ¬ (1 : Int32) = 0 by decide), if_pos e3, b1, Option.bind_some]
    · rw [e2, Option.bind_some, if_neg (show ¬ (1 : Int32) = 0 by decide), c1, Option.bind_some, (AnY_u h0' b3 c2).1]
  · refine ⟨-1, Y, M, LM, ?_, by rw [e1, Option.bind_some, if_pos (rfl : (0 : Int32) = 0)], Pm_rfl M, hY⟩
    rcases e2 with e | ⟨e, g1, g2⟩
    · rw [e, Option.bind_some, if_pos (rfl : (0 : Int32) = 0)]
    · rw [e, Option.bind_some, if_neg (show ¬ (1 : Int32) = 0 by decide), if_neg g2]
theorem m_paysOf {C M Y X0 : Mem} {LM : MemL} {σ : Sg} (hC : StC C σ) (hM : StM M σ) (hs : okS σ) (hY : CaY Y σ) {F : Nat} (hF : 10000 ≤ F) (x1 x2 x3 x4 : Int32) : ∃ v Y' M' LM', f_X9_paysOf F X0 C Y x1 x2 x3 x4 = some (v, Y') ∧ f_X10_paysOf F M LM x1 x2 x3 x4 = some (v, M', LM') ∧ Pm M M' ∧ CaY Y' σ := by
  have h0 := kC hs
  have h1 := kR hs
  unfold f_X9_paysOf f_X10_paysOf
  rcases m_two (X0 := X0) (LM := LM) hC hM hs F x1 x2 x3 with ⟨r, q, s, hr, hq, _, s1, s2, rfl, rfl, rfl, e1, e2, e3, e4⟩ | ⟨e1, e2⟩
  · have h0' := kCR hs (by omega)
    rw [e1, e2, Option.bind_some, Option.bind_some, if_neg (show ¬ (1 : Int32) = 0 by decide), if_neg e4, if_neg (show ¬ (1 : Int32) = 0 by decide)]
    rcases ix_cases x4 (n := σ 0) (by omega) with ⟨c, hc, rfl⟩ | hn
    · obtain ⟨a, Y', b1, b2, b3⟩ := h_settle (F := F) (by omega) hC hs hY hr hq s1 s2
      obtain ⟨a', M', LM', c1, c2, c3⟩ := g_payment (F := F) (LM := LM) hF hM hs hr hq s2
      obtain ⟨u1, u2⟩ := AnY_u h0' b3 c2
      rw [hasCol_n hC h0 F hc, isCol_n hM h0 F hc, Option.bind_some, Option.bind_some, if_neg n10, if_neg n10, b1, c1, Option.bind_some, Option.bind_some]
      by_cases g : a = -2
      · refine ⟨-1000, Y', M', LM', ?_, ?_, Pm_x c3, b2⟩
        · rw [if_pos g]
        · rw [if_pos (u1.symm.trans g)]
      · refine ⟨Y' 1 c, Y', M', LM', ?_, ?_, Pm_x c3, b2⟩
        · rw [if_neg g, ck_n (by omega) (by decide), nI_clamp (by omega)]
        · rw [if_neg (fun z => g (u1.trans z)), ck_n (by omega) (by decide), nI_clamp (by omega), u2 g c hc]
    · refine ⟨-1000, Y, M, LM, ?_, ?_, Pm_rfl M, hY⟩
      · rw [h_hasColumn hC, if_neg hn, Option.bind_some, if_pos (rfl : (0 : Int32) = 0)]
      · rw [g_isColumn hM h0, if_neg hn, Option.bind_some, if_pos (rfl : (0 : Int32) = 0)]
  · refine ⟨-1000, Y, M, LM, ?_, by rw [e1, Option.bind_some, if_pos (rfl : (0 : Int32) = 0)], Pm_rfl M, hY⟩
    rcases e2 with e | ⟨e, g1, g2⟩
    · rw [e, Option.bind_some, if_pos (rfl : (0 : Int32) = 0)]
    · rw [e, Option.bind_some, if_neg (show ¬ (1 : Int32) = 0 by decide), if_pos g1]
