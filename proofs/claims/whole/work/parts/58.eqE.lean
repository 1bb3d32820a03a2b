/-! PURE LAYER: answers alike: move -/
theorem m_move {C M X0 : Mem} {LM : MemL} {σ : Sg} (hC : StC C σ) (hM : StM M σ) (hs : okS σ) (F : Nat) (x y : Int32) : ∃ v, f_X9_move F X0 C x y = some v ∧ f_X10_move F M LM x y = some v := by
  have h6 : σ 56 ≤ 24 := hs.2.2.2.2.2.2.1
  have key : f_X10_move F M LM x y = (f_X10_in F x.toInt64 (0 : Int32).toInt64 (M 1 56 - 1).toInt64).bind (fun z13 => (if z13 = 0 then (some (-1)) else (f_X10_in F y.toInt64 (0 : Int32).toInt64 (4 : Int32).toInt64).bind (fun z25 => (if z25 = 0 then (some (-1)) else ck ((57 + (5 * x)) + y) 226 ((some ((M 1) (((57 + (5 * x)) + y)).toNatClampNeg))))))) := ck_n (i := 56) (n := 226) (by decide) (by decide)
  rw [key, f_in, hM 56 (by omega)]
  simp only [Option.bind_some]
  unfold f_X9_move
  rw [hC.2.2.1]
  have e := le_pred x (k := σ 56) (by omega)
  by_cases h : 0 ≤ x ∧ x < nI (σ 56)
  · have hp : 0 ≤ x ∧ x ≤ nI (σ 56) - 1 := ⟨h.1, e.mpr h.2⟩
    have hz : ¬ x < 0 := Int32.not_lt.mpr h.1
    have hy : ¬ nI (σ 56) ≤ x := Int32.not_le.mpr h.2
    rw [if_pos hp, if_neg (show ¬ (1 : Int32) = 0 by decide), if_neg hz, if_neg hy, f_in]
    simp only [Option.bind_some]
    have e4 := le_pred y (k := 5) (by decide)
    have e5 : (nI 5 - 1 : Int32) = 4 := by decide
    have e6 : nI 5 = (5 : Int32) := rfl
    rw [e5, e6] at e4
    by_cases h' : 0 ≤ y ∧ y < 5
    · have hp' : 0 ≤ y ∧ y ≤ 4 := ⟨h'.1, e4.mpr h'.2⟩
      have hz' : ¬ y < 0 := Int32.not_lt.mpr h'.1
      rw [if_pos hp', if_neg (show ¬ (1 : Int32) = 0 by decide), if_neg hz', if_pos h'.2]
      obtain ⟨i, hi, rfl⟩ := ix_of (n := σ 56) (by omega) h
      obtain ⟨w, hw, rfl⟩ := ix_of (n := 5) (by decide) h'
      have a1 : nI i * (5 : Int32) = nI (i * 5) := nI_mul' i 5
      have a2 : (5 : Int32) * nI i = nI (5 * i) := nI_mul' 5 i
      have a3 : (57 : Int32) + nI (5 * i) = nI (57 + 5 * i) := nI_add 57 _
      rw [a1, a2, a3, nI_add, nI_add, ck_n (by omega) (by decide), ck_n (by omega) (by decide), nI_clamp (by omega), nI_clamp (by omega), hC.2.2.2.2.2.2.1 _ (by omega), hM _ (by omega)]
      refine ⟨_, rfl, ?_⟩
      rw [show 57 + 5 * i + w = 57 + (i * 5 + w) by omega]
    · have hn : ¬ (0 ≤ y ∧ y ≤ 4) := fun q => h' ⟨q.1, e4.mp q.2⟩
      rw [if_neg hn, if_pos rfl]
      refine ⟨-1, ?_, rfl⟩
      by_cases g : y < 0
      · rw [if_pos g]
      · rw [if_neg g, if_neg (fun q => h' ⟨Int32.not_lt.mp g, q⟩)]
  · have hn : ¬ (0 ≤ x ∧ x ≤ nI (σ 56) - 1) := fun q => h ⟨q.1, e.mp q.2⟩
    rw [if_neg hn, if_pos rfl]
    refine ⟨-1, ?_, rfl⟩
    by_cases g : x < 0
    · rw [if_pos g]
    · rw [if_neg g, if_pos (Int32.not_lt.mp fun q => h ⟨Int32.not_lt.mp g, q⟩)]
