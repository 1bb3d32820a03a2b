/-! PURE LAYER: answers alike: carries -/
theorem m_carLoop {C M : Mem} {LM : MemL} {σ : Sg} (hC : StC C σ) (hM : StM M σ) (hs : okS σ) {F : Nat} {r : Nat} (hr : r < 4) : ∀ (d i n : Nat) (a b : Int32), i + d + 1 = σ 0 → d < n → ∃ v, f_X5_carriesOf_8 F C (nI r) (fun x => some x) n a b (nI i) = some v ∧ f_X10_carries_17 F M LM (nI r) (fun x => some x) n a b (nI i) = some v
  | d, i, 0, a, b, _, h => by omega
  | d, i, n + 1, a, b, hi, hn => by
    have h0 := hs.1
    have hck : ∀ E : Option Int32, ck 0 226 E = E := fun E => ck_n (i := 0) (by decide) (by decide)
    have e0 : M 1 (0 : Int32).toNatClampNeg = nI (σ 0) := hM 0 (by omega)
    have e1 : nI (σ 0) - 1 = nI (i + d) := by rw [← hi]; exact nI_pred _
    unfold f_X5_carriesOf_8 f_X10_carries_17
    rw [hC.1, hck, e0, e1, nI_1]
    cases d with
    | zero =>
      rw [if_pos (nI_le (by omega) (by omega)), if_pos (nI_le (by omega) (by omega))]
      exact ⟨a, rfl, rfl⟩
    | succ d =>
      have hq := hs.2.2.2.2.1 (i + 1) (by omega) (by omega)
      have hne : ¬ nI (σ (2 + (i + 1))) = 0 := nI_ne0 (by omega) (by omega)
      rw [if_neg (nI_ge (by omega) (by omega)), if_neg (nI_ge (by omega) (by omega)), ck_n (by omega) (by decide), nI_clamp (by omega), (hC.2.2.2.2.1 (i + 1) (by omega)).1, if_neg (nI_nle (by omega) (by omega)), cell_nI, ck_n (by omega) (by decide), dv_ne hne, nI_clamp (by omega), (hC.2.2.2.2.2.1 _ (by omega)).1, g_now hM F hr (by omega), g_ratio hM F (by omega)]
      simp only [Option.bind_some]
      rw [dv_ne hne]
      unfold f_X5_carriesOf_57
      rw [nI_1, ← Nat.add_assoc]
      exact m_carLoop hC hM hs hr d (i + 1) n _ _ (by omega) (by omega)
theorem m_carries {C M X0 P : Mem} {LM LP : MemL} {wP vP : Bool} {σ : Sg} (hC : StC C σ) (hM : StM M σ) (hs : okS σ) {F : Nat} (hF : 10 ≤ F) (x : Int32) : ∃ v, f_X9_carries F X0 C P LP wP vP x = some v ∧ f_X10_carries F M LM x = some v := by
  have h0 := hs.1
  have h1 := hs.2.1
  unfold f_X9_carries f_X10_carries
  rw [h_hasRow hC, g_isRow hM h1]
  simp only [Option.bind_some]
  by_cases h : 0 ≤ x ∧ x < nI (σ 1)
  · rw [if_pos h, if_neg (by decide), if_neg (by decide)]
    obtain ⟨r, hr, rfl⟩ := ix_of (n := σ 1) (by omega) h
    have hc : 0 < σ 0 := Nat.pos_of_ne_zero fun q => by have := hs.2.2.1 q; omega
    obtain ⟨v, e1, e2⟩ := m_carLoop (F := F) (LM := LM) hC hM hs (r := r) (by omega) (σ 0 - 1) 0 F 0 0 (by omega) (by omega)
    unfold f_X5_carriesOf
    refine ⟨v, ?_, e2⟩
    rw [show f_X5_carriesOf_8 F C (nI r) (fun x3_70 => some x3_70) F 0 0 0 = some v from e1]
    rfl
  · rw [if_neg h, if_pos rfl, if_pos rfl]
    exact ⟨_, rfl, rfl⟩
