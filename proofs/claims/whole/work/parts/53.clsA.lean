/-! PURE LAYER: the class's Cloth holds the same numbers; its small readers -/
def StC (C : Mem) (σ : Sg) : Prop := C 0 6 = nI (σ 0) ∧ C 0 7 = nI (σ 1) ∧ C 0 8 = nI (σ 56) ∧ C 0 9 = nI (σ 177) ∧ (∀ j, j < σ 0 → C 1 j = nI (σ (2 + j)) ∧ C 2 j = nI (wo σ j)) ∧ (∀ j, j < 24 → C 3 j = nI (σ (8 + j)) ∧ C 4 j = nI (σ (32 + j))) ∧ (∀ j, j < 5 * σ 56 → C 5 j = nI (σ (57 + j))) ∧ ∀ j, j < 4 * σ 177 → C 6 j = nI (σ (178 + j))
theorem h_hasRow {C : Mem} {σ : Sg} (hC : StC C σ) (F : Nat) (x : Int32) : f_X0_hasRow F C x = some (if 0 ≤ x ∧ x < nI (σ 1) then 1 else 0) := by
  unfold f_X0_hasRow
  rw [hC.2.1]
  by_cases h1 : x < 0
  · rw [if_pos h1, if_neg (fun q => Int32.not_le.mpr h1 q.1)]
  · rw [if_neg h1]
    by_cases h2 : nI (σ 1) ≤ x
    · rw [if_pos h2, if_neg (fun q => Int32.not_lt.mpr h2 q.2)]
    · rw [if_neg h2, if_pos ⟨Int32.not_lt.mp h1, Int32.not_le.mp h2⟩]
theorem h_hasColumn {C : Mem} {σ : Sg} (hC : StC C σ) (F : Nat) (x : Int32) : f_X0_hasColumn F C x = some (if 0 ≤ x ∧ x < nI (σ 0) then 1 else 0) := by
  unfold f_X0_hasColumn
  rw [hC.1]
  by_cases h1 : x < 0
  · rw [if_pos h1, if_neg (fun q => Int32.not_le.mpr h1 q.1)]
  · rw [if_neg h1]
    by_cases h2 : nI (σ 0) ≤ x
    · rw [if_pos h2, if_neg (fun q => Int32.not_lt.mpr h2 q.2)]
    · rw [if_neg h2, if_pos ⟨Int32.not_lt.mp h1, Int32.not_le.mp h2⟩]
theorem h_hasCell {C : Mem} {σ : Sg} (hC : StC C σ) (F : Nat) (x y : Int32) : f_X0_hasCell F C x y = some (if (0 ≤ x ∧ x < nI (σ 1)) ∧ 0 ≤ y ∧ y < nI (σ 0) then 1 else 0) := by
  unfold f_X0_hasCell
  rw [hC.1, hC.2.1]
  by_cases h1 : x < 0
  · rw [if_pos h1, if_neg (fun q => Int32.not_le.mpr h1 q.1.1)]
  · rw [if_neg h1]
    by_cases h2 : nI (σ 1) ≤ x
    · rw [if_pos h2, if_neg (fun q => Int32.not_lt.mpr h2 q.1.2)]
    · rw [if_neg h2]
      by_cases h3 : y < 0
      · rw [if_pos h3, if_neg (fun q => Int32.not_le.mpr h3 q.2.1)]
      · rw [if_neg h3]
        by_cases h4 : nI (σ 0) ≤ y
        · rw [if_pos h4, if_neg (fun q => Int32.not_lt.mpr h4 q.2.2)]
        · rw [if_neg h4, if_pos ⟨⟨Int32.not_lt.mp h1, Int32.not_le.mp h2⟩, Int32.not_lt.mp h3, Int32.not_le.mp h4⟩]
theorem cell_nI (r c : Nat) : nI r * 6 + nI c = nI (6 * r + c) := by
  have e : nI r * (6 : Int32) = nI (r * 6) := nI_mul' r 6
  rw [e, nI_add, Nat.mul_comm]
theorem h_cellAt {C : Mem} {σ : Sg} (hC : StC C σ) (F : Nat) {r c : Nat} (hr : r < 4) (hc : c < 6) : f_X0_cellAt F C (nI r) (nI c) = some (nI (σ (8 + 6 * r + c))) := by
  unfold f_X0_cellAt
  rw [cell_nI, ck_n (by omega) (by decide), nI_clamp (by omega), (hC.2.2.2.2.2.1 _ (by omega)).1, Nat.add_assoc]
theorem h_sumLoop {C : Mem} {σ : Sg} (hC : StC C σ) (h0 : σ 0 ≤ 6) {F : Nat} (k : Int32 → Option Int32) {r : Nat} (hr : r < 4) : ∀ (d i n : Nat), i + d = σ 0 → d < n → f_X0_sumOf_4 F C (nI r) k n (nI (smN σ r i)) (nI i) = k (nI (smN σ r (σ 0)))
  | d, i, 0, _, h => by omega
  | d, i, n + 1, hi, hn => by
    unfold f_X0_sumOf_4
    rw [hC.1]
    cases d with
    | zero =>
      have e : i = σ 0 := by omega
      subst e
      rw [if_pos (nI_le (Nat.le_refl _) (by omega))]
    | succ d =>
      rw [if_neg (nI_ge (by omega) (by omega)), cell_nI, ck_n (by omega) (by decide), ck_n (by omega) (by decide), nI_clamp (by omega), nI_clamp (by omega), (hC.2.2.2.2.2.1 _ (by omega)).1, (hC.2.2.2.2.1 i (by omega)).2, nI_mul', nI_add, nI_1, ← Nat.add_assoc]
      exact h_sumLoop hC h0 k hr d (i + 1) n (by omega) (by omega)
theorem h_sumOf {C : Mem} {σ : Sg} (hC : StC C σ) (h0 : σ 0 ≤ 6) {F : Nat} (hF : 10 ≤ F) {r : Nat} (hr : r < 4) : f_X0_sumOf F C (nI r) = some (nI (smN σ r (σ 0))) := by
  unfold f_X0_sumOf
  exact h_sumLoop hC h0 _ hr (σ 0) 0 F (by omega) (by omega)
theorem h_ctLoop {C : Mem} {σ : Sg} (hC : StC C σ) (h0 : σ 0 ≤ 6) {F : Nat} (k : Int32 → Option Int32) {r : Nat} (hr : r < 4) : ∀ (d i n : Nat), i + d = σ 0 → d < n → f_X0_countersOf_4 F C (nI r) k n (nI (ctN σ r i)) (nI i) = k (nI (ctN σ r (σ 0)))
  | d, i, 0, _, h => by omega
  | d, i, n + 1, hi, hn => by
    unfold f_X0_countersOf_4
    rw [hC.1]
    cases d with
    | zero =>
      have e : i = σ 0 := by omega
      subst e
      rw [if_pos (nI_le (Nat.le_refl _) (by omega))]
    | succ d =>
      rw [if_neg (nI_ge (by omega) (by omega)), cell_nI, ck_n (by omega) (by decide), nI_clamp (by omega), (hC.2.2.2.2.2.1 _ (by omega)).1, nI_add, nI_1, ← Nat.add_assoc]
      exact h_ctLoop hC h0 k hr d (i + 1) n (by omega) (by omega)
theorem h_countersOf {C : Mem} {σ : Sg} (hC : StC C σ) (h0 : σ 0 ≤ 6) {F : Nat} (hF : 10 ≤ F) {r : Nat} (hr : r < 4) : f_X0_countersOf F C (nI r) = some (nI (ctN σ r (σ 0))) := by
  unfold f_X0_countersOf
  exact h_ctLoop hC h0 _ hr (σ 0) 0 F (by omega) (by omega)
