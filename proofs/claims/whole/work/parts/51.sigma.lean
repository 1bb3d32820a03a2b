/-! PURE LAYER: the state as numbers, in the reference's layout -/
abbrev Sg : Type := Nat → Nat
def StM (M : Mem) (σ : Sg) : Prop := ∀ j, j < 226 → M 1 j = nI (σ j)
/-- move i of the log can stand there (its cells are there, its k is one) -/
def okMv (σ : Sg) (i : Nat) : Prop := σ (57 + 5 * i) ≤ 4 ∧ σ (57 + 5 * i + 1) < σ 1 ∧ σ (57 + 5 * i + 2) < σ 0 ∧
  (σ (57 + 5 * i) ≤ 1 → 1 ≤ σ (57 + 5 * i + 3) ∧ σ (57 + 5 * i + 3) ≤ 99 ∧ σ (57 + 5 * i + 4) = 0) ∧
  (σ (57 + 5 * i) = 2 → σ (57 + 5 * i + 2) + 1 < σ 0 ∧ σ (57 + 5 * i + 3) = 0 ∧ σ (57 + 5 * i + 4) = 0) ∧
  (σ (57 + 5 * i) = 3 → 1 ≤ σ (57 + 5 * i + 2) ∧ σ (57 + 5 * i + 3) = 0 ∧ σ (57 + 5 * i + 4) = 0) ∧
  (σ (57 + 5 * i) = 4 → 1 ≤ σ (57 + 5 * i + 3) ∧ σ (57 + 5 * i + 3) ≤ 99 ∧ σ (57 + 5 * i + 4) < σ 1 ∧ σ (57 + 5 * i + 4) ≠ σ (57 + 5 * i + 1))
def okS (σ : Sg) : Prop := σ 0 ≤ 6 ∧ σ 1 ≤ 4 ∧ (σ 0 = 0 → σ 1 = 0) ∧ (0 < σ 0 → σ 2 = 1) ∧ (∀ j, 1 ≤ j → j < σ 0 → 2 ≤ σ (2 + j) ∧ σ (2 + j) ≤ 20) ∧
  (∀ r c, r < 4 → c < 6 → σ (8 + 6 * r + c) ≤ 99 ∧ σ (32 + 6 * r + c) ≤ 99 ∧ (σ 1 ≤ r ∨ σ 0 ≤ c → σ (8 + 6 * r + c) = 0 ∧ σ (32 + 6 * r + c) = 0)) ∧
  σ 56 ≤ 24 ∧ (∀ i, i < σ 56 → okMv σ i) ∧ σ 177 ≤ 12 ∧ (∀ k, k < σ 177 → σ (178 + 4 * k) ≤ σ 56 ∧ σ (178 + 4 * k + 1) < σ 1 ∧ σ (178 + 4 * k + 2) < σ 0 ∧ σ (178 + 4 * k + 3) ≤ 99)
theorem le_pred (x : Int32) {k : Nat} (hk : k < 2 ^ 31) : x ≤ nI k - 1 ↔ x < nI k := by
  have hk2 : (nI k).toInt = (k : Int) := nI_toInt hk
  have e : (nI k - 1).toInt = (k : Int) - 1 := by
    cases k with
    | zero => decide
    | succ n => rw [nI_pred, nI_toInt (by omega)]; omega
  rw [Int32.le_iff_toInt_le, Int32.lt_iff_toInt_lt, e, hk2]
  omega
theorem bind_cb (p : Prop) [Decidable p] : (some (if p then (1 : Int32) else 0)).bind (fun z => cb z (some z)) = some (if p then (1 : Int32) else 0) := by
  show cb _ _ = _
  by_cases h : p
  · rw [if_pos h]; exact cb_1
  · rw [if_neg h]; exact cb_0
theorem g_isRow {M : Mem} {LM : MemL} {σ : Sg} (hM : StM M σ) (h1 : σ 1 ≤ 4) (F : Nat) (x : Int32) : f_X10_isRow F M LM x = some (if 0 ≤ x ∧ x < nI (σ 1) then 1 else 0) := by
  have key : f_X10_isRow F M LM x = (f_X10_in F x.toInt64 (0 : Int32).toInt64 (M 1 1 - 1).toInt64).bind (fun z => cb z (some z)) := ck_n (i := 1) (n := 226) (by decide) (by decide)
  rw [key, f_in, hM 1 (by omega), bind_cb]
  have e := le_pred x (k := σ 1) (by omega)
  by_cases h : 0 ≤ x ∧ x < nI (σ 1)
  · rw [if_pos h, if_pos ⟨h.1, e.mpr h.2⟩]
  · rw [if_neg h, if_neg (fun q => h ⟨q.1, e.mp q.2⟩)]
theorem g_isColumn {M : Mem} {LM : MemL} {σ : Sg} (hM : StM M σ) (h0 : σ 0 ≤ 6) (F : Nat) (x : Int32) : f_X10_isColumn F M LM x = some (if 0 ≤ x ∧ x < nI (σ 0) then 1 else 0) := by
  have key : f_X10_isColumn F M LM x = (f_X10_in F x.toInt64 (0 : Int32).toInt64 (M 1 0 - 1).toInt64).bind (fun z => cb z (some z)) := ck_n (i := 0) (n := 226) (by decide) (by decide)
  rw [key, f_in, hM 0 (by omega), bind_cb]
  have e := le_pred x (k := σ 0) (by omega)
  by_cases h : 0 ≤ x ∧ x < nI (σ 0)
  · rw [if_pos h, if_pos ⟨h.1, e.mpr h.2⟩]
  · rw [if_neg h, if_neg (fun q => h ⟨q.1, e.mp q.2⟩)]
