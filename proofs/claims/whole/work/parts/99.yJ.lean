/-! PURE LAYER: pay: what goes over fits both rows -/
theorem ov_b {σ : Sg} {nl nh : Nat → Nat} {f : Nat → Int} : ∀ d c v, bsN σ nl nh d c v < 1000000 → OvP σ nl nh d c v f → ∀ j, c ≤ j → j < c + d + 1 → -(nl j : Int) ≤ f j ∧ f j ≤ nh j
  | 0, c, v, hb, hO, j, j1, j2 => by
    obtain rfl : j = c := by omega
    have hO' : f j = v := hO
    by_cases q : -(nl j : Int) ≤ v ∧ v ≤ nh j
    · rw [hO']; exact q
    · have e : bsN σ nl nh 0 j v = 1000000 := if_neg q
      omega
  | d + 1, c, v, hb, ⟨i, a1, a2, a3, a4, a5, a6⟩, j, j1, j2 => by
    by_cases q : j = c
    · rw [q, a2]; omega
    · exact ov_b d (c + 1) _ a3.2 a6 j (by omega) (by omega)
theorem AnY_b {σ : Sg} (h0 : 0 < σ 0) {r q s : Nat} {Z : Nat → Int32} {a : Int32} (h : AnY σ r q s Z a) (ha : ¬ a = -2) : ∃ f : Nat → Int, (∀ j, j < σ 0 → Z j = zI (f j)) ∧ ∀ j, j < σ 0 → -(nlP σ r q j : Int) ≤ f j ∧ f j ≤ nhP σ r q j := by
  rcases h with ⟨_, e⟩ | ⟨b, _, f, e1, e2⟩
  · exact absurd e ha
  · exact ⟨f, e2, fun j hj => ov_b (σ 0 - 1) 0 (s : Int) b e1 j (Nat.zero_le _) (by omega)⟩
/-- the two rows behind a payment -/
def pyS (σ : Sg) (r q : Nat) (f : Nat → Int) : Sg := fun j => if 8 + 6 * r ≤ j ∧ j < 8 + 6 * r + σ 0 then ((σ j : Int) - f (j - (8 + 6 * r))).toNat else if 8 + 6 * q ≤ j ∧ j < 8 + 6 * q + σ 0 then ((σ j : Int) + f (j - (8 + 6 * q))).toNat else σ j
theorem py_fit {σ : Sg} (hs : okS σ) {r q : Nat} (hr : r < 4) (hq : q < 4) {f : Nat → Int} (hf : ∀ j, j < σ 0 → -(nlP σ r q j : Int) ≤ f j ∧ f j ≤ nhP σ r q j) {c : Nat} (hc : c < σ 0) : 0 ≤ (σ (8 + (6 * r + c)) : Int) - f c ∧ (σ (8 + (6 * r + c)) : Int) - f c ≤ 99 ∧ 0 ≤ (σ (8 + (6 * q + c)) : Int) + f c ∧ (σ (8 + (6 * q + c)) : Int) + f c ≤ 99 := by
  have h0 := kC hs
  have ba := (kCe hs (j := 6 * r + c) (by omega)).1
  have bb := (kCe hs (j := 6 * q + c) (by omega)).1
  obtain ⟨f1, f2⟩ := hf c hc
  unfold nlP at f1
  unfold nhP at f2
  omega
