/-! PURE LAYER: payments, the class's windows -/
def loS (σ : Sg) (nl nh : Nat → Nat) (s : Nat) : Nat → Int
  | 0 => 0
  | c + 1 => -(((nh c : Int) - loS σ nl nh s c - ((wyA σ s c % uR σ c : Nat) : Int)) / (uR σ c : Int))
def hiS (σ : Sg) (nl : Nat → Nat) (s : Nat) : Nat → Int
  | 0 => 0
  | c + 1 => (((wyA σ s c % uR σ c : Nat) : Int) + hiS σ nl s c + (nl c : Int)) / (uR σ c : Int)
theorem sh_b {σ : Sg} {nl nh : Nat → Nat} (h : okF σ nl nh) (s : Nat) : ∀ c, c < σ 0 → -100 ≤ loS σ nl nh s c ∧ loS σ nl nh s c ≤ 1 ∧ 0 ≤ hiS σ nl s c ∧ hiS σ nl s c ≤ 100
  | 0, _ => ⟨by show (-100 : Int) ≤ 0; decide, by show (0 : Int) ≤ 1; decide, by show (0 : Int) ≤ 0; decide, by show (0 : Int) ≤ 100; decide⟩
  | c + 1, hc => by
    obtain ⟨a1, a2, a3, a4⟩ := sh_b h s c (by omega)
    obtain ⟨b1, b2⟩ := h.2.2 c (by omega)
    obtain ⟨u1, u2⟩ := uR_b h.1 hc
    have ml := Nat.mod_lt (wyA σ s c) (show 0 < uR σ c by omega)
    have up : (0 : Int) < uR σ c := by omega
    have e1 : loS σ nl nh s (c + 1) = -(((nh c : Int) - loS σ nl nh s c - ((wyA σ s c % uR σ c : Nat) : Int)) / (uR σ c : Int)) := rfl
    have e2 : hiS σ nl s (c + 1) = (((wyA σ s c % uR σ c : Nat) : Int) + hiS σ nl s c + (nl c : Int)) / (uR σ c : Int) := rfl
    have l1 : ((nh c : Int) - loS σ nl nh s c - ((wyA σ s c % uR σ c : Nat) : Int)) / (uR σ c : Int) < 101 := Int.ediv_lt_of_lt_mul up (by omega)
    have l2 : -1 ≤ ((nh c : Int) - loS σ nl nh s c - ((wyA σ s c % uR σ c : Nat) : Int)) / (uR σ c : Int) := Int.le_ediv_of_mul_le up (by omega)
    have l3 : (((wyA σ s c % uR σ c : Nat) : Int) + hiS σ nl s c + (nl c : Int)) / (uR σ c : Int) < 101 := Int.ediv_lt_of_lt_mul up (by omega)
    have l4 : 0 ≤ (((wyA σ s c % uR σ c : Nat) : Int) + hiS σ nl s c + (nl c : Int)) / (uR σ c : Int) := Int.le_ediv_of_mul_le up (by omega)
    rw [e1, e2]
    refine ⟨by omega, by omega, l4, by omega⟩
/-- the rest stands in the next column's window -/
theorem sh_n {σ : Sg} {nl nh : Nat → Nat} (h : okF σ nl nh) (s : Nat) {c j : Nat} {sh q : Int} (hc : c + 1 < σ 0) (h1 : loS σ nl nh s c ≤ sh) (h2 : sh ≤ hiS σ nl s c) (hj : j ≤ nh c + nl c) (hq : (wyA σ s c : Int) + sh - ((j : Int) - nl c) = uR σ c * q) : loS σ nl nh s (c + 1) ≤ q - (wyA σ s (c + 1) : Int) ∧ q - (wyA σ s (c + 1) : Int) ≤ hiS σ nl s (c + 1) := by
  obtain ⟨u1, u2⟩ := uR_b h.1 hc
  have up : (0 : Int) < uR σ c := by omega
  have e0 : wyA σ s (c + 1) = wyA σ s c / uR σ c := rfl
  have dm := Nat.div_add_mod (wyA σ s c) (uR σ c)
  have dmi : (uR σ c : Int) * ((wyA σ s c / uR σ c : Nat) : Int) + ((wyA σ s c % uR σ c : Nat) : Int) = (wyA σ s c : Int) := by
    rw [← Int.natCast_mul, ← Int.natCast_add, dm]
  have e1 : loS σ nl nh s (c + 1) = -(((nh c : Int) - loS σ nl nh s c - ((wyA σ s c % uR σ c : Nat) : Int)) / (uR σ c : Int)) := rfl
  have e2 : hiS σ nl s (c + 1) = (((wyA σ s c % uR σ c : Nat) : Int) + hiS σ nl s c + (nl c : Int)) / (uR σ c : Int) := rfl
  have k1 : (q - ((wyA σ s c / uR σ c : Nat) : Int)) * (uR σ c : Int) = ((wyA σ s c % uR σ c : Nat) : Int) + sh - ((j : Int) - nl c) := by
    rw [Int.sub_mul, Int.mul_comm q, Int.mul_comm (((wyA σ s c / uR σ c : Nat) : Int)), ← hq]
    omega
  have k2 : (-(q - ((wyA σ s c / uR σ c : Nat) : Int))) * (uR σ c : Int) = -(((wyA σ s c % uR σ c : Nat) : Int) + sh - ((j : Int) - nl c)) := by
    rw [Int.neg_mul, k1]
  have l1 : q - ((wyA σ s c / uR σ c : Nat) : Int) ≤ (((wyA σ s c % uR σ c : Nat) : Int) + hiS σ nl s c + (nl c : Int)) / (uR σ c : Int) := Int.le_ediv_of_mul_le up (by rw [k1]; omega)
  have l2 : -(q - ((wyA σ s c / uR σ c : Nat) : Int)) ≤ ((nh c : Int) - loS σ nl nh s c - ((wyA σ s c % uR σ c : Nat) : Int)) / (uR σ c : Int) := Int.le_ediv_of_mul_le up (by rw [k2]; omega)
  rw [e0, e1, e2]
  exact ⟨by omega, l1⟩
theorem scn_skip {g : Int → Nat} {u nl : Nat} {v : Int} : ∀ d t, (∀ i, t ≤ i → i < t + d → ¬ scP g u nl v i) → scn g u nl v (t + d) = scn g u nl v t
  | 0, _, _ => rfl
  | d + 1, t, h => by
    show (if scP g u nl v (t + d) ∧ scC g u nl v (t + d) < scn g u nl v (t + d) then scC g u nl v (t + d) else scn g u nl v (t + d)) = _
    rw [if_neg (fun z => h (t + d) (by omega) (by omega) z.1)]
    exact scn_skip d t (fun i h1 h2 => h i h1 (by omega))
/-- what goes over is worth no more than the row holds -/
theorem bs_sum {σ : Sg} {nl nh : Nat → Nat} (hf : okF σ nl nh) {r : Nat} (hn : ∀ c, c < σ 0 → nh c ≤ σ (8 + (6 * r + c))) : ∀ d c v, c + d + 1 = σ 0 → bsN σ nl nh d c v < 1000000 → v * (wo σ c : Int) + (smN σ r c : Int) ≤ (smN σ r (σ 0) : Int)
  | 0, c, v, hc, hb => by
    have rg : -(nl c : Int) ≤ v ∧ v ≤ nh c := by
      by_cases q : -(nl c : Int) ≤ v ∧ v ≤ nh c
      · exact q
      · have e : bsN σ nl nh 0 c v = 1000000 := if_neg q
        omega
    have hh := hn c (by omega)
    have e : smN σ r (σ 0) = smN σ r c + σ (8 + 6 * r + c) * wo σ c := by
      rw [← hc]; rfl
    have m : v * (wo σ c : Int) ≤ (σ (8 + 6 * r + c) : Int) * (wo σ c : Int) := Int.mul_le_mul_of_nonneg_right (by rw [Nat.add_assoc]; omega) (by omega)
    have m2 : ((σ (8 + 6 * r + c) * wo σ c : Nat) : Int) = (σ (8 + 6 * r + c) : Int) * (wo σ c : Int) := Int.natCast_mul _ _
    rw [e]
    omega
  | d + 1, c, v, hc, hb => by
    obtain ⟨i, i1, ⟨⟨t, ht⟩, i3⟩, _, _⟩ := scn_ex _ hb
    obtain ⟨u1, u2⟩ := uR_b hf.1 (c := c) (by omega)
    have e2 : (v - ((i : Int) - nl c)) / (uR σ c : Int) = t := by rw [ht]; exact Int.mul_ediv_cancel_left _ (by omega)
    rw [e2] at i3
    have ih := bs_sum hf hn d (c + 1) t (by omega) i3
    have hh := hn c (by omega)
    have e : smN σ r (c + 1) = smN σ r c + σ (8 + 6 * r + c) * wo σ c := rfl
    have ew : (wo σ (c + 1) : Int) = (wo σ c : Int) * (uR σ c : Int) := Int.natCast_mul _ _
    have ev : v * (wo σ c : Int) = ((i : Int) - nl c) * (wo σ c : Int) + t * (wo σ (c + 1) : Int) := by
      have : v = ((i : Int) - nl c) + (uR σ c : Int) * t := by omega
      rw [this, Int.add_mul, ew]
      congr 1
      rw [Int.mul_comm (uR σ c : Int) t, Int.mul_assoc, Int.mul_comm (uR σ c : Int)]
    have m : ((i : Int) - nl c) * (wo σ c : Int) ≤ (σ (8 + 6 * r + c) : Int) * (wo σ c : Int) := Int.mul_le_mul_of_nonneg_right (by rw [Nat.add_assoc]; omega) (by omega)
    have m2 : ((σ (8 + 6 * r + c) * wo σ c : Nat) : Int) = (σ (8 + 6 * r + c) : Int) * (wo σ c : Int) := Int.natCast_mul _ _
    rw [ev]
    omega
