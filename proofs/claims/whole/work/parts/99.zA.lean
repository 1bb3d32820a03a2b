/-! PURE LAYER: breaks, mathematics -/
/-- from column c on (d more above it), L being left and b counters of column c broken: v breaks do -/
def Fe (σ : Sg) (h : Nat → Nat) : Nat → Nat → Nat → Nat → Nat → Prop
  | 0, c, L, b, v => v = 0 ∧ L + b ≤ h c
  | d + 1, c, L, b, v => ∃ t x w v', t ≤ 1 ∧ L = uR σ c * w + x ∧ x + b ≤ h c + uR σ c * t ∧ v = t + v' ∧ Fe σ h d (c + 1) w t v'
theorem Fe_p1 {σ : Sg} {h : Nat → Nat} : ∀ {d c L v : Nat}, Fe σ h d c L 1 v → Fe σ h d c L 0 v
  | 0, c, L, v, ⟨a, b⟩ => ⟨a, by omega⟩
  | d + 1, c, L, v, ⟨t, x, w, v', a1, a2, a3, a4, a5⟩ => ⟨t, x, w, v', a1, a2, by omega, a4, a5⟩
theorem Fe_p2 {σ : Sg} {h : Nat → Nat} : ∀ {d c L v : Nat}, Fe σ h d c L 1 v → Fe σ h d c (L + 1) 0 v
  | 0, c, L, v, ⟨a, b⟩ => ⟨a, by omega⟩
  | d + 1, c, L, v, ⟨t, x, w, v', a1, a2, a3, a4, a5⟩ => ⟨t, x + 1, w, v', a1, by omega, by omega, a4, a5⟩
theorem dm_of {L u w x : Nat} (h : L = u * w + x) (hx : x < u) : L / u = w ∧ L % u = x := by
  have hu : 0 < u := by omega
  refine ⟨?_, ?_⟩
  · rw [h, Nat.mul_add_div hu, Nat.div_eq_of_lt hx, Nat.add_zero]
  · rw [h, Nat.mul_add_mod, Nat.mod_eq_of_lt hx]
theorem md_le {L u w x : Nat} (h : L = u * w + x) : L % u ≤ x := by
  rw [h, Nat.mul_add_mod]
  exact Nat.mod_le _ _
theorem Fe_big {σ : Sg} {h : Nat → Nat} {d c L b v : Nat} (hb : h c < L % uR σ c + b) (H : Fe σ h (d + 1) c L b v) : ∃ v', v = 1 + v' ∧ Fe σ h d (c + 1) (L / uR σ c) 1 v' := by
  obtain ⟨t, x, w, v', a1, a2, a3, a4, a5⟩ := H
  have m := md_le a2
  by_cases e : t = 0
  · subst e
    rw [Nat.mul_zero] at a3
    omega
  · obtain rfl : t = 1 := by omega
    rw [Nat.mul_one] at a3
    by_cases g : x < uR σ c
    · exact ⟨v', a4, by rw [(dm_of a2 g).1]; exact a5⟩
    · have a2' : L = uR σ c * (w + 1) + (x - uR σ c) := by rw [Nat.mul_succ]; omega
      have m' := md_le a2'
      omega
theorem Fe_sml {σ : Sg} {h : Nat → Nat} {d c L b v : Nat} (hb : L % uR σ c + b ≤ h c) (H : Fe σ h (d + 1) c L b v) : ∃ x w v', L = uR σ c * w + x ∧ x + b ≤ h c ∧ v' ≤ v ∧ Fe σ h d (c + 1) w 0 v' := by
  obtain ⟨t, x, w, v', a1, a2, a3, a4, a5⟩ := H
  by_cases e : t = 0
  · subst e
    rw [Nat.mul_zero] at a3
    exact ⟨x, w, v', a2, a3, by omega, a5⟩
  · obtain rfl : t = 1 := by omega
    rw [Nat.mul_one] at a3
    by_cases g : x + b ≤ h c
    · exact ⟨x, w, v', a2, g, by omega, Fe_p1 a5⟩
    · by_cases g2 : x < uR σ c
      · have := (dm_of a2 g2).2
        omega
      · exact ⟨x - uR σ c, w + 1, v', by rw [Nat.mul_succ]; omega, by omega, by omega, Fe_p2 a5⟩
theorem Fe_mk0 {σ : Sg} {h : Nat → Nat} {d c L b w x v : Nat} (h1 : L = uR σ c * w + x) (h2 : x + b ≤ h c) (H : Fe σ h d (c + 1) w 0 v) : Fe σ h (d + 1) c L b v := ⟨0, x, w, v, by omega, h1, by rw [Nat.mul_zero]; exact h2, by omega, H⟩
theorem Fe_mk1 {σ : Sg} {h : Nat → Nat} {d c L b v : Nat} (hu : 0 < uR σ c) (hb : b ≤ 1) (H : Fe σ h d (c + 1) (L / uR σ c) 1 v) : Fe σ h (d + 1) c L b (1 + v) := ⟨1, L % uR σ c, L / uR σ c, v, by omega, (Nat.div_add_mod L (uR σ c)).symm, by have := Nat.mod_lt L hu; rw [Nat.mul_one]; omega, rfl, H⟩
/-! which columns are broken, as the bits of a number -/
def pcN : Nat → Nat → Nat
  | 0, _ => 0
  | d + 1, m => m % 2 + pcN d (m / 2)
def Fm (σ : Sg) (h : Nat → Nat) : Nat → Nat → Nat → Nat → Nat → Prop
  | 0, c, L, b, _ => L + b ≤ h c
  | d + 1, c, L, b, m => ∃ x w, L = uR σ c * w + x ∧ x + b ≤ h c + uR σ c * (m % 2) ∧ Fm σ h d (c + 1) w (m % 2) (m / 2)
theorem Fe_Fm {σ : Sg} {h : Nat → Nat} : ∀ d c L b v, Fe σ h d c L b v ↔ ∃ m, m < 2 ^ d ∧ v = pcN d m ∧ Fm σ h d c L b m
  | 0, c, L, b, v => ⟨fun ⟨a1, a2⟩ => ⟨0, by decide, a1, a2⟩, fun ⟨m, _, a1, a2⟩ => ⟨a1, a2⟩⟩
  | d + 1, c, L, b, v => by
    have ep : 2 ^ (d + 1) = 2 ^ d * 2 := Nat.pow_succ 2 d
    constructor
    · intro ⟨t, x, w, v', a1, a2, a3, a4, a5⟩
      obtain ⟨m, m1, m2, m3⟩ := (Fe_Fm d (c + 1) w t v').mp a5
      have e1 : (t + 2 * m) % 2 = t := by omega
      have e2 : (t + 2 * m) / 2 = m := by omega
      refine ⟨t + 2 * m, by omega, ?_, x, w, a2, by rw [e1]; exact a3, by rw [e1, e2]; exact m3⟩
      show v = (t + 2 * m) % 2 + pcN d ((t + 2 * m) / 2)
      rw [e1, e2, ← m2]
      exact a4
    · intro ⟨m, m1, m2, x, w, a2, a3, a5⟩
      exact ⟨m % 2, x, w, pcN d (m / 2), by omega, a2, a3, m2, (Fe_Fm d (c + 1) w (m % 2) _).mpr ⟨m / 2, by omega, rfl, a5⟩⟩
theorem tk_ex {σ : Sg} {h : Nat → Nat} (hs : okS σ) {d c : Nat} (hc : c + (d + 1) + 1 = σ 0) (L : Nat) : tkT σ h (d + 1) c L = L ↔ ∃ x w, L = uR σ c * w + x ∧ x ≤ h c ∧ tkT σ h d (c + 1) w = w := by
  obtain ⟨m1, m2⟩ := tk_max (h := h) hs d (c + 1) (by omega)
  obtain ⟨u1, u2⟩ := uR_b hs (c := c) (by omega)
  have e := tk_ul (σ := σ) (h := h) (tkT_le σ h d (c + 1) (L / uR σ c))
  have eV : tkT σ h (d + 1) c L = uR σ c * tkT σ h d (c + 1) (L / uR σ c) + min (L - uR σ c * tkT σ h d (c + 1) (L / uR σ c)) (h c) := rfl
  constructor
  · intro q
    rw [eV] at q
    exact ⟨L - uR σ c * tkT σ h d (c + 1) (L / uR σ c), tkT σ h d (c + 1) (L / uR σ c), by omega, by omega, m2 _⟩
  · intro ⟨x, w, a1, a2, a3⟩
    have wl : w ≤ L / uR σ c := by
      rw [Nat.le_div_iff_mul_le (by omega), Nat.mul_comm]
      omega
    have := Nat.mul_le_mul_left (uR σ c) (m1 _ _ wl a3)
    rw [eV]
    omega
def bbN (m : Nat) : Nat → Nat
  | 0 => 0
  | j + 1 => m / 2 ^ j % 2
def lyN (σ : Sg) (h : Nat → Nat) (m j : Nat) : Nat := h j + uR σ j * (m / 2 ^ j % 2) - bbN m j
theorem Fm_tk {σ : Sg} {h : Nat → Nat} (hs : okS σ) {m : Nat} (hm : m < 2 ^ (σ 0 - 1)) : ∀ d c L, c + d + 1 = σ 0 → (Fm σ h d c L (bbN m c) (m / 2 ^ c) ↔ (∀ j, c ≤ j → j < σ 0 → bbN m j ≤ h j + uR σ j * (m / 2 ^ j % 2)) ∧ tkT σ (lyN σ h m) d c L = L)
  | 0, c, L, hc => by
    have e0 : σ 0 - 1 = c := by omega
    rw [e0] at hm
    have ez : m / 2 ^ c = 0 := Nat.div_eq_of_lt hm
    have el : lyN σ h m c = h c - bbN m c := by
      unfold lyN
      rw [ez, Nat.zero_mod, Nat.mul_zero, Nat.add_zero]
    constructor
    · intro q
      have q' : L + bbN m c ≤ h c := q
      refine ⟨fun j j1 j2 => ?_, ?_⟩
      · obtain rfl : j = c := by omega
        omega
      · show min L (lyN σ h m c) = L
        rw [el]
        omega
    · intro ⟨q1, q2⟩
      have z := q1 c (Nat.le_refl _) (by omega)
      have q2' : min L (lyN σ h m c) = L := q2
      rw [ez, Nat.zero_mod, Nat.mul_zero, Nat.add_zero] at z
      rw [el] at q2'
      show L + bbN m c ≤ h c
      omega
  | d + 1, c, L, hc => by
    have ed : m / 2 ^ c / 2 = m / 2 ^ (c + 1) := by rw [Nat.div_div_eq_div_mul, Nat.pow_succ]
    have eF : Fm σ h (d + 1) c L (bbN m c) (m / 2 ^ c) ↔ ∃ x w, L = uR σ c * w + x ∧ x + bbN m c ≤ h c + uR σ c * (m / 2 ^ c % 2) ∧ Fm σ h d (c + 1) w (bbN m (c + 1)) (m / 2 ^ (c + 1)) := by
      rw [← ed]
      exact Iff.rfl
    rw [eF, tk_ex hs hc]
    constructor
    · intro ⟨x, w, a1, a2, a3⟩
      obtain ⟨b1, b2⟩ := (Fm_tk hs hm d (c + 1) w (by omega)).mp a3
      refine ⟨fun j j1 j2 => ?_, x, w, a1, ?_, b2⟩
      · by_cases e : j = c
        · rw [e]; omega
        · exact b1 j (by omega) j2
      · unfold lyN
        omega
    · intro ⟨q1, x, w, a1, a2, a3⟩
      have z := q1 c (Nat.le_refl _) (by omega)
      refine ⟨x, w, a1, ?_, (Fm_tk hs hm d (c + 1) w (by omega)).mpr ⟨fun j j1 j2 => q1 j (by omega) j2, a3⟩⟩
      unfold lyN at a2
      omega
/-- the answer: the fewest, or none -/
def AnB (σ : Sg) (h : Nat → Nat) (s : Nat) (B : Int32) : Prop := (B = -2 ∧ ∀ v, ¬ Fe σ h (σ 0 - 1) 0 s 0 v) ∨ ∃ v, B = nI v ∧ Fe σ h (σ 0 - 1) 0 s 0 v ∧ ∀ v', Fe σ h (σ 0 - 1) 0 s 0 v' → v ≤ v'
theorem AnB_u {σ : Sg} {h : Nat → Nat} {s : Nat} {B B' : Int32} (H : AnB σ h s B) (H' : AnB σ h s B') : B = B' := by
  rcases H with ⟨a1, a2⟩ | ⟨v, a1, a2, a3⟩
  · rcases H' with ⟨b1, b2⟩ | ⟨v', b1, b2, b3⟩
    · rw [a1, b1]
    · exact absurd b2 (a2 _)
  · rcases H' with ⟨b1, b2⟩ | ⟨v', b1, b2, b3⟩
    · exact absurd a2 (b2 _)
    · have := a3 _ b2
      have := b3 _ a2
      obtain rfl : v = v' := by omega
      rw [a1, b1]
