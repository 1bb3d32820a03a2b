/-! PURE LAYER: the fewest counters over, the reference's table -/
def zL (z : Int) : Int64 := Int64.ofInt z
theorem zL_t {z : Int} (h1 : -9223372036854775808 ≤ z) (h2 : z < 9223372036854775808) : (zL z).toInt = z := Int64.toInt_ofInt_of_le (by omega) (by omega)
theorem zL_sub' (a b : Int) : zL a - zL b = zL (a - b) := (Int64.ofInt_sub a b).symm
theorem zL_mul' (a b : Int) : zL a * zL b = zL (a * b) := (Int64.ofInt_mul a b).symm
theorem zI64 {z : Int} (h1 : -2147483648 ≤ z) (h2 : z < 2147483648) : (zI z).toInt64 = zL z := Int64.toInt_inj.mp (by rw [Int32.toInt_toInt64, zI_toInt h1 h2, zL_t (by omega) (by omega)])
theorem nI64 {a : Nat} (h : a < 2147483648) : (nI a).toInt64 = zL (a : Int) := by rw [← zI_c, zI64 (by omega) (by omega)]
theorem zL_32 {z : Int} (h1 : -2147483648 ≤ z) (h2 : z < 2147483648) : (zL z).toInt32 = zI z := by rw [← zI64 h1 h2, lg_l2i_i2l]
theorem zL_div' {a b : Int} (h1 : -4611686018427387904 ≤ a) (h2 : a < 4611686018427387904) (hb : 0 < b) (hb2 : b < 1000) : zL a / zL b = zL (a.tdiv b) := by
  apply Int64.toInt_inj.mp
  have t1 := Int.natAbs_tdiv a b
  have t2 : (a.tdiv b).natAbs ≤ a.natAbs := by rw [t1]; exact Nat.div_le_self _ _
  rw [Jvm.Kit.i64_div (by rw [zL_t (by omega) (by omega), zL_t (by omega) (by omega)]; omega), zL_t (by omega) (by omega), zL_t (by omega) (by omega), zL_t (by omega) (by omega)]
theorem zL_z {z : Int} (h1 : -4611686018427387904 ≤ z) (h2 : z < 4611686018427387904) : lg_cmp (zL z) 0 = 0 ↔ z = 0 := by
  have t := zL_t (z := z) (by omega) (by omega)
  have t0 : (0 : Int64).toInt = 0 := by decide
  unfold lg_cmp
  by_cases g : zL z > 0
  · have g' : (0 : Int64) < zL z := g
    rw [if_pos g]
    rw [Int64.lt_iff_toInt_lt, t, t0] at g'
    exact ⟨fun h => absurd h (by decide), fun h => by omega⟩
  · rw [if_neg g]
    by_cases e : zL z = 0
    · rw [if_pos e]
      have := congrArg Int64.toInt e
      rw [t, t0] at this
      exact ⟨fun _ => this, fun _ => rfl⟩
    · rw [if_neg e]
      refine ⟨fun h => absurd h (by decide), fun h => absurd ?_ e⟩
      rw [h]; rfl
theorem zL_ge {z : Int} (h1 : -4611686018427387904 ≤ z) (h2 : z < 4611686018427387904) : 0 ≤ lg_cmp (zL z) 0 ↔ 0 ≤ z := by
  have t := zL_t (z := z) (by omega) (by omega)
  have t0 : (0 : Int64).toInt = 0 := by decide
  unfold lg_cmp
  by_cases g : zL z > 0
  · have g' : (0 : Int64) < zL z := g
    rw [if_pos g]
    rw [Int64.lt_iff_toInt_lt, t, t0] at g'
    exact ⟨fun _ => by omega, fun _ => by decide⟩
  · rw [if_neg g]
    have g' : ¬ (0 : Int64) < zL z := g
    rw [Int64.lt_iff_toInt_lt, t, t0] at g'
    by_cases e : zL z = 0
    · rw [if_pos e]
      have := congrArg Int64.toInt e
      rw [t, t0] at this
      exact ⟨fun _ => by omega, fun _ => by decide⟩
    · rw [if_neg e]
      refine ⟨fun h => absurd h (by decide), fun h => absurd ?_ e⟩
      obtain rfl : z = 0 := by omega
      rfl
theorem zL_rem {v : Int} {u : Nat} (h1 : -4611686018427387904 ≤ v) (h2 : v < 4611686018427387904) (hu : 0 < u) (hu2 : u < 1000) : lg_cmp (zL v - zL v / zL (u : Int) * zL (u : Int)) 0 = 0 ↔ (u : Int) ∣ v := by
  have e : v - v.tdiv u * u = v.tmod u := by rw [Int.tmod_def, Int.mul_comm]
  have b1 : (v.tmod (u : Int)).natAbs < u := by
    rw [Int.natAbs_tmod, Int.natAbs_natCast]
    exact Nat.mod_lt _ hu
  rw [zL_div' h1 h2 (by omega) (by omega), zL_mul', zL_sub', e, zL_z (by omega) (by omega)]
  exact ⟨Int.dvd_of_tmod_eq_zero, Int.tmod_eq_zero_of_dvd⟩
theorem zL_ne {u : Nat} (hu : 0 < u) (hu2 : u < 1000) : ¬ zL (u : Int) = 0 := fun q => by
  have := congrArg Int64.toInt q
  rw [zL_t (by omega) (by omega), show (0 : Int64).toInt = 0 by decide] at this
  omega
def uR (σ : Sg) (c : Nat) : Nat := σ (2 + (c + 1))
def LvN (σ : Sg) (nl : Nat → Nat) (s : Nat) : Nat → Nat
  | 0 => s
  | c + 1 => (LvN σ nl s c + nl c) / uR σ c
def WdN (σ : Sg) (nl nh : Nat → Nat) : Nat → Nat
  | 0 => 1
  | c + 1 => (WdN σ nl nh c + nh c + nl c) / uR σ c + 2
def scC (g : Int → Nat) (u nl : Nat) (v : Int) (j : Nat) : Nat := ((j : Int) - nl).natAbs + g ((v - ((j : Int) - nl)) / u)
abbrev scP (g : Int → Nat) (u nl : Nat) (v : Int) (j : Nat) : Prop := (u : Int) ∣ v - ((j : Int) - nl) ∧ g ((v - ((j : Int) - nl)) / u) < 1000000
def scn (g : Int → Nat) (u nl : Nat) (v : Int) : Nat → Nat
  | 0 => 1000000
  | j + 1 => if scP g u nl v j ∧ scC g u nl v j < scn g u nl v j then scC g u nl v j else scn g u nl v j
theorem scn_le (g : Int → Nat) (u nl : Nat) (v : Int) : ∀ j, scn g u nl v j ≤ 1000000
  | 0 => Nat.le_refl _
  | j + 1 => by
    have := scn_le g u nl v j
    show (if scP g u nl v j ∧ scC g u nl v j < scn g u nl v j then scC g u nl v j else scn g u nl v j) ≤ 1000000
    by_cases h : scP g u nl v j ∧ scC g u nl v j < scn g u nl v j
    · rw [if_pos h]; omega
    · rw [if_neg h]; exact this
def bsN (σ : Sg) (nl nh : Nat → Nat) : Nat → Nat → Int → Nat
  | 0, c, v => if -(nl c : Int) ≤ v ∧ v ≤ nh c then v.natAbs else 1000000
  | d + 1, c, v => scn (bsN σ nl nh d (c + 1)) (uR σ c) (nl c) v (nh c + nl c + 1)
def okF (σ : Sg) (nl nh : Nat → Nat) : Prop := okS σ ∧ 0 < σ 0 ∧ ∀ c, c < σ 0 → nl c ≤ 99 ∧ nh c ≤ 99
theorem bsN_le {σ : Sg} {nl nh : Nat → Nat} (h : okF σ nl nh) : ∀ d c v, c + d + 1 = σ 0 → bsN σ nl nh d c v ≤ 1000000
  | 0, c, v, hc => by
    obtain ⟨a, b⟩ := h.2.2 c (by omega)
    show (if -(nl c : Int) ≤ v ∧ v ≤ nh c then v.natAbs else 1000000) ≤ 1000000
    by_cases q : -(nl c : Int) ≤ v ∧ v ≤ nh c
    · rw [if_pos q]; omega
    · rw [if_neg q]; omega
  | d + 1, c, v, hc => scn_le _ _ _ _ _
theorem uR_b {σ : Sg} (hs : okS σ) {c : Nat} (h : c + 1 < σ 0) : 2 ≤ uR σ c ∧ uR σ c ≤ 20 := kRt hs (by omega) h
theorem LvN_le {σ : Sg} {nl nh : Nat → Nat} (h : okF σ nl nh) (s : Nat) : ∀ c, c < σ 0 → LvN σ nl s c ≤ s + 99
  | 0, _ => Nat.le_add_right _ _
  | c + 1, hc => by
    have a := LvN_le h s c (by omega)
    have b := (h.2.2 c (by omega)).1
    have u := (uR_b h.1 hc).1
    show (LvN σ nl s c + nl c) / uR σ c ≤ s + 99
    have e : (LvN σ nl s c + nl c) / uR σ c ≤ (LvN σ nl s c + nl c) / 2 := Nat.div_le_div_left u (by decide)
    omega
theorem WdN_le {σ : Sg} {nl nh : Nat → Nat} (h : okF σ nl nh) : ∀ c, c < σ 0 → 1 ≤ WdN σ nl nh c ∧ WdN σ nl nh c ≤ 202
  | 0, _ => ⟨Nat.le_refl _, by show 1 ≤ 202; decide⟩
  | c + 1, hc => by
    obtain ⟨a0, a⟩ := WdN_le h c (by omega)
    obtain ⟨b, b2⟩ := h.2.2 c (by omega)
    have u := (uR_b h.1 hc).1
    show 1 ≤ (WdN σ nl nh c + nh c + nl c) / uR σ c + 2 ∧ (WdN σ nl nh c + nh c + nl c) / uR σ c + 2 ≤ 202
    have e : (WdN σ nl nh c + nh c + nl c) / uR σ c ≤ (WdN σ nl nh c + nh c + nl c) / 2 := Nat.div_le_div_left u (by decide)
    have z := Nat.zero_le ((WdN σ nl nh c + nh c + nl c) / uR σ c)
    omega
/-- where the rest stands in the next row of the table -/
theorem ix_N {σ : Sg} {nl nh : Nat → Nat} (h : okF σ nl nh) (s : Nat) {c i j : Nat} (hc : c + 1 < σ 0) (hi : i < WdN σ nl nh c) (hj : j ≤ nh c + nl c) {q : Int} (hq : (LvN σ nl s c : Int) - i - ((j : Int) - nl c) = uR σ c * q) : ∃ i', i' < WdN σ nl nh (c + 1) ∧ (LvN σ nl s (c + 1) : Int) - q = i' := by
  obtain ⟨u1, u2⟩ := uR_b h.1 hc
  have e1 : LvN σ nl s (c + 1) = (LvN σ nl s c + nl c) / uR σ c := rfl
  have e2 : WdN σ nl nh (c + 1) = (WdN σ nl nh c + nh c + nl c) / uR σ c + 2 := rfl
  have dm := Nat.div_add_mod (LvN σ nl s c + nl c) (uR σ c)
  have ml := Nat.mod_lt (LvN σ nl s c + nl c) (show 0 < uR σ c by omega)
  have dmi : (uR σ c : Int) * (((LvN σ nl s c + nl c) / uR σ c : Nat) : Int) + (((LvN σ nl s c + nl c) % uR σ c : Nat) : Int) = (LvN σ nl s c : Int) + nl c := by
    rw [← Int.natCast_mul, ← Int.natCast_add, dm, Int.natCast_add]
  have up : (0 : Int) < uR σ c := by omega
  have hle : q ≤ (((LvN σ nl s c + nl c) / uR σ c : Nat) : Int) := by
    have : (uR σ c : Int) * q < (uR σ c : Int) * ((((LvN σ nl s c + nl c) / uR σ c : Nat) : Int) + 1) := by
      rw [Int.mul_add, Int.mul_one, ← hq]
      omega
    have := Int.lt_of_mul_lt_mul_left this (by omega)
    omega
  have hn : (0 : Int) ≤ (((LvN σ nl s c + nl c) / uR σ c : Nat) : Int) - q := by omega
  refine ⟨((((LvN σ nl s c + nl c) / uR σ c : Nat) : Int) - q).toNat, ?_, by rw [e1]; omega⟩
  have hb : (uR σ c : Int) * ((((LvN σ nl s c + nl c) / uR σ c : Nat) : Int) - q) ≤ WdN σ nl nh c + nh c + nl c := by
    rw [Int.mul_sub, ← hq]
    omega
  have hb2 : ((((LvN σ nl s c + nl c) / uR σ c : Nat) : Int) - q).toNat * uR σ c ≤ WdN σ nl nh c + nh c + nl c := by
    have e3 : (((((((LvN σ nl s c + nl c) / uR σ c : Nat) : Int) - q).toNat * uR σ c : Nat)) : Int) = (uR σ c : Int) * ((((LvN σ nl s c + nl c) / uR σ c : Nat) : Int) - q) := by
      rw [Int.natCast_mul, Int.toNat_of_nonneg hn, Int.mul_comm]
    omega
  have := (Nat.le_div_iff_mul_le (show 0 < uR σ c by omega)).mpr hb2
  omega
