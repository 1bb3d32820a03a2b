/-! PURE LAYER: numbers that may be below zero; rules that decide comparisons -/
def zI (z : Int) : Int32 := Int32.ofInt z
theorem zI_c (n : Nat) : zI (n : Int) = nI n := Int32.ofInt_eq_ofNat
theorem zI_toInt {z : Int} (h1 : -2147483648 ≤ z) (h2 : z < 2147483648) : (zI z).toInt = z := Int32.toInt_ofInt_of_le h1 h2
theorem zI_of (x : Int32) : ∃ z : Int, -2147483648 ≤ z ∧ z < 2147483648 ∧ x = zI z := ⟨x.toInt, x.le_toInt, x.toInt_lt, (Int32.ofInt_toInt x).symm⟩
theorem nI_of0 {z : Int} (h : 0 ≤ z) : zI z = nI z.toNat := by
  rw [← zI_c, Int.toNat_of_nonneg h]
theorem zz_add (a b : Int) : zI a + zI b = zI (a + b) := (Int32.ofInt_add a b).symm
theorem zz_sub (a b : Int) : zI a - zI b = zI (a - b) := (Int32.ofInt_sub a b).symm
theorem zz_mul (a b : Int) : zI a * zI b = zI (a * b) := (Int32.ofInt_mul a b).symm
theorem zn_add (a : Int) (b : Nat) : zI a + nI b = zI (a + b) := by rw [← zI_c, zz_add]
theorem nz_add (a : Nat) (b : Int) : nI a + zI b = zI (a + b) := by rw [← zI_c, zz_add]
theorem zn_sub (a : Int) (b : Nat) : zI a - nI b = zI (a - b) := by rw [← zI_c, zz_sub]
theorem nz_sub (a : Nat) (b : Int) : nI a - zI b = zI (a - b) := by rw [← zI_c, zz_sub]
theorem nn_sub (a b : Nat) : nI a - nI b = zI ((a : Int) - b) := by rw [← zI_c, ← zI_c, zz_sub]
theorem zn_mul (a : Int) (b : Nat) : zI a * nI b = zI (a * b) := by rw [← zI_c, zz_mul]
theorem nz_mul (a : Nat) (b : Int) : nI a * zI b = zI (a * b) := by rw [← zI_c, zz_mul]
theorem z_neg (a : Int) : -zI a = zI (-a) := Int32.neg_ofInt
theorem n_neg (a : Nat) : -nI a = zI (-(a : Int)) := by rw [← zI_c, z_neg]
theorem rem_n (a d : Nat) : nI a - nI (a / d * d) = nI (a % d) := by
  rw [nI_sub' (Nat.div_mul_le_self a d)]
  congr 1
  have := Nat.div_add_mod a d
  rw [Nat.mul_comm] at this
  omega
theorem lt_T {a b : Nat} (h : a < b) (hb : b < 2147483648) : (nI a < nI b) = True := eq_true (nI_lt h hb)
theorem lt_F {a b : Nat} (h : b ≤ a) (hb : a < 2147483648) : (nI a < nI b) = False := eq_false (nI_nlt h hb)
theorem le_T {a b : Nat} (h : a ≤ b) (hb : b < 2147483648) : (nI a ≤ nI b) = True := eq_true (nI_le h hb)
theorem le_F {a b : Nat} (h : b < a) (hb : a < 2147483648) : (nI a ≤ nI b) = False := eq_false (nI_ge h hb)
theorem eq_T {a b : Nat} (h : a = b) : (nI a = nI b) = True := eq_true (by rw [h])
theorem eq_F {a b : Nat} (h : a ≠ b) (ha : a < 2147483648) (hb : b < 2147483648) : (nI a = nI b) = False := eq_false (fun q => h ((nI_eq ha hb).mp q))
theorem zlt_T {a b : Int} (h : a < b) (ha : -2147483648 ≤ a) (hb : b < 2147483648) : (zI a < zI b) = True := eq_true (by rw [Int32.lt_iff_toInt_lt, zI_toInt ha (by omega), zI_toInt (by omega) hb]; exact h)
theorem zlt_F {a b : Int} (h : b ≤ a) (hb : -2147483648 ≤ b) (ha : a < 2147483648) : (zI a < zI b) = False := eq_false (by rw [Int32.lt_iff_toInt_lt, zI_toInt (by omega) ha, zI_toInt hb (by omega)]; omega)
theorem zle_T {a b : Int} (h : a ≤ b) (ha : -2147483648 ≤ a) (hb : b < 2147483648) : (zI a ≤ zI b) = True := eq_true (by rw [Int32.le_iff_toInt_le, zI_toInt ha (by omega), zI_toInt (by omega) hb]; exact h)
theorem zle_F {a b : Int} (h : b < a) (hb : -2147483648 ≤ b) (ha : a < 2147483648) : (zI a ≤ zI b) = False := eq_false (by rw [Int32.le_iff_toInt_le, zI_toInt (by omega) ha, zI_toInt hb (by omega)]; omega)
theorem zeq_T {a b : Int} (h : a = b) : (zI a = zI b) = True := eq_true (by rw [h])
theorem zeq_F {a b : Int} (h : a ≠ b) (ha : -2147483648 ≤ a) (ha2 : a < 2147483648) (hb : -2147483648 ≤ b) (hb2 : b < 2147483648) : (zI a = zI b) = False := eq_false (fun q => h (by have := congrArg Int32.toInt q; rw [zI_toInt ha ha2, zI_toInt hb hb2] at this; exact this))
theorem zn_lt (a : Int) (b : Nat) : (zI a < nI b) = (zI a < zI (b : Int)) := by rw [zI_c]
theorem nz_lt (a : Nat) (b : Int) : (nI a < zI b) = (zI (a : Int) < zI b) := by rw [zI_c]
theorem zn_le (a : Int) (b : Nat) : (zI a ≤ nI b) = (zI a ≤ zI (b : Int)) := by rw [zI_c]
theorem nz_le (a : Nat) (b : Int) : (nI a ≤ zI b) = (zI (a : Int) ≤ zI b) := by rw [zI_c]
theorem zn_eq (a : Int) (b : Nat) : (zI a = nI b) = (zI a = zI (b : Int)) := by rw [zI_c]
theorem nz_eq (a : Nat) (b : Int) : (nI a = zI b) = (zI (a : Int) = zI b) := by rw [zI_c]
theorem z_clamp {z : Int} (h1 : -2147483648 ≤ z) (h2 : z < 2147483648) : (zI z).toNatClampNeg = z.toNat := Int32.toNatClampNeg_ofInt_of_le h1 h2
theorem ck_z {α : Type} {z : Int} {n : Nat} {E : Option α} (h0 : 0 ≤ z) (h : z < n) (hn : n < 2147483648) : ck (zI z) n E = E := by
  obtain ⟨k, rfl⟩ := Int.eq_ofNat_of_zero_le h0
  rw [zI_c]
  exact ck_n (by omega) hn
theorem dv_n {α : Type} {y : Nat} {E : Option α} (h0 : 0 < y) (h : y < 2147483648) : dv (nI y) E = E := dv_ne (nI_ne0 h0 h)
theorem cp_n {α : Type} {a b c n0 n1 : Nat} {E : Option α} (h0 : a + c ≤ n0) (h1 : b + c ≤ n1) (g0 : n0 < 2147483648) (g1 : n1 < 2147483648) : cp (nI a) (nI b) (nI c) n0 n1 E = E := by
  unfold cp
  rw [if_neg]
  rw [nI_clamp (by omega), nI_clamp (by omega), nI_clamp (by omega)]
  intro q
  rcases q with q | q | q | q | q
  · exact nI_pos (by omega) q
  · exact nI_pos (by omega) q
  · exact nI_pos (by omega) q
  · omega
  · omega
theorem l_0 : (0 : Int32) = nI 0 := rfl
theorem l_1 : (1 : Int32) = nI 1 := rfl
theorem l_2 : (2 : Int32) = nI 2 := rfl
theorem l_3 : (3 : Int32) = nI 3 := rfl
theorem l_4 : (4 : Int32) = nI 4 := rfl
theorem l_5 : (5 : Int32) = nI 5 := rfl
theorem l_6 : (6 : Int32) = nI 6 := rfl
theorem l_7 : (7 : Int32) = nI 7 := rfl
theorem l_8 : (8 : Int32) = nI 8 := rfl
theorem l_9 : (9 : Int32) = nI 9 := rfl
theorem l_10 : (10 : Int32) = nI 10 := rfl
theorem l_12 : (12 : Int32) = nI 12 := rfl
theorem l_20 : (20 : Int32) = nI 20 := rfl
theorem l_24 : (24 : Int32) = nI 24 := rfl
theorem l_25 : (25 : Int32) = nI 25 := rfl
theorem l_31 : (31 : Int32) = nI 31 := rfl
theorem l_32 : (32 : Int32) = nI 32 := rfl
theorem l_48 : (48 : Int32) = nI 48 := rfl
theorem l_50 : (50 : Int32) = nI 50 := rfl
theorem l_56 : (56 : Int32) = nI 56 := rfl
theorem l_57 : (57 : Int32) = nI 57 := rfl
theorem l_59 : (59 : Int32) = nI 59 := rfl
theorem l_97 : (97 : Int32) = nI 97 := rfl
theorem l_99 : (99 : Int32) = nI 99 := rfl
theorem l_100 : (100 : Int32) = nI 100 := rfl
theorem l_120 : (120 : Int32) = nI 120 := rfl
theorem l_122 : (122 : Int32) = nI 122 := rfl
theorem l_177 : (177 : Int32) = nI 177 := rfl
theorem l_178 : (178 : Int32) = nI 178 := rfl
theorem l_201 : (201 : Int32) = nI 201 := rfl
theorem l_226 : (226 : Int32) = nI 226 := rfl
theorem l_255 : (255 : Int32) = nI 255 := rfl
theorem l_400 : (400 : Int32) = nI 400 := rfl
theorem l_420 : (420 : Int32) = nI 420 := rfl
theorem l_600 : (600 : Int32) = nI 600 := rfl
theorem l_700 : (700 : Int32) = nI 700 := rfl
theorem l_840 : (840 : Int32) = nI 840 := rfl
theorem l_1000 : (1000 : Int32) = nI 1000 := rfl
theorem l_1300 : (1300 : Int32) = nI 1300 := rfl
theorem l_2000 : (2000 : Int32) = nI 2000 := rfl
theorem l_1000000 : (1000000 : Int32) = nI 1000000 := rfl
theorem mr4 (a : Nat) : nI a * nI 4 = nI (4 * a) := by rw [nI_mul', Nat.mul_comm]
theorem ml4 (a : Nat) : nI 4 * nI a = nI (4 * a) := nI_mul' 4 a
theorem mr5 (a : Nat) : nI a * nI 5 = nI (5 * a) := by rw [nI_mul', Nat.mul_comm]
theorem ml5 (a : Nat) : nI 5 * nI a = nI (5 * a) := nI_mul' 5 a
theorem mr6 (a : Nat) : nI a * nI 6 = nI (6 * a) := by rw [nI_mul', Nat.mul_comm]
theorem ml6 (a : Nat) : nI 6 * nI a = nI (6 * a) := nI_mul' 6 a
theorem mr10 (a : Nat) : nI a * nI 10 = nI (10 * a) := by rw [nI_mul', Nat.mul_comm]
theorem ml10 (a : Nat) : nI 10 * nI a = nI (10 * a) := nI_mul' 10 a
theorem mr24 (a : Nat) : nI a * nI 24 = nI (24 * a) := by rw [nI_mul', Nat.mul_comm]
theorem ml24 (a : Nat) : nI 24 * nI a = nI (24 * a) := nI_mul' 24 a
theorem mr201 (a : Nat) : nI a * nI 201 = nI (201 * a) := by rw [nI_mul', Nat.mul_comm]
theorem ml201 (a : Nat) : nI 201 * nI a = nI (201 * a) := nI_mul' 201 a
theorem mr420 (a : Nat) : nI a * nI 420 = nI (420 * a) := by rw [nI_mul', Nat.mul_comm]
theorem ml420 (a : Nat) : nI 420 * nI a = nI (420 * a) := nI_mul' 420 a
theorem mr226 (a : Nat) : nI a * nI 226 = nI (226 * a) := by rw [nI_mul', Nat.mul_comm]
theorem ml226 (a : Nat) : nI 226 * nI a = nI (226 * a) := nI_mul' 226 a
theorem mr2 (a : Nat) : nI a * nI 2 = nI (2 * a) := by rw [nI_mul', Nat.mul_comm]
theorem ml2 (a : Nat) : nI 2 * nI a = nI (2 * a) := nI_mul' 2 a
theorem upd_at (f : Nat → Int32) (k : Nat) (x : Int32) (j : Nat) : upd f k x j = if j = k then x else f j := rfl
theorem cpy_at {α : Type} (f g : Nat → α) (sp dp n k : Nat) : va_cpy f g sp dp n k = if dp ≤ k ∧ k < dp + n then f (sp + (k - dp)) else g k := rfl
theorem cb_T {α : Type} {E : Option α} (p : Prop) [Decidable p] : cb (if p then (nI 1) else nI 0) E = E := by
  by_cases h : p
  · rw [if_pos h]; exact cb_1
  · rw [if_neg h]; exact cb_0
theorem cb_n {α : Type} {E : Option α} {k : Nat} (h : k ≤ 1) : cb (nI k) E = E := by
  have : k = 0 ∨ k = 1 := by omega
  rcases this with rfl | rfl
  · exact cb_0
  · exact cb_1
/-- an int is a number below n, or not -/
theorem ix_cases (x : Int32) {n : Nat} (hn : n < 2147483648) : (∃ r, r < n ∧ x = nI r) ∨ ¬ (0 ≤ x ∧ x < nI n) := by
  by_cases h : 0 ≤ x ∧ x < nI n
  · exact .inl (ix_of hn h)
  · exact .inr h
/-! the fields of both states, one rule each -/
theorem cC {C : Mem} {σ : Sg} (h : StC C σ) : C 0 6 = nI (σ 0) := h.1
theorem cR {C : Mem} {σ : Sg} (h : StC C σ) : C 0 7 = nI (σ 1) := h.2.1
theorem cMv {C : Mem} {σ : Sg} (h : StC C σ) : C 0 8 = nI (σ 56) := h.2.2.1
theorem cSe {C : Mem} {σ : Sg} (h : StC C σ) : C 0 9 = nI (σ 177) := h.2.2.2.1
theorem cRt {C : Mem} {σ : Sg} (h : StC C σ) {j : Nat} (hj : j < σ 0) : C 1 j = nI (σ (2 + j)) := (h.2.2.2.2.1 j hj).1
theorem cWo {C : Mem} {σ : Sg} (h : StC C σ) {j : Nat} (hj : j < σ 0) : C 2 j = nI (wo σ j) := (h.2.2.2.2.1 j hj).2
theorem cCe {C : Mem} {σ : Sg} (h : StC C σ) {j : Nat} (hj : j < 24) : C 3 j = nI (σ (8 + j)) := (h.2.2.2.2.2.1 j hj).1
theorem cBe {C : Mem} {σ : Sg} (h : StC C σ) {j : Nat} (hj : j < 24) : C 4 j = nI (σ (32 + j)) := (h.2.2.2.2.2.1 j hj).2
theorem cLo {C : Mem} {σ : Sg} (h : StC C σ) {j : Nat} (hj : j < 5 * σ 56) : C 5 j = nI (σ (57 + j)) := h.2.2.2.2.2.2.1 j hj
theorem cSi {C : Mem} {σ : Sg} (h : StC C σ) {j : Nat} (hj : j < 4 * σ 177) : C 6 j = nI (σ (178 + j)) := h.2.2.2.2.2.2.2 j hj
theorem mS {M : Mem} {σ : Sg} (h : StM M σ) {j : Nat} (hj : j < 226) : M 1 j = nI (σ j) := h j hj
theorem kC {σ : Sg} (h : okS σ) : σ 0 ≤ 6 := h.1
theorem kR {σ : Sg} (h : okS σ) : σ 1 ≤ 4 := h.2.1
theorem kCR {σ : Sg} (h : okS σ) : 0 < σ 1 → 0 < σ 0 := fun q => Nat.pos_of_ne_zero fun e => by have := h.2.2.1 e; omega
theorem kRt {σ : Sg} (h : okS σ) {j : Nat} (h1 : 1 ≤ j) (h2 : j < σ 0) : 2 ≤ σ (2 + j) ∧ σ (2 + j) ≤ 20 := h.2.2.2.2.1 j h1 h2
theorem kCe {σ : Sg} (h : okS σ) {j : Nat} (hj : j < 24) : σ (8 + j) ≤ 99 ∧ σ (32 + j) ≤ 99 := by
  have e := h.2.2.2.2.2.1 (j / 6) (j % 6) (by omega) (by omega)
  have e1 : 8 + 6 * (j / 6) + j % 6 = 8 + j := by omega
  have e2 : 32 + 6 * (j / 6) + j % 6 = 32 + j := by omega
  rw [e1, e2] at e
  exact ⟨e.1, e.2.1⟩
theorem kMv {σ : Sg} (h : okS σ) : σ 56 ≤ 24 := h.2.2.2.2.2.2.1
theorem kSe {σ : Sg} (h : okS σ) : σ 177 ≤ 12 := h.2.2.2.2.2.2.2.2.1
/-! rows and columns by arguments of any value -/
theorem hasRow_z {C : Mem} {σ : Sg} (hC : StC C σ) (h1 : σ 1 ≤ 4) (F : Nat) {z : Int} (r1 : -2147483648 ≤ z) (r2 : z < 2147483648) : f_X0_hasRow F C (zI z) = some (if 0 ≤ z ∧ z < (σ 1 : Int) then nI 1 else nI 0) := by
  unfold f_X0_hasRow
  by_cases h : 0 ≤ z
  · by_cases h' : z < (σ 1 : Int)
    · simp (disch := omega) only [l_0, l_1, l_2, l_3, l_4, l_5, l_6, l_7, l_8, l_9, l_10, l_12, l_20, l_24, l_25, l_31, l_32, l_48, l_50, l_56, l_57, l_59, l_97, l_99, l_100, l_120, l_122, l_177, l_178, l_201, l_226, l_255, l_400, l_420, l_600, l_700, l_840, l_1000, l_1300, l_2000, l_1000000, nI_add, mr4, ml4, mr5, ml5, mr6, ml6, mr10, ml10, mr24, ml24, mr201, ml201, mr420, ml420, mr226, ml226, mr2, ml2, nI_clamp, lt_T, lt_F, le_T, le_F, eq_T, eq_F, ck_n, dv_n, cp_n, rem_n, pk_div, at1_same, at1_ne, cb_n, Option.bind_some, if_pos, if_neg, ↓reduceIte, and_self, and_true, true_and, and_false, false_and, not_true_eq_false, not_false_eq_true, nI_sub', zz_add, zz_sub, zz_mul, zn_add, nz_add, zn_sub, nz_sub, zn_mul, nz_mul, z_neg, n_neg, zlt_T, zlt_F, zle_T, zle_F, zeq_T, zeq_F, zn_lt, nz_lt, zn_le, nz_le, zn_eq, nz_eq, cR hC, h, h']
    · simp (disch := omega) only [l_0, l_1, l_2, l_3, l_4, l_5, l_6, l_7, l_8, l_9, l_10, l_12, l_20, l_24, l_25, l_31, l_32, l_48, l_50, l_56, l_57, l_59, l_97, l_99, l_100, l_120, l_122, l_177, l_178, l_201, l_226, l_255, l_400, l_420, l_600, l_700, l_840, l_1000, l_1300, l_2000, l_1000000, nI_add, mr4, ml4, mr5, ml5, mr6, ml6, mr10, ml10, mr24, ml24, mr201, ml201, mr420, ml420, mr226, ml226, mr2, ml2, nI_clamp, lt_T, lt_F, le_T, le_F, eq_T, eq_F, ck_n, dv_n, cp_n, rem_n, pk_div, at1_same, at1_ne, cb_n, Option.bind_some, if_pos, if_neg, ↓reduceIte, and_self, and_true, true_and, and_false, false_and, not_true_eq_false, not_false_eq_true, nI_sub', zz_add, zz_sub, zz_mul, zn_add, nz_add, zn_sub, nz_sub, zn_mul, nz_mul, z_neg, n_neg, zlt_T, zlt_F, zle_T, zle_F, zeq_T, zeq_F, zn_lt, nz_lt, zn_le, nz_le, zn_eq, nz_eq, cR hC, h, h']
  · simp (disch := omega) only [l_0, l_1, l_2, l_3, l_4, l_5, l_6, l_7, l_8, l_9, l_10, l_12, l_20, l_24, l_25, l_31, l_32, l_48, l_50, l_56, l_57, l_59, l_97, l_99, l_100, l_120, l_122, l_177, l_178, l_201, l_226, l_255, l_400, l_420, l_600, l_700, l_840, l_1000, l_1300, l_2000, l_1000000, nI_add, mr4, ml4, mr5, ml5, mr6, ml6, mr10, ml10, mr24, ml24, mr201, ml201, mr420, ml420, mr226, ml226, mr2, ml2, nI_clamp, lt_T, lt_F, le_T, le_F, eq_T, eq_F, ck_n, dv_n, cp_n, rem_n, pk_div, at1_same, at1_ne, cb_n, Option.bind_some, if_pos, if_neg, ↓reduceIte, and_self, and_true, true_and, and_false, false_and, not_true_eq_false, not_false_eq_true, nI_sub', zz_add, zz_sub, zz_mul, zn_add, nz_add, zn_sub, nz_sub, zn_mul, nz_mul, z_neg, n_neg, zlt_T, zlt_F, zle_T, zle_F, zeq_T, zeq_F, zn_lt, nz_lt, zn_le, nz_le, zn_eq, nz_eq, cR hC, h]
theorem hasCol_z {C : Mem} {σ : Sg} (hC : StC C σ) (h1 : σ 0 ≤ 6) (F : Nat) {z : Int} (r1 : -2147483648 ≤ z) (r2 : z < 2147483648) : f_X0_hasColumn F C (zI z) = some (if 0 ≤ z ∧ z < (σ 0 : Int) then nI 1 else nI 0) := by
  unfold f_X0_hasColumn
  by_cases h : 0 ≤ z
  · by_cases h' : z < (σ 0 : Int)
    · simp (disch := omega) only [l_0, l_1, l_2, l_3, l_4, l_5, l_6, l_7, l_8, l_9, l_10, l_12, l_20, l_24, l_25, l_31, l_32, l_48, l_50, l_56, l_57, l_59, l_97, l_99, l_100, l_120, l_122, l_177, l_178, l_201, l_226, l_255, l_400, l_420, l_600, l_700, l_840, l_1000, l_1300, l_2000, l_1000000, nI_add, mr4, ml4, mr5, ml5, mr6, ml6, mr10, ml10, mr24, ml24, mr201, ml201, mr420, ml420, mr226, ml226, mr2, ml2, nI_clamp, lt_T, lt_F, le_T, le_F, eq_T, eq_F, ck_n, dv_n, cp_n, rem_n, pk_div, at1_same, at1_ne, cb_n, Option.bind_some, if_pos, if_neg, ↓reduceIte, and_self, and_true, true_and, and_false, false_and, not_true_eq_false, not_false_eq_true, nI_sub', zz_add, zz_sub, zz_mul, zn_add, nz_add, zn_sub, nz_sub, zn_mul, nz_mul, z_neg, n_neg, zlt_T, zlt_F, zle_T, zle_F, zeq_T, zeq_F, zn_lt, nz_lt, zn_le, nz_le, zn_eq, nz_eq, cC hC, h, h']
    · simp (disch := omega) only [l_0, l_1, l_2, l_3, l_4, l_5, l_6, l_7, l_8, l_9, l_10, l_12, l_20, l_24, l_25, l_31, l_32, l_48, l_50, l_56, l_57, l_59, l_97, l_99, l_100, l_120, l_122, l_177, l_178, l_201, l_226, l_255, l_400, l_420, l_600, l_700, l_840, l_1000, l_1300, l_2000, l_1000000, nI_add, mr4, ml4, mr5, ml5, mr6, ml6, mr10, ml10, mr24, ml24, mr201, ml201, mr420, ml420, mr226, ml226, mr2, ml2, nI_clamp, lt_T, lt_F, le_T, le_F, eq_T, eq_F, ck_n, dv_n, cp_n, rem_n, pk_div, at1_same, at1_ne, cb_n, Option.bind_some, if_pos, if_neg, ↓reduceIte, and_self, and_true, true_and, and_false, false_and, not_true_eq_false, not_false_eq_true, nI_sub', zz_add, zz_sub, zz_mul, zn_add, nz_add, zn_sub, nz_sub, zn_mul, nz_mul, z_neg, n_neg, zlt_T, zlt_F, zle_T, zle_F, zeq_T, zeq_F, zn_lt, nz_lt, zn_le, nz_le, zn_eq, nz_eq, cC hC, h, h']
  · simp (disch := omega) only [l_0, l_1, l_2, l_3, l_4, l_5, l_6, l_7, l_8, l_9, l_10, l_12, l_20, l_24, l_25, l_31, l_32, l_48, l_50, l_56, l_57, l_59, l_97, l_99, l_100, l_120, l_122, l_177, l_178, l_201, l_226, l_255, l_400, l_420, l_600, l_700, l_840, l_1000, l_1300, l_2000, l_1000000, nI_add, mr4, ml4, mr5, ml5, mr6, ml6, mr10, ml10, mr24, ml24, mr201, ml201, mr420, ml420, mr226, ml226, mr2, ml2, nI_clamp, lt_T, lt_F, le_T, le_F, eq_T, eq_F, ck_n, dv_n, cp_n, rem_n, pk_div, at1_same, at1_ne, cb_n, Option.bind_some, if_pos, if_neg, ↓reduceIte, and_self, and_true, true_and, and_false, false_and, not_true_eq_false, not_false_eq_true, nI_sub', zz_add, zz_sub, zz_mul, zn_add, nz_add, zn_sub, nz_sub, zn_mul, nz_mul, z_neg, n_neg, zlt_T, zlt_F, zle_T, zle_F, zeq_T, zeq_F, zn_lt, nz_lt, zn_le, nz_le, zn_eq, nz_eq, cC hC, h]
theorem f_inz (F : Nat) {v a b : Int} (v1 : -2147483648 ≤ v) (v2 : v < 2147483648) (a1 : -2147483648 ≤ a) (a2 : a < 2147483648) (b1 : -2147483648 ≤ b) (b2 : b < 2147483648) : f_X10_in F (zI v).toInt64 (zI a).toInt64 (zI b).toInt64 = some (if a ≤ v ∧ v ≤ b then nI 1 else nI 0) := by
  have e1 : (zI a ≤ zI v) ↔ a ≤ v := by rw [Int32.le_iff_toInt_le, zI_toInt v1 v2, zI_toInt a1 a2]
  have e2 : (zI v ≤ zI b) ↔ v ≤ b := by rw [Int32.le_iff_toInt_le, zI_toInt v1 v2, zI_toInt b1 b2]
  rw [f_in]
  simp only [e1, e2, l_1, l_0]
theorem isRow_z {M : Mem} {LM : MemL} {σ : Sg} (hM : StM M σ) (h1 : σ 1 ≤ 4) (F : Nat) {z : Int} (r1 : -2147483648 ≤ z) (r2 : z < 2147483648) : f_X10_isRow F M LM (zI z) = some (if 0 ≤ z ∧ z < (σ 1 : Int) then nI 1 else nI 0) := by
  rw [g_isRow hM h1]
  have e1 : (0 ≤ zI z) ↔ 0 ≤ z := by rw [Int32.le_iff_toInt_le, zI_toInt r1 r2]; rfl
  have e2 : (zI z < nI (σ 1)) ↔ z < (σ 1 : Int) := by rw [Int32.lt_iff_toInt_lt, zI_toInt r1 r2, nI_toInt (by omega)]
  simp only [e1, e2]
  simp only [l_1, l_0]
theorem isCol_z {M : Mem} {LM : MemL} {σ : Sg} (hM : StM M σ) (h1 : σ 0 ≤ 6) (F : Nat) {z : Int} (r1 : -2147483648 ≤ z) (r2 : z < 2147483648) : f_X10_isColumn F M LM (zI z) = some (if 0 ≤ z ∧ z < (σ 0 : Int) then nI 1 else nI 0) := by
  rw [g_isColumn hM h1]
  have e1 : (0 ≤ zI z) ↔ 0 ≤ z := by rw [Int32.le_iff_toInt_le, zI_toInt r1 r2]; rfl
  have e2 : (zI z < nI (σ 0)) ↔ z < (σ 0 : Int) := by rw [Int32.lt_iff_toInt_lt, zI_toInt r1 r2, nI_toInt (by omega)]
  simp only [e1, e2]
  simp only [l_1, l_0]
theorem hasRow_n {C : Mem} {σ : Sg} (hC : StC C σ) (h1 : σ 1 ≤ 4) (F : Nat) {r : Nat} (hr : r < σ 1) : f_X0_hasRow F C (nI r) = some (nI 1) := by
  unfold f_X0_hasRow
  simp (disch := omega) only [l_0, l_1, l_2, l_3, l_4, l_5, l_6, l_7, l_8, l_9, l_10, l_12, l_20, l_24, l_25, l_31, l_32, l_48, l_50, l_56, l_57, l_59, l_97, l_99, l_100, l_120, l_122, l_177, l_178, l_201, l_226, l_255, l_400, l_420, l_600, l_700, l_840, l_1000, l_1300, l_2000, l_1000000, nI_add, mr4, ml4, mr5, ml5, mr6, ml6, mr10, ml10, mr24, ml24, mr201, ml201, mr420, ml420, mr226, ml226, mr2, ml2, nI_clamp, lt_T, lt_F, le_T, le_F, eq_T, eq_F, ck_n, dv_n, cp_n, rem_n, pk_div, at1_same, at1_ne, cb_n, Option.bind_some, if_pos, if_neg, ↓reduceIte, and_self, and_true, true_and, and_false, false_and, not_true_eq_false, not_false_eq_true, nI_sub', zz_add, zz_sub, zz_mul, zn_add, nz_add, zn_sub, nz_sub, zn_mul, nz_mul, z_neg, n_neg, zlt_T, zlt_F, zle_T, zle_F, zeq_T, zeq_F, zn_lt, nz_lt, zn_le, nz_le, zn_eq, nz_eq, cR hC]
theorem hasCol_n {C : Mem} {σ : Sg} (hC : StC C σ) (h1 : σ 0 ≤ 6) (F : Nat) {r : Nat} (hr : r < σ 0) : f_X0_hasColumn F C (nI r) = some (nI 1) := by
  unfold f_X0_hasColumn
  simp (disch := omega) only [l_0, l_1, l_2, l_3, l_4, l_5, l_6, l_7, l_8, l_9, l_10, l_12, l_20, l_24, l_25, l_31, l_32, l_48, l_50, l_56, l_57, l_59, l_97, l_99, l_100, l_120, l_122, l_177, l_178, l_201, l_226, l_255, l_400, l_420, l_600, l_700, l_840, l_1000, l_1300, l_2000, l_1000000, nI_add, mr4, ml4, mr5, ml5, mr6, ml6, mr10, ml10, mr24, ml24, mr201, ml201, mr420, ml420, mr226, ml226, mr2, ml2, nI_clamp, lt_T, lt_F, le_T, le_F, eq_T, eq_F, ck_n, dv_n, cp_n, rem_n, pk_div, at1_same, at1_ne, cb_n, Option.bind_some, if_pos, if_neg, ↓reduceIte, and_self, and_true, true_and, and_false, false_and, not_true_eq_false, not_false_eq_true, nI_sub', zz_add, zz_sub, zz_mul, zn_add, nz_add, zn_sub, nz_sub, zn_mul, nz_mul, z_neg, n_neg, zlt_T, zlt_F, zle_T, zle_F, zeq_T, zeq_F, zn_lt, nz_lt, zn_le, nz_le, zn_eq, nz_eq, cC hC]
theorem hasCol_o {C : Mem} {σ : Sg} (hC : StC C σ) (h1 : σ 0 ≤ 6) (F : Nat) {r : Nat} (hr : σ 0 ≤ r) (h2 : r < 2147483648) : f_X0_hasColumn F C (nI r) = some (nI 0) := by
  unfold f_X0_hasColumn
  simp (disch := omega) only [l_0, l_1, l_2, l_3, l_4, l_5, l_6, l_7, l_8, l_9, l_10, l_12, l_20, l_24, l_25, l_31, l_32, l_48, l_50, l_56, l_57, l_59, l_97, l_99, l_100, l_120, l_122, l_177, l_178, l_201, l_226, l_255, l_400, l_420, l_600, l_700, l_840, l_1000, l_1300, l_2000, l_1000000, nI_add, mr4, ml4, mr5, ml5, mr6, ml6, mr10, ml10, mr24, ml24, mr201, ml201, mr420, ml420, mr226, ml226, mr2, ml2, nI_clamp, lt_T, lt_F, le_T, le_F, eq_T, eq_F, ck_n, dv_n, cp_n, rem_n, pk_div, at1_same, at1_ne, cb_n, Option.bind_some, if_pos, if_neg, ↓reduceIte, and_self, and_true, true_and, and_false, false_and, not_true_eq_false, not_false_eq_true, nI_sub', zz_add, zz_sub, zz_mul, zn_add, nz_add, zn_sub, nz_sub, zn_mul, nz_mul, z_neg, n_neg, zlt_T, zlt_F, zle_T, zle_F, zeq_T, zeq_F, zn_lt, nz_lt, zn_le, nz_le, zn_eq, nz_eq, cC hC]
theorem hasRow_x {C : Mem} {σ : Sg} (hC : StC C σ) (h1 : σ 1 ≤ 4) (F : Nat) {z : Int} (h : ¬ (0 ≤ z ∧ z < (σ 1 : Int))) (r1 : -2147483648 ≤ z) (r2 : z < 2147483648) : f_X0_hasRow F C (zI z) = some (nI 0) := by
  rw [hasRow_z hC h1 F r1 r2, if_neg h]
theorem hasCol_x {C : Mem} {σ : Sg} (hC : StC C σ) (h1 : σ 0 ≤ 6) (F : Nat) {z : Int} (h : ¬ (0 ≤ z ∧ z < (σ 0 : Int))) (r1 : -2147483648 ≤ z) (r2 : z < 2147483648) : f_X0_hasColumn F C (zI z) = some (nI 0) := by
  rw [hasCol_z hC h1 F r1 r2, if_neg h]
theorem isRow_n {M : Mem} {LM : MemL} {σ : Sg} (hM : StM M σ) (h1 : σ 1 ≤ 4) (F : Nat) {r : Nat} (hr : r < σ 1) : f_X10_isRow F M LM (nI r) = some (nI 1) := by
  rw [← zI_c, isRow_z hM h1 F (by omega) (by omega), if_pos (by omega)]
theorem isCol_n {M : Mem} {LM : MemL} {σ : Sg} (hM : StM M σ) (h1 : σ 0 ≤ 6) (F : Nat) {r : Nat} (hr : r < σ 0) : f_X10_isColumn F M LM (nI r) = some (nI 1) := by
  rw [← zI_c, isCol_z hM h1 F (by omega) (by omega), if_pos (by omega)]
theorem isCol_o {M : Mem} {LM : MemL} {σ : Sg} (hM : StM M σ) (h1 : σ 0 ≤ 6) (F : Nat) {r : Nat} (hr : σ 0 ≤ r) (h2 : r < 2147483648) : f_X10_isColumn F M LM (nI r) = some (nI 0) := by
  rw [← zI_c, isCol_z hM h1 F (by omega) (by omega), if_neg (by omega)]
theorem isRow_x {M : Mem} {LM : MemL} {σ : Sg} (hM : StM M σ) (h1 : σ 1 ≤ 4) (F : Nat) {z : Int} (h : ¬ (0 ≤ z ∧ z < (σ 1 : Int))) (r1 : -2147483648 ≤ z) (r2 : z < 2147483648) : f_X10_isRow F M LM (zI z) = some (nI 0) := by
  rw [isRow_z hM h1 F r1 r2, if_neg h]
theorem isCol_x {M : Mem} {LM : MemL} {σ : Sg} (hM : StM M σ) (h1 : σ 0 ≤ 6) (F : Nat) {z : Int} (h : ¬ (0 ≤ z ∧ z < (σ 0 : Int))) (r1 : -2147483648 ≤ z) (r2 : z < 2147483648) : f_X10_isColumn F M LM (zI z) = some (nI 0) := by
  rw [isCol_z hM h1 F r1 r2, if_neg h]
theorem isCell_n {M : Mem} {LM : MemL} {σ : Sg} (hM : StM M σ) (h0 : σ 0 ≤ 6) (h1 : σ 1 ≤ 4) (F : Nat) {r c : Nat} (hr : r < σ 1) (hc : c < σ 0) : f_X10_isCell F M LM (nI r) (nI c) = some (nI 1) := by
  unfold f_X10_isCell
  simp (disch := omega) only [l_0, l_1, l_2, l_3, l_4, l_5, l_6, l_7, l_8, l_9, l_10, l_12, l_20, l_24, l_25, l_31, l_32, l_48, l_50, l_56, l_57, l_59, l_97, l_99, l_100, l_120, l_122, l_177, l_178, l_201, l_226, l_255, l_400, l_420, l_600, l_700, l_840, l_1000, l_1300, l_2000, l_1000000, nI_add, mr4, ml4, mr5, ml5, mr6, ml6, mr10, ml10, mr24, ml24, mr201, ml201, mr420, ml420, mr226, ml226, mr2, ml2, nI_clamp, lt_T, lt_F, le_T, le_F, eq_T, eq_F, ck_n, dv_n, cp_n, rem_n, pk_div, at1_same, at1_ne, cb_n, Option.bind_some, if_pos, if_neg, ↓reduceIte, and_self, and_true, true_and, and_false, false_and, not_true_eq_false, not_false_eq_true, nI_sub', isRow_n hM h1 F hr, isCol_n hM h0 F hc]
theorem isCell_x {M : Mem} {LM : MemL} {σ : Sg} (hM : StM M σ) (h0 : σ 0 ≤ 6) (h1 : σ 1 ≤ 4) (F : Nat) {x y : Int} (h : ¬ ((0 ≤ x ∧ x < (σ 1 : Int)) ∧ 0 ≤ y ∧ y < (σ 0 : Int))) (x1 : -2147483648 ≤ x) (x2 : x < 2147483648) (y1 : -2147483648 ≤ y) (y2 : y < 2147483648) : f_X10_isCell F M LM (zI x) (zI y) = some (nI 0) := by
  unfold f_X10_isCell
  by_cases hx : 0 ≤ x ∧ x < (σ 1 : Int)
  · simp (disch := omega) only [l_0, l_1, l_2, l_3, l_4, l_5, l_6, l_7, l_8, l_9, l_10, l_12, l_20, l_24, l_25, l_31, l_32, l_48, l_50, l_56, l_57, l_59, l_97, l_99, l_100, l_120, l_122, l_177, l_178, l_201, l_226, l_255, l_400, l_420, l_600, l_700, l_840, l_1000, l_1300, l_2000, l_1000000, nI_add, mr4, ml4, mr5, ml5, mr6, ml6, mr10, ml10, mr24, ml24, mr201, ml201, mr420, ml420, mr226, ml226, mr2, ml2, nI_clamp, lt_T, lt_F, le_T, le_F, eq_T, eq_F, ck_n, dv_n, cp_n, rem_n, pk_div, at1_same, at1_ne, cb_n, Option.bind_some, if_pos, if_neg, ↓reduceIte, and_self, and_true, true_and, and_false, false_and, not_true_eq_false, not_false_eq_true, nI_sub', isRow_z hM h1 F x1 x2, isCol_x hM h0 F]
  · simp (disch := omega) only [l_0, l_1, l_2, l_3, l_4, l_5, l_6, l_7, l_8, l_9, l_10, l_12, l_20, l_24, l_25, l_31, l_32, l_48, l_50, l_56, l_57, l_59, l_97, l_99, l_100, l_120, l_122, l_177, l_178, l_201, l_226, l_255, l_400, l_420, l_600, l_700, l_840, l_1000, l_1300, l_2000, l_1000000, nI_add, mr4, ml4, mr5, ml5, mr6, ml6, mr10, ml10, mr24, ml24, mr201, ml201, mr420, ml420, mr226, ml226, mr2, ml2, nI_clamp, lt_T, lt_F, le_T, le_F, eq_T, eq_F, ck_n, dv_n, cp_n, rem_n, pk_div, at1_same, at1_ne, cb_n, Option.bind_some, if_pos, if_neg, ↓reduceIte, and_self, and_true, true_and, and_false, false_and, not_true_eq_false, not_false_eq_true, nI_sub', isRow_x hM h1 F]
theorem hasCell_n {C : Mem} {σ : Sg} (hC : StC C σ) (h0 : σ 0 ≤ 6) (h1 : σ 1 ≤ 4) (F : Nat) {r c : Nat} (hr : r < σ 1) (hc : c < σ 0) : f_X0_hasCell F C (nI r) (nI c) = some (nI 1) := by
  unfold f_X0_hasCell
  simp (disch := omega) only [l_0, l_1, l_2, l_3, l_4, l_5, l_6, l_7, l_8, l_9, l_10, l_12, l_20, l_24, l_25, l_31, l_32, l_48, l_50, l_56, l_57, l_59, l_97, l_99, l_100, l_120, l_122, l_177, l_178, l_201, l_226, l_255, l_400, l_420, l_600, l_700, l_840, l_1000, l_1300, l_2000, l_1000000, nI_add, mr4, ml4, mr5, ml5, mr6, ml6, mr10, ml10, mr24, ml24, mr201, ml201, mr420, ml420, mr226, ml226, mr2, ml2, nI_clamp, lt_T, lt_F, le_T, le_F, eq_T, eq_F, ck_n, dv_n, cp_n, rem_n, pk_div, at1_same, at1_ne, cb_n, Option.bind_some, if_pos, if_neg, ↓reduceIte, and_self, and_true, true_and, and_false, false_and, not_true_eq_false, not_false_eq_true, nI_sub', cC hC, cR hC]
theorem hasCell_x {C : Mem} {σ : Sg} (hC : StC C σ) (h0 : σ 0 ≤ 6) (h1 : σ 1 ≤ 4) (F : Nat) {x y : Int} (h : ¬ ((0 ≤ x ∧ x < (σ 1 : Int)) ∧ 0 ≤ y ∧ y < (σ 0 : Int))) (x1 : -2147483648 ≤ x) (x2 : x < 2147483648) (y1 : -2147483648 ≤ y) (y2 : y < 2147483648) : f_X0_hasCell F C (zI x) (zI y) = some (nI 0) := by
  unfold f_X0_hasCell
  by_cases hx : 0 ≤ x
  · by_cases hx' : x < (σ 1 : Int)
    · by_cases hy : 0 ≤ y
      · simp (disch := omega) only [l_0, l_1, l_2, l_3, l_4, l_5, l_6, l_7, l_8, l_9, l_10, l_12, l_20, l_24, l_25, l_31, l_32, l_48, l_50, l_56, l_57, l_59, l_97, l_99, l_100, l_120, l_122, l_177, l_178, l_201, l_226, l_255, l_400, l_420, l_600, l_700, l_840, l_1000, l_1300, l_2000, l_1000000, nI_add, mr4, ml4, mr5, ml5, mr6, ml6, mr10, ml10, mr24, ml24, mr201, ml201, mr420, ml420, mr226, ml226, mr2, ml2, nI_clamp, lt_T, lt_F, le_T, le_F, eq_T, eq_F, ck_n, dv_n, cp_n, rem_n, pk_div, at1_same, at1_ne, cb_n, Option.bind_some, if_pos, if_neg, ↓reduceIte, and_self, and_true, true_and, and_false, false_and, not_true_eq_false, not_false_eq_true, nI_sub', zz_add, zz_sub, zz_mul, zn_add, nz_add, zn_sub, nz_sub, zn_mul, nz_mul, z_neg, n_neg, zlt_T, zlt_F, zle_T, zle_F, zeq_T, zeq_F, zn_lt, nz_lt, zn_le, nz_le, zn_eq, nz_eq, cC hC, cR hC]
      · simp (disch := omega) only [l_0, l_1, l_2, l_3, l_4, l_5, l_6, l_7, l_8, l_9, l_10, l_12, l_20, l_24, l_25, l_31, l_32, l_48, l_50, l_56, l_57, l_59, l_97, l_99, l_100, l_120, l_122, l_177, l_178, l_201, l_226, l_255, l_400, l_420, l_600, l_700, l_840, l_1000, l_1300, l_2000, l_1000000, nI_add, mr4, ml4, mr5, ml5, mr6, ml6, mr10, ml10, mr24, ml24, mr201, ml201, mr420, ml420, mr226, ml226, mr2, ml2, nI_clamp, lt_T, lt_F, le_T, le_F, eq_T, eq_F, ck_n, dv_n, cp_n, rem_n, pk_div, at1_same, at1_ne, cb_n, Option.bind_some, if_pos, if_neg, ↓reduceIte, and_self, and_true, true_and, and_false, false_and, not_true_eq_false, not_false_eq_true, nI_sub', zz_add, zz_sub, zz_mul, zn_add, nz_add, zn_sub, nz_sub, zn_mul, nz_mul, z_neg, n_neg, zlt_T, zlt_F, zle_T, zle_F, zeq_T, zeq_F, zn_lt, nz_lt, zn_le, nz_le, zn_eq, nz_eq, cC hC, cR hC]
    · simp (disch := omega) only [l_0, l_1, l_2, l_3, l_4, l_5, l_6, l_7, l_8, l_9, l_10, l_12, l_20, l_24, l_25, l_31, l_32, l_48, l_50, l_56, l_57, l_59, l_97, l_99, l_100, l_120, l_122, l_177, l_178, l_201, l_226, l_255, l_400, l_420, l_600, l_700, l_840, l_1000, l_1300, l_2000, l_1000000, nI_add, mr4, ml4, mr5, ml5, mr6, ml6, mr10, ml10, mr24, ml24, mr201, ml201, mr420, ml420, mr226, ml226, mr2, ml2, nI_clamp, lt_T, lt_F, le_T, le_F, eq_T, eq_F, ck_n, dv_n, cp_n, rem_n, pk_div, at1_same, at1_ne, cb_n, Option.bind_some, if_pos, if_neg, ↓reduceIte, and_self, and_true, true_and, and_false, false_and, not_true_eq_false, not_false_eq_true, nI_sub', zz_add, zz_sub, zz_mul, zn_add, nz_add, zn_sub, nz_sub, zn_mul, nz_mul, z_neg, n_neg, zlt_T, zlt_F, zle_T, zle_F, zeq_T, zeq_F, zn_lt, nz_lt, zn_le, nz_le, zn_eq, nz_eq, cC hC, cR hC]
  · simp (disch := omega) only [l_0, l_1, l_2, l_3, l_4, l_5, l_6, l_7, l_8, l_9, l_10, l_12, l_20, l_24, l_25, l_31, l_32, l_48, l_50, l_56, l_57, l_59, l_97, l_99, l_100, l_120, l_122, l_177, l_178, l_201, l_226, l_255, l_400, l_420, l_600, l_700, l_840, l_1000, l_1300, l_2000, l_1000000, nI_add, mr4, ml4, mr5, ml5, mr6, ml6, mr10, ml10, mr24, ml24, mr201, ml201, mr420, ml420, mr226, ml226, mr2, ml2, nI_clamp, lt_T, lt_F, le_T, le_F, eq_T, eq_F, ck_n, dv_n, cp_n, rem_n, pk_div, at1_same, at1_ne, cb_n, Option.bind_some, if_pos, if_neg, ↓reduceIte, and_self, and_true, true_and, and_false, false_and, not_true_eq_false, not_false_eq_true, nI_sub', zz_add, zz_sub, zz_mul, zn_add, nz_add, zn_sub, nz_sub, zn_mul, nz_mul, z_neg, n_neg, zlt_T, zlt_F, zle_T, zle_F, zeq_T, zeq_F, zn_lt, nz_lt, zn_le, nz_le, zn_eq, nz_eq, cC hC, cR hC]
