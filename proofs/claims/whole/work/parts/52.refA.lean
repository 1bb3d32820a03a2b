/-! PURE LAYER: the reference's small readers -/
theorem g_isCell {M : Mem} {LM : MemL} {σ : Sg} (hM : StM M σ) (h0 : σ 0 ≤ 6) (h1 : σ 1 ≤ 4) (F : Nat) (x y : Int32) : f_X10_isCell F M LM x y = some (if (0 ≤ x ∧ x < nI (σ 1)) ∧ 0 ≤ y ∧ y < nI (σ 0) then 1 else 0) := by
  unfold f_X10_isCell
  rw [g_isRow hM h1]
  show (if (if 0 ≤ x ∧ x < nI (σ 1) then (1 : Int32) else 0) = 0 then _ else _) = _
  by_cases h : 0 ≤ x ∧ x < nI (σ 1)
  · rw [if_pos h, if_neg (by decide), g_isColumn hM h0]
    show (if (if 0 ≤ y ∧ y < nI (σ 0) then (1 : Int32) else 0) = 0 then some (0 : Int32) else some 1) = _
    by_cases h' : 0 ≤ y ∧ y < nI (σ 0)
    · rw [if_pos h', if_neg (by decide), if_pos ⟨h, h'⟩]
    · rw [if_neg h', if_pos rfl, if_neg (fun q => h' q.2)]
  · rw [if_neg h, if_pos rfl, if_neg (fun q => h q.1)]
theorem g_ratio {M : Mem} {LM : MemL} {σ : Sg} (hM : StM M σ) (F : Nat) {j : Nat} (hj : j < 224) : f_X10_ratio F M LM (nI j) = some (nI (σ (2 + j))) := by
  unfold f_X10_ratio
  have e : (2 : Int32) + nI j = nI (2 + j) := nI_add 2 j
  rw [e, ck_n (by omega) (by decide), nI_clamp (by omega), hM (2 + j) (by omega)]
theorem g_now {M : Mem} {LM : MemL} {σ : Sg} (hM : StM M σ) (F : Nat) {r c : Nat} (hr : r < 4) (hc : c < 6) : f_X10_now F M LM (nI r) (nI c) = some (nI (σ (8 + 6 * r + c))) := by
  unfold f_X10_now f_X10_cell
  have e1 : (6 : Int32) * nI r = nI (6 * r) := nI_mul' 6 r
  have e2 : (8 : Int32) + nI (6 * r + c) = nI (8 + (6 * r + c)) := nI_add 8 _
  show ck (8 + (6 * nI r + nI c)) 226 _ = _
  rw [e1, nI_add, e2, ck_n (by omega) (by decide)]
  rw [nI_clamp (by omega), hM _ (by omega), Nat.add_assoc]
/-- what a column is worth -/
def wo (σ : Sg) : Nat → Nat
  | 0 => 1
  | c + 1 => wo σ c * σ (2 + (c + 1))
theorem wo_le {σ : Sg} (hs : okS σ) : ∀ c, c < σ 0 → wo σ c ≤ 20 ^ c
  | 0, _ => Nat.le_refl _
  | c + 1, h => by
    have h1 := wo_le hs c (by omega)
    have h2 := (hs.2.2.2.2.1 (c + 1) (by omega) h).2
    exact Nat.mul_le_mul h1 h2
theorem g_worthLoop {M : Mem} {LM : MemL} {σ : Sg} (hM : StM M σ) (F : Nat) (k : Int32 → Option Int32) {c : Nat} (hc : c < 6) : ∀ (d i n : Nat), i + d = c → d + 1 < n → f_X10_worthOf_4 F M LM (nI c) k n (nI (wo σ i)) (nI (i + 1)) = k (nI (wo σ c))
  | 0, i, 0, _, h => by omega
  | 0, i, n + 1, hi, _ => by
    have e : i = c := by omega
    subst e
    unfold f_X10_worthOf_4
    rw [if_pos (nI_lt (by omega) (by omega))]
  | d + 1, i, 0, _, h => by omega
  | d + 1, i, n + 1, hi, hn => by
    unfold f_X10_worthOf_4
    rw [if_neg (nI_nlt (by omega) (by omega)), g_ratio hM F (by omega)]
    show f_X10_worthOf_4 F M LM (nI c) k n (nI (wo σ i) * nI (σ (2 + (i + 1)))) (nI (i + 1) + 1) = _
    rw [nI_mul', nI_1]
    exact g_worthLoop hM F k hc d (i + 1) n (by omega) (by omega)
theorem g_worthOf {M : Mem} {LM : MemL} {σ : Sg} (hM : StM M σ) {F : Nat} (hF : 10 ≤ F) {c : Nat} (hc : c < 6) : f_X10_worthOf F M LM (nI c) = some (nI (wo σ c)) := by
  unfold f_X10_worthOf
  exact g_worthLoop hM F _ hc c 0 F (by omega) (by omega)
/-- SUM and COUNTERS of a row, of its first columns -/
def smN (σ : Sg) (r : Nat) : Nat → Nat
  | 0 => 0
  | c + 1 => smN σ r c + σ (8 + 6 * r + c) * wo σ c
def ctN (σ : Sg) (r : Nat) : Nat → Nat
  | 0 => 0
  | c + 1 => ctN σ r c + σ (8 + 6 * r + c)
theorem g_sumLoop {M : Mem} {LM : MemL} {σ : Sg} (hM : StM M σ) (h0 : σ 0 ≤ 6) {F : Nat} (hF : 10 ≤ F) (k : Int32 → Option Int32) {r : Nat} (hr : r < 4) : ∀ (d i n : Nat), i + d = σ 0 → d < n → f_X10_sumOf_4 F M LM (nI r) k n (nI (smN σ r i)) (nI i) = k (nI (smN σ r (σ 0)))
  | d, i, 0, _, h => by omega
  | d, i, n + 1, hi, hn => by
    have hck : ∀ E : Option Int32, ck 0 226 E = E := fun E => ck_n (i := 0) (by decide) (by decide)
    have e0 : M 1 (0 : Int32).toNatClampNeg = nI (σ 0) := hM 0 (by omega)
    unfold f_X10_sumOf_4
    rw [hck, e0]
    cases d with
    | zero =>
      have e : i = σ 0 := by omega
      subst e
      rw [if_pos (nI_le (Nat.le_refl _) (by omega))]
    | succ d =>
      rw [if_neg (nI_ge (by omega) (by omega)), g_now hM F hr (by omega)]
      show (f_X10_worthOf F M LM (nI i)).bind _ = _
      rw [g_worthOf hM hF (by omega)]
      show f_X10_sumOf_4 F M LM (nI r) k n (nI (smN σ r i) + nI (σ (8 + 6 * r + i)) * nI (wo σ i)) (nI i + 1) = _
      rw [nI_mul', nI_add, nI_1]
      exact g_sumLoop hM h0 hF k hr d (i + 1) n (by omega) (by omega)
theorem g_sumOf {M : Mem} {LM : MemL} {σ : Sg} (hM : StM M σ) (h0 : σ 0 ≤ 6) {F : Nat} (hF : 10 ≤ F) {r : Nat} (hr : r < 4) : f_X10_sumOf F M LM (nI r) = some (nI (smN σ r (σ 0))) := by
  unfold f_X10_sumOf
  exact g_sumLoop hM h0 hF _ hr (σ 0) 0 F (by omega) (by omega)
theorem g_ctLoop {M : Mem} {LM : MemL} {σ : Sg} (hM : StM M σ) (h0 : σ 0 ≤ 6) {F : Nat} (k : Int32 → Option Int32) {r : Nat} (hr : r < 4) : ∀ (d i n : Nat), i + d = σ 0 → d < n → f_X10_countersOf_4 F M LM (nI r) k n (nI (ctN σ r i)) (nI i) = k (nI (ctN σ r (σ 0)))
  | d, i, 0, _, h => by omega
  | d, i, n + 1, hi, hn => by
    have hck : ∀ E : Option Int32, ck 0 226 E = E := fun E => ck_n (i := 0) (by decide) (by decide)
    have e0 : M 1 (0 : Int32).toNatClampNeg = nI (σ 0) := hM 0 (by omega)
    unfold f_X10_countersOf_4
    rw [hck, e0]
    cases d with
    | zero =>
      have e : i = σ 0 := by omega
      subst e
      rw [if_pos (nI_le (Nat.le_refl _) (by omega))]
    | succ d =>
      rw [if_neg (nI_ge (by omega) (by omega)), g_now hM F hr (by omega)]
      show f_X10_countersOf_4 F M LM (nI r) k n (nI (ctN σ r i) + nI (σ (8 + 6 * r + i))) (nI i + 1) = _
      rw [nI_add, nI_1]
      exact g_ctLoop hM h0 k hr d (i + 1) n (by omega) (by omega)
theorem g_countersOf {M : Mem} {LM : MemL} {σ : Sg} (hM : StM M σ) (h0 : σ 0 ≤ 6) {F : Nat} (hF : 10 ≤ F) {r : Nat} (hr : r < 4) : f_X10_countersOf F M LM (nI r) = some (nI (ctN σ r (σ 0))) := by
  unfold f_X10_countersOf
  exact g_ctLoop hM h0 _ hr (σ 0) 0 F (by omega) (by omega)
