/-! PURE LAYER: ways, the reference's side -/
theorem iL_t {a : Nat} (h : a < 2147483648) : ((nI a).toInt64).toInt = (a : Int) := by rw [Int32.toInt_toInt64, nI_toInt h]
theorem iL_sub {a b : Nat} (h : b ≤ a) (ha : a < 2147483648) : (nI a).toInt64 - (nI b).toInt64 = (nI (a - b)).toInt64 := Int64.toInt_inj.mp (by rw [lg_i2l_sub, iL_t (by omega), nI_toInt (by omega), nI_toInt (by omega)]; omega)
theorem iL_add {a b : Nat} (h : a + b < 2147483648) : (nI a).toInt64 + (nI b).toInt64 = (nI (a + b)).toInt64 := Int64.toInt_inj.mp (by rw [lg_i2l_add, iL_t (by omega), nI_toInt (by omega), nI_toInt (by omega)]; omega)
theorem zL_sub {a b : Nat} (ha : a < 2147483648) (hb : b < 2147483648) : (nI a).toInt64 - (nI b).toInt64 = (zI ((a : Int) - b)).toInt64 := Int64.toInt_inj.mp (by rw [lg_i2l_sub, Int32.toInt_toInt64, zI_toInt (by omega) (by omega), nI_toInt (by omega), nI_toInt (by omega)])
theorem iL_div {a b : Nat} (ha : a < 2147483648) (h0 : 0 < b) (hb : b < 2147483648) : (nI a).toInt64 / (nI b).toInt64 = (nI (a / b)).toInt64 := Int64.toInt_inj.mp (by
  have : a / b ≤ a := Nat.div_le_self _ _
  rw [lg_ldiv_nonneg (by rw [iL_t ha]; omega) (by rw [iL_t hb]; omega), iL_t ha, iL_t hb, iL_t (by omega)]
  first | rfl | exact (Int.natCast_ediv _ _).symm)
theorem iL_mul {a b : Nat} (h : a * b < 2147483648) (ha : a < 2147483648) (hb : b < 2147483648) : (nI a).toInt64 * (nI b).toInt64 = (nI (a * b)).toInt64 := Int64.toInt_inj.mp (by
  have e : ((nI a).toInt64).toInt * ((nI b).toInt64).toInt = ((a * b : Nat) : Int) := by rw [iL_t ha, iL_t hb, Int.natCast_mul]
  rw [Jvm.Kit.i64_mul (by rw [e]; omega) (by rw [e]; omega), e, iL_t h])
theorem iL_rem {a b : Nat} (ha : a < 2147483648) (h0 : 0 < b) (hb : b < 2147483648) : (nI a).toInt64 - (nI a).toInt64 / (nI b).toInt64 * (nI b).toInt64 = (nI (a % b)).toInt64 := by
  have e := Nat.div_mul_le_self a b
  have e2 := Nat.div_add_mod a b
  have e3 : a / b ≤ a := Nat.div_le_self _ _
  rw [iL_div ha h0 hb, iL_mul (by omega) (by omega) hb, iL_sub e ha, Nat.mul_comm]
  congr 2
  omega
theorem iL_ne {b : Nat} (h0 : 0 < b) (hb : b < 2147483648) : ¬ (nI b).toInt64 = 0 := fun q => by
  have := congrArg Int64.toInt q
  rw [iL_t hb, show (0 : Int64).toInt = 0 by decide] at this
  omega
theorem lgG {a b : Nat} (ha : a < 2147483648) (hb : b < 2147483648) : 0 < lg_cmp (nI a).toInt64 (nI b).toInt64 ↔ b < a := by
  rw [lgc_gt]
  exact ⟨fun h => Nat.lt_of_not_le (fun q => nI_nlt q (by omega) h), fun h => nI_lt h ha⟩
theorem g_wclr {F : Nat} {M : Mem} {x1 x2 : Int32} (k : MemL → Option (Int64 × MemL)) : ∀ (d i n : Nat) (A : MemL), i + d = 420 → d < n → ∃ A', f_X10_ways_18 F M x1 x2 k n A (nI i) = k A' ∧ (∀ c, c ≠ 7 → A' c = A c) ∧ ∀ x, A' 7 x = if i ≤ x ∧ x < 420 then 0 else A 7 x
  | d, i, 0, A, _, h => by omega
  | 0, i, n + 1, A, hi, _ => by
    obtain rfl : i = 420 := by omega
    refine ⟨A, by rw [f_X10_ways_18, if_pos (by decide)], fun _ _ => rfl, fun x => ?_⟩
    rw [if_neg (show ¬ (420 ≤ x ∧ x < 420) by omega)]
  | d + 1, i, n + 1, A, hi, hn => by
    obtain ⟨A', a1, a0, a2⟩ := g_wclr (F := F) (M := M) (x1 := x1) (x2 := x2) k d (i + 1) n (mr A 7 (vp_updL (A 7) i 0)) (by omega) (by omega)
    refine ⟨A', ?_, fun c hc => by rw [a0 c hc, mr_n _ _ hc], fun x => ?_⟩
    · rw [f_X10_ways_18, if_neg (show ¬ (420 : Int32) ≤ nI i from nI_ge (a := i) (b := 420) (by omega) (by decide)), ck_n (by omega) (by decide), nI_clamp (by omega), nI_1]
      exact a1
    · rw [a2, mr_s]
      by_cases q : x = i
      · rw [if_neg (show ¬ (i + 1 ≤ x ∧ x < 420) by omega), if_pos (show i ≤ x ∧ x < 420 by omega), q, updL_s]
      · rw [updL_n _ _ q]
        by_cases q2 : i ≤ x ∧ x < 420
        · rw [if_pos q2, if_pos (by omega)]
        · rw [if_neg q2, if_neg (by omega)]
theorem g_wclr8 {F : Nat} {M : Mem} {x1 x5 x6 : Int32} {x3 x7 : Int64} (k : MemL → Option (Int64 × MemL)) : ∀ (d i n : Nat) (A : MemL), i + d = 420 → d < n → ∃ A', f_X10_ways_84 F M x1 x3 x5 x6 x7 k n A (nI i) = k A' ∧ (∀ c, c ≠ 8 → A' c = A c) ∧ ∀ x, A' 8 x = if i ≤ x ∧ x < 420 then 0 else A 8 x
  | d, i, 0, A, _, h => by omega
  | 0, i, n + 1, A, hi, _ => by
    obtain rfl : i = 420 := by omega
    refine ⟨A, by rw [f_X10_ways_84, if_pos (by decide)], fun _ _ => rfl, fun x => ?_⟩
    rw [if_neg (show ¬ (420 ≤ x ∧ x < 420) by omega)]
  | d + 1, i, n + 1, A, hi, hn => by
    obtain ⟨A', a1, a0, a2⟩ := g_wclr8 (F := F) (M := M) (x1 := x1) (x3 := x3) (x5 := x5) (x6 := x6) (x7 := x7) k d (i + 1) n (mr A 8 (vp_updL (A 8) i 0)) (by omega) (by omega)
    refine ⟨A', ?_, fun c hc => by rw [a0 c hc, mr_n _ _ hc], fun x => ?_⟩
    · rw [f_X10_ways_84, if_neg (show ¬ (420 : Int32) ≤ nI i from nI_ge (a := i) (b := 420) (by omega) (by decide)), ck_n (by omega) (by decide), nI_clamp (by omega), nI_1]
      exact a1
    · rw [a2, mr_s]
      by_cases q : x = i
      · rw [if_neg (show ¬ (i + 1 ≤ x ∧ x < 420) by omega), if_pos (show i ≤ x ∧ x < 420 by omega), q, updL_s]
      · rw [updL_n _ _ q]
        by_cases q2 : i ≤ x ∧ x < 420
        · rw [if_pos q2, if_pos (by omega)]
        · rw [if_neg q2, if_neg (by omega)]
theorem g_wcpy {F : Nat} {M : Mem} {x1 x5 : Int32} {x3 : Int64} (k : MemL → Option (Int64 × MemL)) : ∀ (d i n : Nat) (A : MemL), i + d = 420 → d < n → ∃ A', f_X10_ways_227 F M x1 x3 x5 k n A (nI i) = k A' ∧ (∀ x, A' 7 x = if i ≤ x ∧ x < 420 then A 8 x else A 7 x)
  | d, i, 0, A, _, h => by omega
  | 0, i, n + 1, A, hi, _ => by
    obtain rfl : i = 420 := by omega
    refine ⟨A, by rw [f_X10_ways_227, if_pos (by decide)], fun x => ?_⟩
    rw [if_neg (show ¬ (420 ≤ x ∧ x < 420) by omega)]
  | d + 1, i, n + 1, A, hi, hn => by
    obtain ⟨A', a1, a2⟩ := g_wcpy (F := F) (M := M) (x1 := x1) (x3 := x3) (x5 := x5) k d (i + 1) n (mr A 7 (vp_updL (A 7) i (A 8 i))) (by omega) (by omega)
    refine ⟨A', ?_, fun x => ?_⟩
    · rw [f_X10_ways_227, if_neg (show ¬ (420 : Int32) ≤ nI i from nI_ge (a := i) (b := 420) (by omega) (by decide)), ck_n (by omega) (by decide), ck_n (by omega) (by decide), nI_clamp (by omega), nI_1]
      exact a1
    · rw [a2, mr_s, mr_n _ _ (by decide)]
      by_cases q : x = i
      · rw [if_neg (show ¬ (i + 1 ≤ x ∧ x < 420) by omega), if_pos (show i ≤ x ∧ x < 420 by omega), q, updL_s]
      · rw [updL_n _ _ q]
        by_cases q2 : i ≤ x ∧ x < 420
        · rw [if_pos q2, if_pos (by omega)]
        · rw [if_neg q2, if_neg (by omega)]
theorem g_w154 {F : Nat} {M : Mem} {σ : Sg} (hM : StM M σ) {a u g r c : Nat} (ha : a < 2147483648) (hu : 2 ≤ u) (hu2 : u ≤ 20) (hg : g < 100) (hg2 : g ≤ a) (hr : r < 4) (hc : c < 6) (hcell : σ (8 + (6 * r + c)) ≤ 99) (x3 : Int64) (k : MemL → Option (Int64 × MemL)) : ∀ (d t n : Nat) (A : MemL), σ (8 + (6 * r + c)) < (a - g) % u + t * u + d → (a - g) % u + t * u < 1000 → d < n → ∃ A', f_X10_ways_154 F M (nI r) x3 (nI c) (nI u) (nI (a / u)).toInt64 (nI g) (nI (a - g)).toInt64 k n A (nI ((a - g) % u + t * u)).toInt64 = k A' ∧ (∀ c, c ≠ 8 → A' c = A c) ∧ ∀ x, A' 8 x = if loW a u g + t ≤ x ∧ usW a u g x ≤ σ (8 + (6 * r + c)) ∧ usW a u g x ≤ a - g then A 8 x + A 7 g else A 8 x
  | d, t, 0, A, _, _, h => by omega
  | d, t, n + 1, A, h1, h2, hn => by
    have gn : f_X10_now F M A (nI r) (nI c) = some (nI (σ (8 + (6 * r + c)))) := by rw [g_now hM F hr hc, Nat.add_assoc]
    have stop : ¬ ((a - g) % u + t * u ≤ σ (8 + (6 * r + c)) ∧ (a - g) % u + t * u ≤ a - g) → f_X10_ways_154 F M (nI r) x3 (nI c) (nI u) (nI (a / u)).toInt64 (nI g) (nI (a - g)).toInt64 k (n + 1) A (nI ((a - g) % u + t * u)).toInt64 = k A ∧ ∀ x, A 8 x = if loW a u g + t ≤ x ∧ usW a u g x ≤ σ (8 + (6 * r + c)) ∧ usW a u g x ≤ a - g then A 8 x + A 7 g else A 8 x := fun hs => by
      refine ⟨?_, fun x => (if_neg (fun ⟨q1, q2, q3⟩ => ?_)).symm⟩
      · rw [f_X10_ways_154, gn, Option.bind_some]
        by_cases q : σ (8 + (6 * r + c)) < (a - g) % u + t * u
        · rw [if_pos ((lgG (by omega) (by omega)).mpr q)]
        · rw [if_neg (fun h => q ((lgG (by omega) (by omega)).mp h)), if_pos ((lgG (by omega) (by omega)).mpr (by omega))]
      · have : t * u ≤ (x - loW a u g) * u := Nat.mul_le_mul_right _ (by omega)
        unfold usW at q2 q3
        exact hs ⟨by omega, by omega⟩
    by_cases q : (a - g) % u + t * u ≤ σ (8 + (6 * r + c)) ∧ (a - g) % u + t * u ≤ a - g
    · obtain ⟨d, rfl⟩ : ∃ e, d = e + 1 := ⟨d - 1, by omega⟩
      obtain ⟨i1, i2, i3⟩ := ix_W (a := a) (u := u) (g := g) (t := t) (by omega) q.2
      have hlt := lt_W (t := t) hu hg hg2 hcell q.1 q.2
      have au : a / u ≤ a := Nat.div_le_self _ _
      have eix : ((nI (a / u)).toInt64 - ((nI (a - g)).toInt64 - (nI ((a - g) % u + t * u)).toInt64) / (nI u).toInt64).toInt32 = nI (loW a u g + t) := by
        rw [iL_sub q.2 (by omega), iL_div (by omega) (by omega) (by omega), i1, iL_sub (by omega) (by omega), lg_l2i_i2l]
        unfold loW
        congr 1
        omega
      have e2 : (t + 1) * u = t * u + u := Nat.succ_mul t u
      have enx : (nI ((a - g) % u + t * u)).toInt64 + (nI u).toInt64 = (nI ((a - g) % u + (t + 1) * u)).toInt64 := by
        rw [iL_add (by omega), e2, Nat.add_assoc]
      obtain ⟨A', b1, b2, b3⟩ := g_w154 (F := F) hM ha hu hu2 hg hg2 hr hc hcell x3 k d (t + 1) n (mr A 8 (vp_updL (A 8) (loW a u g + t) (A 8 (loW a u g + t) + A 7 g))) (by omega) (by omega) (by omega)
      refine ⟨A', ?_, fun c hc => by rw [b2 c hc, mr_n _ _ hc], fun x => ?_⟩
      · rw [f_X10_ways_154, gn, Option.bind_some, if_neg (fun h => absurd ((lgG (by omega) (by omega)).mp h) (by omega)), if_neg (fun h => absurd ((lgG (by omega) (by omega)).mp h) (by omega)), dvL_ne (iL_ne (by omega) (by omega)), eix, ck_n (by omega) (by decide), ck_n (by omega) (by decide), ck_n (by omega) (by decide), nI_clamp (by omega), nI_clamp (by omega), enx]
        exact b1
      · rw [b3, mr_s, mr_n _ _ (by decide)]
        by_cases e : x = loW a u g + t
        · have eu : usW a u g x = (a - g) % u + t * u := by
            unfold usW
            rw [e, Nat.add_sub_cancel_left]
          rw [if_neg (show ¬ (loW a u g + (t + 1) ≤ x ∧ usW a u g x ≤ σ (8 + (6 * r + c)) ∧ usW a u g x ≤ a - g) by omega), if_pos (show loW a u g + t ≤ x ∧ usW a u g x ≤ σ (8 + (6 * r + c)) ∧ usW a u g x ≤ a - g by omega), e, updL_s]
        · rw [updL_n _ _ e]
          by_cases q2 : loW a u g + t ≤ x ∧ usW a u g x ≤ σ (8 + (6 * r + c)) ∧ usW a u g x ≤ a - g
          · rw [if_pos q2, if_pos (by omega)]
          · rw [if_neg q2, if_neg (by omega)]
    · obtain ⟨s1, s2⟩ := stop q
      exact ⟨A, s1, fun _ _ => rfl, s2⟩
