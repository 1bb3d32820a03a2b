/-! PURE LAYER: ways, the class's side -/
def nL (a : Nat) : Int64 := Int64.ofNat a
theorem nL_add (a b : Nat) : nL a + nL b = nL (a + b) := (Int64.ofNat_add a b).symm
theorem nL_t {a : Nat} (h : a < 9223372036854775808) : (nL a).toInt = (a : Int) := Int64.toInt_ofNat_of_lt h
theorem lgz {a : Nat} (h : a < 9223372036854775808) : lg_cmp (nL a) 0 = (if a = 0 then 0 else 1) := by
  by_cases q : a = 0
  · rw [if_pos q, q]; decide
  · rw [if_neg q]
    unfold lg_cmp
    have e : nL a > 0 := by
      show (0 : Int64) < nL a
      rw [Int64.lt_iff_toInt_lt, nL_t h, show (0 : Int64).toInt = 0 by decide]
      omega
    rw [if_pos e]
/-- a sum a, g given up from below; the numbers of counters used lead to x = lo, lo + 1 .. -/
def loW (a u g : Nat) : Nat := a / u - (a - g) / u
def usW (a u g x : Nat) : Nat := (a - g) % u + (x - loW a u g) * u
def adW (a u cell g x m : Nat) : Nat := if g ≤ a ∧ loW a u g ≤ x ∧ usW a u g x ≤ cell ∧ usW a u g x ≤ a - g then m else 0
def nxW (w : Nat → Nat) (a u cell : Nat) : Nat → Nat → Nat
  | 0, _ => 0
  | g + 1, x => nxW w a u cell g x + adW a u cell g x (w g)
theorem ix_W {a u g t : Nat} (hu : 0 < u) (h : (a - g) % u + t * u ≤ a - g) : ((a - g) - ((a - g) % u + t * u)) / u = (a - g) / u - t ∧ t ≤ (a - g) / u ∧ (a - g) / u ≤ a / u := by
  have e := Nat.div_add_mod (a - g) u
  have hle : t ≤ (a - g) / u := by
    have h2 : t * u ≤ (a - g) / u * u := by rw [Nat.mul_comm ((a - g) / u) u]; omega
    exact Nat.le_of_mul_le_mul_right h2 hu
  refine ⟨?_, hle, Nat.div_le_div_right (Nat.sub_le a g)⟩
  have e2 : (a - g) - ((a - g) % u + t * u) = ((a - g) / u - t) * u := by
    rw [Nat.sub_mul, Nat.mul_comm ((a - g) / u) u]; omega
  rw [e2, Nat.mul_div_cancel _ hu]
theorem lt_W {a u g t cell : Nat} (hu : 2 ≤ u) (hg : g < 100) (hg2 : g ≤ a) (hc : cell ≤ 99) (h1 : (a - g) % u + t * u ≤ cell) (h2 : (a - g) % u + t * u ≤ a - g) : loW a u g + t < 100 := by
  obtain ⟨a1, a2, a3⟩ := ix_W (by omega) h2
  have e := Nat.div_add_mod (a - g) u
  have e3 := Nat.div_mul_le_self a u
  unfold loW
  have hx : (a / u - (a - g) / u + t) * u + ((a - g) / u - t) * u = a / u * u := by
    rw [← Nat.add_mul]
    congr 1
    omega
  have h4 : ((a - g) / u - t) * u = (a - g) - ((a - g) % u + t * u) := by
    rw [Nat.sub_mul, Nat.mul_comm ((a - g) / u) u]; omega
  have h5 : (a / u - (a - g) / u + t) * 2 ≤ (a / u - (a - g) / u + t) * u := Nat.mul_le_mul_left _ hu
  omega
theorem ad_0 {a u cell g x m : Nat} (hu : 2 ≤ u) (hg : g < 100) (hc : cell ≤ 99) (hx : 100 ≤ x) : adW a u cell g x m = 0 := by
  unfold adW
  refine if_neg (fun ⟨h1, h2, h3, h4⟩ => ?_)
  have := lt_W (t := x - loW a u g) hu hg h1 hc h3 h4
  omega
theorem ad_z (a u cell g x : Nat) : adW a u cell g x 0 = 0 := by
  unfold adW
  by_cases h : g ≤ a ∧ loW a u g ≤ x ∧ usW a u g x ≤ cell ∧ usW a u g x ≤ a - g
  · rw [if_pos h]
  · rw [if_neg h]
theorem ad_le (a u cell g x m : Nat) : adW a u cell g x m ≤ m := by
  unfold adW
  by_cases h : g ≤ a ∧ loW a u g ≤ x ∧ usW a u g x ≤ cell ∧ usW a u g x ≤ a - g
  · rw [if_pos h]; exact Nat.le_refl _
  · rw [if_neg h]; exact Nat.zero_le _
theorem nx_le {w : Nat → Nat} {a u cell B : Nat} (h : ∀ x, w x ≤ B) : ∀ g x, nxW w a u cell g x ≤ B * g
  | 0, _ => Nat.zero_le _
  | g + 1, x => by
    have a1 := nx_le (a := a) (u := u) (cell := cell) h g x
    have a2 := ad_le a u cell g x (w g)
    have a3 := h g
    show nxW w a u cell g x + adW a u cell g x (w g) ≤ B * (g + 1)
    rw [Nat.mul_succ]
    omega
theorem nx_0 {w : Nat → Nat} {a u cell : Nat} (hu : 2 ≤ u) (hc : cell ≤ 99) : ∀ g x, g ≤ 100 → 100 ≤ x → nxW w a u cell g x = 0
  | 0, _, _, _ => rfl
  | g + 1, x, hg, hx => by
    show nxW w a u cell g x + adW a u cell g x (w g) = 0
    rw [nx_0 hu hc g x (by omega) hx, ad_0 hu (by omega) hc hx]
theorem nx_ex {w : Nat → Nat} {a u cell : Nat} (h : ∀ x, 100 ≤ x → w x = 0) (x : Nat) : ∀ d, nxW w a u cell (100 + d) x = nxW w a u cell 100 x
  | 0 => rfl
  | d + 1 => by
    show nxW w a u cell (100 + d) x + adW a u cell (100 + d) x (w (100 + d)) = _
    rw [nx_ex h x d, h _ (by omega), ad_z, Nat.add_zero]
def nwC : Bool → Nat
  | true => 4
  | false => 3
def thC : Bool → Nat
  | true => 3
  | false => 4
theorem th_nw (b : Bool) : nwC b ≠ thC b := by cases b <;> decide
theorem nw_n (b : Bool) : nwC (!b) = thC b := by cases b <;> rfl
theorem updL_s (f : Nat → Int64) (k : Nat) (x : Int64) : vp_updL f k x k = x := if_pos rfl
theorem updL_n (f : Nat → Int64) {k j : Nat} (x : Int64) (h : j ≠ k) : vp_updL f k x j = f j := if_neg h
theorem h_clr2 {F : Nat} (k : MemL → Option MemL) : ∀ (d i n : Nat) (A : MemL), i + d = 100 → d < n → ∃ A', f_X5_clearWays_2 F k n A (nI i) = k A' ∧ ∀ x, A' 0 x = if i ≤ x ∧ x < 100 then 0 else A 0 x
  | d, i, 0, A, _, h => by omega
  | 0, i, n + 1, A, hi, _ => by
    obtain rfl : i = 100 := by omega
    refine ⟨A, by rw [f_X5_clearWays_2, if_pos (by decide)], fun x => ?_⟩
    rw [if_neg (show ¬ (100 ≤ x ∧ x < 100) by omega)]
  | d + 1, i, n + 1, A, hi, hn => by
    obtain ⟨A', a1, a2⟩ := h_clr2 (F := F) k d (i + 1) n (mr A 0 (vp_updL (A 0) i 0)) (by omega) (by omega)
    refine ⟨A', ?_, fun x => ?_⟩
    · rw [f_X5_clearWays_2, if_neg (show ¬ (100 : Int32) ≤ nI i from nI_ge (a := i) (b := 100) (by omega) (by decide)), ck_n (by omega) (by decide), nI_clamp (by omega), nI_1]
      exact a1
    · rw [a2, mr_s]
      by_cases q : x = i
      · rw [if_neg (show ¬ (i + 1 ≤ x ∧ x < 100) by omega), if_pos (show i ≤ x ∧ x < 100 by omega), q, updL_s]
      · rw [updL_n _ _ q]
        by_cases q2 : i ≤ x ∧ x < 100
        · rw [if_pos q2, if_pos (by omega)]
        · rw [if_neg q2, if_neg (by omega)]
theorem h_clr {F : Nat} (hF : 1000 ≤ F) (A : MemL) : ∃ A', f_X5_clearWays F A = some A' ∧ ∀ x, x < 100 → A' 0 x = 0 := by
  obtain ⟨A', a1, a2⟩ := h_clr2 (F := F) (fun x => some x) 100 0 F A (by omega) (by omega)
  exact ⟨A', a1, fun x hx => by rw [a2, if_pos ⟨Nat.zero_le _, hx⟩]⟩
theorem e_sp22 {F : Nat} {P : Mem} {b : Bool} {x1 x3 x4 x7 x8 : Int32} {x5 : Int64} {k : MemL → Option MemL} {n : Nat} {LP : MemL} : f_X5_spreadWays_22 F P b b x1 x3 x4 x5 x7 k (n + 1) LP x8 = (if x7 < x8 then k LP else dv x3 (dv x3 (if ((x4 / x3) - ((x1 - x8) / x3)) < 0 then f_X5_spreadWays_22 F P b b x1 x3 x4 x5 x7 k n LP (x8 + x3) else (if 100 ≤ ((x4 / x3) - ((x1 - x8) / x3)) then f_X5_spreadWays_22 F P b b x1 x3 x4 x5 x7 k n LP (x8 + x3) else ck ((x4 / x3) - ((x1 - x8) / x3)) 100 (ck ((x4 / x3) - ((x1 - x8) / x3)) 100 (f_X5_spreadWays_22 F P b b x1 x3 x4 x5 x7 k n (mr LP (thC b) (vp_updL (LP (thC b)) (((x4 / x3) - ((x1 - x8) / x3))).toNatClampNeg (((LP (thC b)) (((x4 / x3) - ((x1 - x8) / x3))).toNatClampNeg) + x5))) (x8 + x3))))))) := by
  cases b
  · rw [f_X5_spreadWays_22, if_neg Bool.false_ne_true]; rfl
  · rw [f_X5_spreadWays_22, if_pos (rfl : true = true)]; rfl
theorem h_sp22 {F : Nat} {P : Mem} {b : Bool} {a u g last cell : Nat} (ha : a < 2147483648) (hu : 2 ≤ u) (hu2 : u ≤ 20) (hg : g < 100) (hg2 : g ≤ a) (hc : cell ≤ 99) (hl : last ≤ cell) (hl2 : last ≤ a - g) (m : Int64) (k : MemL → Option MemL) : ∀ (d t n : Nat) (LP : MemL), last < (a - g) % u + t * u + d → (a - g) % u + t * u < 1000 → d < n → ∃ LP', f_X5_spreadWays_22 F P b b (nI (a - g)) (nI u) (nI a) m (nI last) k n LP (nI ((a - g) % u + t * u)) = k LP' ∧ (∀ c, c ≠ thC b → LP' c = LP c) ∧ ∀ x, LP' (thC b) x = if loW a u g + t ≤ x ∧ usW a u g x ≤ last then LP (thC b) x + m else LP (thC b) x
  | d, t, 0, LP, _, _, h => by omega
  | 0, t, n + 1, LP, h1, h2, _ => by
    refine ⟨LP, ?_, fun _ _ => rfl, fun x => ?_⟩
    · rw [e_sp22, if_pos (nI_lt (by omega) (by omega))]
    · refine (if_neg (fun ⟨q1, q2⟩ => ?_)).symm
      have : t * u ≤ (x - loW a u g) * u := Nat.mul_le_mul_right _ (by omega)
      unfold usW at q2
      omega
  | d + 1, t, n + 1, LP, h1, h2, hn => by
    by_cases q : last < (a - g) % u + t * u
    · exact (show ∃ LP', f_X5_spreadWays_22 F P b b (nI (a - g)) (nI u) (nI a) m (nI last) k (n + 1) LP (nI ((a - g) % u + t * u)) = k LP' ∧ (∀ c, c ≠ thC b → LP' c = LP c) ∧ ∀ x, LP' (thC b) x = if loW a u g + t ≤ x ∧ usW a u g x ≤ last then LP (thC b) x + m else LP (thC b) x from by
        refine ⟨LP, ?_, fun _ _ => rfl, fun x => ?_⟩
        · rw [e_sp22, if_pos (nI_lt (by omega) (by omega))]
        · refine (if_neg (fun ⟨q1, q2⟩ => ?_)).symm
          have : t * u ≤ (x - loW a u g) * u := Nat.mul_le_mul_right _ (by omega)
          unfold usW at q2
          omega)
    · obtain ⟨i1, i2, i3⟩ := ix_W (a := a) (u := u) (g := g) (t := t) (by omega) (by omega)
      have hlt := lt_W (t := t) hu hg hg2 hc (by omega) (by omega)
      have au : a / u ≤ a := Nat.div_le_self _ _
      have eix : nI a / nI u - (nI (a - g) - nI ((a - g) % u + t * u)) / nI u = nI (loW a u g + t) := by
        rw [nI_sub' (by omega), pk_div (by omega) (by omega) (by omega), pk_div (by omega) (by omega) (by omega), i1, nI_sub' (by omega)]
        unfold loW
        congr 1
        omega
      have enx : nI ((a - g) % u + t * u) + nI u = nI ((a - g) % u + (t + 1) * u) := by
        rw [nI_add, Nat.succ_mul, Nat.add_assoc]
      have e2 : (t + 1) * u = t * u + u := Nat.succ_mul t u
      have ih := h_sp22 (F := F) (P := P) (b := b) ha hu hu2 hg hg2 hc hl hl2 m k d (t + 1) n (mr LP (thC b) (vp_updL (LP (thC b)) (loW a u g + t) (LP (thC b) (loW a u g + t) + m))) (by omega) (by omega) (by omega)
      obtain ⟨LP', b1, b2, b3⟩ := ih
      refine ⟨LP', ?_, fun c hc => by rw [b2 c hc, mr_n _ _ hc], fun x => ?_⟩
      · rw [e_sp22, if_neg (nI_nlt (by omega) (by omega)), dv_n (by omega) (by omega), dv_n (by omega) (by omega), eix, if_neg (show ¬ nI (loW a u g + t) < (0 : Int32) from nI_nlt (b := 0) (by omega) (by omega)), if_neg (show ¬ (100 : Int32) ≤ nI (loW a u g + t) from nI_ge (b := 100) (by omega) (by decide)), ck_n (by omega) (by decide), ck_n (by omega) (by decide), nI_clamp (by omega), enx]
        exact b1
      · rw [b3, mr_s]
        by_cases e : x = loW a u g + t
        · have eu : usW a u g x = (a - g) % u + t * u := by
            unfold usW
            rw [e, Nat.add_sub_cancel_left]
          rw [if_neg (show ¬ (loW a u g + (t + 1) ≤ x ∧ usW a u g x ≤ last) by omega), if_pos (show loW a u g + t ≤ x ∧ usW a u g x ≤ last by omega), e, updL_s]
        · rw [updL_n _ _ e]
          by_cases q2 : loW a u g + t ≤ x ∧ usW a u g x ≤ last
          · rw [if_pos q2, if_pos (by omega)]
          · rw [if_neg q2, if_neg (by omega)]
theorem h_spread {F : Nat} {P : Mem} {b : Bool} {LP : MemL} (hF : 1000 ≤ F) {a u g cell m : Nat} (ha : a < 2147483648) (hu : 2 ≤ u) (hu2 : u ≤ 20) (hg : g < 100) (hc : cell ≤ 99) {w : Nat → Nat} (hw : ∀ x, x < 100 → LP (thC b) x = nL (w x)) : ∃ LP', f_X5_spreadWays F P LP b b (nI a - nI g) (nI cell) (nI u) (nI a) (nL m) = some LP' ∧ (∀ c, c ≠ thC b → LP' c = LP c) ∧ ∀ x, x < 100 → LP' (thC b) x = nL (w x + adW a u cell g x m) := by
  unfold f_X5_spreadWays
  rw [if_neg (show ¬ nI u < (1 : Int32) from nI_nlt (b := 1) (by omega) (by omega))]
  by_cases q : g ≤ a
  · rw [nI_sub' q, if_pos (show (0 : Int32) ≤ nI (a - g) from nI_le (a := 0) (by omega) (by omega)), dv_n (by omega) (by omega), pk_rem (by omega) (by omega) (by omega)]
    have hmod := Nat.mod_lt (a - g) (show 0 < u by omega)
    have key : ∀ last, last ≤ cell → last ≤ a - g → (last = cell ∨ last = a - g) → ∃ LP', f_X5_spreadWays_22 F P b b (nI (a - g)) (nI u) (nI a) (nL m) (nI last) (fun LP_75 => (some LP_75)) F LP (nI ((a - g) % u)) = some LP' ∧ (∀ c, c ≠ thC b → LP' c = LP c) ∧ ∀ x, x < 100 → LP' (thC b) x = nL (w x + adW a u cell g x m) := fun last l1 l2 l3 => by
      obtain ⟨LP', b1, b2, b3⟩ := h_sp22 (F := F) (P := P) (b := b) ha hu hu2 hg q hc l1 l2 (nL m) (fun LP_75 => (some LP_75)) 101 0 F LP (by omega) (by omega) (by omega)
      rw [Nat.zero_mul, Nat.add_zero] at b1
      refine ⟨LP', b1, b2, fun x hx => ?_⟩
      rw [b3, hw x hx]
      unfold adW
      by_cases q2 : loW a u g + 0 ≤ x ∧ usW a u g x ≤ last
      · rw [if_pos q2, if_pos (show g ≤ a ∧ loW a u g ≤ x ∧ usW a u g x ≤ cell ∧ usW a u g x ≤ a - g from ⟨q, q2.1, by omega, by omega⟩), nL_add]
      · rw [if_neg q2, if_neg (show ¬ (g ≤ a ∧ loW a u g ≤ x ∧ usW a u g x ≤ cell ∧ usW a u g x ≤ a - g) from fun ⟨_, g2, g3, g4⟩ => q2 ⟨g2, by omega⟩), Nat.add_zero]
    by_cases q3 : a - g < cell
    · rw [if_pos (nI_lt q3 (by omega))]
      exact key (a - g) (by omega) (Nat.le_refl _) (Or.inr rfl)
    · rw [if_neg (nI_nlt (by omega) (by omega))]
      exact key cell (Nat.le_refl _) (by omega) (Or.inl rfl)
  · refine ⟨LP, ?_, fun _ _ => rfl, fun x hx => ?_⟩
    · have : ¬ (0 : Int32) ≤ nI a - nI g := by
        rw [nn_sub, l_0, nz_le]
        exact of_eq_false (zle_F (by omega) (by omega) (by omega))
      rw [if_neg this]
    · rw [hw x hx]
      unfold adW
      rw [if_neg (fun h => q h.1), Nat.add_zero]
