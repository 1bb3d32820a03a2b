/-! PURE LAYER: ways, the class's side, its loops -/
theorem e_cw54 {F : Nat} {P C : Mem} {b : Bool} {x2 x4 x5 x6 x7 : Int32} {k : MemL → Option (Int64 × MemL × Bool × Bool)} {n : Nat} {LP : MemL} : f_X5_countWays_54 F P b b C x2 x4 x5 x6 k (n + 1) LP x7 = (if 100 ≤ x7 then k LP else ck x7 100 (if (lg_cmp ((LP (nwC b)) x7.toNatClampNeg) 0) = 0 then f_X5_countWays_54 F P b b C x2 x4 x5 x6 k n LP (x7 + 1) else ck ((x2 * 6) + x5) 24 (ck x7 100 ((f_X5_spreadWays F P LP b b (x4 - x7) ((C 3) (((x2 * 6) + x5)).toNatClampNeg) x6 x4 ((LP (nwC b)) x7.toNatClampNeg)).bind (fun z102 => f_X5_countWays_54 F P b b C x2 x4 x5 x6 k n z102 (x7 + 1)))))) := by
  cases b
  · rw [f_X5_countWays_54, if_neg Bool.false_ne_true]; rfl
  · rw [f_X5_countWays_54, if_pos (rfl : true = true)]; rfl
theorem h_cw54 {F : Nat} {P C : Mem} {σ : Sg} (hC : StC C σ) (hs : okS σ) {b : Bool} (hF : 1000 ≤ F) {a u r c : Nat} {w : Nat → Nat} (ha : a < 2147483648) (hu : 2 ≤ u) (hu2 : u ≤ 20) (hr : r < 4) (hc : c < 6) (hw : ∀ x, w x < 9223372036854775808) (k : MemL → Option (Int64 × MemL × Bool × Bool)) : ∀ (d g n : Nat) (LP : MemL), g + d = 100 → d < n → (∀ x, x < 100 → LP (nwC b) x = nL (w x)) → (∀ x, x < 100 → LP (thC b) x = nL (nxW w a u (σ (8 + (6 * r + c))) g x)) → ∃ LP', f_X5_countWays_54 F P b b C (nI r) (nI a) (nI c) (nI u) k n LP (nI g) = k LP' ∧ (∀ x, x < 100 → LP' (thC b) x = nL (nxW w a u (σ (8 + (6 * r + c))) 100 x))
  | d, g, 0, LP, _, h, _, _ => by omega
  | 0, g, n + 1, LP, hg, _, _, hT => by
    obtain rfl : g = 100 := by omega
    exact ⟨LP, by rw [e_cw54, if_pos (by decide)], hT⟩
  | d + 1, g, n + 1, LP, hg, hn, hN, hT => by
    have hcell := (kCe hs (j := 6 * r + c) (by omega)).1
    have ix : (nI r * 6) + nI c = nI (6 * r + c) := by rw [l_6, mr6, nI_add]
    by_cases q : w g = 0
    · obtain ⟨LP', b1, b2⟩ := h_cw54 (F := F) (P := P) hC hs (b := b) hF ha hu hu2 hr hc hw k d (g + 1) n LP (by omega) (by omega) hN (fun x hx => by
        show LP (thC b) x = nL (nxW w a u (σ (8 + (6 * r + c))) g x + adW a u (σ (8 + (6 * r + c))) g x (w g))
        rw [q, ad_z, Nat.add_zero]; exact hT x hx)
      refine ⟨LP', ?_, b2⟩
      rw [e_cw54, if_neg (show ¬ (100 : Int32) ≤ nI g from nI_ge (b := 100) (by omega) (by decide)), ck_n (by omega) (by decide), nI_clamp (by omega), hN g (by omega), lgz (hw g), if_pos q, if_pos (rfl : (0 : Int32) = 0), nI_1]
      exact b1
    · obtain ⟨LP1, a1, a2, a3⟩ := h_spread (F := F) (P := P) (b := b) (LP := LP) hF (m := w g) (g := g) ha hu hu2 (by omega) hcell hT
      obtain ⟨LP', b1, b2⟩ := h_cw54 (F := F) (P := P) hC hs (b := b) hF ha hu hu2 hr hc hw k d (g + 1) n LP1 (by omega) (by omega) (fun x hx => by rw [a2 _ (th_nw b)]; exact hN x hx) a3
      refine ⟨LP', ?_, b2⟩
      rw [e_cw54, if_neg (show ¬ (100 : Int32) ≤ nI g from nI_ge (b := 100) (by omega) (by decide)), ck_n (by omega) (by decide), nI_clamp (by omega), hN g (by omega), lgz (hw g), if_neg q, if_neg (show ¬ (1 : Int32) = 0 by decide), ix, ck_n (by omega) (by decide), ck_n (by omega) (by decide), nI_clamp (by omega), cCe hC (by omega), a1, Option.bind_some, nI_1]
      exact b1
def wyA (σ : Sg) (a : Nat) : Nat → Nat
  | 0 => a
  | c + 1 => wyA σ a c / σ (2 + (c + 1))
def wyW (σ : Sg) (r a : Nat) : Nat → Nat → Nat
  | 0, x => if x = 0 then 1 else 0
  | c + 1, x => nxW (wyW σ r a c) (wyA σ a c) (σ (2 + (c + 1))) (σ (8 + (6 * r + c))) 100 x
theorem wyA_le (σ : Sg) (a : Nat) : ∀ c, wyA σ a c ≤ a
  | 0 => Nat.le_refl _
  | c + 1 => Nat.le_trans (Nat.div_le_self _ _) (wyA_le σ a c)
theorem wyW_le (σ : Sg) (r a : Nat) : ∀ c x, wyW σ r a c x ≤ 100 ^ c
  | 0, x => by
    show (if x = 0 then 1 else 0) ≤ 1
    by_cases h : x = 0
    · rw [if_pos h]; exact Nat.le_refl _
    · rw [if_neg h]; exact Nat.zero_le _
  | c + 1, x => by
    rw [Nat.pow_succ]
    exact nx_le (wyW_le σ r a c) 100 x
theorem p100 : ∀ c, c < 6 → 100 ^ c < 9223372036854775808 := by decide
theorem wyW_lt (σ : Sg) (r a : Nat) {c : Nat} (hc : c < 6) (x : Nat) : wyW σ r a c x < 9223372036854775808 := Nat.lt_of_le_of_lt (wyW_le σ r a c x) (p100 c hc)
theorem wyW_0 {σ : Sg} (hs : okS σ) {r : Nat} (hr : r < 4) (a : Nat) : ∀ c x, c < σ 0 → 100 ≤ x → wyW σ r a c x = 0
  | 0, x, _, hx => if_neg (by omega)
  | c + 1, x, hc, hx => by
    have h0 := kC hs
    exact nx_0 (kRt hs (by omega) hc).1 ((kCe hs (j := 6 * r + c) (by omega)).1) 100 x (Nat.le_refl _) hx
theorem e_cw21 {F : Nat} {P C : Mem} {b : Bool} {x2 x4 x5 : Int32} {k : MemL → Bool → Bool → Int32 → Option (Int64 × MemL × Bool × Bool)} {n : Nat} {LP : MemL} : f_X5_countWays_21 F P C x2 k (n + 1) LP b b x4 x5 = (if ((C 0 6) - 1) ≤ x5 then k LP b b x4 else (f_X5_clearWays F (fun _ => (LP (thC b)))).bind (fun z37 => ck (x5 + 1) 6 (f_X5_countWays_54 F P b b C x2 x4 x5 ((C 1) ((x5 + 1)).toNatClampNeg) (fun LP_111 => (if ((C 1) ((x5 + 1)).toNatClampNeg) ≤ 0 then f_X5_countWays_21 F P C x2 k n LP_111 (!b) (!b) 0 (x5 + 1) else dv ((C 1) ((x5 + 1)).toNatClampNeg) (f_X5_countWays_21 F P C x2 k n LP_111 (!b) (!b) (x4 / ((C 1) ((x5 + 1)).toNatClampNeg)) (x5 + 1)))) F (mr LP (thC b) (z37 0)) 0))) := by
  cases b
  · rw [f_X5_countWays_21, if_neg Bool.false_ne_true]
    simp only [if_neg Bool.false_ne_true]
    rfl
  · rw [f_X5_countWays_21, if_pos (rfl : true = true)]
    simp only [if_pos (rfl : true = true)]
    rfl
theorem h_cw21 {F : Nat} {P C : Mem} {σ : Sg} (hC : StC C σ) (hs : okS σ) (hF : 1000 ≤ F) {a r : Nat} (ha : a < 2147483648) (hr : r < 4) (h0' : 0 < σ 0) (k : MemL → Bool → Bool → Int32 → Option (Int64 × MemL × Bool × Bool)) : ∀ (d c n : Nat) (LP : MemL) (b : Bool), c + d + 1 = σ 0 → d < n → (∀ x, x < 100 → LP (nwC b) x = nL (wyW σ r a c x)) → ∃ LP' b', f_X5_countWays_21 F P C (nI r) k n LP b b (nI (wyA σ a c)) (nI c) = k LP' b' b' (nI (wyA σ a (σ 0 - 1))) ∧ ∀ x, x < 100 → LP' (nwC b') x = nL (wyW σ r a (σ 0 - 1) x)
  | d, c, 0, LP, b, _, h, _ => by omega
  | 0, c, n + 1, LP, b, hc, _, hN => by
    have h0 := kC hs
    obtain rfl : c = σ 0 - 1 := by omega
    refine ⟨LP, b, ?_, hN⟩
    rw [e_cw21, cC hC, show nI (σ 0) - 1 = nI (σ 0 - 1) from nI_sub' (b := 1) h0', if_pos (nI_le (Nat.le_refl _) (by omega))]
  | d + 1, c, n + 1, LP, b, hc, hn, hN => by
    have h0 := kC hs
    have al := wyA_le σ a c
    obtain ⟨u1, u2⟩ := kRt hs (j := c + 1) (by omega) (by omega)
    obtain ⟨A', a1, a2⟩ := h_clr hF (fun _ => (LP (thC b)))
    obtain ⟨LP1, b1, b2⟩ := h_cw54 (F := F) (P := P) hC hs (b := b) hF (a := wyA σ a c) (u := σ (2 + (c + 1))) (r := r) (c := c) (w := wyW σ r a c) (by omega) u1 u2 hr (by omega) (wyW_lt σ r a (by omega)) (fun LP_111 => (if nI (σ (2 + (c + 1))) ≤ 0 then f_X5_countWays_21 F P C (nI r) k n LP_111 (!b) (!b) 0 (nI (c + 1)) else dv (nI (σ (2 + (c + 1)))) (f_X5_countWays_21 F P C (nI r) k n LP_111 (!b) (!b) (nI (wyA σ a c) / nI (σ (2 + (c + 1)))) (nI (c + 1))))) 100 0 F (mr LP (thC b) (A' 0)) (by omega) (by omega) (fun x hx => by rw [mr_n _ _ (th_nw b)]; exact hN x hx) (fun x hx => by rw [mr_s, a2 x hx]; rfl)
    obtain ⟨LP', b', c1, c2⟩ := h_cw21 (F := F) (P := P) hC hs hF ha hr h0' k d (c + 1) n LP1 (!b) (by omega) (by omega) (fun x hx => by rw [nw_n]; exact b2 x hx)
    refine ⟨LP', b', ?_, c2⟩
    rw [e_cw21, cC hC, show nI (σ 0) - 1 = nI (σ 0 - 1) from nI_sub' (b := 1) h0', if_neg (nI_ge (by omega) (by omega)), a1, Option.bind_some, nI_1, ck_n (by omega) (by decide), nI_clamp (by omega), cRt hC (by omega)]
    refine b1.trans ?_
    show (if nI (σ (2 + (c + 1))) ≤ 0 then f_X5_countWays_21 F P C (nI r) k n LP1 (!b) (!b) 0 (nI (c + 1)) else dv (nI (σ (2 + (c + 1)))) (f_X5_countWays_21 F P C (nI r) k n LP1 (!b) (!b) (nI (wyA σ a c) / nI (σ (2 + (c + 1)))) (nI (c + 1)))) = _
    rw [if_neg (show ¬ nI (σ (2 + (c + 1))) ≤ (0 : Int32) from nI_ge (a := 0) (by omega) (by omega)), dv_n (by omega) (by omega), pk_div (by omega) (by omega) (by omega)]
    exact c1
def tpW (w : Nat → Nat) (a cell : Nat) : Nat → Nat
  | 0 => 0
  | i + 1 => tpW w a cell i + (if i ≤ a ∧ a - i ≤ cell then w i else 0)
theorem tp_ex {w : Nat → Nat} {a cell : Nat} (h : ∀ x, 100 ≤ x → w x = 0) : ∀ d, tpW w a cell (100 + d) = tpW w a cell 100
  | 0 => rfl
  | d + 1 => by
    show tpW w a cell (100 + d) + (if 100 + d ≤ a ∧ a - (100 + d) ≤ cell then w (100 + d) else 0) = _
    rw [tp_ex h d, h _ (by omega)]
    by_cases q : 100 + d ≤ a ∧ a - (100 + d) ≤ cell
    · rw [if_pos q, Nat.add_zero]
    · rw [if_neg q, Nat.add_zero]
theorem e_ct5 {F : Nat} {P : Mem} {b : Bool} {x1 x2 x5 : Int32} {x3 : Int64} {k : Int64 → Option Int64} {n : Nat} {LP : MemL} : f_X5_countTop_5 F P LP b b x1 x2 k (n + 1) x3 x5 = (if 100 ≤ x5 then k x3 else (if x1 < x5 then f_X5_countTop_5 F P LP b b x1 x2 k n x3 (x5 + 1) else (if x2 < (x1 - x5) then f_X5_countTop_5 F P LP b b x1 x2 k n x3 (x5 + 1) else ck x5 100 (f_X5_countTop_5 F P LP b b x1 x2 k n (x3 + ((LP (nwC b)) x5.toNatClampNeg)) (x5 + 1))))) := by
  cases b
  · rw [f_X5_countTop_5, if_neg Bool.false_ne_true]; rfl
  · rw [f_X5_countTop_5, if_pos (rfl : true = true)]; rfl
theorem h_ct5 {F : Nat} {P : Mem} {b : Bool} {LP : MemL} {a cell : Nat} {w : Nat → Nat} (ha : a < 2147483648) (hc : cell ≤ 99) (hN : ∀ x, x < 100 → LP (nwC b) x = nL (w x)) (k : Int64 → Option Int64) : ∀ (d i n : Nat), i + d = 100 → d < n → f_X5_countTop_5 F P LP b b (nI a) (nI cell) k n (nL (tpW w a cell i)) (nI i) = k (nL (tpW w a cell 100))
  | d, i, 0, _, h => by omega
  | 0, i, n + 1, hi, _ => by
    obtain rfl : i = 100 := by omega
    rw [e_ct5, if_pos (by decide)]
  | d + 1, i, n + 1, hi, hn => by
    have ih := h_ct5 (F := F) (P := P) ha hc hN k d (i + 1) n (by omega) (by omega)
    have et : tpW w a cell (i + 1) = tpW w a cell i + (if i ≤ a ∧ a - i ≤ cell then w i else 0) := rfl
    rw [e_ct5, if_neg (show ¬ (100 : Int32) ≤ nI i from nI_ge (b := 100) (by omega) (by decide)), nI_1]
    by_cases q : i ≤ a
    · rw [if_neg (nI_nlt q (by omega)), nI_sub' q]
      by_cases q2 : a - i ≤ cell
      · rw [if_neg (nI_nlt q2 (by omega)), ck_n (by omega) (by decide), nI_clamp (by omega), hN i (by omega), nL_add]
        rw [et, if_pos ⟨q, q2⟩] at ih
        exact ih
      · rw [if_pos (nI_lt (by omega) (by omega))]
        rw [et, if_neg (fun h => q2 h.2), Nat.add_zero] at ih
        exact ih
    · rw [if_pos (nI_lt (by omega) (by omega))]
      rw [et, if_neg (fun h => q h.1), Nat.add_zero] at ih
      exact ih
theorem h_countWays {F : Nat} {P C : Mem} {LP : MemL} {σ : Sg} (hC : StC C σ) (hs : okS σ) (hF : 1000 ≤ F) {a r : Nat} (ha : a < 2147483648) (hr : r < σ 1) (b : Bool) : ∃ LP' b', f_X5_countWays F P LP b b C (nI r) (nI a) = some (nL (tpW (wyW σ r a (σ 0 - 1)) (wyA σ a (σ 0 - 1)) (σ (8 + (6 * r + (σ 0 - 1)))) 100), LP', b', b') := by
  have h0 := kC hs
  have h1 := kR hs
  have h0' := kCR hs (by omega)
  have hcell := (kCe hs (j := 6 * r + (σ 0 - 1)) (by omega)).1
  obtain ⟨A', a1, a2⟩ := h_clr hF (fun _ => (LP (nwC b)))
  have e : f_X5_countWays F P LP b b C (nI r) (nI a) = (f_X5_clearWays F (fun _ => (LP (nwC b)))).bind (fun z5 => ck 0 100 (f_X5_countWays_21 F P C (nI r) (fun LP_153 wP_153 vP_153 x4_153 => ck ((nI r * 6) + (if 0 < ((C 0 6) - 1) then ((C 0 6) - 1) else 0)) 24 ((f_X5_countTop F P LP_153 wP_153 vP_153 x4_153 ((C 3) (((nI r * 6) + (if 0 < ((C 0 6) - 1) then ((C 0 6) - 1) else 0))).toNatClampNeg)).bind (fun z176 => (some (z176, LP_153, wP_153, vP_153))))) F (mr LP (nwC b) (vp_updL (z5 0) (0 : Int32).toNatClampNeg 1)) b b (nI a) 0)) := by
    cases b
    · unfold f_X5_countWays
      rw [if_neg Bool.false_ne_true]; rfl
    · unfold f_X5_countWays
      rw [if_pos (rfl : true = true)]; rfl
  have mx : (if (0 : Int32) < (nI (σ 0) - 1) then (nI (σ 0) - 1) else 0) = nI (σ 0 - 1) := by
    rw [show nI (σ 0) - 1 = nI (σ 0 - 1) from nI_sub' (b := 1) h0']
    by_cases q : σ 0 = 1
    · rw [q]; decide
    · rw [if_pos (show (0 : Int32) < nI (σ 0 - 1) from nI_lt (a := 0) (by omega) (by omega))]
  have c0 : (0 : Int32).toNatClampNeg = 0 := rfl
  obtain ⟨LP', b', c1, c2⟩ := h_cw21 (F := F) (P := P) hC hs hF ha (by omega : r < 4) h0' (fun LP_153 wP_153 vP_153 x4_153 => ck ((nI r * 6) + (if 0 < ((C 0 6) - 1) then ((C 0 6) - 1) else 0)) 24 ((f_X5_countTop F P LP_153 wP_153 vP_153 x4_153 ((C 3) (((nI r * 6) + (if 0 < ((C 0 6) - 1) then ((C 0 6) - 1) else 0))).toNatClampNeg)).bind (fun z176 => (some (z176, LP_153, wP_153, vP_153))))) (σ 0 - 1) 0 F (mr LP (nwC b) (vp_updL (A' 0) 0 1)) b (by omega) (by omega) (fun x hx => by
    rw [mr_s]
    show _ = nL (if x = 0 then 1 else 0)
    by_cases q : x = 0
    · rw [if_pos q, q, updL_s]; rfl
    · rw [if_neg q, updL_n _ _ q, a2 x hx]; rfl)
  refine ⟨LP', b', ?_⟩
  have ct := h_ct5 (F := F) (P := P) (b := b') (LP := LP') (a := wyA σ a (σ 0 - 1)) (cell := σ (8 + (6 * r + (σ 0 - 1)))) (by have := wyA_le σ a (σ 0 - 1); omega) hcell c2 (fun x3_42 => (some x3_42)) 100 0 F (by omega) (by omega)
  have ct' : f_X5_countTop F P LP' b' b' (nI (wyA σ a (σ 0 - 1))) (nI (σ (8 + (6 * r + (σ 0 - 1))))) = some (nL (tpW (wyW σ r a (σ 0 - 1)) (wyA σ a (σ 0 - 1)) (σ (8 + (6 * r + (σ 0 - 1)))) 100)) := ct
  rw [e, a1, Option.bind_some, show ∀ E : Option (Int64 × MemL × Bool × Bool), ck 0 100 E = E from fun E => ck_n (i := 0) (by decide) (by decide), c0]
  refine Eq.trans c1 ?_
  rw [cC hC, mx, l_6, mr6, nI_add, ck_n (by omega) (by decide), nI_clamp (by omega), cCe hC (by omega), ct', Option.bind_some]
