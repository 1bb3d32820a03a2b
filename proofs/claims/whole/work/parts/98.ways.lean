/-! PURE LAYER: ways -/
theorem lgN {a b : Nat} (ha : a < 2147483648) (hb : b < 2147483648) : 0 ≤ lg_cmp ((nI a).toInt64 - (nI b).toInt64) 0 ↔ b ≤ a := by
  rw [zL_sub ha hb, t64.1, ← Int32.not_lt, lgc_lt, zn_lt]
  constructor
  · intro h
    exact Nat.le_of_not_lt (fun q => h (of_eq_true (zlt_T (by omega) (by omega) (by omega))))
  · intro h
    exact of_eq_false (zlt_F (by omega) (by omega) (by omega))
theorem g_w109 {F : Nat} {M : Mem} {σ : Sg} (hM : StM M σ) (hF : 10000 ≤ F) {a u r c : Nat} {w : Nat → Nat} (ha : a < 2147483648) (hu : 2 ≤ u) (hu2 : u ≤ 20) (hr : r < 4) (hc : c < 6) (hcell : σ (8 + (6 * r + c)) ≤ 99) (hw : ∀ x, w x < 9223372036854775808) (hw0 : ∀ x, 100 ≤ x → w x = 0) (k : MemL → Option (Int64 × MemL)) : ∀ (d g n : Nat) (A : MemL), g + d = 420 → d < n → (∀ x, x < 420 → A 7 x = nL (w x)) → (∀ x, x < 420 → A 8 x = nL (nxW w a u (σ (8 + (6 * r + c))) g x)) → ∃ A', f_X10_ways_109 F M (nI r) (nI a).toInt64 (nI c) (nI u) (nI (a / u)).toInt64 k n A (nI g) = k A' ∧ (∀ x, x < 420 → A' 8 x = nL (nxW w a u (σ (8 + (6 * r + c))) 420 x))
  | d, g, 0, A, _, h, _, _ => by omega
  | 0, g, n + 1, A, hg, _, _, hT => by
    obtain rfl : g = 420 := by omega
    exact ⟨A, by rw [f_X10_ways_109, if_pos (by decide)], hT⟩
  | d + 1, g, n + 1, A, hg, hn, hN, hT => by
    have hs0 : ¬ (420 : Int32) ≤ nI g := nI_ge (b := 420) (by omega) (by decide)
    have skip : adW a u (σ (8 + (6 * r + c))) g = adW a u (σ (8 + (6 * r + c))) g := rfl
    have same : (∀ x, adW a u (σ (8 + (6 * r + c))) g x (w g) = 0) → ∃ A', f_X10_ways_109 F M (nI r) (nI a).toInt64 (nI c) (nI u) (nI (a / u)).toInt64 k n A (nI (g + 1)) = k A' ∧ (∀ x, x < 420 → A' 8 x = nL (nxW w a u (σ (8 + (6 * r + c))) 420 x)) := fun hz =>
      g_w109 (F := F) hM hF ha hu hu2 hr hc hcell hw hw0 k d (g + 1) n A (by omega) (by omega) hN (fun x hx => by
        show A 8 x = nL (nxW w a u (σ (8 + (6 * r + c))) g x + adW a u (σ (8 + (6 * r + c))) g x (w g))
        rw [hz x, Nat.add_zero]; exact hT x hx)
    by_cases q : w g = 0
    · obtain ⟨A', b1, b2⟩ := same (fun x => by rw [q, ad_z])
      refine ⟨A', ?_, b2⟩
      rw [f_X10_ways_109, if_neg hs0, ck_n (by omega) (by decide), nI_clamp (by omega), hN g (by omega), lgz (hw g), if_pos q, if_pos (rfl : (0 : Int32) = 0), nI_1]
      exact b1
    · have g100 : g < 100 := Nat.lt_of_not_le (fun h => q (hw0 g h))
      by_cases q2 : g ≤ a
      · have hmod := Nat.mod_lt (a - g) (show 0 < u by omega)
        obtain ⟨A1, a1, a2, a3⟩ := g_w154 (F := F) hM ha hu hu2 g100 q2 hr hc hcell (nI a).toInt64 (fun LM_215 => f_X10_ways_109 F M (nI r) (nI a).toInt64 (nI c) (nI u) (nI (a / u)).toInt64 k n LM_215 (nI (g + 1))) 101 0 F A (by omega) (by omega) (by omega)
        obtain ⟨A', b1, b2⟩ := g_w109 (F := F) hM hF ha hu hu2 hr hc hcell hw hw0 k d (g + 1) n A1 (by omega) (by omega) (fun x hx => by rw [a2 _ (by decide)]; exact hN x hx) (fun x hx => by
          show A1 8 x = nL (nxW w a u (σ (8 + (6 * r + c))) g x + adW a u (σ (8 + (6 * r + c))) g x (w g))
          rw [a3 x, hT x hx, hN g (by omega)]
          unfold adW
          by_cases e : loW a u g + 0 ≤ x ∧ usW a u g x ≤ σ (8 + (6 * r + c)) ∧ usW a u g x ≤ a - g
          · rw [if_pos e, if_pos (show g ≤ a ∧ loW a u g ≤ x ∧ usW a u g x ≤ σ (8 + (6 * r + c)) ∧ usW a u g x ≤ a - g from ⟨q2, e⟩), nL_add]
          · rw [if_neg e, if_neg (show ¬ (g ≤ a ∧ loW a u g ≤ x ∧ usW a u g x ≤ σ (8 + (6 * r + c)) ∧ usW a u g x ≤ a - g) from fun h => e h.2), Nat.add_zero])
        refine ⟨A', ?_, b2⟩
        rw [Nat.zero_mul, Nat.add_zero] at a1
        rw [f_X10_ways_109, if_neg hs0, ck_n (by omega) (by decide), nI_clamp (by omega), hN g (by omega), lgz (hw g), if_neg q, if_neg (show ¬ (1 : Int32) = 0 by decide), if_pos ((lgN ha (by omega)).mpr q2), dvL_ne (iL_ne (by omega) (by omega)), iL_sub q2 ha, iL_rem (by omega) (by omega) (by omega), nI_1]
        exact a1.trans b1
      · obtain ⟨A', b1, b2⟩ := same (fun x => by unfold adW; exact if_neg (fun h => q2 h.1))
        refine ⟨A', ?_, b2⟩
        rw [f_X10_ways_109, if_neg hs0, ck_n (by omega) (by decide), nI_clamp (by omega), hN g (by omega), lgz (hw g), if_neg q, if_neg (show ¬ (1 : Int32) = 0 by decide), if_neg (fun h => q2 ((lgN ha (by omega)).mp h)), nI_1]
        exact b1
theorem g_w51 {F : Nat} {M : Mem} {σ : Sg} (hM : StM M σ) (hs : okS σ) (hF : 10000 ≤ F) {a r : Nat} (ha : a < 2147483648) (hr : r < 4) (h0' : 0 < σ 0) (k : MemL → Int64 → Option (Int64 × MemL)) : ∀ (d c n : Nat) (A : MemL), c + d + 1 = σ 0 → d < n → (∀ x, x < 420 → A 7 x = nL (wyW σ r a c x)) → ∃ A', f_X10_ways_51 F M (nI r) k n A (nI (wyA σ a c)).toInt64 (nI c) = k A' (nI (wyA σ a (σ 0 - 1))).toInt64 ∧ ∀ x, x < 420 → A' 7 x = nL (wyW σ r a (σ 0 - 1) x)
  | d, c, 0, A, _, h, _ => by omega
  | 0, c, n + 1, A, hc, _, hN => by
    have h0 := kC hs
    obtain rfl : c = σ 0 - 1 := by omega
    refine ⟨A, ?_, hN⟩
    rw [f_X10_ways_51, ck0, m0c, hM 0 (by decide), nI_1, if_pos (nI_le (by omega) (by omega))]
  | d + 1, c, n + 1, A, hc, hn, hN => by
    have h0 := kC hs
    have al := wyA_le σ a c
    obtain ⟨u1, u2⟩ := kRt hs (j := c + 1) (by omega) (by omega)
    have hcell := (kCe hs (j := 6 * r + c) (by omega)).1
    have aq : wyA σ a c / σ (2 + (c + 1)) ≤ wyA σ a c := Nat.div_le_self _ _
    have hw0 := fun x hx => wyW_0 hs hr a c x (by omega) hx
    have key1 := g_wclr8 (F := F) (M := M) (x1 := nI r) (x3 := (nI (wyA σ a c)).toInt64) (x5 := nI c) (x6 := nI (σ (2 + (c + 1)))) (x7 := (nI (wyA σ a c / σ (2 + (c + 1)))).toInt64) (fun LM_106 => f_X10_ways_109 F M (nI r) (nI (wyA σ a c)).toInt64 (nI c) (nI (σ (2 + (c + 1)))) (nI (wyA σ a c / σ (2 + (c + 1)))).toInt64 (fun LM_221 => f_X10_ways_227 F M (nI r) (nI (wyA σ a c / σ (2 + (c + 1)))).toInt64 (nI c) (fun LM_255 => f_X10_ways_51 F M (nI r) k n LM_255 (nI (wyA σ a c / σ (2 + (c + 1)))).toInt64 (nI (c + 1))) F LM_221 0) F LM_106 0) 420 0 F A (by omega) (by omega)
    obtain ⟨A1, a1, a2, a3⟩ := key1
    obtain ⟨A2, b1, b2⟩ := g_w109 (F := F) hM hF (a := wyA σ a c) (u := σ (2 + (c + 1))) (r := r) (c := c) (w := wyW σ r a c) (by omega) u1 u2 hr (by omega) hcell (wyW_lt σ r a (by omega)) hw0 (fun LM_221 => f_X10_ways_227 F M (nI r) (nI (wyA σ a c / σ (2 + (c + 1)))).toInt64 (nI c) (fun LM_255 => f_X10_ways_51 F M (nI r) k n LM_255 (nI (wyA σ a c / σ (2 + (c + 1)))).toInt64 (nI (c + 1))) F LM_221 0) 420 0 F A1 (by omega) (by omega) (fun x hx => by rw [a2 _ (by decide)]; exact hN x hx) (fun x hx => by rw [a3, if_pos ⟨Nat.zero_le _, hx⟩]; rfl)
    obtain ⟨A3, c1, c2⟩ := g_wcpy (F := F) (M := M) (x1 := nI r) (x5 := nI c) (x3 := (nI (wyA σ a c / σ (2 + (c + 1)))).toInt64) (fun LM_255 => f_X10_ways_51 F M (nI r) k n LM_255 (nI (wyA σ a c / σ (2 + (c + 1)))).toInt64 (nI (c + 1))) 420 0 F A2 (by omega) (by omega)
    obtain ⟨A', d1, d2⟩ := g_w51 (F := F) hM hs hF ha hr h0' k d (c + 1) n A3 (by omega) (by omega) (fun x hx => by
      rw [c2, if_pos ⟨Nat.zero_le _, hx⟩, b2 x hx]
      exact congrArg nL (nx_ex hw0 x 320))
    refine ⟨A', ?_, d2⟩
    rw [f_X10_ways_51, ck0, m0c, hM 0 (by decide), nI_1, if_neg (nI_ge (by omega) (by omega)), g_ratio hM F (by omega), Option.bind_some, dvL_ne (iL_ne (by omega) (by omega)), iL_div (by omega) (by omega) (by omega)]
    exact a1.trans (b1.trans (c1.trans d1))
theorem g_w267 {F : Nat} {M : Mem} {LM : MemL} {σ : Sg} (hM : StM M σ) (hs : okS σ) {a r : Nat} (ha : a < 2147483648) (hr : r < 4) (h0' : 0 < σ 0) {w : Nat → Nat} (hw : ∀ x, w x < 9223372036854775808) (hN : ∀ x, x < 420 → LM 7 x = nL (w x)) (k : Int64 → Option (Int64 × MemL)) : ∀ (d i n : Nat), i + d = 420 → d < n → f_X10_ways_267 F M LM (nI r) (nI a).toInt64 k n (nL (tpW w a (σ (8 + (6 * r + (σ 0 - 1)))) i)) (nI i) = k (nL (tpW w a (σ (8 + (6 * r + (σ 0 - 1)))) 420))
  | d, i, 0, _, h => by omega
  | 0, i, n + 1, hi, _ => by
    obtain rfl : i = 420 := by omega
    rw [f_X10_ways_267, if_pos (by decide)]
  | d + 1, i, n + 1, hi, hn => by
    have h0 := kC hs
    have hcell := (kCe hs (j := 6 * r + (σ 0 - 1)) (by omega)).1
    have ih := g_w267 (F := F) hM hs ha hr h0' hw hN k d (i + 1) n (by omega) (by omega)
    have et : tpW w a (σ (8 + (6 * r + (σ 0 - 1)))) (i + 1) = tpW w a (σ (8 + (6 * r + (σ 0 - 1)))) i + (if i ≤ a ∧ a - i ≤ σ (8 + (6 * r + (σ 0 - 1))) then w i else 0) := rfl
    have gn : f_X10_now F M LM (nI r) (nI (σ 0 - 1)) = some (nI (σ (8 + (6 * r + (σ 0 - 1))))) := by rw [g_now hM F hr (by omega), Nat.add_assoc]
    rw [f_X10_ways_267, if_neg (show ¬ (420 : Int32) ≤ nI i from nI_ge (b := 420) (by omega) (by decide)), ck_n (by omega) (by decide), nI_clamp (by omega), hN i (by omega), lgz (hw i), nI_1]
    by_cases q : w i = 0
    · rw [if_pos q, if_pos (by decide)]
      rw [et, q] at ih
      have e : (if i ≤ a ∧ a - i ≤ σ (8 + (6 * r + (σ 0 - 1))) then 0 else 0) = 0 := by
        by_cases g : i ≤ a ∧ a - i ≤ σ (8 + (6 * r + (σ 0 - 1)))
        · rw [if_pos g]
        · rw [if_neg g]
      rw [e, Nat.add_zero] at ih
      exact ih
    · rw [if_neg q, if_neg (show ¬ (1 : Int32) ≤ 0 by decide), ck0, m0c, hM 0 (by decide), show nI (σ 0) - 1 = nI (σ 0 - 1) from nI_sub' (b := 1) h0', gn, Option.bind_some, zL_sub ha (by omega), in0n F (by omega) (by omega) (by omega), Option.bind_some]
      by_cases g : i ≤ a ∧ a - i ≤ σ (8 + (6 * r + (σ 0 - 1)))
      · rw [if_pos (show 0 ≤ (a : Int) - i ∧ (a : Int) - i ≤ (σ (8 + (6 * r + (σ 0 - 1))) : Int) by omega), if_neg n10, ck_n (by omega) (by decide), nL_add]
        rw [et, if_pos g] at ih
        exact ih
      · rw [if_neg (show ¬ (0 ≤ (a : Int) - i ∧ (a : Int) - i ≤ (σ (8 + (6 * r + (σ 0 - 1))) : Int)) by omega), if_pos n00]
        rw [et, if_neg g, Nat.add_zero] at ih
        exact ih
theorem m_ways {C M P X0 : Mem} {LM LP : MemL} {b : Bool} {σ : Sg} (hC : StC C σ) (hM : StM M σ) (hs : okS σ) {F : Nat} (hF : 10000 ≤ F) (x1 x2 : Int32) : ∃ v LP' b' LM', f_X9_ways F X0 C P LP b b x1 x2 = some (v, LP', b', b') ∧ f_X10_ways F M LM x1 x2 = some (v, LM') := by
  have h0 := kC hs
  have h1 := kR hs
  unfold f_X9_ways f_X10_ways
  rcases ix_cases x1 (n := σ 1) (by omega) with ⟨r, hr, rfl⟩ | hn
  · have h0' := kCR hs (by omega)
    rw [hasRow_n hC h1 F hr, Option.bind_some, if_neg n10, isRow_n hM h1 F hr, Option.bind_some, if_neg n10]
    by_cases q : x2 < 0
    · rw [if_pos q, if_neg (Int32.not_le.mpr q)]
      exact ⟨_, _, _, _, rfl, rfl⟩
    · obtain ⟨z, z1, z2, rfl⟩ := zI_of x2
      have zp : 0 ≤ z := by
        have := Int32.not_lt.mp q
        rw [Int32.le_iff_toInt_le, zI_toInt z1 z2, show (0 : Int32).toInt = 0 by decide] at this
        exact this
      rw [nI_of0 zp] at q ⊢
      have za : z.toNat < 2147483648 := by omega
      rw [if_neg q, if_pos (Int32.not_lt.mp q)]
      obtain ⟨LP', b', a1⟩ := h_countWays (F := F) (P := P) (LP := LP) hC hs (by omega) za hr b
      obtain ⟨A1, c1, -, c3⟩ := g_wclr (F := F) (M := M) (x1 := nI r) (x2 := nI z.toNat) (fun LM_38 => ck 0 420 (f_X10_ways_51 F M (nI r) (fun LM_261 x3_261 => f_X10_ways_267 F M LM_261 (nI r) x3_261 (fun x5_331 => (some (x5_331, LM_261))) F 0 0) F (mr LM_38 7 (vp_updL (LM_38 7) (0 : Int32).toNatClampNeg 1)) (nI z.toNat).toInt64 0)) 420 0 F LM (by omega) (by omega)
      obtain ⟨A2, d1, d2⟩ := g_w51 (F := F) hM hs hF za (by omega : r < 4) h0' (fun LM_261 x3_261 => f_X10_ways_267 F M LM_261 (nI r) x3_261 (fun x5_331 => (some (x5_331, LM_261))) F 0 0) (σ 0 - 1) 0 F (mr A1 7 (vp_updL (A1 7) 0 1)) (by omega) (by omega) (fun x hx => by
        rw [mr_s]
        show _ = nL (if x = 0 then 1 else 0)
        by_cases g : x = 0
        · rw [if_pos g, g, updL_s]; rfl
        · rw [if_neg g, updL_n _ _ g, c3, if_pos ⟨Nat.zero_le _, hx⟩]; rfl)
      have e1 := g_w267 (F := F) (LM := A2) hM hs (a := wyA σ z.toNat (σ 0 - 1)) (r := r) (by have := wyA_le σ z.toNat (σ 0 - 1); omega) (by omega) h0' (wyW_lt σ r z.toNat (c := σ 0 - 1) (by omega)) d2 (fun x5_331 => (some (x5_331, A2))) 420 0 F (by omega) (by omega)
      rw [show (420 : Nat) = 100 + 320 from rfl, tp_ex (fun x hx => wyW_0 hs (by omega) z.toNat (σ 0 - 1) x (by omega) hx) 320] at e1
      refine ⟨nL (tpW (wyW σ r z.toNat (σ 0 - 1)) (wyA σ z.toNat (σ 0 - 1)) (σ (8 + (6 * r + (σ 0 - 1)))) 100), LP', b', A2, ?_, ?_⟩
      · rw [a1, Option.bind_some]
      · have k0 : ∀ E : Option (Int64 × MemL), ck 0 420 E = E := fun E => ck_n (i := 0) (by decide) (by decide)
        refine Eq.trans c1 ?_
        rw [k0]
        exact Eq.trans d1 e1
  · rw [h_hasRow hC, if_neg hn, Option.bind_some, if_pos rfl, g_isRow hM h1, if_neg hn, Option.bind_some, if_pos rfl]
    exact ⟨_, _, _, _, rfl, rfl⟩
