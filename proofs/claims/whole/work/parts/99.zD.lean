/-! PURE LAYER: breaks, the reference's loops; breaks -/
theorem g_b105 {F : Nat} {LM : MemL} {σ : Sg} (hF : 1000 ≤ F) (hs : okS σ) {r : Nat} (hr : r < 4) {s d c T : Nat} (hc : c + 1 < σ 0) (hT : T < 2147483648) {A : Nat → Nat} (hSA : SdB σ (fun j => σ (8 + (6 * r + j))) s (d + 1) c T A) (kk : Mem → Option (Int32 × Mem)) : ∀ (e i n : Nat) (M : Mem) (N : Nat → Nat), i + e = 420 → e < n → StM M σ → AbM M 13 A → AbM M 14 N → SdB σ (fun j => σ (8 + (6 * r + j))) s d (c + 1) (T / uR σ c) N → (∀ k b v, k < i → b < 2 → k ≤ T → A (2 * k + b) < 1000000 → Fe σ (fun j => σ (8 + (6 * r + j))) (d + 1) c (T - k) b v → CvB σ (fun j => σ (8 + (6 * r + j))) d (c + 1) (T / uR σ c) N (A (2 * k + b) + v)) → ∃ M' N', f_X10_breaks_105 F LM (nI r) (nI T).toInt64 (nI c) (nI (T / uR σ c)).toInt64 kk n M (nI i) = kk M' ∧ (∀ q, q ≠ 14 → M' q = M q) ∧ AbM M' 14 N' ∧ SdB σ (fun j => σ (8 + (6 * r + j))) s d (c + 1) (T / uR σ c) N' ∧ (∀ k b v, k < 420 → b < 2 → k ≤ T → A (2 * k + b) < 1000000 → Fe σ (fun j => σ (8 + (6 * r + j))) (d + 1) c (T - k) b v → CvB σ (fun j => σ (8 + (6 * r + j))) d (c + 1) (T / uR σ c) N' (A (2 * k + b) + v))
  | e, i, 0, M, N, _, h, _, _, _, _, _ => by omega
  | 0, i, n + 1, M, N, hi, _, hM, hA, hN, hS, hV => by
    obtain rfl : i = 420 := by omega
    exact ⟨M, N, by rw [f_X10_breaks_105, if_pos (by decide)], fun _ _ => rfl, hN, hS, hV⟩
  | e + 1, i, n + 1, M, N, hi, hn, hM, hA, hN, hS, hV => by
    obtain ⟨M1, N1, a1, a2, a3, a4, a5, a6⟩ := g_breaksOn (LM := LM) hF hM hs hr hc hT hA hN hSA hS (k := i) (b := 0) (by omega) (by omega)
    have hM1 : StM M1 σ := fun j hj => by rw [a2 1 (by decide)]; exact hM j hj
    have hA1 : AbM M1 13 A := fun j hj => by rw [a2 13 (by decide)]; exact hA j hj
    obtain ⟨M2, N2, b1, b2, b3, b4, b5, b6⟩ := g_breaksOn (LM := LM) hF hM1 hs hr hc hT hA1 a3 hSA a4 (k := i) (b := 1) (by omega) (by omega)
    have hM2 : StM M2 σ := fun j hj => by rw [b2 1 (by decide)]; exact hM1 j hj
    have hA2 : AbM M2 13 A := fun j hj => by rw [b2 13 (by decide)]; exact hA1 j hj
    obtain ⟨M', N', c1, c2, c3, c4, c5⟩ := g_b105 (F := F) (LM := LM) hF hs hr hc hT hSA kk e (i + 1) n M2 N2 (by omega) (by omega) hM2 hA2 b3 b4 (fun k b v hk hb hkT hf hv => by
      by_cases e1 : k = i
      · subst e1
        rcases (by omega : b = 0 ∨ b = 1) with rfl | rfl
        · exact CvB_m (a6 v hkT hf hv) b5 (Nat.le_refl _)
        · exact b6 v hkT hf hv
      · exact CvB_m (hV k b v (by omega) hb hkT hf hv) (fun j => Nat.le_trans (b5 j) (a5 j)) (Nat.le_refl _))
    refine ⟨M', N', ?_, fun q hq => by rw [c2 q hq, b2 q hq, a2 q hq], c3, c4, c5⟩
    have a1' : f_X10_breaksOn F M LM (nI r) (nI c) (nI T).toInt64 (nI (T / uR σ c)).toInt64 (nI i) 0 = some M1 := a1
    have b1' : f_X10_breaksOn F M1 LM (nI r) (nI c) (nI T).toInt64 (nI (T / uR σ c)).toInt64 (nI i) 1 = some M2 := b1
    rw [f_X10_breaks_105, if_neg (show ¬ (420 : Int32) ≤ nI i from nI_ge (b := 420) (by omega) (by decide)), a1', Option.bind_some, b1', Option.bind_some, nI_1]
    exact c1
theorem g_b50 {F : Nat} {LM : MemL} {σ : Sg} (hF : 1000 ≤ F) (hs : okS σ) {r : Nat} (hr : r < 4) {s : Nat} (kk : Mem → Int64 → Option (Int32 × Mem)) : ∀ (d c n T : Nat) (M : Mem) (A : Nat → Nat), c + d + 1 = σ 0 → d < n → T < 2147483648 → StM M σ → AbM M 13 A → SdB σ (fun j => σ (8 + (6 * r + j))) s d c T A → (∀ v, Fe σ (fun j => σ (8 + (6 * r + j))) (σ 0 - 1) 0 s 0 v → CvB σ (fun j => σ (8 + (6 * r + j))) d c T A v) → ∃ M' T' A', f_X10_breaks_50 F LM (nI r) kk n M (nI T).toInt64 (nI c) = kk M' (nI T').toInt64 ∧ (∀ q, q ≠ 13 → q ≠ 14 → M' q = M q) ∧ T' < 2147483648 ∧ AbM M' 13 A' ∧ SdB σ (fun j => σ (8 + (6 * r + j))) s 0 (σ 0 - 1) T' A' ∧ (∀ v, Fe σ (fun j => σ (8 + (6 * r + j))) (σ 0 - 1) 0 s 0 v → CvB σ (fun j => σ (8 + (6 * r + j))) 0 (σ 0 - 1) T' A' v)
  | d, c, 0, T, M, A, _, h, _, _, _, _, _ => by omega
  | 0, c, n + 1, T, M, A, hc, _, hT, hM, hA, hS, hV => by
    have h0 := kC hs
    obtain rfl : c = σ 0 - 1 := by omega
    refine ⟨M, T, A, ?_, fun _ _ _ => rfl, hT, hA, hS, hV⟩
    rw [f_X10_breaks_50, ck0, m0c, hM 0 (by decide), nI_1, if_pos (nI_le (by omega) (by omega))]
  | d + 1, c, n + 1, T, M, A, hc, hn, hT, hM, hA, hS, hV => by
    have h0 := kC hs
    obtain ⟨u1, u2⟩ := uR_b hs (c := c) (by omega)
    have tl : T / uR σ c ≤ T := Nat.div_le_self _ _
    -- cleared
    have R79 : ∀ k : Mem → Option (Int32 × Mem), ∃ M1, f_X10_breaks_79 F LM (nI r) (nI T).toInt64 (nI c) (nI (T / uR σ c)).toInt64 k F M (nI 0) = k M1 ∧ Fl M M1 14 0 840 (fun _ => nI 1000000) := fun k => by
      have := fill_up (f_X10_breaks_79 F LM (nI r) (nI T).toInt64 (nI c) (nI (T / uR σ c)).toInt64 k) k 14 0 0 0 840 (fun _ => nI 1000000) M (fun n i N _ hi hN => by
        rw [f_X10_breaks_79]
        simp only [Nat.zero_add]
        rw [l_840, if_neg (nI_ge hi (by decide)), ck_n hi (by decide), nI_clamp (by omega), nI_1, l_1000000]) (fun n N hN => by
        rw [f_X10_breaks_79, l_840, if_pos (by decide)]) 840 0 F M (by omega) (by omega) (by omega) (Fl_0 M 14 _ _)
      exact this
    have R148 : ∀ (k : Mem → Option (Int32 × Mem)) (N : Mem), ∃ M1, f_X10_breaks_148 F LM (nI r) (nI c) (nI (T / uR σ c)).toInt64 k F N (nI 0) = k M1 ∧ Fl N M1 13 0 840 (fun j => N 14 j) := fun k N => by
      have := fill_up (f_X10_breaks_148 F LM (nI r) (nI c) (nI (T / uR σ c)).toInt64 k) k 13 0 0 0 840 (fun j => N 14 j) N (fun n i N' _ hi hN => by
        rw [f_X10_breaks_148]
        have e14 : N' 14 = N 14 := Fl_c hN (by decide)
        simp only [Nat.zero_add]
        rw [l_840, if_neg (nI_ge hi (by decide)), ck_n hi (by decide), ck_n hi (by decide), nI_clamp (by omega), nI_1, e14]) (fun n N hN => by
        rw [f_X10_breaks_148, l_840, if_pos (by decide)]) 840 0 F N (by omega) (by omega) (by omega) (Fl_0 N 13 _ _)
      exact this
    obtain ⟨M1, a1, a2⟩ := R79 (fun M_102 => f_X10_breaks_105 F LM (nI r) (nI T).toInt64 (nI c) (nI (T / uR σ c)).toInt64 (fun M_145 => f_X10_breaks_148 F LM (nI r) (nI c) (nI (T / uR σ c)).toInt64 (fun M_176 => f_X10_breaks_50 F LM (nI r) kk n M_176 (nI (T / uR σ c)).toInt64 (nI c + 1)) F M_145 0) F M_102 0)
    have hM1 : StM M1 σ := fun j hj => by rw [Fl_c a2 (by decide)]; exact hM j hj
    have hA1 : AbM M1 13 A := fun j hj => by rw [Fl_c a2 (by decide)]; exact hA j hj
    have hN1 : AbM M1 14 (fun _ => 1000000) := fun j hj => ⟨Fl_i a2 (by omega) hj, Nat.le_refl _⟩
    obtain ⟨M2, N2, b1, b2, b3, b4, b5⟩ := g_b105 (F := F) (LM := LM) hF hs hr (by omega) hT hS (fun M_145 => f_X10_breaks_148 F LM (nI r) (nI c) (nI (T / uR σ c)).toInt64 (fun M_176 => f_X10_breaks_50 F LM (nI r) kk n M_176 (nI (T / uR σ c)).toInt64 (nI c + 1)) F M_145 0) 420 0 F M1 (fun _ => 1000000) (by omega) (by omega) hM1 hA1 hN1 (fun k b _ _ z => absurd (show (1000000 : Nat) < 1000000 from z) (by omega)) (fun k b v hk => absurd hk (by omega))
    obtain ⟨M3, c1, c2⟩ := R148 (fun M_176 => f_X10_breaks_50 F LM (nI r) kk n M_176 (nI (T / uR σ c)).toInt64 (nI c + 1)) M2
    have hM3 : StM M3 σ := fun j hj => by rw [Fl_c c2 (by decide), b2 1 (by decide)]; exact hM1 j hj
    have hA3 : AbM M3 13 N2 := fun j hj => by rw [Fl_i c2 (by omega) hj]; exact b3 j hj
    obtain ⟨M', T', A', d1, d2, d3, d4, d5, d6⟩ := g_b50 (F := F) (LM := LM) hF hs hr kk d (c + 1) n (T / uR σ c) M3 N2 (by omega) (by omega) (by omega) hM3 hA3 b4 (fun v hv => by
      obtain ⟨k, b, v', e1, e2, e3, e4, e5, e6⟩ := hV v hv
      exact CvB_m (b5 k b v' (by omega) e3 e2 e4 e6) (fun _ => Nat.le_refl _) e5)
    refine ⟨M', T', A', ?_, fun q q1 q2 => by rw [d2 q q1 q2, Fl_c c2 q1, b2 q q2, Fl_c a2 q2], d3, d4, d5, d6⟩
    have rt : f_X10_ratio F M LM (nI c + 1) = some (nI (uR σ c)) := by
      rw [nI_1]
      exact g_ratio hM F (by omega)
    rw [f_X10_breaks_50, ck0, m0c, hM 0 (by decide), if_neg (show ¬ nI (σ 0) ≤ nI c + 1 by rw [nI_1]; exact nI_ge (by omega) (by omega)), rt, Option.bind_some, dvL_ne (iL_ne (by omega) (by omega)), iL_div hT (by omega) (by omega)]
    refine Eq.trans a1 (Eq.trans b1 (Eq.trans c1 ?_))
    rw [nI_1]
    exact d1
def cdB (σ : Sg) (r T k b : Nat) : Prop := k ≤ T ∧ T - k + b ≤ σ (8 + (6 * r + (σ 0 - 1)))
theorem g_b203 {F : Nat} {M : Mem} {LM : MemL} {σ : Sg} (hM : StM M σ) (hs : okS σ) (h0' : 0 < σ 0) {r T : Nat} (hr : r < 4) (hT : T < 2147483648) {A : Nat → Nat} (hA : AbM M 13 A) {i : Nat} (hi : i < 420) (kk : Int32 → Option (Int32 × Mem)) : ∀ (e t n x : Nat), t + e = 2 → e < n → x ≤ 1000000 → ∃ y, f_X10_breaks_203 F M LM (nI r) (nI T).toInt64 (nI i) kk n (nI x) (nI t) = kk (nI y) ∧ y ≤ x ∧ (y = x ∨ ∃ b, b < 2 ∧ cdB σ r T i b ∧ y = A (2 * i + b)) ∧ ∀ b, t ≤ b → b < 2 → cdB σ r T i b → y ≤ A (2 * i + b)
  | e, t, 0, x, _, h, _ => by omega
  | 0, t, n + 1, x, ht, _, hx => by
    obtain rfl : t = 2 := by omega
    exact ⟨x, by rw [f_X10_breaks_203, if_pos (by decide)], Nat.le_refl _, Or.inl rfl, fun b b1 b2 => by omega⟩
  | e + 1, t, n + 1, x, ht, hn, hx => by
    have h0 := kC hs
    have ce := (kCe hs (j := 6 * r + (σ 0 - 1)) (by omega)).1
    have e1 : (2 : Int32) * nI i + nI t = nI (2 * i + t) := by
      have : (2 : Int32) * nI i = nI (2 * i) := nI_mul' 2 i
      rw [this, nI_add]
    obtain ⟨a1, a2⟩ := hA (2 * i + t) (by omega)
    have nw : f_X10_now F M LM (nI r) (nI (σ 0) - 1) = some (nI (σ (8 + (6 * r + (σ 0 - 1))))) := by
      rw [show nI (σ 0) - 1 = nI (σ 0 - 1) from nI_sub' (b := 1) h0', g_now hM F hr (by omega), Nat.add_assoc]
    have esub : (nI T).toInt64 - (nI i).toInt64 = zL ((T : Int) - i) := by rw [nI64 hT, nI64 (by omega), zL_sub']
    have ehi : (nI (σ (8 + (6 * r + (σ 0 - 1)))) - nI t).toInt64 = zL ((σ (8 + (6 * r + (σ 0 - 1))) : Int) - t) := by rw [nn_sub, zI64 (by omega) (by omega)]
    have z0 : (0 : Int64) = zL 0 := rfl
    rw [f_X10_breaks_203, if_neg (show ¬ (2 : Int32) ≤ nI t from nI_ge (b := 2) (by omega) (by decide)), ck0, m0c, hM 0 (by decide), nw, Option.bind_some, esub, ehi, z0, in_zL F (by omega) (by omega) (by omega) (by omega) (by omega) (by omega), Option.bind_some]
    by_cases q : cdB σ r T i t
    · obtain ⟨q1, q2⟩ := q
      rw [if_pos (show (0 : Int) ≤ (T : Int) - i ∧ (T : Int) - i ≤ (σ (8 + (6 * r + (σ 0 - 1))) : Int) - t by omega), if_neg (show ¬ (1 : Int32) = 0 by decide), e1, ck_n (by omega) (by decide), nI_clamp (by omega), a1, g_lesser F (by omega) (by omega), Option.bind_some, nI_1]
      obtain ⟨y, b1, b2, b3, b4⟩ := g_b203 (F := F) (LM := LM) hM hs h0' hr hT hA hi kk e (t + 1) n (min x (A (2 * i + t))) (by omega) (by omega) (by omega)
      refine ⟨y, b1, by omega, ?_, fun b c1 c2 c3 => ?_⟩
      · rcases b3 with b3 | b3
        · by_cases g : x ≤ A (2 * i + t)
          · exact Or.inl (by omega)
          · exact Or.inr ⟨t, by omega, ⟨q1, q2⟩, by omega⟩
        · exact Or.inr b3
      · by_cases g : b = t
        · rw [g]; omega
        · exact b4 b (by omega) c2 c3
    · rw [if_neg (show ¬ ((0 : Int) ≤ (T : Int) - i ∧ (T : Int) - i ≤ (σ (8 + (6 * r + (σ 0 - 1))) : Int) - t) from fun w => q ⟨by omega, by omega⟩), if_pos (rfl : (0 : Int32) = 0), nI_1]
      obtain ⟨y, b1, b2, b3, b4⟩ := g_b203 (F := F) (LM := LM) hM hs h0' hr hT hA hi kk e (t + 1) n x (by omega) (by omega) hx
      refine ⟨y, b1, b2, b3, fun b c1 c2 c3 => ?_⟩
      by_cases g : b = t
      · rw [g] at c3; exact absurd c3 q
      · exact b4 b (by omega) c2 c3
theorem g_b192 {F : Nat} {M : Mem} {LM : MemL} {σ : Sg} (hF : 1000 ≤ F) (hM : StM M σ) (hs : okS σ) (h0' : 0 < σ 0) {r T : Nat} (hr : r < 4) (hT : T < 2147483648) {A : Nat → Nat} (hA : AbM M 13 A) (kk : Int32 → Option (Int32 × Mem)) : ∀ (e i n x : Nat), i + e = 420 → e < n → x ≤ 1000000 → ∃ y, f_X10_breaks_192 F M LM (nI r) (nI T).toInt64 kk n (nI x) (nI i) = kk (nI y) ∧ y ≤ x ∧ (y = x ∨ ∃ k b, k < 420 ∧ b < 2 ∧ cdB σ r T k b ∧ y = A (2 * k + b)) ∧ ∀ k b, i ≤ k → k < 420 → b < 2 → cdB σ r T k b → y ≤ A (2 * k + b)
  | e, i, 0, x, _, h, _ => by omega
  | 0, i, n + 1, x, hi, _, hx => by
    obtain rfl : i = 420 := by omega
    exact ⟨x, by rw [f_X10_breaks_192, if_pos (by decide)], Nat.le_refl _, Or.inl rfl, fun k b b1 b2 => by omega⟩
  | e + 1, i, n + 1, x, hi, hn, hx => by
    obtain ⟨y, a1, a2, a3, a4⟩ := g_b203 (F := F) (LM := LM) hM hs h0' hr hT hA (i := i) (by omega) (fun x5_263 => f_X10_breaks_192 F M LM (nI r) (nI T).toInt64 kk n x5_263 (nI i + 1)) 2 0 F x (by omega) (by omega) hx
    obtain ⟨z, b1, b2, b3, b4⟩ := g_b192 (F := F) (LM := LM) hF hM hs h0' hr hT hA kk e (i + 1) n y (by omega) (by omega) (by omega)
    refine ⟨z, ?_, by omega, ?_, fun k b c1 c2 c3 c4 => ?_⟩
    · rw [f_X10_breaks_192, if_neg (show ¬ (420 : Int32) ≤ nI i from nI_ge (b := 420) (by omega) (by decide))]
      refine Eq.trans a1 ?_
      rw [nI_1]
      exact b1
    · rcases b3 with b3 | b3
      · rcases a3 with a3 | ⟨b, c1, c2, c3⟩
        · exact Or.inl (by omega)
        · exact Or.inr ⟨i, b, by omega, c1, c2, by omega⟩
      · exact Or.inr b3
    · by_cases g : k = i
      · subst g
        exact Nat.le_trans b2 (a4 b (Nat.zero_le _) c3 c4)
      · exact b4 k b (by omega) c2 c3 c4
theorem g_breaks {F : Nat} {M : Mem} {LM : MemL} {σ : Sg} (hF : 10000 ≤ F) (hM : StM M σ) (hs : okS σ) {r s : Nat} (hr : r < σ 1) (hS : s < 2147483648) : ∃ B M', f_X10_breaks F M LM (nI r) (nI s) = some (B, M') ∧ AnB σ (fun j => σ (8 + (6 * r + j))) s B ∧ ∀ q, q ≠ 13 → q ≠ 14 → M' q = M q := by
  have h0 := kC hs
  have h1 := kR hs
  have h0' := kCR hs (by omega)
  have R16 : ∀ k : Mem → Option (Int32 × Mem), ∃ M1, f_X10_breaks_16 F LM (nI r) (nI s) k F M (nI 0) = k M1 ∧ Fl M M1 13 0 840 (fun _ => nI 1000000) := fun k => by
    have := fill_up (f_X10_breaks_16 F LM (nI r) (nI s) k) k 13 0 0 0 840 (fun _ => nI 1000000) M (fun n i N _ hi hN => by
      rw [f_X10_breaks_16]
      simp only [Nat.zero_add]
      rw [l_840, if_neg (nI_ge hi (by decide)), ck_n hi (by decide), nI_clamp (by omega), nI_1, l_1000000]) (fun n N hN => by
      rw [f_X10_breaks_16, l_840, if_pos (by decide)]) 840 0 F M (by omega) (by omega) (by omega) (Fl_0 M 13 _ _)
    exact this
  obtain ⟨M1, a1, a2⟩ := R16 (fun M_37 => ck 0 840 (f_X10_breaks_50 F LM (nI r) (fun M_185 x3_185 => f_X10_breaks_192 F M_185 LM (nI r) x3_185 (fun x5_269 => (if x5_269 < 1000000 then (some (x5_269, M_185)) else (some ((-2), M_185)))) F 1000000 0) F (mr M_37 13 (upd (M_37 13) (0 : Int32).toNatClampNeg 0)) ((nI s)).toInt64 0))
  have hM1 : StM (mr M1 13 (upd (M1 13) 0 (nI 0))) σ := fun j hj => by rw [mr_n _ _ (by decide), Fl_c a2 (by decide)]; exact hM j hj
  have hA1 : AbM (mr M1 13 (upd (M1 13) 0 (nI 0))) 13 (fun j => if j = 0 then 0 else 1000000) := fun j hj => by
    rw [mr_s]
    by_cases e : j = 0
    · rw [e, pk_us]; exact ⟨rfl, by decide⟩
    · show upd (M1 13) 0 (nI 0) j = nI (if j = 0 then 0 else 1000000) ∧ (if j = 0 then 0 else 1000000) ≤ 1000000
      rw [pk_un e, if_neg e, Fl_i a2 (by omega) hj]; exact ⟨rfl, Nat.le_refl _⟩
  have fin : ∀ k b, (if 2 * k + b = 0 then 0 else 1000000) < 1000000 → k = 0 ∧ b = 0 := fun k b z => by
    by_cases e : 2 * k + b = 0
    · omega
    · rw [if_neg e] at z; omega
  obtain ⟨M2, T, A, b1, b2, b3, b4, b5, b6⟩ := g_b50 (F := F) (LM := LM) (by omega) hs (r := r) (by omega) (s := s) (fun M_185 x3_185 => f_X10_breaks_192 F M_185 LM (nI r) x3_185 (fun x5_269 => (if x5_269 < 1000000 then (some (x5_269, M_185)) else (some ((-2), M_185)))) F 1000000 0) (σ 0 - 1) 0 F s (mr M1 13 (upd (M1 13) 0 (nI 0))) (fun j => if j = 0 then 0 else 1000000) (by omega) (by omega) hS hM1 hA1 (fun k b _ _ z => by
      obtain ⟨rfl, rfl⟩ := fin k b z
      refine ⟨by omega, by omega, Nat.le_refl _, fun v hv => ?_⟩
      show Fe σ (fun j => σ (8 + (6 * r + j))) (σ 0 - 1) 0 s 0 (0 + v)
      rw [Nat.zero_add]
      exact hv) (fun v hv => ⟨0, 0, v, by omega, by omega, by omega, by decide, by show 0 + v ≤ v; omega, hv⟩)
  have hM2 : StM M2 σ := fun j hj => by rw [b2 1 (by decide) (by decide)]; exact hM1 j hj
  obtain ⟨y, c1, c2, c3, c4⟩ := g_b192 (F := F) (LM := LM) (by omega) hM2 hs h0' (r := r) (by omega) b3 b4 (fun x5_269 => (if x5_269 < 1000000 then (some (x5_269, M2)) else (some ((-2), M2)))) 420 0 F 1000000 (by omega) (by omega) (Nat.le_refl _)
  have whole : f_X10_breaks F M LM (nI r) (nI s) = if nI y < 1000000 then some (nI y, M2) else some (-2, M2) := by
    unfold f_X10_breaks
    rw [isRow_n hM h1 F hr, Option.bind_some, if_neg n10, if_pos (show (0 : Int32) ≤ nI s from nI_le (a := 0) (by omega) hS)]
    refine Eq.trans a1 ?_
    show ck (nI 0) 840 _ = _
    rw [ck_n (by decide) (by decide)]
    exact Eq.trans b1 c1
  have fr : ∀ q, q ≠ 13 → q ≠ 14 → M2 q = M q := fun q q1 q2 => by rw [b2 q q1 q2, mr_n _ _ q1, Fl_c a2 q1]
  by_cases g : y < 1000000
  · refine ⟨nI y, M2, ?_, Or.inr ⟨y, rfl, ?_, fun v' hv => ?_⟩, fr⟩
    · rw [whole, if_pos (show nI y < (1000000 : Int32) from nI_lt (b := 1000000) g (by decide))]
    · rcases c3 with c3 | ⟨k, b, d1, d2, d3, d4⟩
      · omega
      · have := (b5 k b d1 d2 (by omega)).2.2.2 0 ⟨rfl, d3.2⟩
        rw [d4]
        exact this
    · obtain ⟨k, b, w, e1, e2, e3, e4, e5, e6⟩ := b6 v' hv
      have := c4 k b (Nat.zero_le _) (by omega) e3 ⟨e2, e6.2⟩
      omega
  · refine ⟨-2, M2, ?_, Or.inl ⟨rfl, fun v hv => ?_⟩, fr⟩
    · rw [whole, if_neg (show ¬ nI y < (1000000 : Int32) from nI_nlt (b := 1000000) (by omega) (by omega))]
    · obtain ⟨k, b, w, e1, e2, e3, e4, e5, e6⟩ := b6 v hv
      have := c4 k b (Nat.zero_le _) (by omega) e3 ⟨e2, e6.2⟩
      omega
theorem m_breaks {C M P X0 : Mem} {LM LP : MemL} {wP vP : Bool} {σ : Sg} (hC : StC C σ) (hM : StM M σ) (hs : okS σ) {F : Nat} (hF : 10000 ≤ F) (x1 x2 : Int32) : ∃ v P' M', f_X9_breaks F X0 C P LP wP vP x1 x2 = some (v, P') ∧ f_X10_breaks F M LM x1 x2 = some (v, M') ∧ Pm M M' := by
  have h1 := kR hs
  rcases ix_cases x1 (n := σ 1) (by omega) with ⟨r, hr, rfl⟩ | hn
  · by_cases q : x2 < 0
    · refine ⟨-1, P, M, ?_, ?_, Pm_rfl M⟩
      · unfold f_X9_breaks
        rw [hasRow_n hC h1 F hr, Option.bind_some, if_neg n10, if_pos q]
      · unfold f_X10_breaks
        rw [isRow_n hM h1 F hr, Option.bind_some, if_neg n10, if_neg (Int32.not_le.mpr q)]
    · obtain ⟨z, z1, z2, rfl⟩ := zI_of x2
      have zp : 0 ≤ z := by
        have := Int32.not_lt.mp q
        rw [Int32.le_iff_toInt_le, zI_toInt z1 z2, show (0 : Int32).toInt = 0 by decide] at this
        exact this
      rw [nI_of0 zp] at q ⊢
      obtain ⟨B, P', a1, a2⟩ := h_fewestBreaks (F := F) (P := P) (LP := LP) (wP := wP) (vP := vP) (by omega) hC hs hr (s := z.toNat) (by omega)
      obtain ⟨B', M', b1, b2, b3⟩ := g_breaks (F := F) (LM := LM) hF hM hs hr (s := z.toNat) (by omega)
      refine ⟨B, P', M', ?_, by rw [b1, AnB_u a2 b2], ⟨b3 _ (by decide) (by decide), b3 _ (by decide) (by decide), b3 _ (by decide) (by decide), b3 _ (by decide) (by decide), by rw [b3 0 (by decide) (by decide)], by rw [b3 0 (by decide) (by decide)]⟩⟩
      unfold f_X9_breaks
      rw [hasRow_n hC h1 F hr, Option.bind_some, if_neg n10, if_neg q, a1, Option.bind_some]
  · refine ⟨-1, P, M, ?_, ?_, Pm_rfl M⟩
    · unfold f_X9_breaks
      rw [h_hasRow hC, if_neg hn, Option.bind_some, if_pos (rfl : (0 : Int32) = 0)]
    · unfold f_X10_breaks
      rw [g_isRow hM h1, if_neg hn, Option.bind_some, if_pos (rfl : (0 : Int32) = 0)]
