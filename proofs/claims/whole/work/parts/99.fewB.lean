/-! PURE LAYER: the fewest counters over, the reference's loops -/
def FwH (σ : Sg) (nl nh : Nat → Nat) (M : Mem) : Prop := StM M σ ∧ ∀ c, c < σ 0 → M 9 c = zI (-(nl c : Int)) ∧ M 10 c = nI (nh c)
def LvH (σ : Sg) (nl : Nat → Nat) (s : Nat) (LM : MemL) : Prop := ∀ c, c < σ 0 → LM 6 c = zL (LvN σ nl s c : Int)
def TbH (σ : Sg) (nl nh : Nat → Nat) (s : Nat) (M : Mem) (c : Nat) : Prop := ∀ i, i < WdN σ nl nh c → M 12 (420 * c + i) = nI (bsN σ nl nh (σ 0 - 1 - c) c ((LvN σ nl s c : Int) - i))
def P12 (M M' : Mem) : Prop := ∀ q, q ≠ 12 → M' q = M q
theorem P12_r (M : Mem) : P12 M M := fun _ _ => rfl
theorem P12_t {M M1 M2 : Mem} (h : P12 M M1) (g : P12 M1 M2) : P12 M M2 := fun q hq => (g q hq).trans (h q hq)
theorem FwH_p {σ : Sg} {nl nh : Nat → Nat} {M M' : Mem} (h : FwH σ nl nh M) (p : P12 M M') : FwH σ nl nh M' := ⟨fun j hj => by rw [p 1 (by decide)]; exact h.1 j hj, fun c hc => by rw [p 9 (by decide), p 10 (by decide)]; exact h.2 c hc⟩
theorem g_floor {F a u : Nat} (ha : a < 4611686018427387904) (hu : 0 < u) (hu2 : u < 1000) : f_X10_floor F (zL (a : Int)) (zL (u : Int)) = some (zL ((a / u : Nat) : Int)) := by
  have e1 : ((a : Int)).tdiv (u : Int) = ((a / u : Nat) : Int) := by
    rw [Int.tdiv_eq_ediv_of_nonneg (by omega)]; exact (Int.natCast_ediv _ _).symm
  have e2 := Nat.div_mul_le_self a u
  have e3 : ((a / u * u : Nat) : Int) = ((a / u : Nat) : Int) * (u : Int) := Int.natCast_mul _ _
  unfold f_X10_floor
  rw [dvL_ne (zL_ne hu hu2), dvL_ne (zL_ne hu hu2), zL_div' (by omega) (by omega) (by omega) (by omega), e1, zL_mul', zL_sub', if_pos ((zL_ge (by omega) (by omega)).mpr (by omega))]
theorem g_fw9 {F : Nat} {M : Mem} {σ : Sg} {nl nh : Nat → Nat} (h : okF σ nl nh) (hM : FwH σ nl nh M) {s : Nat} (hs : s < 2147483648) (x1 : Int64) (k : MemL → Option (Int32 × Mem × MemL)) : ∀ (d c n : Nat) (LM : MemL), c + d + 1 = σ 0 → d < n → (∀ j, j ≤ c → LM 6 j = zL (LvN σ nl s j : Int)) → ∃ LM', f_X10_fewest_9 F M x1 k n LM (nI c) = k LM' ∧ LvH σ nl s LM'
  | d, c, 0, LM, _, h, _ => by omega
  | 0, c, n + 1, LM, hc, _, hL => by
    have h0 := kC h.1
    refine ⟨LM, ?_, fun j hj => hL j (by omega)⟩
    rw [f_X10_fewest_9, ck0, m0c, hM.1 0 (by decide), nI_1, if_pos (nI_le (by omega) (by omega))]
  | d + 1, c, n + 1, LM, hc, hn, hL => by
    have h0 := kC h.1
    obtain ⟨u1, u2⟩ := uR_b h.1 (c := c) (by omega)
    have ll := LvN_le h s c (by omega)
    obtain ⟨b1, b2⟩ := h.2.2 c (by omega)
    obtain ⟨m9, m10⟩ := hM.2 c (by omega)
    have e1 : zL (LvN σ nl s c : Int) - (zI (-(nl c : Int))).toInt64 = zL ((LvN σ nl s c + nl c : Nat) : Int) := by
      rw [zI64 (by omega) (by omega), zL_sub']
      congr 1
      omega
    have e2 : (nI (uR σ c)).toInt64 = zL (uR σ c : Int) := nI64 (by omega)
    obtain ⟨LM', a1, a2⟩ := g_fw9 (F := F) h hM hs x1 k d (c + 1) n (mr LM 6 (vp_updL (LM 6) (c + 1) (zL (LvN σ nl s (c + 1) : Int)))) (by omega) (by omega) (fun j hj => by
      rw [mr_s]
      by_cases e : j = c + 1
      · rw [e, updL_s]
      · rw [updL_n _ _ e]; exact hL j (by omega))
    refine ⟨LM', ?_, a2⟩
    rw [f_X10_fewest_9, ck0, m0c, hM.1 0 (by decide), nI_1, if_neg (nI_ge (by omega) (by omega)), ck_n (by omega) (by decide), ck_n (by omega) (by decide), g_ratio hM.1 F (by omega), Option.bind_some, nI_clamp (by omega), hL c (Nat.le_refl _), m9, e1, show (nI (σ (2 + (c + 1)))).toInt64 = zL (uR σ c : Int) from e2, g_floor (by omega) (by omega) (by omega), Option.bind_some, ck_n (by omega) (by decide), nI_clamp (by omega)]
    exact a1
theorem g_fw76 {F : Nat} {LM : MemL} {x1 : Int64} {c : Nat} (hc : c < 6) (k : Mem → Option (Int32 × Mem × MemL)) : ∀ (d i n : Nat) (M : Mem), i + d = 420 → d < n → ∃ M', f_X10_fewest_76 F LM x1 (nI c) k n M (nI i) = k M' ∧ P12 M M'
  | d, i, 0, M, _, h => by omega
  | 0, i, n + 1, M, hi, _ => by
    obtain rfl : i = 420 := by omega
    exact ⟨M, by rw [f_X10_fewest_76, if_pos (by decide)], P12_r M⟩
  | d + 1, i, n + 1, M, hi, hn => by
    obtain ⟨M', a1, a2⟩ := g_fw76 (F := F) (LM := LM) (x1 := x1) hc k d (i + 1) n (mr M 12 (upd (M 12) (420 * c + i) 1000000)) (by omega) (by omega)
    refine ⟨M', ?_, fun q hq => by rw [a2 q hq, mr_n _ _ hq]⟩
    rw [f_X10_fewest_76, if_neg (show ¬ (420 : Int32) ≤ nI i from nI_ge (b := 420) (by omega) (by decide)), l_420, ml420, nI_add, ck_n (by omega) (by decide), nI_clamp (by omega), nI_1]
    exact a1
theorem g_fw69 {F : Nat} {LM : MemL} {x1 : Int64} (hF : 10000 ≤ F) (k : Mem → Option (Int32 × Mem × MemL)) : ∀ (i n : Nat) (M : Mem), i ≤ 6 → i < n → ∃ M', f_X10_fewest_69 F LM x1 k n M (dn i) = k M' ∧ P12 M M'
  | i, 0, M, _, h => by omega
  | 0, n + 1, M, _, _ => ⟨M, by rw [f_X10_fewest_69, if_pos (by decide)], P12_r M⟩
  | i + 1, n + 1, M, hi, hn => by
    have dnn : nI i + (-1 : Int32) = dn i := (Int32.sub_eq_add_neg _ _).symm
    obtain ⟨M1, a1, a2⟩ := g_fw76 (F := F) (LM := LM) (x1 := x1) (c := i) (by omega) (fun M_105 => f_X10_fewest_69 F LM x1 k n M_105 (dn i)) 420 0 F M (by omega) (by omega)
    obtain ⟨M', b1, b2⟩ := g_fw69 (F := F) (LM := LM) (x1 := x1) hF k i n M1 (by omega) (by omega)
    refine ⟨M', ?_, P12_t a2 b2⟩
    rw [f_X10_fewest_69, dn_s, if_neg (show ¬ nI i < (0 : Int32) from nI_nlt (b := 0) (by omega) (by omega)), dnn]
    exact a1.trans b1
theorem g_wd4 {F : Nat} {M : Mem} {LM : MemL} {σ : Sg} {nl nh : Nat → Nat} (h : okF σ nl nh) (hM : FwH σ nl nh M) {c : Nat} (hc : c < σ 0) (k : Int32 → Option Int32) : ∀ (d i n : Nat), i + d = c → d < n → f_X10_widthAt_4 F M LM (nI c) k n (nI (WdN σ nl nh i)) (nI i) = k (nI (WdN σ nl nh c))
  | d, i, 0, _, h => by omega
  | 0, i, n + 1, hi, _ => by
    have h0 := kC h.1
    obtain rfl : i = c := by omega
    rw [f_X10_widthAt_4, if_pos (nI_le (Nat.le_refl _) (by omega))]
  | d + 1, i, n + 1, hi, hn => by
    have h0 := kC h.1
    obtain ⟨u1, u2⟩ := uR_b h.1 (c := i) (by omega)
    obtain ⟨b1, b2⟩ := h.2.2 i (by omega)
    obtain ⟨m9, m10⟩ := hM.2 i (by omega)
    obtain ⟨w1, w2⟩ := WdN_le h i (by omega)
    have e1 : nI (WdN σ nl nh i) + nI (nh i) - zI (-(nl i : Int)) = nI (WdN σ nl nh i + nh i + nl i) := by
      rw [nI_add, nz_sub, ← zI_c]
      congr 1
      omega
    have e2 : nI (WdN σ nl nh i + nh i + nl i) / nI (σ (2 + (i + 1))) = nI ((WdN σ nl nh i + nh i + nl i) / σ (2 + (i + 1))) := pk_div (by omega) (by show 0 < uR σ i; omega) (by show uR σ i < _; omega)
    rw [f_X10_widthAt_4, if_neg (nI_ge (by omega) (by omega)), ck_n (by omega) (by decide), ck_n (by omega) (by decide), nI_1, g_ratio hM.1 F (by omega), Option.bind_some, dv_n (by show 0 < uR σ i; omega) (by show uR σ i < _; omega), nI_clamp (by omega), m10, m9, e1, e2, nI_2']
    exact g_wd4 h hM hc k d (i + 1) n (by omega) (by omega)
theorem g_widthAt {F : Nat} {M : Mem} {LM : MemL} {σ : Sg} {nl nh : Nat → Nat} (hF : 10 ≤ F) (h : okF σ nl nh) (hM : FwH σ nl nh M) {c : Nat} (hc : c < σ 0) : f_X10_widthAt F M LM (nI c) = some (nI (WdN σ nl nh c)) := by
  have h0 := kC h.1
  exact g_wd4 h hM hc (fun x2_41 => (some x2_41)) c 0 F (by omega) (by omega)
theorem g_ct74 {F : Nat} {M : Mem} {LM : MemL} {σ : Sg} {nl nh : Nat → Nat} (h : okF σ nl nh) (hM : FwH σ nl nh M) {s : Nat} (hs : s < 2147483648) (hL : LvH σ nl s LM) {c i : Nat} (hc : c + 1 < σ 0) (hT : TbH σ nl nh s M (c + 1)) (hi : i < WdN σ nl nh c) (k : Int32 → Option Int32) : ∀ (d j n : Nat), j + d = nh c + nl c + 1 → d < n → f_X10_costAt_74 F M LM (nI c) (zL ((LvN σ nl s c : Int) - i)) k n (nI (scn (bsN σ nl nh (σ 0 - 1 - (c + 1)) (c + 1)) (uR σ c) (nl c) ((LvN σ nl s c : Int) - i) j)) (zI ((j : Int) - nl c)) = k (nI (scn (bsN σ nl nh (σ 0 - 1 - (c + 1)) (c + 1)) (uR σ c) (nl c) ((LvN σ nl s c : Int) - i) (nh c + nl c + 1)))
  | d, j, 0, _, h => by omega
  | 0, j, n + 1, hj, _ => by
    have h0 := kC h.1
    obtain ⟨b1, b2⟩ := h.2.2 c (by omega)
    obtain ⟨m9, m10⟩ := hM.2 c (by omega)
    obtain rfl : j = nh c + nl c + 1 := by omega
    have e : nI (nh c) < zI (((nh c + nl c + 1 : Nat) : Int) - nl c) := by
      rw [nz_lt]; exact of_eq_true (zlt_T (by omega) (by omega) (by omega))
    rw [f_X10_costAt_74, ck_n (by omega) (by decide), nI_clamp (by omega), m10, if_pos e]
  | d + 1, j, n + 1, hj, hn => by
    have h0 := kC h.1
    obtain ⟨b1, b2⟩ := h.2.2 c (by omega)
    obtain ⟨m9, m10⟩ := hM.2 c (by omega)
    obtain ⟨u1, u2⟩ := uR_b h.1 hc
    have ll := LvN_le h s c (by omega)
    have ll2 := LvN_le h s (c + 1) (by omega)
    obtain ⟨w1, w2⟩ := WdN_le h c (by omega)
    obtain ⟨w3, w4⟩ := WdN_le h (c + 1) (by omega)
    have ih := g_ct74 (F := F) h hM hs hL hc hT hi k d (j + 1) n (by omega) (by omega)
    have ng : ¬ nI (nh c) < zI ((j : Int) - nl c) := by
      rw [nz_lt]; exact of_eq_false (zlt_F (by omega) (by omega) (by omega))
    have ex : zL ((LvN σ nl s c : Int) - i) - (zI ((j : Int) - nl c)).toInt64 = zL ((LvN σ nl s c : Int) - i - ((j : Int) - nl c)) := by
      rw [zI64 (by omega) (by omega), zL_sub']
    have eu : (nI (σ (2 + (c + 1)))).toInt64 = zL (uR σ c : Int) := nI64 (show uR σ c < 2147483648 by omega)
    have en : zI ((j : Int) - nl c) + 1 = zI (((j + 1 : Nat) : Int) - nl c) := by
      rw [show (1 : Int32) = nI 1 from rfl, zn_add]
      congr 1
      omega
    have es : scn (bsN σ nl nh (σ 0 - 1 - (c + 1)) (c + 1)) (uR σ c) (nl c) ((LvN σ nl s c : Int) - i) (j + 1) = if scP (bsN σ nl nh (σ 0 - 1 - (c + 1)) (c + 1)) (uR σ c) (nl c) ((LvN σ nl s c : Int) - i) j ∧ scC (bsN σ nl nh (σ 0 - 1 - (c + 1)) (c + 1)) (uR σ c) (nl c) ((LvN σ nl s c : Int) - i) j < scn (bsN σ nl nh (σ 0 - 1 - (c + 1)) (c + 1)) (uR σ c) (nl c) ((LvN σ nl s c : Int) - i) j then scC (bsN σ nl nh (σ 0 - 1 - (c + 1)) (c + 1)) (uR σ c) (nl c) ((LvN σ nl s c : Int) - i) j else scn (bsN σ nl nh (σ 0 - 1 - (c + 1)) (c + 1)) (uR σ c) (nl c) ((LvN σ nl s c : Int) - i) j := rfl
    have sl := scn_le (bsN σ nl nh (σ 0 - 1 - (c + 1)) (c + 1)) (uR σ c) (nl c) ((LvN σ nl s c : Int) - i) j
    rw [f_X10_costAt_74, ck_n (by omega) (by decide), nI_clamp (by omega), m10, if_neg ng, nI_1, g_ratio hM.1 F (by omega), Option.bind_some, Option.bind_some, eu, dvL_ne (zL_ne (by omega) (by omega)), dvL_ne (zL_ne (by omega) (by omega)), ex]
    by_cases q : (uR σ c : Int) ∣ (LvN σ nl s c : Int) - i - ((j : Int) - nl c)
    · obtain ⟨t, ht⟩ := q
      obtain ⟨i', i1, i2⟩ := ix_N h s hc hi (by omega) ht
      have ht2 : ((LvN σ nl s c : Int) - i - ((j : Int) - nl c)) / (uR σ c : Int) = t := by rw [ht]; exact Int.mul_ediv_cancel_left _ (by omega)
      have ht3 : ((LvN σ nl s c : Int) - i - ((j : Int) - nl c)).tdiv (uR σ c : Int) = t := by rw [ht]; exact Int.mul_tdiv_cancel_left _ (by omega)
      have ed : zL ((LvN σ nl s c : Int) - i - ((j : Int) - nl c)) / zL (uR σ c : Int) = zL t := by rw [zL_div' (by omega) (by omega) (by omega) (by omega), ht3]
      have e32 : (zL (LvN σ nl s (c + 1) : Int) - zL t).toInt32 = nI i' := by
        rw [zL_sub', i2, zL_32 (by omega) (by omega), zI_c]
      have et := hT i' i1
      have et' : M 12 (420 * (c + 1) + i') = nI (bsN σ nl nh (σ 0 - 1 - (c + 1)) (c + 1) t) := by
        rw [et]
        congr 2
        omega
      have bl := bsN_le h (σ 0 - 1 - (c + 1)) (c + 1) t (by omega)
      have xa : ((j : Int) - nl c).natAbs ≤ 99 := by omega
      have sP : scP (bsN σ nl nh (σ 0 - 1 - (c + 1)) (c + 1)) (uR σ c) (nl c) ((LvN σ nl s c : Int) - i) j ↔ bsN σ nl nh (σ 0 - 1 - (c + 1)) (c + 1) t < 1000000 := by
        unfold scP
        rw [ht2]
        exact ⟨fun z => z.2, fun z => ⟨⟨t, ht⟩, z⟩⟩
      have sC : scC (bsN σ nl nh (σ 0 - 1 - (c + 1)) (c + 1)) (uR σ c) (nl c) ((LvN σ nl s c : Int) - i) j = ((j : Int) - nl c).natAbs + bsN σ nl nh (σ 0 - 1 - (c + 1)) (c + 1) t := by
        unfold scC
        rw [ht2]
      have fin : f_X10_costAt_159 F M LM (nI c) (zL ((LvN σ nl s c : Int) - i)) (nI (scn (bsN σ nl nh (σ 0 - 1 - (c + 1)) (c + 1)) (uR σ c) (nl c) ((LvN σ nl s c : Int) - i) j)) (zI ((j : Int) - nl c)) (nI (bsN σ nl nh (σ 0 - 1 - (c + 1)) (c + 1) t)) (nI ((j : Int) - nl c).natAbs) (f_X10_costAt_74 F M LM (nI c) (zL ((LvN σ nl s c : Int) - i)) k n) = k (nI (scn (bsN σ nl nh (σ 0 - 1 - (c + 1)) (c + 1)) (uR σ c) (nl c) ((LvN σ nl s c : Int) - i) (nh c + nl c + 1))) := by
        unfold f_X10_costAt_159
        rw [en, nI_add, ← sC]
        by_cases g1 : bsN σ nl nh (σ 0 - 1 - (c + 1)) (c + 1) t < 1000000
        · rw [if_neg (show ¬ (1000000 : Int32) ≤ nI (bsN σ nl nh (σ 0 - 1 - (c + 1)) (c + 1) t) from nI_ge (b := 1000000) g1 (by decide))]
          by_cases g2 : scC (bsN σ nl nh (σ 0 - 1 - (c + 1)) (c + 1)) (uR σ c) (nl c) ((LvN σ nl s c : Int) - i) j < scn (bsN σ nl nh (σ 0 - 1 - (c + 1)) (c + 1)) (uR σ c) (nl c) ((LvN σ nl s c : Int) - i) j
          · rw [if_neg (nI_ge g2 (by omega))]
            rw [es, if_pos ⟨sP.mpr g1, g2⟩] at ih
            exact ih
          · rw [if_pos (nI_le (by omega) (by omega))]
            rw [es, if_neg (fun z => g2 z.2)] at ih
            exact ih
        · rw [if_pos (show (1000000 : Int32) ≤ nI (bsN σ nl nh (σ 0 - 1 - (c + 1)) (c + 1) t) from nI_le (a := 1000000) (by omega) (by omega))]
          rw [es, if_neg (fun z => g1 (sP.mp z.1))] at ih
          exact ih
      rw [if_pos ((zL_rem (by omega) (by omega) (by omega) (by omega)).mpr ⟨t, ht⟩), ck_n (by omega) (by decide), nI_clamp (by omega), hL (c + 1) (by omega), ed, e32, l_420, ml420, nI_add, ck_n (by omega) (by decide), nI_clamp (by omega), et']
      by_cases g : 0 ≤ (j : Int) - nl c
      · rw [if_pos (show (0 : Int32) ≤ zI ((j : Int) - nl c) by rw [l_0, nz_le]; exact of_eq_true (zle_T (by omega) (by omega) (by omega)))]
        have e : zI ((j : Int) - nl c) = nI ((j : Int) - nl c).natAbs := by rw [← zI_c]; congr 1; omega
        exact (congrArg (fun z => f_X10_costAt_159 F M LM (nI c) (zL ((LvN σ nl s c : Int) - i)) (nI (scn (bsN σ nl nh (σ 0 - 1 - (c + 1)) (c + 1)) (uR σ c) (nl c) ((LvN σ nl s c : Int) - i) j)) (zI ((j : Int) - nl c)) (nI (bsN σ nl nh (σ 0 - 1 - (c + 1)) (c + 1) t)) z (f_X10_costAt_74 F M LM (nI c) (zL ((LvN σ nl s c : Int) - i)) k n)) e).trans fin
      · rw [if_neg (show ¬ (0 : Int32) ≤ zI ((j : Int) - nl c) by rw [l_0, nz_le]; exact of_eq_false (zle_F (by omega) (by omega) (by omega)))]
        have e : -zI ((j : Int) - nl c) = nI ((j : Int) - nl c).natAbs := by rw [z_neg, ← zI_c]; congr 1; omega
        rw [e]
        exact fin
    · rw [if_neg (fun z => q ((zL_rem (by omega) (by omega) (by omega) (by omega)).mp z)), en]
      rw [es, if_neg (fun z => q z.1.1)] at ih
      exact ih
