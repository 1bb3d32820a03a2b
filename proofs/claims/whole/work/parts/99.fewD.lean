/-! PURE LAYER: the fewest counters over, the reference's way back, and the whole -/
theorem g_fo30 {F : Nat} {M : Mem} {LM : MemL} {σ : Sg} {nl nh : Nat → Nat} (h : okF σ nl nh) (hM : FwH σ nl nh M) {s : Nat} (hs : s < 2147483648) (hL : LvH σ nl s LM) {c i : Nat} (hc : c + 1 < σ 0) (hT : TbH σ nl nh s M (c + 1)) (hi : i < WdN σ nl nh c) {b J : Nat} (hb : b < 1000000) (hJ : J < nh c + nl c + 1) (j1 : scP (bsN σ nl nh (σ 0 - 1 - (c + 1)) (c + 1)) (uR σ c) (nl c) ((LvN σ nl s c : Int) - i) J) (j2 : scC (bsN σ nl nh (σ 0 - 1 - (c + 1)) (c + 1)) (uR σ c) (nl c) ((LvN σ nl s c : Int) - i) J = b) (j3 : ∀ t, t < J → scP (bsN σ nl nh (σ 0 - 1 - (c + 1)) (c + 1)) (uR σ c) (nl c) ((LvN σ nl s c : Int) - i) t → b < scC (bsN σ nl nh (σ 0 - 1 - (c + 1)) (c + 1)) (uR σ c) (nl c) ((LvN σ nl s c : Int) - i) t) (k : Int32 → Option Int32) (k2 : Option Int32) : ∀ (d j n : Nat), j + d = J → d < n → f_X10_firstOf_30 F M LM (nI c) (zL ((LvN σ nl s c : Int) - i)) (nI b) k k2 n (zI ((j : Int) - nl c)) = k (zI ((J : Int) - nl c))
  | d, j, 0, _, h => by omega
  | d, j, n + 1, hj, hn => by
    have h0 := kC h.1
    obtain ⟨b1, b2⟩ := h.2.2 c (by omega)
    obtain ⟨m9, m10⟩ := hM.2 c (by omega)
    obtain ⟨u1, u2⟩ := uR_b h.1 hc
    have ll := LvN_le h s c (by omega)
    have ll2 := LvN_le h s (c + 1) (by omega)
    obtain ⟨w1, w2⟩ := WdN_le h c (by omega)
    obtain ⟨w3, w4⟩ := WdN_le h (c + 1) (by omega)
    have ng : ¬ nI (nh c) < zI ((j : Int) - nl c) := by
      rw [nz_lt]; exact of_eq_false (zlt_F (by omega) (by omega) (by omega))
    have ex : zL ((LvN σ nl s c : Int) - i) - (zI ((j : Int) - nl c)).toInt64 = zL ((LvN σ nl s c : Int) - i - ((j : Int) - nl c)) := by
      rw [zI64 (by omega) (by omega), zL_sub']
    have eu : (nI (σ (2 + (c + 1)))).toInt64 = zL (uR σ c : Int) := nI64 (show uR σ c < 2147483648 by omega)
    have en : zI ((j : Int) - nl c) + 1 = zI (((j + 1 : Nat) : Int) - nl c) := by
      rw [show (1 : Int32) = nI 1 from rfl, zn_add]
      congr 1
      omega
    rw [f_X10_firstOf_30, ck_n (by omega) (by decide), nI_clamp (by omega), m10, if_neg ng, nI_1, g_ratio hM.1 F (by omega), Option.bind_some, Option.bind_some, eu, dvL_ne (zL_ne (by omega) (by omega)), dvL_ne (zL_ne (by omega) (by omega)), ex]
    by_cases q : (uR σ c : Int) ∣ (LvN σ nl s c : Int) - i - ((j : Int) - nl c)
    · obtain ⟨t, ht⟩ := q
      obtain ⟨i', i1, i2⟩ := ix_N h s hc hi (by omega) ht
      have ht2 : ((LvN σ nl s c : Int) - i - ((j : Int) - nl c)) / (uR σ c : Int) = t := by rw [ht]; exact Int.mul_ediv_cancel_left _ (by omega)
      have ht3 : ((LvN σ nl s c : Int) - i - ((j : Int) - nl c)).tdiv (uR σ c : Int) = t := by rw [ht]; exact Int.mul_tdiv_cancel_left _ (by omega)
      have ed : zL ((LvN σ nl s c : Int) - i - ((j : Int) - nl c)) / zL (uR σ c : Int) = zL t := by rw [zL_div' (by omega) (by omega) (by omega) (by omega), ht3]
      have e32 : (zL (LvN σ nl s (c + 1) : Int) - zL t).toInt32 = nI i' := by
        rw [zL_sub', i2, zL_32 (by omega) (by omega), zI_c]
      have et' : M 12 (420 * (c + 1) + i') = nI (bsN σ nl nh (σ 0 - 1 - (c + 1)) (c + 1) t) := by
        rw [hT i' i1]
        congr 2
        omega
      have bl := bsN_le h (σ 0 - 1 - (c + 1)) (c + 1) t (by omega)
      have xa : ((j : Int) - nl c).natAbs ≤ 99 := by omega
      have sP : bsN σ nl nh (σ 0 - 1 - (c + 1)) (c + 1) t < 1000000 → scP (bsN σ nl nh (σ 0 - 1 - (c + 1)) (c + 1)) (uR σ c) (nl c) ((LvN σ nl s c : Int) - i) j := by
        unfold scP
        rw [ht2]
        exact fun z => ⟨⟨t, ht⟩, z⟩
      have sC : scC (bsN σ nl nh (σ 0 - 1 - (c + 1)) (c + 1)) (uR σ c) (nl c) ((LvN σ nl s c : Int) - i) j = ((j : Int) - nl c).natAbs + bsN σ nl nh (σ 0 - 1 - (c + 1)) (c + 1) t := by
        unfold scC
        rw [ht2]
      have fin : f_X10_firstOf_102 F M LM (nI c) (zL ((LvN σ nl s c : Int) - i)) (nI b) (zI ((j : Int) - nl c)) (nI i') (nI ((j : Int) - nl c).natAbs) (f_X10_firstOf_30 F M LM (nI c) (zL ((LvN σ nl s c : Int) - i)) (nI b) k k2 n) k = k (zI ((J : Int) - nl c)) := by
        unfold f_X10_firstOf_102
        rw [nI_1, l_420, ml420, nI_add, ck_n (by omega) (by decide), nI_clamp (by omega), et', nI_add, ← sC, en]
        by_cases g : j = J
        · rw [if_pos (by rw [g, j2]), g]
        · have hne : scC (bsN σ nl nh (σ 0 - 1 - (c + 1)) (c + 1)) (uR σ c) (nl c) ((LvN σ nl s c : Int) - i) j ≠ b := by
            by_cases g2 : bsN σ nl nh (σ 0 - 1 - (c + 1)) (c + 1) t < 1000000
            · have := j3 j (by omega) (sP g2)
              omega
            · omega
          obtain ⟨d, rfl⟩ : ∃ e, d = e + 1 := ⟨d - 1, by omega⟩
          rw [if_neg (fun z => hne ((nI_eq (by omega) (by omega)).mp z))]
          exact g_fo30 h hM hs hL hc hT hi hb hJ j1 j2 j3 k k2 d (j + 1) n (by omega) (by omega)
      rw [if_pos ((zL_rem (by omega) (by omega) (by omega) (by omega)).mpr ⟨t, ht⟩), ck_n (by omega) (by decide), nI_clamp (by omega), hL (c + 1) (by omega), ed, e32]
      by_cases g : 0 ≤ (j : Int) - nl c
      · rw [if_pos (show (0 : Int32) ≤ zI ((j : Int) - nl c) by rw [l_0, nz_le]; exact of_eq_true (zle_T (by omega) (by omega) (by omega)))]
        have e : zI ((j : Int) - nl c) = nI ((j : Int) - nl c).natAbs := by rw [← zI_c]; congr 1; omega
        exact (congrArg (fun z => f_X10_firstOf_102 F M LM (nI c) (zL ((LvN σ nl s c : Int) - i)) (nI b) (zI ((j : Int) - nl c)) (nI i') z (f_X10_firstOf_30 F M LM (nI c) (zL ((LvN σ nl s c : Int) - i)) (nI b) k k2 n) k) e).trans fin
      · rw [if_neg (show ¬ (0 : Int32) ≤ zI ((j : Int) - nl c) by rw [l_0, nz_le]; exact of_eq_false (zle_F (by omega) (by omega) (by omega)))]
        have e : -zI ((j : Int) - nl c) = nI ((j : Int) - nl c).natAbs := by rw [z_neg, ← zI_c]; congr 1; omega
        rw [e]
        exact fin
    · have g : j ≠ J := fun e => q (by rw [e]; exact j1.1)
      obtain ⟨d, rfl⟩ : ∃ e, d = e + 1 := ⟨d - 1, by omega⟩
      rw [if_neg (fun z => q ((zL_rem (by omega) (by omega) (by omega) (by omega)).mp z)), en]
      exact g_fo30 h hM hs hL hc hT hi hb hJ j1 j2 j3 k k2 d (j + 1) n (by omega) (by omega)
def P11 (M M' : Mem) : Prop := ∀ q, q ≠ 11 → M' q = M q
theorem g_fw191 {F : Nat} {LM : MemL} {σ : Sg} {nl nh : Nat → Nat} (hF : 10000 ≤ F) (h : okF σ nl nh) {s : Nat} (hs : s < 2147483648) (hL : LvH σ nl s LM) (x3 : Int32) (f : Nat → Int) (k k2 : Mem → Option (Int32 × Mem × MemL)) : ∀ (d c n i : Nat) (M : Mem), c + d + 1 = σ 0 → d < n → FwH σ nl nh M → TbA σ nl nh s M 0 → i < WdN σ nl nh c → bsN σ nl nh d c ((LvN σ nl s c : Int) - i) < 1000000 → OvP σ nl nh d c ((LvN σ nl s c : Int) - i) f → (∀ j, j < c → M 11 j = zI (f j)) → ∃ M', f_X10_fewest_191 F LM x3 k k2 n M (zL ((LvN σ nl s c : Int) - i)) (nI c) = k M' ∧ (∀ j, j < σ 0 → M' 11 j = zI (f j)) ∧ P11 M M'
  | d, c, 0, i, M, _, h, _, _, _, _, _, _ => by omega
  | 0, c, n + 1, i, M, hc, _, hM, hT, hi, hb, hO, hA => by
    have h0 := kC h.1
    obtain ⟨b1, b2⟩ := h.2.2 c (by omega)
    have rg : -(nl c : Int) ≤ (LvN σ nl s c : Int) - i ∧ (LvN σ nl s c : Int) - i ≤ nh c := by
      by_cases q : -(nl c : Int) ≤ (LvN σ nl s c : Int) - i ∧ (LvN σ nl s c : Int) - i ≤ nh c
      · exact q
      · have e : bsN σ nl nh 0 c ((LvN σ nl s c : Int) - i) = 1000000 := if_neg q
        omega
    have hO' : f c = (LvN σ nl s c : Int) - i := hO
    refine ⟨mr M 11 (upd (M 11) c (zI ((LvN σ nl s c : Int) - i))), ?_, fun j hj => ?_, fun q hq => mr_n _ _ hq⟩
    · rw [f_X10_fewest_191, ck0, m0c, hM.1 0 (by decide), if_neg (nI_ge (by omega) (by omega)), ck_n (by omega) (by decide), ck0, nI_1, if_pos (show nI (c + 1) = nI (σ 0) by rw [← hc]), nI_clamp (by omega), zL_32 (by omega) (by omega)]
    · rw [mr_s]
      by_cases e : j = c
      · rw [e, pk_us, hO']
      · rw [pk_un e]; exact hA j (by omega)
  | d + 1, c, n + 1, i, M, hc, hn, hM, hT, hi, hb, hO, hA => by
    have h0 := kC h.1
    have ed1 : σ 0 - 1 - (c + 1) = d := by omega
    have ed0 : σ 0 - 1 - c = d + 1 := by omega
    obtain ⟨b1, b2⟩ := h.2.2 c (by omega)
    obtain ⟨u1, u2⟩ := uR_b h.1 (c := c) (by omega)
    have ll := LvN_le h s c (by omega)
    obtain ⟨w1, w2⟩ := WdN_le h c (by omega)
    obtain ⟨J, j0, j1, j2, j3, j4, j5⟩ := hO
    obtain ⟨t, ht⟩ := j2.1
    obtain ⟨i', i1, i2⟩ := ix_N h s (c := c) (i := i) (j := J) (by omega) hi (by omega) ht
    have ht2 : ((LvN σ nl s c : Int) - i - ((J : Int) - nl c)) / (uR σ c : Int) = t := by rw [ht]; exact Int.mul_ediv_cancel_left _ (by omega)
    have ht3 : ((LvN σ nl s c : Int) - i - ((J : Int) - nl c)).tdiv (uR σ c : Int) = t := by rw [ht]; exact Int.mul_tdiv_cancel_left _ (by omega)
    have et : t = (LvN σ nl s (c + 1) : Int) - i' := by omega
    have pM1 : P11 M (mr M 11 (upd (M 11) c (zL ((LvN σ nl s c : Int) - i)).toInt32)) := fun q hq => mr_n _ _ hq
    have FwH_1 : ∀ M', P11 M M' → FwH σ nl nh M' ∧ TbA σ nl nh s M' 0 := fun M' p => ⟨⟨fun j hj => by rw [p 1 (by decide)]; exact hM.1 j hj, fun c hc => by rw [p 9 (by decide), p 10 (by decide)]; exact hM.2 c hc⟩, fun c' g1 g2 t ht => by rw [p 12 (by decide)]; exact hT c' g1 g2 t ht⟩
    obtain ⟨hM1, hT1⟩ := FwH_1 _ pM1
    have e0 : ((0 : Nat) : Int) - (nl c : Int) = -(nl c : Int) := by omega
    have fo : f_X10_firstOf F (mr M 11 (upd (M 11) c (zL ((LvN σ nl s c : Int) - i)).toInt32)) LM (nI c) (zL ((LvN σ nl s c : Int) - i)) = some (zI ((J : Int) - nl c)) := by
      have k1 := g_fo30 (F := F) h hM1 hs hL (c := c) (i := i) (by omega) (hT1 (c + 1) (by omega) (by omega)) hi (b := scn (bsN σ nl nh d (c + 1)) (uR σ c) (nl c) ((LvN σ nl s c : Int) - i) (nh c + nl c + 1)) (J := J) hb j0 (by rw [ed1]; exact j2) (by rw [ed1]; exact j3) (by rw [ed1]; exact j4) (fun x5_123 => (some x5_123)) (some 0) J 0 F (by omega) (by omega)
      have e32 : (zL (LvN σ nl s c : Int) - zL ((LvN σ nl s c : Int) - i)).toInt32 = nI i := by
        rw [zL_sub', show (LvN σ nl s c : Int) - ((LvN σ nl s c : Int) - i) = (i : Int) by omega, zL_32 (by omega) (by omega), zI_c]
      have eT := hT1 c (Nat.zero_le _) (by omega) i hi
      rw [ed0] at eT
      have eT' : (mr M 11 (upd (M 11) c (zL ((LvN σ nl s c : Int) - i)).toInt32)) 12 (420 * c + i) = nI (scn (bsN σ nl nh d (c + 1)) (uR σ c) (nl c) ((LvN σ nl s c : Int) - i) (nh c + nl c + 1)) := eT
      rw [e0] at k1
      unfold f_X10_firstOf
      rw [ck_n (by omega) (by decide), nI_clamp (by omega), hL c (by omega), e32, l_420, ml420, nI_add, ck_n (by omega) (by decide), ck_n (by omega) (by decide), nI_clamp (by omega), eT', (hM1.2 c (by omega)).1]
      exact k1
    have pM2 : P11 M (mr M 11 (upd (upd (M 11) c (zL ((LvN σ nl s c : Int) - i)).toInt32) c (zI ((J : Int) - nl c)))) := fun q hq => mr_n _ _ hq
    obtain ⟨hM2, hT2⟩ := FwH_1 _ pM2
    rw [ht2, et] at j5
    obtain ⟨M', a1, a2, a3⟩ := g_fw191 (F := F) (LM := LM) hF h hs hL x3 f k k2 d (c + 1) n i' (mr M 11 (upd (upd (M 11) c (zL ((LvN σ nl s c : Int) - i)).toInt32) c (zI ((J : Int) - nl c)))) (by omega) (by omega) hM2 hT2 i1 (by rw [← et, ← ht2]; exact j2.2) j5 (fun j hj => by
      rw [mr_s]
      by_cases e : j = c
      · rw [e, pk_us, j1]
      · rw [pk_un e, pk_un e]; exact hA j (by omega))
    refine ⟨M', ?_, a2, fun q hq => by rw [a3 q hq, pM2 q hq]⟩
    have ne : ¬ nI (c + 1) = nI (σ 0) := fun z => absurd ((nI_eq (by omega) (by omega)).mp z) (by omega)
    have eu : (nI (σ (2 + (c + 1)))).toInt64 = zL (uR σ c : Int) := nI64 (show uR σ c < 2147483648 by omega)
    have ev : (zL ((LvN σ nl s c : Int) - i) - (zI ((J : Int) - nl c)).toInt64) / zL (uR σ c : Int) = zL ((LvN σ nl s (c + 1) : Int) - i') := by
      rw [zI64 (by omega) (by omega), zL_sub', zL_div' (by omega) (by omega) (by omega) (by omega), ht3, et]
    rw [f_X10_fewest_191, ck0, m0c, hM.1 0 (by decide), if_neg (nI_ge (by omega) (by omega)), ck_n (by omega) (by decide), ck0, nI_1, if_neg ne, nI_clamp (by omega), fo, Option.bind_some, ck_n (by omega) (by decide), ck_n (by omega) (by decide), g_ratio hM2.1 F (by omega), Option.bind_some, eu, dvL_ne (zL_ne (by omega) (by omega)), pk_us, ev]
    exact a1
theorem g_fewest {F : Nat} {M : Mem} {LM : MemL} {σ : Sg} {nl nh : Nat → Nat} (hF : 10000 ≤ F) (h : okF σ nl nh) (hM : FwH σ nl nh M) {s : Nat} (hs : s < 2147483648) : ∃ M' LM', (∀ q, q ≠ 11 → q ≠ 12 → M' q = M q) ∧ ((bsN σ nl nh (σ 0 - 1) 0 s = 1000000 ∧ f_X10_fewest F M LM (nI s).toInt64 = some (-2, M', LM')) ∨ (bsN σ nl nh (σ 0 - 1) 0 s < 1000000 ∧ f_X10_fewest F M LM (nI s).toInt64 = some (nI (bsN σ nl nh (σ 0 - 1) 0 s), M', LM') ∧ ∃ f, OvP σ nl nh (σ 0 - 1) 0 s f ∧ ∀ j, j < σ 0 → M' 11 j = zI (f j))) := by
  have h0 := kC h.1
  have h0' := h.2.1
  have e7 : ∀ E : Option (Int32 × Mem × MemL), ck 0 7 E = E := fun E => ck_n (i := 0) (by decide) (by decide)
  have e2520 : ∀ E : Option (Int32 × Mem × MemL), ck 0 2520 E = E := fun E => ck_n (i := 0) (by decide) (by decide)
  have sb := bsN_le h (σ 0 - 1) 0 s (by omega)
  obtain ⟨LM1, a1, a2⟩ := g_fw9 (F := F) h hM hs (nI s).toInt64 (fun LM_60 => ck 0 226 (f_X10_fewest_69 F LM_60 (nI s).toInt64 (fun M_111 => ck 0 226 (f_X10_fewest_120 F LM_60 (nI s).toInt64 (fun M_169 => ck 0 2520 ((if ((M_169 12) (0 : Int32).toNatClampNeg) < 1000000 then f_X10_fewest_191 F LM_60 ((M_169 12) (0 : Int32).toNatClampNeg) (fun M_225 => (some (((M_169 12) (0 : Int32).toNatClampNeg), M_225, LM_60))) (fun M_271 => (some (((M_169 12) (0 : Int32).toNatClampNeg), M_271, LM_60))) F M_169 (nI s).toInt64 0 else (some ((-2), M_169, LM_60))))) F M_111 (((M_111 1) (0 : Int32).toNatClampNeg) - 1))) F M (((M 1) (0 : Int32).toNatClampNeg) - 1))) (σ 0 - 1) 0 F (mr LM 6 (vp_updL (LM 6) 0 (nI s).toInt64)) (by omega) (by omega) (fun j hj => by
    obtain rfl : j = 0 := by omega
    rw [mr_s, updL_s, nI64 hs]
    rfl)
  obtain ⟨M1, b1, b2⟩ := g_fw69 (F := F) (LM := LM1) (x1 := (nI s).toInt64) hF (fun M_111 => ck 0 226 (f_X10_fewest_120 F LM1 (nI s).toInt64 (fun M_169 => ck 0 2520 ((if ((M_169 12) (0 : Int32).toNatClampNeg) < 1000000 then f_X10_fewest_191 F LM1 ((M_169 12) (0 : Int32).toNatClampNeg) (fun M_225 => (some (((M_169 12) (0 : Int32).toNatClampNeg), M_225, LM1))) (fun M_271 => (some (((M_169 12) (0 : Int32).toNatClampNeg), M_271, LM1))) F M_169 (nI s).toInt64 0 else (some ((-2), M_169, LM1))))) F M_111 (((M_111 1) (0 : Int32).toNatClampNeg) - 1))) (σ 0) F M (by omega) (by omega)
  have hM1 := FwH_p hM b2
  obtain ⟨M2, c1, c2, c3⟩ := g_fw120 (F := F) (LM := LM1) hF h hs a2 (nI s).toInt64 (fun M_169 => ck 0 2520 ((if ((M_169 12) (0 : Int32).toNatClampNeg) < 1000000 then f_X10_fewest_191 F LM1 ((M_169 12) (0 : Int32).toNatClampNeg) (fun M_225 => (some (((M_169 12) (0 : Int32).toNatClampNeg), M_225, LM1))) (fun M_271 => (some (((M_169 12) (0 : Int32).toNatClampNeg), M_271, LM1))) F M_169 (nI s).toInt64 0 else (some ((-2), M_169, LM1))))) (σ 0) F M1 (Nat.le_refl _) (by omega) hM1 (fun c' g1 g2 => by omega)
  have hM2 := FwH_p hM1 c3
  have pp := P12_t b2 c3
  have dnn : nI (σ 0) - 1 = dn (σ 0) := rfl
  have t0 := c2 0 (Nat.le_refl _) h0' 0 (by show 0 < 1; decide)
  have t0' : M2 12 0 = nI (bsN σ nl nh (σ 0 - 1) 0 s) := by
    have e : ((LvN σ nl s 0 : Nat) : Int) - ((0 : Nat) : Int) = (s : Int) := by
      show (s : Int) - ((0 : Nat) : Int) = s
      omega
    rw [e] at t0
    exact t0
  have main : f_X10_fewest F M LM (nI s).toInt64 = (if nI (bsN σ nl nh (σ 0 - 1) 0 s) < 1000000 then f_X10_fewest_191 F LM1 (nI (bsN σ nl nh (σ 0 - 1) 0 s)) (fun M_225 => (some (nI (bsN σ nl nh (σ 0 - 1) 0 s), M_225, LM1))) (fun M_271 => (some (nI (bsN σ nl nh (σ 0 - 1) 0 s), M_271, LM1))) F M2 (nI s).toInt64 0 else (some ((-2), M2, LM1))) := by
    unfold f_X10_fewest
    rw [e7]
    refine Eq.trans a1 ?_
    rw [ck0, m0c, hM.1 0 (by decide), dnn]
    refine Eq.trans b1 ?_
    rw [ck0, m0c, hM1.1 0 (by decide), dnn]
    refine Eq.trans c1 ?_
    rw [e2520, m0c, t0']
  by_cases q : bsN σ nl nh (σ 0 - 1) 0 s < 1000000
  · obtain ⟨f, hf⟩ := OvP_ex (σ 0 - 1) 0 (s : Int) q
    have e : ((LvN σ nl s 0 : Nat) : Int) - ((0 : Nat) : Int) = (s : Int) := by
      show (s : Int) - ((0 : Nat) : Int) = s
      omega
    obtain ⟨M', d1, d2, d3⟩ := g_fw191 (F := F) (LM := LM1) hF h hs a2 (nI (bsN σ nl nh (σ 0 - 1) 0 s)) f (fun M_225 => (some (nI (bsN σ nl nh (σ 0 - 1) 0 s), M_225, LM1))) (fun M_271 => (some (nI (bsN σ nl nh (σ 0 - 1) 0 s), M_271, LM1))) (σ 0 - 1) 0 F 0 M2 (by omega) (by omega) hM2 c2 (by show 0 < 1; decide) (by rw [e]; exact q) (by rw [e]; exact hf) (fun j hj => by omega)
    rw [e, ← nI64 hs] at d1
    refine ⟨M', LM1, fun x h11 h12 => by rw [d3 x h11, pp x h12], Or.inr ⟨q, ?_, f, hf, d2⟩⟩
    rw [main, if_pos (show nI (bsN σ nl nh (σ 0 - 1) 0 s) < (1000000 : Int32) from nI_lt (b := 1000000) q (by decide))]
    exact d1
  · refine ⟨M2, LM1, fun x h11 h12 => pp x h12, Or.inl ⟨by omega, ?_⟩⟩
    rw [main, if_neg (show ¬ nI (bsN σ nl nh (σ 0 - 1) 0 s) < (1000000 : Int32) from nI_nlt (b := 1000000) (by omega) (by omega))]
