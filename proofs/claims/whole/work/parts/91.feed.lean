/-! PURE LAYER: feed, back (the rows on bits are turned from the kit's laws/BITS.to-paste) -/
def bq (x : Int32) (i : Nat) : Bool := x.toBitVec.getLsbD i
theorem bq_ext {x y : Int32} (h : ∀ i, i < 32 → bq x i = bq y i) : x = y := Int32.toBitVec_inj.mp (BitVec.eq_of_getLsbD_eq (fun i hi => h i hi))
theorem bq_and (x y : Int32) (i : Nat) : bq (x &&& y) i = (bq x i && bq y i) := by unfold bq; rw [Int32.toBitVec_and, BitVec.getLsbD_and]
theorem bq_255 : ∀ i, i < 32 → bq 255 i = decide (i < 8) := by decide +kernel
theorem sq_l : ∀ n, n < 32 → ((nI n &&& 31).toBitVec.smod 32).toNat = n := by decide +kernel
theorem sq_u : ∀ n, n < 32 → (((nI n).toUInt32 &&& Int32.toUInt32 31).toBitVec % 32).toNat = n := by decide +kernel
theorem bq_ushr (n : Nat) (hn : n < 32) (x : Int32) (i : Nat) : bq ((x.toUInt32 >>> ((nI n).toUInt32 &&& Int32.toUInt32 31)).toInt32) i = bq x (n + i) := by
  show (x.toUInt32 >>> ((nI n).toUInt32 &&& Int32.toUInt32 31)).toBitVec.getLsbD i = x.toUInt32.toBitVec.getLsbD (n + i)
  rw [UInt32.toBitVec_shiftRight]
  show (x.toUInt32.toBitVec >>> (((nI n).toUInt32 &&& Int32.toUInt32 31).toBitVec % 32).toNat).getLsbD i = _
  rw [sq_u n hn, BitVec.getLsbD_ushiftRight]
theorem bq_sshr (n : Nat) (hn : n < 32) (x : Int32) {i : Nat} (hi : i < 32) : bq (x >>> (nI n &&& 31)) i = if n + i < 32 then bq x (n + i) else bq x 31 := by
  unfold bq
  rw [Int32.toBitVec_shiftRight]
  show (x.toBitVec.sshiftRight ((nI n &&& 31).toBitVec.smod 32).toNat).getLsbD i = _
  rw [sq_l n hn, BitVec.getLsbD_sshiftRight, BitVec.msb_eq_getLsbD_last]
  simp [hi]
theorem sh_same {n : Nat} (hn : n ≤ 24) (x : Int32) : (x.toUInt32 >>> ((nI n).toUInt32 &&& Int32.toUInt32 31)).toInt32 &&& 255 = (x >>> (nI n &&& 31)) &&& 255 := bq_ext fun i hi => by
  rw [bq_and, bq_and, bq_ushr n (by omega), bq_sshr n (by omega) x hi, bq_255 i hi]
  by_cases h : i < 8
  · rw [if_pos (by omega)]
  · rw [decide_eq_false h, Bool.and_false, Bool.and_false]
/-- byte k (0 to 3, from the left) of a word -/
def byt (w : Int32) (k : Nat) : Int32 := (w >>> (nI (24 - 8 * k) &&& 31)) &&& 255
theorem byt_n (w : Int32) (k : Nat) : ∃ b, b < 256 ∧ byt w k = nI b := pk_andE _ (m := 255) 8 (by decide)
theorem h_aw3 (w : Int32) {F p : Nat} (k : Mem → Option Mem) (hp : p + 4 ≤ 400) : ∀ (d i n : Nat) (T : Mem), i + d = 4 → d < n → T 0 1 = nI (p + i) → ∃ T', f_X8_addWord_3 F w k n T (zI (24 - 8 * (i : Int))) = k T' ∧ T' 0 1 = nI (p + 4) ∧ (∀ j, j < p + i → T' 1 j = T 1 j) ∧ ∀ q, i ≤ q → q < 4 → T' 1 (p + q) = byt w q
  | d, i, 0, T, _, h, _ => by omega
  | 0, i, n + 1, T, hi, _, hT => by
    obtain rfl : i = 4 := by omega
    refine ⟨T, ?_, hT, fun _ _ => rfl, fun q g1 g2 => by omega⟩
    rw [f_X8_addWord_3, if_pos (by decide)]
  | d + 1, i, n + 1, T, hi, hn, hT => by
    have es : zI (24 - 8 * (i : Int)) = nI (24 - 8 * i) := by
      rw [nI_of0 (by omega)]
      congr 1
      omega
    have en : zI (24 - 8 * (i : Int)) + (-8 : Int32) = zI (24 - 8 * ((i + 1 : Nat) : Int)) := by
      have e8 : (-8 : Int32) = zI (-8) := rfl
      rw [e8, zz_add]
      congr 1
      omega
    obtain ⟨T', e1, e2, e3, e4⟩ := h_aw3 w (F := F) (p := p) k hp d (i + 1) n (mr (mr T 1 (upd (T 1) (p + i) (byt w i))) 0 (fu (T 0) 1 (nI (p + i + 1)))) (by omega) (by omega) (by rw [mr_s, fu_s, Nat.add_assoc])
    refine ⟨T', ?_, e2, fun j hj => ?_, fun q g1 g2 => ?_⟩
    · have sb := sh_same (n := 24 - 8 * i) (by omega) w
      rw [f_X8_addWord_3, en, es, if_neg (show ¬ nI (24 - 8 * i) < (0 : Int32) from nI_pos (by omega)), hT, if_neg (show ¬ (400 : Int32) ≤ nI (p + i) from nI_ge (a := p + i) (b := 400) (by omega) (by decide)), ck_n (by omega) (by decide), nI_clamp (by omega), sb, nI_1]
      exact e1
    · rw [e3 j (by omega), mr_n _ _ (by decide), mr_s, pk_un (by omega)]
    · by_cases w' : q = i
      · subst w'
        rw [e3 (p + q) (by omega), mr_n _ _ (by decide), mr_s, pk_us]
      · exact e4 q (by omega) g2
theorem h_addWord (w : Int32) {F p : Nat} (hF : 10 ≤ F) {T : Mem} (hp : p + 4 ≤ 400) (hT : T 0 1 = nI p) : ∃ T', f_X8_addWord F T w = some T' ∧ T' 0 1 = nI (p + 4) ∧ (∀ j, j < p → T' 1 j = T 1 j) ∧ ∀ q, q < 4 → T' 1 (p + q) = byt w q := by
  obtain ⟨T', e1, e2, e3, e4⟩ := h_aw3 w (F := F) (p := p) (fun T_49 => (some T_49)) hp 4 0 F T (by omega) (by omega) hT
  exact ⟨T', e1, e2, fun j hj => e3 j (by omega), fun q hq => e4 q (by omega) hq⟩
theorem g_fd18 {LM : MemL} {F p : Nat} (hp : p + 20 ≤ 400) (a b c d e : Int32) (wv : Nat → Int32) (h0 : wv 0 = a) (h1 : wv 1 = b) (h2 : wv 2 = c) (h3 : wv 3 = d) (h4 : wv 4 = e) (k : Mem → Option (Int32 × Mem)) : ∀ (m i n : Nat) (M : Mem), i + m = 20 → m < n → M 0 29 = nI (p + i) → ∃ M', f_X10_feed_18 F LM a b c d e k n M (nI i) = k M' ∧ M' 0 29 = nI (p + 20) ∧ (∀ j, j < p + i → M' 21 j = M 21 j) ∧ (∀ q, i ≤ q → q < 20 → M' 21 (p + q) = byt (wv (q / 4)) (q % 4)) ∧ (∀ x, x ≠ 0 → x ≠ 21 → M' x = M x) ∧ ∀ j, j ≠ 29 → M' 0 j = M 0 j
  | m, i, 0, M, _, h, _ => by omega
  | 0, i, n + 1, M, hi, _, hM => by
    obtain rfl : i = 20 := by omega
    refine ⟨M, ?_, hM, fun _ _ => rfl, fun q g1 g2 => by omega, fun _ _ _ => rfl, fun _ _ => rfl⟩
    rw [f_X10_feed_18, if_pos (by decide)]
  | m + 1, i, n + 1, M, hi, hn, hM => by
    obtain ⟨M', e1, e2, e3, e4, e5, e6⟩ := g_fd18 (LM := LM) (F := F) hp a b c d e wv h0 h1 h2 h3 h4 k m (i + 1) n (mr (mr M 21 (upd (M 21) (p + i) (byt (wv (i / 4)) (i % 4)))) 0 (fu (M 0) 29 (nI (p + i + 1)))) (by omega) (by omega) (by rw [mr_s, fu_s, Nat.add_assoc])
    refine ⟨M', ?_, e2, fun j hj => ?_, fun q g1 g2 => ?_, fun x g0 g21 => by rw [e5 x g0 g21, mr_n _ _ g0, mr_n _ _ g21], fun j hj => by rw [e6 j hj, mr_s, fu_n _ _ hj]⟩
    · have em : nI i - nI i / 4 * 4 = nI (i % 4) := by
        have ed : nI i / 4 = nI (i / 4) := pk_div (d := 4) (by omega) (by decide) (by decide)
        rw [ed, l_4, nI_mul', rem_n]
      have es : (24 : Int32) - 8 * nI (i % 4) = nI (24 - 8 * (i % 4)) := by rw [l_8, nI_mul', l_24, nI_sub' (by omega)]
      have st : f_X10_feed_71 F M LM a b c d e (nI i) (wv (i / 4)) (f_X10_feed_18 F LM a b c d e k n) = k M' := by
        unfold f_X10_feed_71
        rw [dv_ne (by decide), hM, ck_n (by omega) (by decide), nI_clamp (by omega), em, es, nI_1, nI_1]
        exact e1
      rw [f_X10_feed_18, if_neg (show ¬ (20 : Int32) ≤ nI (i) from nI_ge (a := i) (b := 20) (by omega) (by decide))]
      rcases (by omega : i / 4 = 0 ∨ i / 4 = 1 ∨ i / 4 = 2 ∨ i / 4 = 3 ∨ i / 4 = 4) with g | g | g | g | g
      · rw [g, h0] at st
        rw [if_neg (show ¬ (4 : Int32) ≤ nI (i) from nI_ge (a := i) (b := 4) (by omega) (by decide))]
        exact st
      · rw [g, h1] at st
        rw [if_pos (show (4 : Int32) ≤ nI i from nI_le (a := 4) (b := i) (by omega) (by omega)), if_neg (show ¬ (8 : Int32) ≤ nI (i) from nI_ge (a := i) (b := 8) (by omega) (by decide))]
        exact st
      · rw [g, h2] at st
        rw [if_pos (show (4 : Int32) ≤ nI i from nI_le (a := 4) (b := i) (by omega) (by omega)), if_pos (show (8 : Int32) ≤ nI i from nI_le (a := 8) (b := i) (by omega) (by omega)), if_neg (show ¬ (12 : Int32) ≤ nI (i) from nI_ge (a := i) (b := 12) (by omega) (by decide))]
        exact st
      · rw [g, h3] at st
        rw [if_pos (show (4 : Int32) ≤ nI i from nI_le (a := 4) (b := i) (by omega) (by omega)), if_pos (show (8 : Int32) ≤ nI i from nI_le (a := 8) (b := i) (by omega) (by omega)), if_pos (show (12 : Int32) ≤ nI i from nI_le (a := 12) (b := i) (by omega) (by omega)), if_neg (show ¬ (16 : Int32) ≤ nI (i) from nI_ge (a := i) (b := 16) (by omega) (by decide))]
        exact st
      · rw [g, h4] at st
        rw [if_pos (show (4 : Int32) ≤ nI i from nI_le (a := 4) (b := i) (by omega) (by omega)), if_pos (show (8 : Int32) ≤ nI i from nI_le (a := 8) (b := i) (by omega) (by omega)), if_pos (show (12 : Int32) ≤ nI i from nI_le (a := 12) (b := i) (by omega) (by omega)), if_pos (show (16 : Int32) ≤ nI i from nI_le (a := 16) (b := i) (by omega) (by omega))]
        exact st
    · rw [e3 j (by omega), mr_n _ _ (by decide), mr_s, pk_un (by omega)]
    · by_cases w' : q = i
      · subst w'
        rw [e3 (p + q) (by omega), mr_n _ _ (by decide), mr_s, pk_us]
      · exact e4 q (by omega) g2
/-- the tape is another, all else the same -/
theorem Ra_tp {M M' T T' C H : Mem} {Ks : Nat → Mem} {σ : Sg} {a : Nat} {h : Nat → Sg} (r : Ra M T C H Ks σ a h) (hc : ∀ x, x ≠ 0 → x ≠ 21 → M' x = M x) (h0 : ∀ j, j ≠ 29 → M' 0 j = M 0 j) (hT : Tp M' T') : Ra M' T' C H Ks σ a h := by
  obtain ⟨r1, r2, r3, r4, r5, r6, r7, r8⟩ := r
  refine ⟨r1, fun j hj => by rw [hc 1 (by decide) (by decide)]; exact r2 j hj, r3, ⟨r4.1, by rw [h0 4 (by decide)]; exact r4.2.1, fun i hi j hj => by rw [hc 3 (by decide) (by decide)]; exact r4.2.2 i hi j hj⟩, r5, r6, hT, fun j hj => by rw [hc 22 (by decide) (by decide)]; exact r8 j hj⟩
theorem m_feed {M T C H X0 : Mem} {LM : MemL} {Ks : Nat → Mem} {σ : Sg} {a : Nat} {h : Nat → Sg} (ra : Ra M T C H Ks σ a h) {F : Nat} (hF : 10000 ≤ F) (x1 x2 x3 x4 x5 : Int32) : ∃ v T' M', f_X9_feed F X0 T x1 x2 x3 x4 x5 = some (v, T') ∧ f_X10_feed F M LM x1 x2 x3 x4 x5 = some (v, M') ∧ Ra M' T' C H Ks σ a h := by
  obtain ⟨p, p1, p2, p3, p4⟩ := ra.2.2.2.2.2.2.1
  unfold f_X9_feed f_X10_feed
  have e20 : nI p + 20 = nI (p + 20) := nI_add p 20
  rw [p2, p3, e20]
  by_cases q : p + 20 ≤ 400
  · rw [if_pos (show nI (p + 20) ≤ (400 : Int32) from nI_le (b := 400) q (by decide)), if_pos (show nI (p + 20) ≤ (400 : Int32) from nI_le (b := 400) q (by decide))]
    obtain ⟨T1, a1, a2, a3, a4⟩ := h_addWord x1 (F := F) (by omega) (p := p) (by omega) p3
    obtain ⟨T2, b1, b2, b3, b4⟩ := h_addWord x2 (F := F) (by omega) (p := p + 4) (by omega) a2
    obtain ⟨T3, c1, c2, c3, c4⟩ := h_addWord x3 (F := F) (by omega) (p := p + 4 + 4) (by omega) b2
    obtain ⟨T4, d1, d2, d3, d4⟩ := h_addWord x4 (F := F) (by omega) (p := p + 4 + 4 + 4) (by omega) c2
    obtain ⟨T5, e1, e2, e3, e4⟩ := h_addWord x5 (F := F) (by omega) (p := p + 4 + 4 + 4 + 4) (by omega) d2
    obtain ⟨M', g1, g2, g3, g4, g5, g6⟩ := g_fd18 (LM := LM) (F := F) (p := p) q x1 x2 x3 x4 x5 (fun i => if i = 0 then x1 else if i = 1 then x2 else if i = 2 then x3 else if i = 3 then x4 else x5) rfl rfl rfl rfl rfl (fun M_115 => (some ((M_115 0 29), M_115))) 20 0 F M (by omega) (by omega) p2
    have g1' : f_X10_feed_18 F LM x1 x2 x3 x4 x5 (fun M_115 => (some ((M_115 0 29), M_115))) F M 0 = some (M' 0 29, M') := g1
    have e2' : T5 0 1 = nI (p + 20) := e2
    rw [a1, Option.bind_some, b1, Option.bind_some, c1, Option.bind_some, d1, Option.bind_some, e1, Option.bind_some, g1', g2, e2']
    refine ⟨_, _, _, rfl, rfl, Ra_tp ra g5 g6 ⟨p + 20, q, g2, e2', fun j hj => ?_⟩⟩
    by_cases w : j < p
    · obtain ⟨b, h1, h2, h3⟩ := p4 j w
      refine ⟨b, h1, by rw [g3 j (by omega)]; exact h2, ?_⟩
      rw [e3 j (by omega), d3 j (by omega), c3 j (by omega), b3 j (by omega), a3 j (by omega)]
      exact h3
    · obtain ⟨i, rfl⟩ : ∃ i, j = p + i := ⟨j - p, by omega⟩
      have mi := g4 i (by omega) (by omega)
      rw [mi]
      rcases (by omega : i < 4 ∨ (4 ≤ i ∧ i < 8) ∨ (8 ≤ i ∧ i < 12) ∨ (12 ≤ i ∧ i < 16) ∨ (16 ≤ i ∧ i < 20)) with u | u | u | u | u
      · obtain ⟨b, h1, h2⟩ := byt_n x1 (i % 4)
        have ed : i / 4 = 0 := by omega
        have t := a4 (i % 4) (by omega)
        have ei : p + i % 4 = p + i := by omega
        rw [ei] at t
        refine ⟨b, h1, by rw [ed]; exact h2, ?_⟩
        rw [e3 _ (by omega), d3 _ (by omega), c3 _ (by omega), b3 _ (by omega), t, h2]
      · obtain ⟨b, h1, h2⟩ := byt_n x2 (i % 4)
        have ed : i / 4 = 1 := by omega
        have t := b4 (i % 4) (by omega)
        have ei : p + 4 + i % 4 = p + i := by omega
        rw [ei] at t
        refine ⟨b, h1, by rw [ed]; exact h2, ?_⟩
        rw [e3 _ (by omega), d3 _ (by omega), c3 _ (by omega), t, h2]
      · obtain ⟨b, h1, h2⟩ := byt_n x3 (i % 4)
        have ed : i / 4 = 2 := by omega
        have t := c4 (i % 4) (by omega)
        have ei : p + 4 + 4 + i % 4 = p + i := by omega
        rw [ei] at t
        refine ⟨b, h1, by rw [ed]; exact h2, ?_⟩
        rw [e3 _ (by omega), d3 _ (by omega), t, h2]
      · obtain ⟨b, h1, h2⟩ := byt_n x4 (i % 4)
        have ed : i / 4 = 3 := by omega
        have t := d4 (i % 4) (by omega)
        have ei : p + 4 + 4 + 4 + i % 4 = p + i := by omega
        rw [ei] at t
        refine ⟨b, h1, by rw [ed]; exact h2, ?_⟩
        rw [e3 _ (by omega), t, h2]
      · obtain ⟨b, h1, h2⟩ := byt_n x5 (i % 4)
        have ed : i / 4 = 4 := by omega
        have t := e4 (i % 4) (by omega)
        have ei : p + 4 + 4 + 4 + 4 + i % 4 = p + i := by omega
        rw [ei] at t
        refine ⟨b, h1, by rw [ed]; exact h2, ?_⟩
        rw [t, h2]
  · rw [if_neg (show ¬ nI (p + 20) ≤ (400 : Int32) from nI_ge (a := 400) (b := p + 20) (by omega) (by omega)), if_neg (show ¬ nI (p + 20) ≤ (400 : Int32) from nI_ge (a := 400) (b := p + 20) (by omega) (by omega))]
    exact ⟨_, _, _, rfl, rfl, ra⟩
theorem m_back {M T C H X0 : Mem} {LM : MemL} {Ks : Nat → Mem} {σ : Sg} {a : Nat} {h : Nat → Sg} (ra : Ra M T C H Ks σ a h) {F : Nat} (x1 : Int32) : ∃ v T' M', f_X9_back F X0 T x1 = some (v, T') ∧ f_X10_back F M LM x1 = some (v, M') ∧ Ra M' T' C H Ks σ a h := by
  obtain ⟨p, p1, p2, p3, p4⟩ := ra.2.2.2.2.2.2.1
  obtain ⟨x, u1, u2, rfl⟩ := zI_of x1
  unfold f_X9_back f_X10_back
  rw [p2, p3, in0n F u1 u2 (by omega)]
  by_cases q : 0 ≤ x ∧ x ≤ (p : Int)
  · obtain ⟨n, rfl⟩ := Int.eq_ofNat_of_zero_le q.1
    rw [if_pos q, Option.bind_some, if_neg n10]
    simp only [zI_c]
    rw [if_neg (show ¬ nI n < 0 from nI_pos (by omega)), if_pos (nI_le (by omega) (by omega)), nI_sub' (by omega)]
    refine ⟨_, _, _, rfl, rfl, Ra_tp ra (fun x g0 _ => mr_n _ _ g0) (fun j hj => by rw [mr_s, fu_n _ _ hj]) ⟨p - n, by omega, by rw [mr_s, fu_s], by rw [mr_s, fu_s], fun j hj => ?_⟩⟩
    rw [mr_n _ _ (by decide), mr_n _ _ (by decide)]
    exact p4 j (by omega)
  · rw [if_neg q, Option.bind_some, if_pos n00]
    by_cases w : x < 0
    · have e1 : zI x < 0 := by rw [l_0]; exact of_eq_true (by simp (disch := omega) only [l_0, l_1, l_2, l_3, l_4, l_5, l_6, l_7, l_8, l_9, l_10, l_12, l_20, l_24, l_25, l_31, l_32, l_48, l_50, l_56, l_57, l_59, l_97, l_99, l_100, l_120, l_122, l_177, l_178, l_201, l_226, l_255, l_400, l_420, l_600, l_700, l_840, l_1000, l_1300, l_2000, l_1000000, nI_add, mr4, ml4, mr5, ml5, mr6, ml6, mr10, ml10, mr24, ml24, mr201, ml201, mr420, ml420, mr226, ml226, mr2, ml2, nI_clamp, lt_T, lt_F, le_T, le_F, eq_T, eq_F, ck_n, dv_n, cp_n, rem_n, pk_div, at1_same, at1_ne, cb_n, Option.bind_some, if_pos, if_neg, ↓reduceIte, and_self, and_true, true_and, and_false, false_and, not_true_eq_false, not_false_eq_true, nI_sub', zz_add, zz_sub, zz_mul, zn_add, nz_add, zn_sub, nz_sub, zn_mul, nz_mul, z_neg, n_neg, zlt_T, zlt_F, zle_T, zle_F, zeq_T, zeq_F, zn_lt, nz_lt, zn_le, nz_le, zn_eq, nz_eq])
      rw [if_pos e1]
      exact ⟨_, _, _, rfl, rfl, ra⟩
    · have e1 : ¬ zI x < 0 := by rw [l_0]; exact of_eq_false (by simp (disch := omega) only [l_0, l_1, l_2, l_3, l_4, l_5, l_6, l_7, l_8, l_9, l_10, l_12, l_20, l_24, l_25, l_31, l_32, l_48, l_50, l_56, l_57, l_59, l_97, l_99, l_100, l_120, l_122, l_177, l_178, l_201, l_226, l_255, l_400, l_420, l_600, l_700, l_840, l_1000, l_1300, l_2000, l_1000000, nI_add, mr4, ml4, mr5, ml5, mr6, ml6, mr10, ml10, mr24, ml24, mr201, ml201, mr420, ml420, mr226, ml226, mr2, ml2, nI_clamp, lt_T, lt_F, le_T, le_F, eq_T, eq_F, ck_n, dv_n, cp_n, rem_n, pk_div, at1_same, at1_ne, cb_n, Option.bind_some, if_pos, if_neg, ↓reduceIte, and_self, and_true, true_and, and_false, false_and, not_true_eq_false, not_false_eq_true, nI_sub', zz_add, zz_sub, zz_mul, zn_add, nz_add, zn_sub, nz_sub, zn_mul, nz_mul, z_neg, n_neg, zlt_T, zlt_F, zle_T, zle_F, zeq_T, zeq_F, zn_lt, nz_lt, zn_le, nz_le, zn_eq, nz_eq])
      have e2 : ¬ zI x ≤ nI p := of_eq_false (by simp (disch := omega) only [l_0, l_1, l_2, l_3, l_4, l_5, l_6, l_7, l_8, l_9, l_10, l_12, l_20, l_24, l_25, l_31, l_32, l_48, l_50, l_56, l_57, l_59, l_97, l_99, l_100, l_120, l_122, l_177, l_178, l_201, l_226, l_255, l_400, l_420, l_600, l_700, l_840, l_1000, l_1300, l_2000, l_1000000, nI_add, mr4, ml4, mr5, ml5, mr6, ml6, mr10, ml10, mr24, ml24, mr201, ml201, mr420, ml420, mr226, ml226, mr2, ml2, nI_clamp, lt_T, lt_F, le_T, le_F, eq_T, eq_F, ck_n, dv_n, cp_n, rem_n, pk_div, at1_same, at1_ne, cb_n, Option.bind_some, if_pos, if_neg, ↓reduceIte, and_self, and_true, true_and, and_false, false_and, not_true_eq_false, not_false_eq_true, nI_sub', zz_add, zz_sub, zz_mul, zn_add, nz_add, zn_sub, nz_sub, zn_mul, nz_mul, z_neg, n_neg, zlt_T, zlt_F, zle_T, zle_F, zeq_T, zeq_F, zn_lt, nz_lt, zn_le, nz_le, zn_eq, nz_eq])
      rw [if_neg e1, if_neg e2]
      exact ⟨_, _, _, rfl, rfl, ra⟩
