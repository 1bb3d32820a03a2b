/-! PURE LAYER: the fewest counters over, the reference's table filled -/
theorem zL_lt {a b : Int} (h1 : -4611686018427387904 ≤ a) (h2 : a < 4611686018427387904) (h3 : -4611686018427387904 ≤ b) (h4 : b < 4611686018427387904) : lg_cmp (zL a) (zL b) < 0 ↔ a < b := by
  have ta := zL_t (z := a) (by omega) (by omega)
  have tb := zL_t (z := b) (by omega) (by omega)
  unfold lg_cmp
  by_cases g : zL a > zL b
  · have g' : zL b < zL a := g
    rw [if_pos g]
    rw [Int64.lt_iff_toInt_lt, ta, tb] at g'
    exact ⟨fun h => absurd h (by decide), fun h => by omega⟩
  · have g' : ¬ zL b < zL a := g
    rw [if_neg g]
    rw [Int64.lt_iff_toInt_lt, ta, tb] at g'
    by_cases e : zL a = zL b
    · rw [if_pos e]
      have := congrArg Int64.toInt e
      rw [ta, tb] at this
      exact ⟨fun h => absurd h (by decide), fun h => by omega⟩
    · rw [if_neg e]
      refine ⟨fun _ => ?_, fun _ => by decide⟩
      have : a ≠ b := fun q => e (by rw [q])
      omega
theorem zL_gt {a b : Int} (h1 : -4611686018427387904 ≤ a) (h2 : a < 4611686018427387904) (h3 : -4611686018427387904 ≤ b) (h4 : b < 4611686018427387904) : 0 < lg_cmp (zL a) (zL b) ↔ b < a := by
  have ta := zL_t (z := a) (by omega) (by omega)
  have tb := zL_t (z := b) (by omega) (by omega)
  unfold lg_cmp
  by_cases g : zL a > zL b
  · have g' : zL b < zL a := g
    rw [if_pos g]
    rw [Int64.lt_iff_toInt_lt, ta, tb] at g'
    exact ⟨fun _ => g', fun _ => by decide⟩
  · have g' : ¬ zL b < zL a := g
    rw [if_neg g]
    rw [Int64.lt_iff_toInt_lt, ta, tb] at g'
    by_cases e : zL a = zL b
    · rw [if_pos e]
      exact ⟨fun h => absurd h (by decide), fun h => by omega⟩
    · rw [if_neg e]
      exact ⟨fun h => absurd h (by decide), fun h => by omega⟩
theorem in_zL (F : Nat) {v a b : Int} (h1 : -4611686018427387904 ≤ v) (h2 : v < 4611686018427387904) (h3 : -2147483648 ≤ a) (h4 : a < 2147483648) (h5 : -2147483648 ≤ b) (h6 : b < 2147483648) : f_X10_in F (zL v) (zL a) (zL b) = some (if a ≤ v ∧ v ≤ b then 1 else 0) := by
  unfold f_X10_in
  by_cases q1 : v < a
  · rw [if_pos ((zL_lt h1 h2 (by omega) (by omega)).mpr q1), if_neg (show ¬ (a ≤ v ∧ v ≤ b) by omega)]
  · rw [if_neg (fun h => q1 ((zL_lt h1 h2 (by omega) (by omega)).mp h))]
    by_cases q2 : b < v
    · rw [if_pos ((zL_gt h1 h2 (by omega) (by omega)).mpr q2), if_neg (show ¬ (a ≤ v ∧ v ≤ b) by omega)]
    · rw [if_neg (fun h => q2 ((zL_gt h1 h2 (by omega) (by omega)).mp h)), if_pos (show a ≤ v ∧ v ≤ b by omega)]
theorem zL_neg (a : Int) : -zL a = zL (-a) := Int64.neg_ofInt
theorem g_costAt {F : Nat} {M : Mem} {LM : MemL} {σ : Sg} {nl nh : Nat → Nat} (hF : 10000 ≤ F) (h : okF σ nl nh) (hM : FwH σ nl nh M) {s : Nat} (hs : s < 2147483648) (hL : LvH σ nl s LM) {c i : Nat} (hc : c < σ 0) (hT : c + 1 < σ 0 → TbH σ nl nh s M (c + 1)) (hi : i < WdN σ nl nh c) : f_X10_costAt F M LM (nI c) (nI i) = some (nI (bsN σ nl nh (σ 0 - 1 - c) c ((LvN σ nl s c : Int) - i))) := by
  have h0 := kC h.1
  have h0' := h.2.1
  obtain ⟨b1, b2⟩ := h.2.2 c hc
  obtain ⟨m9, m10⟩ := hM.2 c hc
  have ll := LvN_le h s c hc
  obtain ⟨w1, w2⟩ := WdN_le h c hc
  have ev : zL (LvN σ nl s c : Int) - (nI i).toInt64 = zL ((LvN σ nl s c : Int) - i) := by rw [nI64 (by omega), zL_sub']
  unfold f_X10_costAt
  rw [ck_n (by omega) (by decide), ck0, m0c, hM.1 0 (by decide), show nI (σ 0) - 1 = nI (σ 0 - 1) from nI_sub' (b := 1) h0', nI_clamp (by omega), hL c hc, ev, m9, m10]
  by_cases q : c = σ 0 - 1
  · have e9 : (zI (-(nl c : Int))).toInt64 = zL (-(nl c : Int)) := zI64 (by omega) (by omega)
    have e10 : (nI (nh c)).toInt64 = zL (nh c : Int) := nI64 (by omega)
    have ez : σ 0 - 1 - c = 0 := by omega
    have eb : bsN σ nl nh (σ 0 - 1 - c) c ((LvN σ nl s c : Int) - i) = if -(nl c : Int) ≤ (LvN σ nl s c : Int) - i ∧ (LvN σ nl s c : Int) - i ≤ nh c then ((LvN σ nl s c : Int) - i).natAbs else 1000000 := by rw [ez]; rfl
    rw [eb, if_pos (show nI c = nI (σ 0 - 1) by rw [← q]), ck_n (by omega) (by decide), ck_n (by omega) (by decide), e9, e10, in_zL F (by omega) (by omega) (by omega) (by omega) (by omega) (by omega), Option.bind_some]
    by_cases g : -(nl c : Int) ≤ (LvN σ nl s c : Int) - i ∧ (LvN σ nl s c : Int) - i ≤ nh c
    · rw [if_pos g, if_pos g, if_neg (show ¬ (1 : Int32) = 0 by decide)]
      by_cases g2 : 0 ≤ (LvN σ nl s c : Int) - i
      · rw [if_pos ((zL_ge (by omega) (by omega)).mpr g2), zL_32 (by omega) (by omega), ← zI_c]
        congr 2
        omega
      · rw [if_neg (fun z => g2 ((zL_ge (by omega) (by omega)).mp z)), zL_neg, zL_32 (by omega) (by omega), ← zI_c]
        congr 2
        omega
    · rw [if_neg g, if_neg g, if_pos (rfl : (0 : Int32) = 0)]
      rfl
  · have ez : σ 0 - 1 - c = (σ 0 - 1 - (c + 1)) + 1 := by omega
    have eb : bsN σ nl nh (σ 0 - 1 - c) c ((LvN σ nl s c : Int) - i) = scn (bsN σ nl nh (σ 0 - 1 - (c + 1)) (c + 1)) (uR σ c) (nl c) ((LvN σ nl s c : Int) - i) (nh c + nl c + 1) := by rw [ez]; rfl
    rw [eb, if_neg (fun z => q ((nI_eq (by omega) (by omega)).mp z)), ck_n (by omega) (by decide)]
    have k1 := g_ct74 (F := F) h hM hs hL (c := c) (i := i) (by omega) (hT (by omega)) hi (fun x5_188 => (some x5_188)) (nh c + nl c + 1) 0 F (by omega) (by omega)
    have e0 : ((0 : Nat) : Int) - (nl c : Int) = -(nl c : Int) := by omega
    rw [e0] at k1
    exact k1
def TbA (σ : Sg) (nl nh : Nat → Nat) (s : Nat) (M : Mem) (c : Nat) : Prop := ∀ c', c ≤ c' → c' < σ 0 → TbH σ nl nh s M c'
theorem g_fw127 {F : Nat} {LM : MemL} {σ : Sg} {nl nh : Nat → Nat} (hF : 10000 ≤ F) (h : okF σ nl nh) {s : Nat} (hs : s < 2147483648) (hL : LvH σ nl s LM) {c : Nat} (hc : c < σ 0) (x1 : Int64) (k : Mem → Option (Int32 × Mem × MemL)) : ∀ (d i n : Nat) (M : Mem), i + d = WdN σ nl nh c → d < n → FwH σ nl nh M → TbA σ nl nh s M (c + 1) → (∀ t, t < i → M 12 (420 * c + t) = nI (bsN σ nl nh (σ 0 - 1 - c) c ((LvN σ nl s c : Int) - t))) → ∃ M', f_X10_fewest_127 F LM x1 (nI c) k n M (nI i) = k M' ∧ TbA σ nl nh s M' c ∧ P12 M M'
  | d, i, 0, M, _, h, _, _, _ => by omega
  | 0, i, n + 1, M, hi, _, hM, hT, hR => by
    obtain ⟨w1, w2⟩ := WdN_le h c hc
    refine ⟨M, ?_, fun c' g1 g2 => ?_, P12_r M⟩
    · rw [f_X10_fewest_127, g_widthAt (by omega) h hM hc, Option.bind_some, if_pos (nI_le (by omega) (by omega))]
    · by_cases e : c' = c
      · rw [e]
        intro t ht
        exact hR t (by omega)
      · exact hT c' (by omega) g2
  | d + 1, i, n + 1, M, hi, hn, hM, hT, hR => by
    have h0 := kC h.1
    obtain ⟨w1, w2⟩ := WdN_le h c hc
    have hct := g_costAt (F := F) (LM := LM) hF h hM hs hL hc (fun g => hT (c + 1) (Nat.le_refl _) g) (i := i) (by omega)
    have p1 : P12 M (mr M 12 (upd (M 12) (420 * c + i) (nI (bsN σ nl nh (σ 0 - 1 - c) c ((LvN σ nl s c : Int) - i))))) := fun q hq => mr_n _ _ hq
    obtain ⟨M', a1, a2, a3⟩ := g_fw127 (F := F) (LM := LM) hF h hs hL hc x1 k d (i + 1) n (mr M 12 (upd (M 12) (420 * c + i) (nI (bsN σ nl nh (σ 0 - 1 - c) c ((LvN σ nl s c : Int) - i))))) (by omega) (by omega) (FwH_p hM p1) (fun c' g1 g2 t ht => by
      have wt := (WdN_le h c' g2).2
      rw [mr_s, pk_un (by omega)]
      exact hT c' g1 g2 t ht) (fun t ht => by
      rw [mr_s]
      by_cases e : t = i
      · rw [e, pk_us]
      · rw [pk_un (by omega)]
        exact hR t (by omega))
    refine ⟨M', ?_, a2, P12_t p1 a3⟩
    rw [f_X10_fewest_127, g_widthAt (by omega) h hM hc, Option.bind_some, if_neg (nI_ge (by omega) (by omega)), hct, Option.bind_some, l_420, ml420, nI_add, ck_n (by omega) (by decide), nI_clamp (by omega), nI_1]
    exact a1
theorem g_fw120 {F : Nat} {LM : MemL} {σ : Sg} {nl nh : Nat → Nat} (hF : 10000 ≤ F) (h : okF σ nl nh) {s : Nat} (hs : s < 2147483648) (hL : LvH σ nl s LM) (x1 : Int64) (k : Mem → Option (Int32 × Mem × MemL)) : ∀ (i n : Nat) (M : Mem), i ≤ σ 0 → i < n → FwH σ nl nh M → TbA σ nl nh s M i → ∃ M', f_X10_fewest_120 F LM x1 k n M (dn i) = k M' ∧ TbA σ nl nh s M' 0 ∧ P12 M M'
  | i, 0, M, _, h, _, _ => by omega
  | 0, n + 1, M, _, _, hM, hT => ⟨M, by rw [f_X10_fewest_120, if_pos (by decide)], hT, P12_r M⟩
  | i + 1, n + 1, M, hi, hn, hM, hT => by
    have h0 := kC h.1
    obtain ⟨w1, w2⟩ := WdN_le h i (by omega)
    have dnn : nI i + (-1 : Int32) = dn i := (Int32.sub_eq_add_neg _ _).symm
    obtain ⟨M1, a1, a2, a3⟩ := g_fw127 (F := F) (LM := LM) hF h hs hL (c := i) (by omega) x1 (fun M_163 => f_X10_fewest_120 F LM x1 k n M_163 (dn i)) (WdN σ nl nh i) 0 F M (by omega) (by omega) hM hT (fun t ht => by omega)
    obtain ⟨M', b1, b2, b3⟩ := g_fw120 (F := F) (LM := LM) hF h hs hL x1 k i n M1 (by omega) (by omega) (FwH_p hM a3) a2
    refine ⟨M', ?_, b2, P12_t a3 b3⟩
    rw [f_X10_fewest_120, dn_s, if_neg (show ¬ nI i < (0 : Int32) from nI_nlt (b := 0) (by omega) (by omega)), dnn]
    exact a1.trans b1
/-! the way back through the table -/
theorem scn_min {g : Int → Nat} {u nl : Nat} {v : Int} : ∀ j i, i < j → scP g u nl v i → scn g u nl v j ≤ scC g u nl v i
  | 0, i, h, _ => by omega
  | j + 1, i, h, hp => by
    have e : scn g u nl v (j + 1) = if scP g u nl v j ∧ scC g u nl v j < scn g u nl v j then scC g u nl v j else scn g u nl v j := rfl
    rw [e]
    by_cases q : i = j
    · rw [q] at hp ⊢
      by_cases r : scC g u nl v j < scn g u nl v j
      · rw [if_pos ⟨hp, r⟩]; exact Nat.le_refl _
      · rw [if_neg (fun z => r z.2)]; omega
    · have ih := scn_min j i (by omega) hp
      by_cases r : scP g u nl v j ∧ scC g u nl v j < scn g u nl v j
      · rw [if_pos r]; omega
      · rw [if_neg r]; exact ih
theorem scn_ex {g : Int → Nat} {u nl : Nat} {v : Int} : ∀ j, scn g u nl v j < 1000000 → ∃ i, i < j ∧ scP g u nl v i ∧ scC g u nl v i = scn g u nl v j ∧ ∀ t, t < i → scP g u nl v t → scn g u nl v j < scC g u nl v t
  | 0, h => absurd h (Nat.lt_irrefl _)
  | j + 1, h => by
    have e : scn g u nl v (j + 1) = if scP g u nl v j ∧ scC g u nl v j < scn g u nl v j then scC g u nl v j else scn g u nl v j := rfl
    rw [e] at h ⊢
    by_cases r : scP g u nl v j ∧ scC g u nl v j < scn g u nl v j
    · rw [if_pos r] at h ⊢
      refine ⟨j, Nat.lt_succ_self _, r.1, rfl, fun t ht hp => ?_⟩
      have := scn_min j t ht hp
      omega
    · rw [if_neg r] at h ⊢
      obtain ⟨i, a1, a2, a3, a4⟩ := scn_ex j h
      exact ⟨i, by omega, a2, a3, a4⟩
def OvP (σ : Sg) (nl nh : Nat → Nat) : Nat → Nat → Int → (Nat → Int) → Prop
  | 0, c, v, f => f c = v
  | d + 1, c, v, f => ∃ j, j < nh c + nl c + 1 ∧ f c = (j : Int) - nl c ∧ scP (bsN σ nl nh d (c + 1)) (uR σ c) (nl c) v j ∧ scC (bsN σ nl nh d (c + 1)) (uR σ c) (nl c) v j = scn (bsN σ nl nh d (c + 1)) (uR σ c) (nl c) v (nh c + nl c + 1) ∧ (∀ t, t < j → scP (bsN σ nl nh d (c + 1)) (uR σ c) (nl c) v t → scn (bsN σ nl nh d (c + 1)) (uR σ c) (nl c) v (nh c + nl c + 1) < scC (bsN σ nl nh d (c + 1)) (uR σ c) (nl c) v t) ∧ OvP σ nl nh d (c + 1) ((v - ((j : Int) - nl c)) / uR σ c) f
theorem OvP_cg {σ : Sg} {nl nh : Nat → Nat} {f f' : Nat → Int} : ∀ d c v, (∀ j, c ≤ j → f j = f' j) → OvP σ nl nh d c v f → OvP σ nl nh d c v f'
  | 0, c, v, e, h => (e c (Nat.le_refl _)).symm.trans h
  | d + 1, c, v, e, ⟨j, a1, a2, a3, a4, a5, a6⟩ => ⟨j, a1, (e c (Nat.le_refl _)).symm.trans a2, a3, a4, a5, OvP_cg d (c + 1) _ (fun i hi => e i (by omega)) a6⟩
theorem OvP_ex {σ : Sg} {nl nh : Nat → Nat} : ∀ d c v, bsN σ nl nh d c v < 1000000 → ∃ f, OvP σ nl nh d c v f
  | 0, c, v, _ => ⟨fun _ => v, rfl⟩
  | d + 1, c, v, h => by
    obtain ⟨j, a1, a2, a3, a4⟩ := scn_ex (nh c + nl c + 1) h
    obtain ⟨f, hf⟩ := OvP_ex d (c + 1) ((v - ((j : Int) - nl c)) / uR σ c) a2.2
    refine ⟨fun i => if i = c then (j : Int) - nl c else f i, j, a1, if_pos rfl, a2, a3, a4, OvP_cg d (c + 1) _ (fun i hi => (if_neg (by omega)).symm) hf⟩
