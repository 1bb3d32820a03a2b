/-! PURE LAYER: layOut of the class -/
def XA (N : Mem) (σ : Sg) (t : Nat) : Prop := ∀ s, t ≤ s → s ≤ σ 56 → (∀ j, j < 6 * σ 1 → N 2 (24 * s + j) = zI (mn σ s j) ∧ N 3 (24 * s + j) = zI (mx σ s j)) ∧ N 4 s = nI (cntS σ s (6 * σ 1))
theorem h_ex5 {C N0 : Mem} {σ : Sg} (hC : StC C σ) (hs : okS σ) {F : Nat} (hF : 10000 ≤ F) (hL : ∀ t, t ≤ σ 56 → ∀ j, j < 24 → N0 1 (24 * t + j) = zI (ly σ t j)) (k : Mem → Option Mem) : ∀ (t n : Nat) (N : Mem), t ≤ σ 56 + 1 → t < n → (∀ c, c ≠ 2 → c ≠ 3 → c ≠ 4 → N c = N0 c) → XA N σ t → ∃ N', f_X2_layExtremes_5 F C k n N (dn t) = k N' ∧ (∀ c, c ≠ 2 → c ≠ 3 → c ≠ 4 → N' c = N0 c) ∧ XA N' σ 0
  | t, 0, N, _, h, _, _ => by omega
  | 0, n + 1, N, _, _, hc, hX => by
    refine ⟨N, ?_, hc, hX⟩
    rw [f_X2_layExtremes_5]
    simp (disch := omega) only [l_0, l_1, l_2, l_3, l_4, l_5, l_6, l_7, l_8, l_9, l_10, l_12, l_20, l_24, l_25, l_31, l_32, l_48, l_50, l_56, l_57, l_59, l_97, l_99, l_100, l_120, l_122, l_177, l_178, l_201, l_226, l_255, l_400, l_420, l_600, l_700, l_840, l_1000, l_1300, l_2000, l_1000000, nI_add, mr4, ml4, mr5, ml5, mr6, ml6, mr10, ml10, mr24, ml24, mr201, ml201, mr420, ml420, mr226, ml226, mr2, ml2, nI_clamp, lt_T, lt_F, le_T, le_F, eq_T, eq_F, ck_n, dv_n, cp_n, rem_n, pk_div, at1_same, at1_ne, cb_n, Option.bind_some, if_pos, if_neg, ↓reduceIte, and_self, and_true, true_and, and_false, false_and, not_true_eq_false, not_false_eq_true, nI_sub', zz_add, zz_sub, zz_mul, zn_add, nz_add, zn_sub, nz_sub, zn_mul, nz_mul, z_neg, n_neg, zlt_T, zlt_F, zle_T, zle_F, zeq_T, zeq_F, zn_lt, nz_lt, zn_le, nz_le, zn_eq, nz_eq, dn_0]
  | t + 1, n + 1, N, ht, hn, hc, hX => by
    have h5 := kMv hs
    have h1 := kR hs
    have c4 : ∀ c, c ≠ 4 → mr N 4 (upd (N 4) t (nI 0)) c = N c := fun c q => mr_n _ _ q
    obtain ⟨N', e1, e2⟩ := h_ex50 (F := F) (C := C) (N0 := mr N 4 (upd (N 4) t (nI 0))) (t := t) hC hs (by omega) (fun j hj => by rw [c4 1 (by decide), hc 1 (by decide) (by decide) (by decide)]; exact hL t (by omega) j hj) (fun hlt j hj => by rw [c4 2 (by decide), c4 3 (by decide)]; exact (hX (t + 1) (by omega) (by omega)).1 j hj) (fun N_168 => f_X2_layExtremes_5 F C k n N_168 (dn t)) (6 * σ 1) 0 F (mr N 4 (upd (N 4) t (nI 0))) (by omega) (by omega) ⟨fun _ _ _ _ => rfl, fun _ _ => ⟨rfl, rfl⟩, fun _ _ => rfl, fun i hi => by omega, by rw [mr_s, pk_us]; rfl⟩
    obtain ⟨x1, x2, x3, x4, x5⟩ := e2
    obtain ⟨N'', f1, f2, f3⟩ := h_ex5 (F := F) hC hs hF hL k t n N' (by omega) (by omega) (fun c q2 q3 q4 => by rw [x1 c q2 q3 q4, c4 c q4]; exact hc c q2 q3 q4) (fun s g1 g2 => by
      by_cases w : s = t
      · subst w
        exact ⟨x4, x5⟩
      · have y := hX s (by omega) g2
        refine ⟨fun j hj => ?_, ?_⟩
        · have z := x2 (24 * s + j) (by omega)
          rw [z.1, z.2, c4 2 (by decide), c4 3 (by decide)]
          exact y.1 j hj
        · rw [x3 s (by omega), mr_s, pk_un w]
          exact y.2)
    refine ⟨N'', ?_, f2, f3⟩
    rw [f_X2_layExtremes_5]
    unfold f_X2_layExtremes_29
    have l24 : nI t * 24 = nI (24 * t) := by rw [l_24, mr24]
    have lR : nI t * 24 + C 0 7 * 6 = nI (24 * t + 6 * σ 1) := by rw [l24, cR hC, l_6, mr6, nI_add]
    rw [dn_s, cMv hC, lR, l24]
    have dz : nI t + (-1 : Int32) = dn t := by
      show nI t + -1 = nI t - 1
      exact (Int32.sub_eq_add_neg _ _).symm
    rw [dz]
    have e1' : f_X2_layExtremes_50 F C (nI t) (if t = σ 56 then nI 1 else nI 0) (nI (24 * t + 6 * σ 1)) (fun N_168 => f_X2_layExtremes_5 F C k n N_168 (dn t)) F (mr N 4 (upd (N 4) t (nI 0))) (nI (24 * t)) = f_X2_layExtremes_5 F C k n N' (dn t) := e1
    rw [← f1, ← e1']
    by_cases q : t = σ 56
    · rw [if_pos q]
      simp (disch := omega) only [l_0, l_1, l_2, l_3, l_4, l_5, l_6, l_7, l_8, l_9, l_10, l_12, l_20, l_24, l_25, l_31, l_32, l_48, l_50, l_56, l_57, l_59, l_97, l_99, l_100, l_120, l_122, l_177, l_178, l_201, l_226, l_255, l_400, l_420, l_600, l_700, l_840, l_1000, l_1300, l_2000, l_1000000, nI_add, mr4, ml4, mr5, ml5, mr6, ml6, mr10, ml10, mr24, ml24, mr201, ml201, mr420, ml420, mr226, ml226, mr2, ml2, nI_clamp, lt_T, lt_F, le_T, le_F, eq_T, eq_F, ck_n, dv_n, cp_n, rem_n, pk_div, at1_same, at1_ne, cb_n, Option.bind_some, if_pos, if_neg, ↓reduceIte, and_self, and_true, true_and, and_false, false_and, not_true_eq_false, not_false_eq_true, nI_sub']
    · rw [if_neg q]
      simp (disch := omega) only [l_0, l_1, l_2, l_3, l_4, l_5, l_6, l_7, l_8, l_9, l_10, l_12, l_20, l_24, l_25, l_31, l_32, l_48, l_50, l_56, l_57, l_59, l_97, l_99, l_100, l_120, l_122, l_177, l_178, l_201, l_226, l_255, l_400, l_420, l_600, l_700, l_840, l_1000, l_1300, l_2000, l_1000000, nI_add, mr4, ml4, mr5, ml5, mr6, ml6, mr10, ml10, mr24, ml24, mr201, ml201, mr420, ml420, mr226, ml226, mr2, ml2, nI_clamp, lt_T, lt_F, le_T, le_F, eq_T, eq_F, ck_n, dv_n, cp_n, rem_n, pk_div, at1_same, at1_ne, cb_n, Option.bind_some, if_pos, if_neg, ↓reduceIte, and_self, and_true, true_and, and_false, false_and, not_true_eq_false, not_false_eq_true, nI_sub']
def inB (σ : Sg) (ce : Nat → Int) : Prop := ∀ j, j < 6 * σ 1 → 0 ≤ ce j ∧ ce j ≤ 99
theorem all_at {α : Type} (G : Nat → Int32 → Option α) (K0 K1 : Option α) (p : Nat → Prop) (c0 b : Nat) (hs : ∀ n i, i < b → (p i → G (n + 1) (nI (c0 + i)) = G n (nI (c0 + i + 1))) ∧ (¬ p i → G (n + 1) (nI (c0 + i)) = K0)) (he : ∀ n, G (n + 1) (nI (c0 + b)) = K1) : ∀ d i n, i + d = b → d < n → ((∀ j, i ≤ j → j < b → p j) ∧ G n (nI (c0 + i)) = K1) ∨ ((∃ j, i ≤ j ∧ j < b ∧ ¬ p j) ∧ G n (nI (c0 + i)) = K0)
  | d, i, 0, _, h => by omega
  | 0, i, n + 1, hi, _ => by
    obtain rfl : i = b := by omega
    exact .inl ⟨fun j h1 h2 => by omega, he n⟩
  | d + 1, i, n + 1, hi, hn => by
    by_cases q : p i
    · rw [(hs n i (by omega)).1 q]
      rcases all_at G K0 K1 p c0 b hs he d (i + 1) n (by omega) (by omega) with ⟨h1, h2⟩ | ⟨⟨j, h1, h2, h3⟩, h4⟩
      · refine .inl ⟨fun j g1 g2 => ?_, h2⟩
        by_cases e : j = i
        · rw [e]; exact q
        · exact h1 j (by omega) g2
      · exact .inr ⟨⟨j, by omega, h2, h3⟩, h4⟩
    · exact .inr ⟨⟨i, Nat.le_refl _, by omega, q⟩, (hs n i (by omega)).2 q⟩
theorem h_isSound {C N : Mem} {σ : Sg} (hC : StC C σ) (hs : okS σ) {F t : Nat} (hF : 10000 ≤ F) (ht : t ≤ σ 56) (hL : ∀ j, j < 24 → N 1 (24 * t + j) = zI (ly σ t j)) : (inB σ (ly σ t) ∧ f_X2_isSound F N C (nI t) = some (nI 1)) ∨ (¬ inB σ (ly σ t) ∧ f_X2_isSound F N C (nI t) = some (nI 0)) := by
  have h5 := kMv hs
  have h1 := kR hs
  unfold f_X2_isSound
  have l24 : nI t * 24 = nI (24 * t) := by rw [l_24, mr24]
  have lR : nI t * 24 + C 0 7 * 6 = nI (24 * t + 6 * σ 1) := by rw [l24, cR hC, l_6, mr6, nI_add]
  rw [lR, l24]
  rcases all_at (f_X2_isSound_19 F N C (nI (24 * t + 6 * σ 1)) (some 0) (some 1)) (some 0) (some 1) (fun j => 0 ≤ ly σ t j ∧ ly σ t j ≤ 99) (24 * t) (6 * σ 1) (fun n i hi => by
    rw [f_X2_isSound_19]
    have e := hL i (by omega)
    have b := ly_M hs ht i (by omega)
    constructor
    · intro q
      simp (disch := omega) only [l_0, l_1, l_2, l_3, l_4, l_5, l_6, l_7, l_8, l_9, l_10, l_12, l_20, l_24, l_25, l_31, l_32, l_48, l_50, l_56, l_57, l_59, l_97, l_99, l_100, l_120, l_122, l_177, l_178, l_201, l_226, l_255, l_400, l_420, l_600, l_700, l_840, l_1000, l_1300, l_2000, l_1000000, nI_add, mr4, ml4, mr5, ml5, mr6, ml6, mr10, ml10, mr24, ml24, mr201, ml201, mr420, ml420, mr226, ml226, mr2, ml2, nI_clamp, lt_T, lt_F, le_T, le_F, eq_T, eq_F, ck_n, dv_n, cp_n, rem_n, pk_div, at1_same, at1_ne, cb_n, Option.bind_some, if_pos, if_neg, ↓reduceIte, and_self, and_true, true_and, and_false, false_and, not_true_eq_false, not_false_eq_true, nI_sub', zz_add, zz_sub, zz_mul, zn_add, nz_add, zn_sub, nz_sub, zn_mul, nz_mul, z_neg, n_neg, zlt_T, zlt_F, zle_T, zle_F, zeq_T, zeq_F, zn_lt, nz_lt, zn_le, nz_le, zn_eq, nz_eq, e]
    · intro q
      by_cases w : ly σ t i < 0
      · simp (disch := omega) only [l_0, l_1, l_2, l_3, l_4, l_5, l_6, l_7, l_8, l_9, l_10, l_12, l_20, l_24, l_25, l_31, l_32, l_48, l_50, l_56, l_57, l_59, l_97, l_99, l_100, l_120, l_122, l_177, l_178, l_201, l_226, l_255, l_400, l_420, l_600, l_700, l_840, l_1000, l_1300, l_2000, l_1000000, nI_add, mr4, ml4, mr5, ml5, mr6, ml6, mr10, ml10, mr24, ml24, mr201, ml201, mr420, ml420, mr226, ml226, mr2, ml2, nI_clamp, lt_T, lt_F, le_T, le_F, eq_T, eq_F, ck_n, dv_n, cp_n, rem_n, pk_div, at1_same, at1_ne, cb_n, Option.bind_some, if_pos, if_neg, ↓reduceIte, and_self, and_true, true_and, and_false, false_and, not_true_eq_false, not_false_eq_true, nI_sub', zz_add, zz_sub, zz_mul, zn_add, nz_add, zn_sub, nz_sub, zn_mul, nz_mul, z_neg, n_neg, zlt_T, zlt_F, zle_T, zle_F, zeq_T, zeq_F, zn_lt, nz_lt, zn_le, nz_le, zn_eq, nz_eq, e]
      · simp (disch := omega) only [l_0, l_1, l_2, l_3, l_4, l_5, l_6, l_7, l_8, l_9, l_10, l_12, l_20, l_24, l_25, l_31, l_32, l_48, l_50, l_56, l_57, l_59, l_97, l_99, l_100, l_120, l_122, l_177, l_178, l_201, l_226, l_255, l_400, l_420, l_600, l_700, l_840, l_1000, l_1300, l_2000, l_1000000, nI_add, mr4, ml4, mr5, ml5, mr6, ml6, mr10, ml10, mr24, ml24, mr201, ml201, mr420, ml420, mr226, ml226, mr2, ml2, nI_clamp, lt_T, lt_F, le_T, le_F, eq_T, eq_F, ck_n, dv_n, cp_n, rem_n, pk_div, at1_same, at1_ne, cb_n, Option.bind_some, if_pos, if_neg, ↓reduceIte, and_self, and_true, true_and, and_false, false_and, not_true_eq_false, not_false_eq_true, nI_sub', zz_add, zz_sub, zz_mul, zn_add, nz_add, zn_sub, nz_sub, zn_mul, nz_mul, z_neg, n_neg, zlt_T, zlt_F, zle_T, zle_F, zeq_T, zeq_F, zn_lt, nz_lt, zn_le, nz_le, zn_eq, nz_eq, e]) (fun n => by
    rw [f_X2_isSound_19]
    simp (disch := omega) only [l_0, l_1, l_2, l_3, l_4, l_5, l_6, l_7, l_8, l_9, l_10, l_12, l_20, l_24, l_25, l_31, l_32, l_48, l_50, l_56, l_57, l_59, l_97, l_99, l_100, l_120, l_122, l_177, l_178, l_201, l_226, l_255, l_400, l_420, l_600, l_700, l_840, l_1000, l_1300, l_2000, l_1000000, nI_add, mr4, ml4, mr5, ml5, mr6, ml6, mr10, ml10, mr24, ml24, mr201, ml201, mr420, ml420, mr226, ml226, mr2, ml2, nI_clamp, lt_T, lt_F, le_T, le_F, eq_T, eq_F, ck_n, dv_n, cp_n, rem_n, pk_div, at1_same, at1_ne, cb_n, Option.bind_some, if_pos, if_neg, ↓reduceIte, and_self, and_true, true_and, and_false, false_and, not_true_eq_false, not_false_eq_true, nI_sub']) (6 * σ 1) 0 F (by omega) (by omega) with ⟨q1, q2⟩ | ⟨⟨i, q1, q2, q3⟩, q4⟩
  · exact .inl ⟨fun j hj => q1 j (by omega) hj, q2⟩
  · exact .inr ⟨fun z => q3 (z i q2), q4⟩
def Snd (σ : Sg) (s : Nat) : Prop := s ≤ σ 56 ∧ (∀ t, 1 ≤ t → t ≤ s → inB σ (ly σ t)) ∧ (s = σ 56 ∨ ¬ inB σ (ly σ (s + 1)))
theorem h_fs5 {C N0 : Mem} {σ : Sg} (hC : StC C σ) (hs : okS σ) {F : Nat} (hF : 10000 ≤ F) (hL : ∀ t, t ≤ σ 56 → ∀ j, j < 24 → N0 1 (24 * t + j) = zI (ly σ t j)) (k : Mem → Option Mem) : ∀ (d s n : Nat) (N : Mem), s + d = σ 56 → d < n → (∀ c, c ≠ 0 → N c = N0 c) → (∀ j, j ≠ 10 → N 0 j = N0 0 j) → N 0 10 = nI s → (∀ t, 1 ≤ t → t ≤ s → inB σ (ly σ t)) → ∃ N' s', f_X2_findSound_5 F C k n N = k N' ∧ (∀ c, c ≠ 0 → N' c = N0 c) ∧ (∀ j, j ≠ 10 → N' 0 j = N0 0 j) ∧ N' 0 10 = nI s' ∧ Snd σ s'
  | d, s, 0, N, _, h, _, _, _, _ => by omega
  | 0, s, n + 1, N, hd, _, hc, h0, h10, hi => by
    obtain rfl : s = σ 56 := by omega
    have h5 := kMv hs
    refine ⟨N, σ 56, ?_, hc, h0, h10, by omega, hi, .inl rfl⟩
    rw [f_X2_findSound_5]
    rw [h10, cMv hC, if_pos (nI_le (by omega) (by omega))]
  | d + 1, s, n + 1, N, hd, hn, hc, h0, h10, hi => by
    have h5 := kMv hs
    have e : nI s + 1 = nI (s + 1) := nI_1 s
    rw [f_X2_findSound_5, h10, cMv hC, if_neg (nI_ge (by omega) (by omega)), e]
    rcases h_isSound (N := N) hC hs (F := F) (t := s + 1) hF (by omega) (fun j hj => by rw [hc 1 (by decide)]; exact hL (s + 1) (by omega) j hj) with ⟨q1, q2⟩ | ⟨q1, q2⟩
    · rw [q2]
      simp only [Option.bind_some]
      rw [if_neg n10]
      exact h_fs5 (F := F) hC hs hF hL k d (s + 1) n _ (by omega) (by omega) (fun c q => by rw [mr_n _ _ q]; exact hc c q) (fun j q => by rw [mr_s, fu_n _ _ q]; exact h0 j q) (by rw [mr_s, fu_s]) (fun t g1 g2 => by
        by_cases w : t = s + 1
        · rw [w]; exact q1
        · exact hi t g1 (by omega))
    · rw [q2]
      simp only [Option.bind_some]
      rw [if_pos n00]
      exact ⟨N, s, rfl, hc, h0, h10, by omega, hi, .inr q1⟩
theorem h_sightCell {C : Mem} {σ : Sg} (hC : StC C σ) (hs : okS σ) (F : Nat) {k : Nat} (hk : k < σ 177) : f_X2_sightCell F C (nI k) = some (nI (siC σ k)) := by
  have h6 := kSe hs
  unfold f_X2_sightCell siC
  have e1 := cSi hC (j := 4 * k + 1) (by omega)
  have e2 := cSi hC (j := 4 * k + 2) (by omega)
  rw [← Nat.add_assoc] at e1 e2
  simp (disch := omega) only [l_0, l_1, l_2, l_3, l_4, l_5, l_6, l_7, l_8, l_9, l_10, l_12, l_20, l_24, l_25, l_31, l_32, l_48, l_50, l_56, l_57, l_59, l_97, l_99, l_100, l_120, l_122, l_177, l_178, l_201, l_226, l_255, l_400, l_420, l_600, l_700, l_840, l_1000, l_1300, l_2000, l_1000000, nI_add, mr4, ml4, mr5, ml5, mr6, ml6, mr10, ml10, mr24, ml24, mr201, ml201, mr420, ml420, mr226, ml226, mr2, ml2, nI_clamp, lt_T, lt_F, le_T, le_F, eq_T, eq_F, ck_n, dv_n, cp_n, rem_n, pk_div, at1_same, at1_ne, cb_n, Option.bind_some, if_pos, if_neg, ↓reduceIte, and_self, and_true, true_and, and_false, false_and, not_true_eq_false, not_false_eq_true, nI_sub', e1, e2]
/-- all that layOut lays -/
def La (N : Mem) (σ : Sg) : Prop := (∀ t, t ≤ σ 56 → ∀ j, j < 24 → N 1 (24 * t + j) = zI (ly σ t j)) ∧ XA N σ 0 ∧ (∃ s, N 0 10 = nI s ∧ Snd σ s) ∧ ∀ k, k < σ 177 → N 5 k = zI (lk σ k)
theorem h_layOut {C N NE : Mem} {σ : Sg} (hC : StC C σ) (hs : okS σ) {F : Nat} (hF : 10000 ≤ F) (hN : N 0 12 = nI 0 ∨ (N 0 12 = nI 1 ∧ La N σ)) : ∃ N' NE', f_X2_layOut F N NE C = some (N', NE') ∧ La N' σ ∧ N' 0 12 = nI 1 ∧ N' 0 13 = N 0 13 ∧ N' 0 11 = N 0 11 ∧ N' 6 = N 6 := by
  have h5 := kMv hs
  have h6 := kSe hs
  unfold f_X2_layOut
  rcases hN with hN | ⟨hN, hL⟩
  · rw [hN, if_pos n00]
    obtain ⟨N1, NE1, a1, a2, a3⟩ := h_lo30 (F := F) hC hs (fun N_135 NE_135 => (f_X2_layExtremes F N_135 C).bind (fun z137 => (f_X2_findSound F z137 C).bind (fun z142 => f_X2_layOut_147 F NE_135 C (fun N_201 => (some (N_201, NE_135))) F z142 0))) (σ 56) 1 F (mr (mr N 0 (fu (N 0) 12 1)) 1 (va_cpy (C 4) (N 1) 0 0 24)) NE (by omega) (by omega) (by omega) (fun t ht j hj => by
      obtain rfl : t = 0 := by omega
      rw [mr_s, cpy_at, if_pos (by omega)]
      have e : 0 + (24 * 0 + j - 0) = j := by omega
      rw [e, cBe hC hj]
      exact (zI_c _).symm)
    have a2' : ∀ t, t ≤ σ 56 → ∀ j, j < 24 → N1 1 (24 * t + j) = zI (ly σ t j) := fun t ht => a2 t (by omega)
    obtain ⟨N2, b1, b2, b3⟩ := h_ex5 (C := C) hC hs hF a2' (fun N_174 => (some N_174)) (σ 56 + 1) F N1 (by omega) (by omega) (fun _ _ _ _ => rfl) (fun s g1 g2 => by omega)
    have b1' : f_X2_layExtremes F N1 C = some N2 := by
      unfold f_X2_layExtremes
      rw [cMv hC, ← dn_s (σ 56)]
      exact b1
    have b4 : ∀ t, t ≤ σ 56 → ∀ j, j < 24 → N2 1 (24 * t + j) = zI (ly σ t j) := fun t ht j hj => by rw [b2 1 (by decide) (by decide) (by decide)]; exact a2' t ht j hj
    obtain ⟨N3, s, c1, c2, c3, c4, c5⟩ := h_fs5 (C := C) (N0 := N2) hC hs hF b4 (fun N_43 => (some N_43)) (σ 56) 0 F (mr N2 0 (fu (N2 0) 10 0)) (by omega) (by omega) (fun c q => mr_n _ _ q) (fun j q => by rw [mr_s, fu_n _ _ q]) (by rw [mr_s, fu_s]; rfl) (fun t g1 g2 => by omega)
    have c1' : f_X2_findSound F N2 C = some N3 := c1
    have d1 : ∀ t, t ≤ σ 56 → ∀ j, j < 24 → N3 1 (24 * t + j) = zI (ly σ t j) := fun t ht j hj => by rw [c2 1 (by decide)]; exact b4 t ht j hj
    obtain ⟨N4, e1, e2⟩ := fill_up (f_X2_layOut_147 F NE1 C (fun N_201 => (some (N_201, NE1)))) (fun N_201 => (some (N_201, NE1))) 5 0 0 0 (σ 177) (fun k => zI (lk σ k)) N3 (fun n i N' _ hi hN' => by
      rw [f_X2_layOut_147]
      have bi := si_b hs hi
      have f1 : N' 1 = N3 1 := Fl_c hN' (by decide)
      have f2 := h_sightCell hC hs F hi
      have f3 := cSi hC (j := 4 * i + 3) (by omega)
      have f4 : C 6 (4 * i) = nI (siT σ i) := cSi hC (j := 4 * i) (by omega)
      rw [← Nat.add_assoc] at f3
      have f5 : N3 1 (24 * siT σ i + siC σ i) = zI (ly σ (siT σ i) (siC σ i)) := d1 _ bi.1 _ bi.2.1
      have f6 : zI (lk σ i) = nI (σ (178 + 4 * i + 3)) - zI (ly σ (siT σ i) (siC σ i)) := by rw [nz_sub]; rfl
      rw [f1]
      simp only [Nat.zero_add]
      simp (disch := omega) only [l_0, l_1, l_2, l_3, l_4, l_5, l_6, l_7, l_8, l_9, l_10, l_12, l_20, l_24, l_25, l_31, l_32, l_48, l_50, l_56, l_57, l_59, l_97, l_99, l_100, l_120, l_122, l_177, l_178, l_201, l_226, l_255, l_400, l_420, l_600, l_700, l_840, l_1000, l_1300, l_2000, l_1000000, nI_add, mr4, ml4, mr5, ml5, mr6, ml6, mr10, ml10, mr24, ml24, mr201, ml201, mr420, ml420, mr226, ml226, mr2, ml2, nI_clamp, lt_T, lt_F, le_T, le_F, eq_T, eq_F, ck_n, dv_n, cp_n, rem_n, pk_div, at1_same, at1_ne, cb_n, Option.bind_some, if_pos, if_neg, ↓reduceIte, and_self, and_true, true_and, and_false, false_and, not_true_eq_false, not_false_eq_true, nI_sub', cSe hC, f2, f3, f4, f5, f6]) (fun n N' hN' => by
      rw [f_X2_layOut_147]
      simp only [Nat.zero_add]
      simp (disch := omega) only [l_0, l_1, l_2, l_3, l_4, l_5, l_6, l_7, l_8, l_9, l_10, l_12, l_20, l_24, l_25, l_31, l_32, l_48, l_50, l_56, l_57, l_59, l_97, l_99, l_100, l_120, l_122, l_177, l_178, l_201, l_226, l_255, l_400, l_420, l_600, l_700, l_840, l_1000, l_1300, l_2000, l_1000000, nI_add, mr4, ml4, mr5, ml5, mr6, ml6, mr10, ml10, mr24, ml24, mr201, ml201, mr420, ml420, mr226, ml226, mr2, ml2, nI_clamp, lt_T, lt_F, le_T, le_F, eq_T, eq_F, ck_n, dv_n, cp_n, rem_n, pk_div, at1_same, at1_ne, cb_n, Option.bind_some, if_pos, if_neg, ↓reduceIte, and_self, and_true, true_and, and_false, false_and, not_true_eq_false, not_false_eq_true, nI_sub', cSe hC]) (σ 177) 0 F N3 (by omega) (by omega) (by omega) (Fl_0 N3 5 _ _)
    refine ⟨N4, NE1, ?_, ⟨fun t ht j hj => ?_, fun t g1 g2 => ?_, ⟨s, ?_, c5⟩, fun k hk => ?_⟩, ?_, ?_, ?_, ?_⟩
    · have cpk : ∀ E : Option (Mem × Mem), cp 0 0 24 24 600 E = E := fun E => cp_n (a := 0) (b := 0) (c := 24) (by omega) (by omega) (by omega) (by omega)
      rw [cpk]
      have a1' : f_X2_layOut_30 F C (fun N_135 NE_135 => (f_X2_layExtremes F N_135 C).bind (fun z137 => (f_X2_findSound F z137 C).bind (fun z142 => f_X2_layOut_147 F NE_135 C (fun N_201 => (some (N_201, NE_135))) F z142 0))) F (mr (mr N 0 (fu (N 0) 12 1)) 1 (va_cpy (C 4) (N 1) (0 : Int32).toNatClampNeg (0 : Int32).toNatClampNeg (24 : Int32).toNatClampNeg)) NE 1 = _ := a1
      rw [a1', b1']
      simp only [Option.bind_some]
      rw [c1']
      simp only [Option.bind_some]
      exact e1
    · rw [Fl_c e2 (by decide)]; exact d1 t ht j hj
    · rw [Fl_c e2 (by decide), Fl_c e2 (by decide), Fl_c e2 (by decide), c2 2 (by decide), c2 3 (by decide), c2 4 (by decide)]
      exact b3 t g1 g2
    · rw [Fl_c e2 (by decide)]; exact c4
    · rw [Fl_i e2 (by omega) (by omega)]
    · rw [Fl_c e2 (by decide), c3 12 (by decide), b2 0 (by decide) (by decide) (by decide), a3 0 (by decide), mr_n _ _ (by decide), mr_s, fu_s]; rfl
    · rw [Fl_c e2 (by decide), c3 13 (by decide), b2 0 (by decide) (by decide) (by decide), a3 0 (by decide), mr_n _ _ (by decide), mr_s, fu_n _ _ (by decide)]
    · rw [Fl_c e2 (by decide), c3 11 (by decide), b2 0 (by decide) (by decide) (by decide), a3 0 (by decide), mr_n _ _ (by decide), mr_s, fu_n _ _ (by decide)]
    · rw [Fl_c e2 (by decide), c2 6 (by decide), b2 6 (by decide) (by decide) (by decide), a3 6 (by decide), mr_n _ _ (by decide), mr_n _ _ (by decide)]
  · rw [hN, if_neg n10]
    exact ⟨N, NE, rfl, hL, hN, rfl, rfl, rfl⟩
