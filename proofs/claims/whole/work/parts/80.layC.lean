/-! PURE LAYER: the class lays out all cells, their extremes, what lacks -/
theorem h_lo30 {C : Mem} {σ : Sg} (hC : StC C σ) (hs : okS σ) {F : Nat} (k : Mem → Mem → Option (Mem × Mem)) : ∀ (d i n : Nat) (N NE : Mem), i + d = σ 56 + 1 → 1 ≤ i → d < n → (∀ t, t < i → ∀ j, j < 24 → N 1 (24 * t + j) = zI (ly σ t j)) → ∃ N' NE', f_X2_layOut_30 F C k n N NE (nI i) = k N' NE' ∧ (∀ t, t < σ 56 + 1 → ∀ j, j < 24 → N' 1 (24 * t + j) = zI (ly σ t j)) ∧ ∀ c, c ≠ 1 → N' c = N c
  | d, i, 0, N, NE, _, _, h, _ => by omega
  | 0, i, n + 1, N, NE, hi, h1, _, hN => by
    obtain rfl : i = σ 56 + 1 := by omega
    have h5 := kMv hs
    refine ⟨N, NE, ?_, hN, fun _ _ => rfl⟩
    rw [f_X2_layOut_30]
    simp (disch := omega) only [l_0, l_1, l_2, l_3, l_4, l_5, l_6, l_7, l_8, l_9, l_10, l_12, l_20, l_24, l_25, l_31, l_32, l_48, l_50, l_56, l_57, l_59, l_97, l_99, l_100, l_120, l_122, l_177, l_178, l_201, l_226, l_255, l_400, l_420, l_600, l_700, l_840, l_1000, l_1300, l_2000, l_1000000, nI_add, mr4, ml4, mr5, ml5, mr6, ml6, mr10, ml10, mr24, ml24, mr201, ml201, mr420, ml420, mr226, ml226, mr2, ml2, nI_clamp, lt_T, lt_F, le_T, le_F, eq_T, eq_F, ck_n, dv_n, cp_n, rem_n, pk_div, at1_same, at1_ne, cb_n, Option.bind_some, if_pos, if_neg, ↓reduceIte, and_self, and_true, true_and, and_false, false_and, not_true_eq_false, not_false_eq_true, nI_sub', cMv hC]
  | d + 1, i, n + 1, N, NE, hi, h1, hn, hN => by
    have h5 := kMv hs
    have hE := eff_ok hs (i := i - 1) (by omega)
    obtain ⟨bA, bB, bx1, bx2, by1, by2, be⟩ := EfL_b hs hE
    obtain ⟨E', d1, e0, e1, e2, e3⟩ := h_dLog (E := NE) hC hs F (i := i - 1) (by omega) hE
    have r0 : ∀ j, j < 24 → N 1 (24 * (i - 1) + j) = zI (ly σ (i - 1) j) := fun j hj => hN (i - 1) (by omega) j hj
    have rA : va_cpy (N 1) (N 1) (24 * (i - 1)) (24 * i) 24 (24 * i + (eff σ (i - 1)).1) = zI (ly σ (i - 1) (eff σ (i - 1)).1) := by
      rw [cpy_at, if_pos (by omega)]
      have e : 24 * (i - 1) + (24 * i + (eff σ (i - 1)).1 - 24 * i) = 24 * (i - 1) + (eff σ (i - 1)).1 := by omega
      rw [e]; exact r0 _ bA
    have rB : va_cpy (N 1) (N 1) (24 * (i - 1)) (24 * i) 24 (24 * i + (eff σ (i - 1)).2.1) = zI (ly σ (i - 1) (eff σ (i - 1)).2.1) := by
      rw [cpy_at, if_pos (by omega)]
      have e : 24 * (i - 1) + (24 * i + (eff σ (i - 1)).2.1 - 24 * i) = 24 * (i - 1) + (eff σ (i - 1)).2.1 := by omega
      rw [e]; exact r0 _ bB
    obtain ⟨N', NE', q1, q2, q3⟩ := h_lo30 (F := F) hC hs k d (i + 1) n (mr N 1 (upd (upd (va_cpy (N 1) (N 1) (24 * (i - 1)) (24 * i) 24) (24 * i + (eff σ (i - 1)).1) (zI (ly σ (i - 1) (eff σ (i - 1)).1 + (eff σ (i - 1)).2.2.1))) (24 * i + (eff σ (i - 1)).2.1) ((upd (va_cpy (N 1) (N 1) (24 * (i - 1)) (24 * i) 24) (24 * i + (eff σ (i - 1)).1) (zI (ly σ (i - 1) (eff σ (i - 1)).1 + (eff σ (i - 1)).2.2.1))) (24 * i + (eff σ (i - 1)).2.1) + zI (eff σ (i - 1)).2.2.2))) E' (by omega) (by omega) (by omega) (fun t ht j hj => by
      rw [mr_s]
      by_cases w : t = i
      · subst w
        have el : ly σ t j = apE (ly σ (t - 1)) (eff σ (t - 1)).1 (eff σ (t - 1)).2.1 (eff σ (t - 1)).2.2.1 (eff σ (t - 1)).2.2.2 1 j := by
          obtain ⟨p, rfl⟩ : ∃ p, t = p + 1 := ⟨t - 1, by omega⟩
          rfl
        have rj : va_cpy (N 1) (N 1) (24 * (t - 1)) (24 * t) 24 (24 * t + j) = zI (ly σ (t - 1) j) := by
          rw [cpy_at, if_pos (by omega)]
          have e : 24 * (t - 1) + (24 * t + j - 24 * t) = 24 * (t - 1) + j := by omega
          rw [e]; exact r0 _ hj
        rw [el]
        unfold apE
        simp only [upd_at, Int.one_mul]
        by_cases w1 : j = (eff σ (t - 1)).2.1
        · rw [if_pos (by omega), if_pos w1]
          by_cases w2 : j = (eff σ (t - 1)).1
          · rw [if_pos (by omega), if_pos w2, zz_add, w2]
          · rw [if_neg (by omega), if_neg w2, rB, zz_add, w1, Int.add_zero]
        · rw [if_neg (by omega), if_neg w1]
          by_cases w2 : j = (eff σ (t - 1)).1
          · rw [if_pos (by omega), if_pos w2, w2, Int.add_zero]
          · rw [if_neg (by omega), if_neg w2, rj, Int.add_zero, Int.add_zero]
      · rw [pk_un (by omega), pk_un (by omega), cpy_at, if_neg (by omega)]
        exact hN t (by omega) j hj)
    refine ⟨N', NE', ?_, q2, fun c hc => by rw [q3 c hc, mr_n _ _ hc]⟩
    rw [f_X2_layOut_30]
    have ei : nI i - 1 = nI (i - 1) := nI_sub' (b := 1) h1
    rw [ei]
    simp (disch := omega) only [l_0, l_1, l_2, l_3, l_4, l_5, l_6, l_7, l_8, l_9, l_10, l_12, l_20, l_24, l_25, l_31, l_32, l_48, l_50, l_56, l_57, l_59, l_97, l_99, l_100, l_120, l_122, l_177, l_178, l_201, l_226, l_255, l_400, l_420, l_600, l_700, l_840, l_1000, l_1300, l_2000, l_1000000, nI_add, mr4, ml4, mr5, ml5, mr6, ml6, mr10, ml10, mr24, ml24, mr201, ml201, mr420, ml420, mr226, ml226, mr2, ml2, nI_clamp, lt_T, lt_F, le_T, le_F, eq_T, eq_F, ck_n, dv_n, cp_n, rem_n, pk_div, at1_same, at1_ne, cb_n, Option.bind_some, if_pos, if_neg, ↓reduceIte, and_self, and_true, true_and, and_false, false_and, not_true_eq_false, not_false_eq_true, nI_sub', cMv hC, d1, e0, e1, e2, e3, rA, zz_add]
    exact q1
/-! extremes -/
noncomputable def mnD (σ : Sg) (j : Nat) : Nat → Int
  | 0 => ly σ (σ 56) j
  | d + 1 => if mnD σ j d < ly σ (σ 56 - (d + 1)) j then mnD σ j d else ly σ (σ 56 - (d + 1)) j
noncomputable def mxD (σ : Sg) (j : Nat) : Nat → Int
  | 0 => ly σ (σ 56) j
  | d + 1 => if ly σ (σ 56 - (d + 1)) j < mxD σ j d then mxD σ j d else ly σ (σ 56 - (d + 1)) j
noncomputable def mn (σ : Sg) (t j : Nat) : Int := mnD σ j (σ 56 - t)
noncomputable def mx (σ : Sg) (t j : Nat) : Int := mxD σ j (σ 56 - t)
theorem mn_l (σ : Sg) (j : Nat) : mn σ (σ 56) j = ly σ (σ 56) j := by
  unfold mn
  rw [Nat.sub_self]
  rfl
theorem mx_l (σ : Sg) (j : Nat) : mx σ (σ 56) j = ly σ (σ 56) j := by
  unfold mx
  rw [Nat.sub_self]
  rfl
theorem mn_s (σ : Sg) (j : Nat) {t : Nat} (ht : t < σ 56) : mn σ t j = if mn σ (t + 1) j < ly σ t j then mn σ (t + 1) j else ly σ t j := by
  unfold mn
  obtain ⟨d, hd⟩ : ∃ d, σ 56 - t = d + 1 := ⟨σ 56 - t - 1, by omega⟩
  have e1 : σ 56 - (t + 1) = d := by omega
  have e2 : σ 56 - (d + 1) = t := by omega
  rw [hd, e1]
  show (if mnD σ j d < ly σ (σ 56 - (d + 1)) j then mnD σ j d else ly σ (σ 56 - (d + 1)) j) = _
  rw [e2]
theorem mx_s (σ : Sg) (j : Nat) {t : Nat} (ht : t < σ 56) : mx σ t j = if ly σ t j < mx σ (t + 1) j then mx σ (t + 1) j else ly σ t j := by
  unfold mx
  obtain ⟨d, hd⟩ : ∃ d, σ 56 - t = d + 1 := ⟨σ 56 - t - 1, by omega⟩
  have e1 : σ 56 - (t + 1) = d := by omega
  have e2 : σ 56 - (d + 1) = t := by omega
  rw [hd, e1]
  show (if ly σ (σ 56 - (d + 1)) j < mxD σ j d then mxD σ j d else ly σ (σ 56 - (d + 1)) j) = _
  rw [e2]
/-- the extremes hold for all times from t on, and are reached -/
theorem mn_all {σ : Sg} {j : Nat} : ∀ d t, t + d = σ 56 → (∀ s, t ≤ s → s ≤ σ 56 → mn σ t j ≤ ly σ s j) ∧ ∃ s, t ≤ s ∧ s ≤ σ 56 ∧ mn σ t j = ly σ s j
  | 0, t, h => by
    obtain rfl : t = σ 56 := by omega
    rw [mn_l]
    refine ⟨fun s h1 h2 => ?_, σ 56, by omega, by omega, rfl⟩
    have : s = σ 56 := by omega
    rw [this]; omega
  | d + 1, t, h => by
    obtain ⟨a1, s, a2, a3, a4⟩ := mn_all (σ := σ) (j := j) d (t + 1) (by omega)
    rw [mn_s σ j (by omega)]
    by_cases q : mn σ (t + 1) j < ly σ t j
    · rw [if_pos q]
      refine ⟨fun u h1 h2 => ?_, s, by omega, a3, a4⟩
      by_cases e : u = t
      · rw [e]; omega
      · exact a1 u (by omega) h2
    · rw [if_neg q]
      refine ⟨fun u h1 h2 => ?_, t, by omega, by omega, rfl⟩
      by_cases e : u = t
      · rw [e]; omega
      · have := a1 u (by omega) h2; omega
theorem mx_all {σ : Sg} {j : Nat} : ∀ d t, t + d = σ 56 → (∀ s, t ≤ s → s ≤ σ 56 → ly σ s j ≤ mx σ t j) ∧ ∃ s, t ≤ s ∧ s ≤ σ 56 ∧ mx σ t j = ly σ s j
  | 0, t, h => by
    obtain rfl : t = σ 56 := by omega
    rw [mx_l]
    refine ⟨fun s h1 h2 => ?_, σ 56, by omega, by omega, rfl⟩
    have : s = σ 56 := by omega
    rw [this]; omega
  | d + 1, t, h => by
    obtain ⟨a1, s, a2, a3, a4⟩ := mx_all (σ := σ) (j := j) d (t + 1) (by omega)
    rw [mx_s σ j (by omega)]
    by_cases q : ly σ t j < mx σ (t + 1) j
    · rw [if_pos q]
      refine ⟨fun u h1 h2 => ?_, s, by omega, a3, a4⟩
      by_cases e : u = t
      · rw [e]; omega
      · exact a1 u (by omega) h2
    · rw [if_neg q]
      refine ⟨fun u h1 h2 => ?_, t, by omega, by omega, rfl⟩
      by_cases e : u = t
      · rw [e]; omega
      · have := a1 u (by omega) h2; omega
theorem mn_M {σ : Sg} (hs : okS σ) {t : Nat} (ht : t ≤ σ 56) {j : Nat} (hj : j < 24) : -10000 ≤ mn σ t j ∧ mn σ t j ≤ 10000 := by
  obtain ⟨-, s, h1, h2, h3⟩ := mn_all (σ := σ) (j := j) (σ 56 - t) t (by omega)
  rw [h3]; exact ly_M hs h2 j hj
theorem mx_M {σ : Sg} (hs : okS σ) {t : Nat} (ht : t ≤ σ 56) {j : Nat} (hj : j < 24) : -10000 ≤ mx σ t j ∧ mx σ t j ≤ 10000 := by
  obtain ⟨-, s, h1, h2, h3⟩ := mx_all (σ := σ) (j := j) (σ 56 - t) t (by omega)
  rw [h3]; exact ly_M hs h2 j hj
noncomputable def cntS (σ : Sg) (t : Nat) : Nat → Nat
  | 0 => 0
  | j + 1 => cntS σ t j + (if mn σ t j < 0 ∨ 99 < mx σ t j then 1 else 0)
theorem cnt_le (σ : Sg) (t : Nat) : ∀ j, cntS σ t j ≤ j
  | 0 => Nat.le_refl _
  | j + 1 => by
    have := cnt_le σ t j
    show cntS σ t j + (if mn σ t j < 0 ∨ 99 < mx σ t j then 1 else 0) ≤ j + 1
    by_cases q : mn σ t j < 0 ∨ 99 < mx σ t j
    · rw [if_pos q]; omega
    · rw [if_neg q]; omega
/-- region t of least, most, strained, as far as j -/
def Xt (N0 N : Mem) (σ : Sg) (t j : Nat) : Prop := (∀ c, c ≠ 2 → c ≠ 3 → c ≠ 4 → N c = N0 c) ∧ (∀ q, 24 * t + 24 ≤ q → N 2 q = N0 2 q ∧ N 3 q = N0 3 q) ∧ (∀ s, t < s → N 4 s = N0 4 s) ∧ (∀ i, i < j → N 2 (24 * t + i) = zI (mn σ t i) ∧ N 3 (24 * t + i) = zI (mx σ t i)) ∧ N 4 t = nI (cntS σ t j)
theorem isStr {N : Mem} {q : Nat} {a b : Int} (h2 : N 2 q = zI a) (h3 : N 3 q = zI b) (hq : q < 600) (a1 : -1000000 ≤ a ∧ a ≤ 1000000) (b1 : -1000000 ≤ b ∧ b ≤ 1000000) (F : Nat) : f_X2_isStrained F N (nI q) = some (if a < 0 ∨ 99 < b then nI 1 else nI 0) := by
  unfold f_X2_isStrained
  by_cases g1 : a < 0
  · simp (disch := omega) only [l_0, l_1, l_2, l_3, l_4, l_5, l_6, l_7, l_8, l_9, l_10, l_12, l_20, l_24, l_25, l_31, l_32, l_48, l_50, l_56, l_57, l_59, l_97, l_99, l_100, l_120, l_122, l_177, l_178, l_201, l_226, l_255, l_400, l_420, l_600, l_700, l_840, l_1000, l_1300, l_2000, l_1000000, nI_add, mr4, ml4, mr5, ml5, mr6, ml6, mr10, ml10, mr24, ml24, mr201, ml201, mr420, ml420, mr226, ml226, mr2, ml2, nI_clamp, lt_T, lt_F, le_T, le_F, eq_T, eq_F, ck_n, dv_n, cp_n, rem_n, pk_div, at1_same, at1_ne, cb_n, Option.bind_some, if_pos, if_neg, ↓reduceIte, and_self, and_true, true_and, and_false, false_and, not_true_eq_false, not_false_eq_true, nI_sub', zz_add, zz_sub, zz_mul, zn_add, nz_add, zn_sub, nz_sub, zn_mul, nz_mul, z_neg, n_neg, zlt_T, zlt_F, zle_T, zle_F, zeq_T, zeq_F, zn_lt, nz_lt, zn_le, nz_le, zn_eq, nz_eq, h2, h3, g1, true_or]
  · by_cases g2 : 99 < b
    · simp (disch := omega) only [l_0, l_1, l_2, l_3, l_4, l_5, l_6, l_7, l_8, l_9, l_10, l_12, l_20, l_24, l_25, l_31, l_32, l_48, l_50, l_56, l_57, l_59, l_97, l_99, l_100, l_120, l_122, l_177, l_178, l_201, l_226, l_255, l_400, l_420, l_600, l_700, l_840, l_1000, l_1300, l_2000, l_1000000, nI_add, mr4, ml4, mr5, ml5, mr6, ml6, mr10, ml10, mr24, ml24, mr201, ml201, mr420, ml420, mr226, ml226, mr2, ml2, nI_clamp, lt_T, lt_F, le_T, le_F, eq_T, eq_F, ck_n, dv_n, cp_n, rem_n, pk_div, at1_same, at1_ne, cb_n, Option.bind_some, if_pos, if_neg, ↓reduceIte, and_self, and_true, true_and, and_false, false_and, not_true_eq_false, not_false_eq_true, nI_sub', zz_add, zz_sub, zz_mul, zn_add, nz_add, zn_sub, nz_sub, zn_mul, nz_mul, z_neg, n_neg, zlt_T, zlt_F, zle_T, zle_F, zeq_T, zeq_F, zn_lt, nz_lt, zn_le, nz_le, zn_eq, nz_eq, h2, h3, g1, g2, or_true]
    · simp (disch := omega) only [l_0, l_1, l_2, l_3, l_4, l_5, l_6, l_7, l_8, l_9, l_10, l_12, l_20, l_24, l_25, l_31, l_32, l_48, l_50, l_56, l_57, l_59, l_97, l_99, l_100, l_120, l_122, l_177, l_178, l_201, l_226, l_255, l_400, l_420, l_600, l_700, l_840, l_1000, l_1300, l_2000, l_1000000, nI_add, mr4, ml4, mr5, ml5, mr6, ml6, mr10, ml10, mr24, ml24, mr201, ml201, mr420, ml420, mr226, ml226, mr2, ml2, nI_clamp, lt_T, lt_F, le_T, le_F, eq_T, eq_F, ck_n, dv_n, cp_n, rem_n, pk_div, at1_same, at1_ne, cb_n, Option.bind_some, if_pos, if_neg, ↓reduceIte, and_self, and_true, true_and, and_false, false_and, not_true_eq_false, not_false_eq_true, nI_sub', zz_add, zz_sub, zz_mul, zn_add, nz_add, zn_sub, nz_sub, zn_mul, nz_mul, z_neg, n_neg, zlt_T, zlt_F, zle_T, zle_F, zeq_T, zeq_F, zn_lt, nz_lt, zn_le, nz_le, zn_eq, nz_eq, h2, h3, g1, g2, or_self]
theorem h_ex50 {C N0 : Mem} {σ : Sg} (hC : StC C σ) (hs : okS σ) {F t : Nat} (ht : t ≤ σ 56) (hL : ∀ j, j < 24 → N0 1 (24 * t + j) = zI (ly σ t j)) (hX : t < σ 56 → ∀ j, j < 6 * σ 1 → N0 2 (24 * (t + 1) + j) = zI (mn σ (t + 1) j) ∧ N0 3 (24 * (t + 1) + j) = zI (mx σ (t + 1) j)) (k : Mem → Option Mem) : ∀ (d j n : Nat) (N : Mem), j + d = 6 * σ 1 → d < n → Xt N0 N σ t j → ∃ N', f_X2_layExtremes_50 F C (nI t) (if t = σ 56 then nI 1 else nI 0) (nI (24 * t + 6 * σ 1)) k n N (nI (24 * t + j)) = k N' ∧ Xt N0 N' σ t (6 * σ 1)
  | d, j, 0, N, _, h, _ => by omega
  | 0, j, n + 1, N, hj, _, hN => by
    obtain rfl : j = 6 * σ 1 := by omega
    have h5 := kMv hs
    have h1 := kR hs
    refine ⟨N, ?_, hN⟩
    rw [f_X2_layExtremes_50]
    simp (disch := omega) only [l_0, l_1, l_2, l_3, l_4, l_5, l_6, l_7, l_8, l_9, l_10, l_12, l_20, l_24, l_25, l_31, l_32, l_48, l_50, l_56, l_57, l_59, l_97, l_99, l_100, l_120, l_122, l_177, l_178, l_201, l_226, l_255, l_400, l_420, l_600, l_700, l_840, l_1000, l_1300, l_2000, l_1000000, nI_add, mr4, ml4, mr5, ml5, mr6, ml6, mr10, ml10, mr24, ml24, mr201, ml201, mr420, ml420, mr226, ml226, mr2, ml2, nI_clamp, lt_T, lt_F, le_T, le_F, eq_T, eq_F, ck_n, dv_n, cp_n, rem_n, pk_div, at1_same, at1_ne, cb_n, Option.bind_some, if_pos, if_neg, ↓reduceIte, and_self, and_true, true_and, and_false, false_and, not_true_eq_false, not_false_eq_true, nI_sub']
  | d + 1, j, n + 1, N, hj, hn, hN => by
    have h5 := kMv hs
    have h1 := kR hs
    obtain ⟨x1, x2, x3, x4, x5⟩ := id hN
    have l1 : N 1 (24 * t + j) = zI (ly σ t j) := by rw [x1 1 (by decide) (by decide) (by decide)]; exact hL j (by omega)
    have bl := ly_M hs ht j (by omega)
    have bm := mn_M hs ht (j := j) (by omega)
    have bx := mx_M hs ht (j := j) (by omega)
    have cl := cnt_le σ t j
    have g1 : ∀ c, c ≠ 2 → c ≠ 3 → c ≠ 4 → mr (mr (mr N 2 (upd (N 2) (24 * t + j) (zI (mn σ t j)))) 3 (upd (N 3) (24 * t + j) (zI (mx σ t j)))) 4 (upd (N 4) t (nI (cntS σ t (j + 1)))) c = N0 c := fun c q2 q3 q4 => by
      simp (disch := omega) only [at1_same, at1_ne]
      exact x1 c q2 q3 q4
    have hN' : Xt N0 (mr (mr (mr N 2 (upd (N 2) (24 * t + j) (zI (mn σ t j)))) 3 (upd (N 3) (24 * t + j) (zI (mx σ t j)))) 4 (upd (N 4) t (nI (cntS σ t (j + 1))))) σ t (j + 1) := by
      refine ⟨g1, fun q hq => ?_, fun s hs => ?_, fun i hi => ?_, ?_⟩
      · simp (disch := omega) only [at1_same, at1_ne, pk_un]
        exact x2 q hq
      · simp (disch := omega) only [at1_same, at1_ne, pk_un]
        exact x3 s hs
      · simp (disch := omega) only [at1_same, at1_ne]
        by_cases e : i = j
        · subst e
          rw [pk_us, pk_us]
          exact ⟨rfl, rfl⟩
        · rw [pk_un (by omega), pk_un (by omega)]
          exact x4 i (by omega)
      · simp (disch := omega) only [at1_same, at1_ne, pk_us]
    obtain ⟨N', e1, e2⟩ := h_ex50 (F := F) hC hs ht hL hX k d (j + 1) n _ (by omega) (by omega) hN'
    refine ⟨N', ?_, e2⟩
    rw [← Nat.add_assoc] at e1
    have iss : ∀ r : Nat → Int32, f_X2_isStrained F (mr (mr N 2 (upd (N 2) (24 * t + j) (zI (mn σ t j)))) 3 (upd (N 3) (24 * t + j) (zI (mx σ t j)))) (nI (24 * t + j)) = some (if mn σ t j < 0 ∨ 99 < mx σ t j then nI 1 else nI 0) := fun _ => isStr (a := mn σ t j) (b := mx σ t j) (by simp (disch := omega) only [at1_same, at1_ne, pk_us]) (by simp (disch := omega) only [at1_same, at1_ne, pk_us]) (by omega) (by omega) (by omega) F
    have iss' := iss (fun _ => 0)
    have fin : (if mn σ t j < 0 ∨ 99 < mx σ t j then nI 1 else nI 0 : Int32) = 0 ∧ cntS σ t (j + 1) = cntS σ t j ∨ (if mn σ t j < 0 ∨ 99 < mx σ t j then nI 1 else nI 0 : Int32) = nI 1 ∧ cntS σ t (j + 1) = cntS σ t j + 1 := by
      have ec : cntS σ t (j + 1) = cntS σ t j + (if mn σ t j < 0 ∨ 99 < mx σ t j then 1 else 0) := rfl
      rw [ec]
      by_cases q : mn σ t j < 0 ∨ 99 < mx σ t j
      · rw [if_pos q, if_pos q]; exact .inr ⟨rfl, rfl⟩
      · rw [if_neg q, if_neg q]; exact .inl ⟨rfl, rfl⟩
    rw [f_X2_layExtremes_50]
    unfold f_X2_layExtremes_97 f_X2_layExtremes_138
    by_cases hl : t = σ 56
    · have em : mn σ t j = ly σ t j := by rw [hl]; exact mn_l σ j
      have ex : mx σ t j = ly σ t j := by rw [hl]; exact mx_l σ j
      rw [if_pos hl] at e1 ⊢
      rw [em, ex] at iss'
      rw [em, ex] at e1 fin
      rcases fin with ⟨f1, f2⟩ | ⟨f1, f2⟩
      · rw [f1] at iss'
        rw [f2] at e1
        simp (disch := omega) only [l_0, l_1, l_2, l_3, l_4, l_5, l_6, l_7, l_8, l_9, l_10, l_12, l_20, l_24, l_25, l_31, l_32, l_48, l_50, l_56, l_57, l_59, l_97, l_99, l_100, l_120, l_122, l_177, l_178, l_201, l_226, l_255, l_400, l_420, l_600, l_700, l_840, l_1000, l_1300, l_2000, l_1000000, nI_add, mr4, ml4, mr5, ml5, mr6, ml6, mr10, ml10, mr24, ml24, mr201, ml201, mr420, ml420, mr226, ml226, mr2, ml2, nI_clamp, lt_T, lt_F, le_T, le_F, eq_T, eq_F, ck_n, dv_n, cp_n, rem_n, pk_div, at1_same, at1_ne, cb_n, Option.bind_some, if_pos, if_neg, ↓reduceIte, and_self, and_true, true_and, and_false, false_and, not_true_eq_false, not_false_eq_true, nI_sub', l1, iss', x5]
        exact e1
      · rw [f1] at iss'
        rw [f2] at e1
        simp (disch := omega) only [l_0, l_1, l_2, l_3, l_4, l_5, l_6, l_7, l_8, l_9, l_10, l_12, l_20, l_24, l_25, l_31, l_32, l_48, l_50, l_56, l_57, l_59, l_97, l_99, l_100, l_120, l_122, l_177, l_178, l_201, l_226, l_255, l_400, l_420, l_600, l_700, l_840, l_1000, l_1300, l_2000, l_1000000, nI_add, mr4, ml4, mr5, ml5, mr6, ml6, mr10, ml10, mr24, ml24, mr201, ml201, mr420, ml420, mr226, ml226, mr2, ml2, nI_clamp, lt_T, lt_F, le_T, le_F, eq_T, eq_F, ck_n, dv_n, cp_n, rem_n, pk_div, at1_same, at1_ne, cb_n, Option.bind_some, if_pos, if_neg, ↓reduceIte, and_self, and_true, true_and, and_false, false_and, not_true_eq_false, not_false_eq_true, nI_sub', l1, iss', x5]
        exact e1
    · have hlt : t < σ 56 := by omega
      have xx := hX hlt j (by omega)
      have ei : 24 * (t + 1) + j = 24 * t + j + 24 := by omega
      rw [ei] at xx
      have y2 : N 2 (24 * t + j + 24) = zI (mn σ (t + 1) j) := by rw [(x2 _ (by omega)).1]; exact xx.1
      have y3 : N 3 (24 * t + j + 24) = zI (mx σ (t + 1) j) := by rw [(x2 _ (by omega)).2]; exact xx.2
      have bm2 := mn_M hs (t := t + 1) (by omega) (j := j) (by omega)
      have bx2 := mx_M hs (t := t + 1) (by omega) (j := j) (by omega)
      have z2 : (if zI (mn σ (t + 1) j) < zI (ly σ t j) then zI (mn σ (t + 1) j) else zI (ly σ t j)) = zI (mn σ t j) := by
        rw [mn_s σ j hlt]
        by_cases q : mn σ (t + 1) j < ly σ t j
        · rw [if_pos q, if_pos (of_eq_true (zlt_T q (by omega) (by omega)))]
        · rw [if_neg q, if_neg (of_eq_false (zlt_F (by omega) (by omega) (by omega)))]
      have z3 : (if zI (ly σ t j) < zI (mx σ (t + 1) j) then zI (mx σ (t + 1) j) else zI (ly σ t j)) = zI (mx σ t j) := by
        rw [mx_s σ j hlt]
        by_cases q : ly σ t j < mx σ (t + 1) j
        · rw [if_pos q, if_pos (of_eq_true (zlt_T q (by omega) (by omega)))]
        · rw [if_neg q, if_neg (of_eq_false (zlt_F (by omega) (by omega) (by omega)))]
      rw [if_neg hl] at e1 ⊢
      rcases fin with ⟨f1, f2⟩ | ⟨f1, f2⟩
      · rw [f1] at iss'
        rw [f2] at e1
        simp (disch := omega) only [l_0, l_1, l_2, l_3, l_4, l_5, l_6, l_7, l_8, l_9, l_10, l_12, l_20, l_24, l_25, l_31, l_32, l_48, l_50, l_56, l_57, l_59, l_97, l_99, l_100, l_120, l_122, l_177, l_178, l_201, l_226, l_255, l_400, l_420, l_600, l_700, l_840, l_1000, l_1300, l_2000, l_1000000, nI_add, mr4, ml4, mr5, ml5, mr6, ml6, mr10, ml10, mr24, ml24, mr201, ml201, mr420, ml420, mr226, ml226, mr2, ml2, nI_clamp, lt_T, lt_F, le_T, le_F, eq_T, eq_F, ck_n, dv_n, cp_n, rem_n, pk_div, at1_same, at1_ne, cb_n, Option.bind_some, if_pos, if_neg, ↓reduceIte, and_self, and_true, true_and, and_false, false_and, not_true_eq_false, not_false_eq_true, nI_sub', l1, y2, y3, z2, z3, iss', x5]
        exact e1
      · rw [f1] at iss'
        rw [f2] at e1
        simp (disch := omega) only [l_0, l_1, l_2, l_3, l_4, l_5, l_6, l_7, l_8, l_9, l_10, l_12, l_20, l_24, l_25, l_31, l_32, l_48, l_50, l_56, l_57, l_59, l_97, l_99, l_100, l_120, l_122, l_177, l_178, l_201, l_226, l_255, l_400, l_420, l_600, l_700, l_840, l_1000, l_1300, l_2000, l_1000000, nI_add, mr4, ml4, mr5, ml5, mr6, ml6, mr10, ml10, mr24, ml24, mr201, ml201, mr420, ml420, mr226, ml226, mr2, ml2, nI_clamp, lt_T, lt_F, le_T, le_F, eq_T, eq_F, ck_n, dv_n, cp_n, rem_n, pk_div, at1_same, at1_ne, cb_n, Option.bind_some, if_pos, if_neg, ↓reduceIte, and_self, and_true, true_and, and_false, false_and, not_true_eq_false, not_false_eq_true, nI_sub', l1, y2, y3, z2, z3, iss', x5]
        exact e1
