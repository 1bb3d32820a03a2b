/-! PURE LAYER: sums laid plain -/
def dn (i : Nat) : Int32 := nI i - 1
theorem dn_s (i : Nat) : dn (i + 1) = nI i := nI_pred i
theorem dn_p {i : Nat} (h : 1 ≤ i) : dn i = nI (i - 1) := by
  obtain ⟨j, rfl⟩ : ∃ j, i = j + 1 := ⟨i - 1, by omega⟩
  exact dn_s j
theorem dn_0 : (dn 0 < nI 0) = True := eq_true (by decide)
theorem dn_z (i : Nat) : zI ((i : Int) + -((1 : Nat) : Int)) = dn i := by
  show _ = nI i - nI 1
  rw [nn_sub]
  congr 1
theorem mr_s {β : Type} (M : Nat → Nat → β) (k : Nat) (r : Nat → β) : mr M k r k = r := at1_same M k r
theorem mr_n {β : Type} (M : Nat → Nat → β) {k j : Nat} (r : Nat → β) (h : j ≠ k) : mr M k r j = M j := at1_ne M r h
theorem fu_s (f : Nat → Int32) (k : Nat) (x : Int32) : fu f k x k = x := at1_same f k x
theorem fu_n (f : Nat → Int32) {k j : Nat} (x : Int32) (h : j ≠ k) : fu f k x j = f j := at1_ne f x h
/-- what lasts of the reference's state -/
def Pm (M M' : Mem) : Prop := M' 1 = M 1 ∧ M' 3 = M 3 ∧ M' 21 = M 21 ∧ M' 22 = M 22 ∧ M' 0 4 = M 0 4 ∧ M' 0 29 = M 0 29
theorem Pm_rfl (M : Mem) : Pm M M := ⟨rfl, rfl, rfl, rfl, rfl, rfl⟩
theorem Pm_tr {M M1 M2 : Mem} (h : Pm M M1) (g : Pm M1 M2) : Pm M M2 := ⟨g.1.trans h.1, g.2.1.trans h.2.1, g.2.2.1.trans h.2.2.1, g.2.2.2.1.trans h.2.2.2.1, g.2.2.2.2.1.trans h.2.2.2.2.1, g.2.2.2.2.2.trans h.2.2.2.2.2⟩
theorem Pm_k (M : Mem) {k : Nat} (r : Nat → Int32) (h0 : k ≠ 0) (h1 : k ≠ 1) (h3 : k ≠ 3) (h21 : k ≠ 21) (h22 : k ≠ 22) : Pm M (mr M k r) := ⟨at1_ne _ _ h1.symm, at1_ne _ _ h3.symm, at1_ne _ _ h21.symm, at1_ne _ _ h22.symm, by rw [mr_n M r h0.symm], by rw [mr_n M r h0.symm]⟩
theorem StM_p {M M' : Mem} {σ : Sg} (h : StM M σ) (p : Pm M M') : StM M' σ := fun j hj => by rw [p.1]; exact h j hj
def dg (σ : Sg) (S i : Nat) : Nat := (if i + 1 < σ 0 then S % wo σ (i + 1) else S) / wo σ i
def dgs (σ : Sg) (S : Nat) : Nat → Nat
  | 0 => 0
  | i + 1 => dgs σ S i + dg σ S i
theorem rs_step {σ : Sg} {S i : Nat} (hi : i < σ 0) : (if i + 1 < σ 0 then S % wo σ (i + 1) else S) % wo σ i = S % wo σ i := by
  by_cases h : i + 1 < σ 0
  · rw [if_pos h]
    exact Nat.mod_mod_of_dvd S ⟨σ (2 + (i + 1)), rfl⟩
  · rw [if_neg h]
theorem rs_lt {σ : Sg} {S i : Nat} (hS : S < 2147483648) : (if i + 1 < σ 0 then S % wo σ (i + 1) else S) < 2147483648 := by
  by_cases h : i + 1 < σ 0
  · rw [if_pos h]; exact Nat.lt_of_le_of_lt (Nat.mod_le _ _) hS
  · rw [if_neg h]; exact hS
theorem h_splLoop {C : Mem} {LP : MemL} {wP vP : Bool} {σ : Sg} (hC : StC C σ) (hs : okS σ) {F S : Nat} (hS : S < 2147483648) (k : Mem → Int32 → Option (Int32 × Mem)) : ∀ (i n A R : Nat) (P : Mem), i ≤ σ 0 → i < n → (0 < i → R = if i < σ 0 then S % wo σ i else S) → ∃ P', f_X5_splitPlain_13 F LP wP vP C k n P (nI R) (nI A) (dn i) = k P' (nI (A + dgs σ S i)) ∧ (∀ j, j < i → P' 1 j = nI (dg σ S j)) ∧ ∀ j, i ≤ j → P' 1 j = P 1 j
  | i, 0, A, R, P, _, h, _ => by omega
  | 0, n + 1, A, R, P, _, _, _ => by
    refine ⟨P, ?_, fun j hj => by omega, fun _ _ => rfl⟩
    unfold f_X5_splitPlain_13
    simp (disch := omega) only [l_0, l_1, l_2, l_3, l_4, l_5, l_6, l_7, l_8, l_9, l_10, l_12, l_20, l_24, l_25, l_31, l_32, l_48, l_50, l_56, l_57, l_59, l_97, l_99, l_100, l_120, l_122, l_177, l_178, l_201, l_226, l_255, l_400, l_420, l_600, l_700, l_840, l_1000, l_1300, l_2000, l_1000000, nI_add, mr4, ml4, mr5, ml5, mr6, ml6, mr10, ml10, mr24, ml24, mr201, ml201, mr420, ml420, mr226, ml226, mr2, ml2, nI_clamp, lt_T, lt_F, le_T, le_F, eq_T, eq_F, ck_n, dv_n, cp_n, rem_n, pk_div, at1_same, at1_ne, cb_n, Option.bind_some, if_pos, if_neg, ↓reduceIte, and_self, and_true, true_and, and_false, false_and, not_true_eq_false, not_false_eq_true, nI_sub', zz_add, zz_sub, zz_mul, zn_add, nz_add, zn_sub, nz_sub, zn_mul, nz_mul, z_neg, n_neg, zlt_T, zlt_F, zle_T, zle_F, zeq_T, zeq_F, zn_lt, nz_lt, zn_le, nz_le, zn_eq, nz_eq, dn_0]
    rfl
  | i + 1, n + 1, A, R, P, hi, hn, hR => by
    have h0 := kC hs
    have wl := wo_lt hs (c := i) (by omega)
    have eR := hR (by omega)
    have rl := rs_lt (σ := σ) (S := S) (i := i) hS
    have ed : R / wo σ i = dg σ S i := by rw [eR]; rfl
    have em : R % wo σ i = S % wo σ i := by rw [eR]; exact rs_step (by omega)
    rw [← eR] at rl
    obtain ⟨P', e1, e2, e3⟩ := h_splLoop (F := F) (LP := LP) (wP := wP) (vP := vP) hC hs hS k i n (A + dg σ S i) (S % wo σ i) (mr P 1 (upd (P 1) i (nI (dg σ S i)))) (by omega) (by omega) (fun _ => by rw [if_pos (by omega)])
    refine ⟨P', ?_, fun j hj => ?_, fun j hj => ?_⟩
    · unfold f_X5_splitPlain_13
      simp (disch := omega) only [l_0, l_1, l_2, l_3, l_4, l_5, l_6, l_7, l_8, l_9, l_10, l_12, l_20, l_24, l_25, l_31, l_32, l_48, l_50, l_56, l_57, l_59, l_97, l_99, l_100, l_120, l_122, l_177, l_178, l_201, l_226, l_255, l_400, l_420, l_600, l_700, l_840, l_1000, l_1300, l_2000, l_1000000, nI_add, mr4, ml4, mr5, ml5, mr6, ml6, mr10, ml10, mr24, ml24, mr201, ml201, mr420, ml420, mr226, ml226, mr2, ml2, nI_clamp, lt_T, lt_F, le_T, le_F, eq_T, eq_F, ck_n, dv_n, cp_n, rem_n, pk_div, at1_same, at1_ne, cb_n, Option.bind_some, if_pos, if_neg, ↓reduceIte, and_self, and_true, true_and, and_false, false_and, not_true_eq_false, not_false_eq_true, nI_sub', zz_add, zz_sub, zz_mul, zn_add, nz_add, zn_sub, nz_sub, zn_mul, nz_mul, z_neg, n_neg, zlt_T, zlt_F, zle_T, zle_F, zeq_T, zeq_F, zn_lt, nz_lt, zn_le, nz_le, zn_eq, nz_eq, dn_s, dn_z, cWo hC, f_X5_splitPlain_47, pk_us, nI_mul', ed]
      rw [← ed, rem_n, em, ed]
      rw [e1, Nat.add_assoc, Nat.add_comm (dg σ S i)]
      rfl
    · by_cases hj' : j < i
      · exact e2 j hj'
      · obtain rfl : j = i := by omega
        rw [e3 j (by omega), mr_s, pk_us]
    · rw [e3 j (by omega), mr_s, pk_un (by omega)]
theorem h_splitPlain {C P : Mem} {LP : MemL} {wP vP : Bool} {σ : Sg} (hC : StC C σ) (hs : okS σ) {F S : Nat} (hF : 10 ≤ F) (hS : S < 2147483648) : ∃ P', f_X5_splitPlain F P LP wP vP C (nI S) = some (nI (dgs σ S (σ 0)), P') ∧ ∀ j, j < σ 0 → P' 1 j = nI (dg σ S j) := by
  have h0 := kC hs
  obtain ⟨P', e1, e2, _⟩ := h_splLoop (F := F) (LP := LP) (wP := wP) (vP := vP) hC hs hS (fun P_84 x4_84 => some (x4_84, P_84)) (σ 0) F 0 S P (by omega) (by omega) (fun _ => by rw [if_neg (by omega)])
  refine ⟨P', ?_, e2⟩
  unfold f_X5_splitPlain
  rw [cC hC]
  rw [Nat.zero_add] at e1
  exact e1
theorem g_plaLoop {LM : MemL} {σ : Sg} (hs : okS σ) {F S : Nat} (hF : 10 ≤ F) (hS : S < 2147483648) (k : Mem → Option Mem) : ∀ (i n R : Nat) (M : Mem), StM M σ → i ≤ σ 0 → i < n → (0 < i → R = if i < σ 0 then S % wo σ i else S) → ∃ M', f_X10_laysPlain_11 F LM k n M (nI R) (dn i) = k M' ∧ (∀ j, j < i → M' 5 j = nI (dg σ S j)) ∧ (∀ j, i ≤ j → M' 5 j = M 5 j) ∧ Pm M M'
  | i, 0, R, M, _, _, h, _ => by omega
  | 0, n + 1, R, M, _, _, _, _ => by
    refine ⟨M, ?_, fun j hj => by omega, fun _ _ => rfl, Pm_rfl M⟩
    unfold f_X10_laysPlain_11
    simp (disch := omega) only [l_0, l_1, l_2, l_3, l_4, l_5, l_6, l_7, l_8, l_9, l_10, l_12, l_20, l_24, l_25, l_31, l_32, l_48, l_50, l_56, l_57, l_59, l_97, l_99, l_100, l_120, l_122, l_177, l_178, l_201, l_226, l_255, l_400, l_420, l_600, l_700, l_840, l_1000, l_1300, l_2000, l_1000000, nI_add, mr4, ml4, mr5, ml5, mr6, ml6, mr10, ml10, mr24, ml24, mr201, ml201, mr420, ml420, mr226, ml226, mr2, ml2, nI_clamp, lt_T, lt_F, le_T, le_F, eq_T, eq_F, ck_n, dv_n, cp_n, rem_n, pk_div, at1_same, at1_ne, cb_n, Option.bind_some, if_pos, if_neg, ↓reduceIte, and_self, and_true, true_and, and_false, false_and, not_true_eq_false, not_false_eq_true, nI_sub', zz_add, zz_sub, zz_mul, zn_add, nz_add, zn_sub, nz_sub, zn_mul, nz_mul, z_neg, n_neg, zlt_T, zlt_F, zle_T, zle_F, zeq_T, zeq_F, zn_lt, nz_lt, zn_le, nz_le, zn_eq, nz_eq, dn_0]
  | i + 1, n + 1, R, M, hM, hi, hn, hR => by
    have h0 := kC hs
    have wl := wo_lt hs (c := i) (by omega)
    have eR := hR (by omega)
    have rl := rs_lt (σ := σ) (S := S) (i := i) hS
    have ed : R / wo σ i = dg σ S i := by rw [eR]; rfl
    have em : R % wo σ i = S % wo σ i := by rw [eR]; exact rs_step (by omega)
    rw [← eR] at rl
    have p1 : Pm M (mr M 5 (upd (M 5) i (nI (dg σ S i)))) := Pm_k M _ (by decide) (by decide) (by decide) (by decide) (by decide)
    have hM1 := StM_p hM p1
    obtain ⟨M', e1, e2, e3, e4⟩ := g_plaLoop (F := F) (LM := LM) hs hF hS k i n (S % wo σ i) (mr M 5 (upd (M 5) i (nI (dg σ S i)))) hM1 (by omega) (by omega) (fun _ => by rw [if_pos (by omega)])
    refine ⟨M', ?_, fun j hj => ?_, fun j hj => ?_, Pm_tr p1 e4⟩
    · unfold f_X10_laysPlain_11
      have hM2 : StM (mr M 5 (upd (M 5) i (nI (R / wo σ i)))) σ := by rw [ed]; exact hM1
      simp (disch := omega) only [l_0, l_1, l_2, l_3, l_4, l_5, l_6, l_7, l_8, l_9, l_10, l_12, l_20, l_24, l_25, l_31, l_32, l_48, l_50, l_56, l_57, l_59, l_97, l_99, l_100, l_120, l_122, l_177, l_178, l_201, l_226, l_255, l_400, l_420, l_600, l_700, l_840, l_1000, l_1300, l_2000, l_1000000, nI_add, mr4, ml4, mr5, ml5, mr6, ml6, mr10, ml10, mr24, ml24, mr201, ml201, mr420, ml420, mr226, ml226, mr2, ml2, nI_clamp, lt_T, lt_F, le_T, le_F, eq_T, eq_F, ck_n, dv_n, cp_n, rem_n, pk_div, at1_same, at1_ne, cb_n, Option.bind_some, if_pos, if_neg, ↓reduceIte, and_self, and_true, true_and, and_false, false_and, not_true_eq_false, not_false_eq_true, nI_sub', zz_add, zz_sub, zz_mul, zn_add, nz_add, zn_sub, nz_sub, zn_mul, nz_mul, z_neg, n_neg, zlt_T, zlt_F, zle_T, zle_F, zeq_T, zeq_F, zn_lt, nz_lt, zn_le, nz_le, zn_eq, nz_eq, dn_s, dn_z, g_worthOf hM hF, g_worthOf hM2 hF, nI_mul']
      rw [em, ed]
      exact e1
    · by_cases hj' : j < i
      · exact e2 j hj'
      · obtain rfl : j = i := by omega
        rw [e3 j (by omega), mr_s, pk_us]
    · rw [e3 j (by omega), mr_s, pk_un (by omega)]
theorem g_laysPlain {M : Mem} {LM : MemL} {σ : Sg} (hM : StM M σ) (hs : okS σ) {F S : Nat} (hF : 10 ≤ F) (hS : S < 2147483648) : ∃ M', f_X10_laysPlain F M LM (nI S) = some M' ∧ (∀ j, j < σ 0 → M' 5 j = nI (dg σ S j)) ∧ Pm M M' := by
  have h0 := kC hs
  obtain ⟨M', e1, e2, _, e4⟩ := g_plaLoop (F := F) (LM := LM) hs hF hS (fun M_42 => some M_42) (σ 0) F S M hM (by omega) (by omega) (fun _ => by rw [if_neg (by omega)])
  refine ⟨M', ?_, e2, e4⟩
  unfold f_X10_laysPlain
  have hck : ∀ E : Option Mem, ck 0 226 E = E := fun E => ck_n (i := 0) (by decide) (by decide)
  have e0 : M 1 (0 : Int32).toNatClampNeg = nI (σ 0) := hM 0 (by omega)
  rw [hck, e0]
  exact e1
theorem g_ploLoop {M : Mem} {LM : MemL} {σ : Sg} (hM : StM M σ) (hs : okS σ) {F S : Nat} (k : Int32 → Option (Int32 × Mem)) (ho : ∀ j, j < σ 0 → M 5 j = nI (dg σ S j)) : ∀ (d i n : Nat), i + d = σ 0 → d < n → f_X10_plainOf_51 F M LM k n (nI (dgs σ S i)) (nI i) = k (nI (dgs σ S (σ 0)))
  | d, i, 0, _, h => by omega
  | d, i, n + 1, hi, hn => by
    have h0 := kC hs
    unfold f_X10_plainOf_51
    cases d with
    | zero =>
      obtain rfl : i = σ 0 := by omega
      simp (disch := omega) only [l_0, l_1, l_2, l_3, l_4, l_5, l_6, l_7, l_8, l_9, l_10, l_12, l_20, l_24, l_25, l_31, l_32, l_48, l_50, l_56, l_57, l_59, l_97, l_99, l_100, l_120, l_122, l_177, l_178, l_201, l_226, l_255, l_400, l_420, l_600, l_700, l_840, l_1000, l_1300, l_2000, l_1000000, nI_add, mr4, ml4, mr5, ml5, mr6, ml6, mr10, ml10, mr24, ml24, mr201, ml201, mr420, ml420, mr226, ml226, mr2, ml2, nI_clamp, lt_T, lt_F, le_T, le_F, eq_T, eq_F, ck_n, dv_n, cp_n, rem_n, pk_div, at1_same, at1_ne, cb_n, Option.bind_some, if_pos, if_neg, ↓reduceIte, and_self, and_true, true_and, and_false, false_and, not_true_eq_false, not_false_eq_true, nI_sub', mS hM]
    | succ d =>
      simp (disch := omega) only [l_0, l_1, l_2, l_3, l_4, l_5, l_6, l_7, l_8, l_9, l_10, l_12, l_20, l_24, l_25, l_31, l_32, l_48, l_50, l_56, l_57, l_59, l_97, l_99, l_100, l_120, l_122, l_177, l_178, l_201, l_226, l_255, l_400, l_420, l_600, l_700, l_840, l_1000, l_1300, l_2000, l_1000000, nI_add, mr4, ml4, mr5, ml5, mr6, ml6, mr10, ml10, mr24, ml24, mr201, ml201, mr420, ml420, mr226, ml226, mr2, ml2, nI_clamp, lt_T, lt_F, le_T, le_F, eq_T, eq_F, ck_n, dv_n, cp_n, rem_n, pk_div, at1_same, at1_ne, cb_n, Option.bind_some, if_pos, if_neg, ↓reduceIte, and_self, and_true, true_and, and_false, false_and, not_true_eq_false, not_false_eq_true, nI_sub', mS hM, ho]
      exact g_ploLoop hM hs k ho d (i + 1) n (by omega) (by omega)
theorem m_plainOf {C M X0 P : Mem} {LM LP : MemL} {wP vP : Bool} {σ : Sg} (hC : StC C σ) (hM : StM M σ) (hs : okS σ) {F : Nat} (hF : 10 ≤ F) (x y : Int32) : ∃ v P' M', f_X9_plainOf F X0 C P LP wP vP x y = some (v, P') ∧ f_X10_plainOf F M LM x y = some (v, M') ∧ Pm M M' := by
  have h0 := kC hs
  obtain ⟨x, x1, x2, rfl⟩ := zI_of x
  obtain ⟨y, y1, y2, rfl⟩ := zI_of y
  unfold f_X9_plainOf f_X10_plainOf
  by_cases hx : x < 0
  · by_cases hz : σ 0 = 0
    · simp (disch := omega) only [l_0, l_1, l_2, l_3, l_4, l_5, l_6, l_7, l_8, l_9, l_10, l_12, l_20, l_24, l_25, l_31, l_32, l_48, l_50, l_56, l_57, l_59, l_97, l_99, l_100, l_120, l_122, l_177, l_178, l_201, l_226, l_255, l_400, l_420, l_600, l_700, l_840, l_1000, l_1300, l_2000, l_1000000, nI_add, mr4, ml4, mr5, ml5, mr6, ml6, mr10, ml10, mr24, ml24, mr201, ml201, mr420, ml420, mr226, ml226, mr2, ml2, nI_clamp, lt_T, lt_F, le_T, le_F, eq_T, eq_F, ck_n, dv_n, cp_n, rem_n, pk_div, at1_same, at1_ne, cb_n, Option.bind_some, if_pos, if_neg, ↓reduceIte, and_self, and_true, true_and, and_false, false_and, not_true_eq_false, not_false_eq_true, nI_sub', zz_add, zz_sub, zz_mul, zn_add, nz_add, zn_sub, nz_sub, zn_mul, nz_mul, z_neg, n_neg, zlt_T, zlt_F, zle_T, zle_F, zeq_T, zeq_F, zn_lt, nz_lt, zn_le, nz_le, zn_eq, nz_eq, cC hC]
      exact ⟨_, _, _, rfl, rfl, Pm_rfl M⟩
    · simp (disch := omega) only [l_0, l_1, l_2, l_3, l_4, l_5, l_6, l_7, l_8, l_9, l_10, l_12, l_20, l_24, l_25, l_31, l_32, l_48, l_50, l_56, l_57, l_59, l_97, l_99, l_100, l_120, l_122, l_177, l_178, l_201, l_226, l_255, l_400, l_420, l_600, l_700, l_840, l_1000, l_1300, l_2000, l_1000000, nI_add, mr4, ml4, mr5, ml5, mr6, ml6, mr10, ml10, mr24, ml24, mr201, ml201, mr420, ml420, mr226, ml226, mr2, ml2, nI_clamp, lt_T, lt_F, le_T, le_F, eq_T, eq_F, ck_n, dv_n, cp_n, rem_n, pk_div, at1_same, at1_ne, cb_n, Option.bind_some, if_pos, if_neg, ↓reduceIte, and_self, and_true, true_and, and_false, false_and, not_true_eq_false, not_false_eq_true, nI_sub', zz_add, zz_sub, zz_mul, zn_add, nz_add, zn_sub, nz_sub, zn_mul, nz_mul, z_neg, n_neg, zlt_T, zlt_F, zle_T, zle_F, zeq_T, zeq_F, zn_lt, nz_lt, zn_le, nz_le, zn_eq, nz_eq, cC hC]
      exact ⟨_, _, _, rfl, rfl, Pm_rfl M⟩
  · obtain ⟨S, rfl⟩ := Int.eq_ofNat_of_zero_le (Int.not_lt.mp hx)
    by_cases hz : σ 0 = 0
    · simp (disch := omega) only [l_0, l_1, l_2, l_3, l_4, l_5, l_6, l_7, l_8, l_9, l_10, l_12, l_20, l_24, l_25, l_31, l_32, l_48, l_50, l_56, l_57, l_59, l_97, l_99, l_100, l_120, l_122, l_177, l_178, l_201, l_226, l_255, l_400, l_420, l_600, l_700, l_840, l_1000, l_1300, l_2000, l_1000000, nI_add, mr4, ml4, mr5, ml5, mr6, ml6, mr10, ml10, mr24, ml24, mr201, ml201, mr420, ml420, mr226, ml226, mr2, ml2, nI_clamp, lt_T, lt_F, le_T, le_F, eq_T, eq_F, ck_n, dv_n, cp_n, rem_n, pk_div, at1_same, at1_ne, cb_n, Option.bind_some, if_pos, if_neg, ↓reduceIte, and_self, and_true, true_and, and_false, false_and, not_true_eq_false, not_false_eq_true, nI_sub', zz_add, zz_sub, zz_mul, zn_add, nz_add, zn_sub, nz_sub, zn_mul, nz_mul, z_neg, n_neg, zlt_T, zlt_F, zle_T, zle_F, zeq_T, zeq_F, zn_lt, nz_lt, zn_le, nz_le, zn_eq, nz_eq, cC hC, mS hM, zI_c]
      exact ⟨_, _, _, rfl, rfl, Pm_rfl M⟩
    · obtain ⟨P', a1, a2⟩ := h_splitPlain (P := P) (LP := LP) (wP := wP) (vP := vP) hC hs (F := F) (S := S) hF (by omega)
      obtain ⟨M', b1, b2, b3⟩ := g_laysPlain (LM := LM) hM hs (F := F) (S := S) hF (by omega)
      have hM' := StM_p hM b3
      have e : f_X10_plainOf_51 F M' LM (fun z => some (z, M')) F (nI 0) (nI 0) = some (nI (dgs σ S (σ 0)), M') := g_ploLoop (F := F) (LM := LM) hM' hs (fun z => some (z, M')) b2 (σ 0) 0 F (by omega) (by omega)
      rcases (by omega : y = -1 ∨ (0 ≤ y ∧ y < (σ 0 : Int)) ∨ (y ≠ -1 ∧ ¬ (0 ≤ y ∧ y < (σ 0 : Int)))) with rfl | hy | hy
      · have e1 : zI (-1) = zI (-((1 : Nat) : Int)) := rfl
        simp (disch := omega) only [l_0, l_1, l_2, l_3, l_4, l_5, l_6, l_7, l_8, l_9, l_10, l_12, l_20, l_24, l_25, l_31, l_32, l_48, l_50, l_56, l_57, l_59, l_97, l_99, l_100, l_120, l_122, l_177, l_178, l_201, l_226, l_255, l_400, l_420, l_600, l_700, l_840, l_1000, l_1300, l_2000, l_1000000, nI_add, mr4, ml4, mr5, ml5, mr6, ml6, mr10, ml10, mr24, ml24, mr201, ml201, mr420, ml420, mr226, ml226, mr2, ml2, nI_clamp, lt_T, lt_F, le_T, le_F, eq_T, eq_F, ck_n, dv_n, cp_n, rem_n, pk_div, at1_same, at1_ne, cb_n, Option.bind_some, if_pos, if_neg, ↓reduceIte, and_self, and_true, true_and, and_false, false_and, not_true_eq_false, not_false_eq_true, nI_sub', zz_add, zz_sub, zz_mul, zn_add, nz_add, zn_sub, nz_sub, zn_mul, nz_mul, z_neg, n_neg, zlt_T, zlt_F, zle_T, zle_F, zeq_T, zeq_F, zn_lt, nz_lt, zn_le, nz_le, zn_eq, nz_eq, cC hC, mS hM, zI_c, f_X10_plainOf_29, a1, b1, e1, e]
        exact ⟨_, _, _, rfl, rfl, b3⟩
      · obtain ⟨c, rfl⟩ := Int.eq_ofNat_of_zero_le hy.1
        have hc : c < σ 0 := by omega
        simp only [zI_c]
        simp (disch := omega) only [l_0, l_1, l_2, l_3, l_4, l_5, l_6, l_7, l_8, l_9, l_10, l_12, l_20, l_24, l_25, l_31, l_32, l_48, l_50, l_56, l_57, l_59, l_97, l_99, l_100, l_120, l_122, l_177, l_178, l_201, l_226, l_255, l_400, l_420, l_600, l_700, l_840, l_1000, l_1300, l_2000, l_1000000, nI_add, mr4, ml4, mr5, ml5, mr6, ml6, mr10, ml10, mr24, ml24, mr201, ml201, mr420, ml420, mr226, ml226, mr2, ml2, nI_clamp, lt_T, lt_F, le_T, le_F, eq_T, eq_F, ck_n, dv_n, cp_n, rem_n, pk_div, at1_same, at1_ne, cb_n, Option.bind_some, if_pos, if_neg, ↓reduceIte, and_self, and_true, true_and, and_false, false_and, not_true_eq_false, not_false_eq_true, nI_sub', zz_add, zz_sub, zz_mul, zn_add, nz_add, zn_sub, nz_sub, zn_mul, nz_mul, z_neg, n_neg, zlt_T, zlt_F, zle_T, zle_F, zeq_T, zeq_F, zn_lt, nz_lt, zn_le, nz_le, zn_eq, nz_eq, cC hC, mS hM, f_X10_plainOf_29, a1, b1, hasCol_n hC h0 F, isCol_n hM h0 F, a2, b2]
        exact ⟨_, _, _, rfl, rfl, b3⟩
      · simp (disch := omega) only [l_0, l_1, l_2, l_3, l_4, l_5, l_6, l_7, l_8, l_9, l_10, l_12, l_20, l_24, l_25, l_31, l_32, l_48, l_50, l_56, l_57, l_59, l_97, l_99, l_100, l_120, l_122, l_177, l_178, l_201, l_226, l_255, l_400, l_420, l_600, l_700, l_840, l_1000, l_1300, l_2000, l_1000000, nI_add, mr4, ml4, mr5, ml5, mr6, ml6, mr10, ml10, mr24, ml24, mr201, ml201, mr420, ml420, mr226, ml226, mr2, ml2, nI_clamp, lt_T, lt_F, le_T, le_F, eq_T, eq_F, ck_n, dv_n, cp_n, rem_n, pk_div, at1_same, at1_ne, cb_n, Option.bind_some, if_pos, if_neg, ↓reduceIte, and_self, and_true, true_and, and_false, false_and, not_true_eq_false, not_false_eq_true, nI_sub', zz_add, zz_sub, zz_mul, zn_add, nz_add, zn_sub, nz_sub, zn_mul, nz_mul, z_neg, n_neg, zlt_T, zlt_F, zle_T, zle_F, zeq_T, zeq_F, zn_lt, nz_lt, zn_le, nz_le, zn_eq, nz_eq, cC hC, mS hM, zI_c, f_X10_plainOf_29, a1, b1, hasCol_x hC h0 F, isCol_x hM h0 F]
        exact ⟨_, _, _, rfl, rfl, Pm_rfl M⟩
