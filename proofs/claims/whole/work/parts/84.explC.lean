/-! PURE LAYER: does a change explain what was seen: the class -/
theorem ap_ch (ce : Nat → Int) (A B : Nat) (x y : Int) (j : Nat) : apE ce A B x y 1 j = ce j + ch A B x y j := by
  unfold apE ch
  rw [Int.one_mul, Int.one_mul]
  omega
theorem ch_n {A B : Nat} {x y : Int} {j : Nat} (h1 : j ≠ A) (h2 : j ≠ B) : ch A B x y j = 0 := by
  unfold ch
  rw [if_neg h1, if_neg h2]
  rfl
theorem ch_M {A B : Nat} {x y : Int} (hx : -99 ≤ x ∧ x ≤ 99) (hy : -99 ≤ y ∧ y ≤ 99) (j : Nat) : -198 ≤ ch A B x y j ∧ ch A B x y j ≤ 198 := by
  unfold ch
  by_cases q1 : j = A
  · rw [if_pos q1]
    by_cases q2 : j = B
    · rw [if_pos q2]; omega
    · rw [if_neg q2]; omega
  · rw [if_neg q1]
    by_cases q2 : j = B
    · rw [if_pos q2]; omega
    · rw [if_neg q2]; omega
theorem h_changeOf {E : Mem} {A B : Nat} {x y : Int} (h : Se E A B x y) (hA : A < 24) (hB : B < 24) {j : Nat} (hj : j < 24) (F : Nat) : f_X1_changeOf F E (nI j) = some (zI (ch A B x y j)) := by
  obtain ⟨e0, e1, e2, e3⟩ := h
  unfold f_X1_changeOf f_X1_changeOf_16 ch
  rw [e0, e1, e2, e3]
  have zz : ∀ a : Int, zI a + 0 = zI (a + 0) := fun a => by rw [Int.add_zero]; exact Int32.add_zero _
  have z0 : (0 : Int32) = zI 0 := rfl
  by_cases q1 : j = A
  · rw [if_pos q1, if_pos (by rw [q1])]
    by_cases q2 : j = B
    · rw [if_pos q2, if_pos (by rw [q2]), zz_add]
    · rw [if_neg q2, if_neg (fun z => q2 ((nI_eq (by omega) (by omega)).mp z)), zz]
  · rw [if_neg q1, if_neg (fun z => q1 ((nI_eq (by omega) (by omega)).mp z))]
    by_cases q2 : j = B
    · rw [if_pos q2, if_pos (by rw [q2]), z0, zz_add]
    · rw [if_neg q2, if_neg (fun z => q2 ((nI_eq (by omega) (by omega)).mp z))]
      rfl
/-- how many are strained but for two cells -/
noncomputable def cntO (σ : Sg) (t A B : Nat) : Nat → Nat
  | 0 => 0
  | j + 1 => cntO σ t A B j + (if (mn σ t j < 0 ∨ 99 < mx σ t j) ∧ j ≠ A ∧ j ≠ B then 1 else 0)
theorem cntO_0 (σ : Sg) (t A B : Nat) : ∀ m, cntO σ t A B m = 0 ↔ ∀ j, j < m → j ≠ A → j ≠ B → ¬ (mn σ t j < 0 ∨ 99 < mx σ t j)
  | 0 => ⟨fun _ i hi => by omega, fun _ => rfl⟩
  | m + 1 => by
    have ih := cntO_0 σ t A B m
    have e : cntO σ t A B (m + 1) = cntO σ t A B m + (if (mn σ t m < 0 ∨ 99 < mx σ t m) ∧ m ≠ A ∧ m ≠ B then 1 else 0) := rfl
    by_cases q : (mn σ t m < 0 ∨ 99 < mx σ t m) ∧ m ≠ A ∧ m ≠ B
    · rw [e, if_pos q]
      exact ⟨fun h => by omega, fun h => absurd q.1 (h m (by omega) q.2.1 q.2.2)⟩
    · rw [e, if_neg q, Nat.add_zero, ih]
      refine ⟨fun h i hi h1 h2 => ?_, fun h i hi => h i (by omega)⟩
      by_cases w : i = m
      · subst w
        exact fun z => q ⟨z, h1, h2⟩
      · exact h i (by omega) h1 h2
theorem cntO_s (σ : Sg) (t A B : Nat) : ∀ m, cntS σ t m = cntO σ t A B m + (if A < m ∧ (mn σ t A < 0 ∨ 99 < mx σ t A) then 1 else 0) + (if B < m ∧ B ≠ A ∧ (mn σ t B < 0 ∨ 99 < mx σ t B) then 1 else 0)
  | 0 => by
    rw [if_neg (by omega), if_neg (by omega)]
    rfl
  | m + 1 => by
    have ih := cntO_s σ t A B m
    have e1 : cntS σ t (m + 1) = cntS σ t m + (if mn σ t m < 0 ∨ 99 < mx σ t m then 1 else 0) := rfl
    have e2 : cntO σ t A B (m + 1) = cntO σ t A B m + (if (mn σ t m < 0 ∨ 99 < mx σ t m) ∧ m ≠ A ∧ m ≠ B then 1 else 0) := rfl
    rw [e1, e2, ih]
    by_cases q : mn σ t m < 0 ∨ 99 < mx σ t m
    · rw [if_pos q]
      by_cases a : m = A
      · subst a
        rw [if_neg (c := m < m ∧ _) (by omega), if_pos (c := m < m + 1 ∧ _) ⟨by omega, q⟩, if_neg (c := (mn σ t m < 0 ∨ 99 < mx σ t m) ∧ m ≠ m ∧ m ≠ B) (fun z => z.2.1 rfl)]
        by_cases b : B < m ∧ B ≠ m ∧ (mn σ t B < 0 ∨ 99 < mx σ t B)
        · rw [if_pos b, if_pos ⟨by omega, b.2⟩]
        · rw [if_neg b, if_neg (fun z => b ⟨by omega, z.2⟩)]
      · have ea : (A < m + 1 ∧ (mn σ t A < 0 ∨ 99 < mx σ t A)) ↔ (A < m ∧ (mn σ t A < 0 ∨ 99 < mx σ t A)) := ⟨fun z => ⟨by omega, z.2⟩, fun z => ⟨by omega, z.2⟩⟩
        by_cases b : m = B
        · subst b
          rw [if_neg (c := (mn σ t m < 0 ∨ 99 < mx σ t m) ∧ m ≠ A ∧ m ≠ m) (fun z => z.2.2 rfl), if_neg (c := m < m ∧ _) (by omega), if_pos (c := m < m + 1 ∧ _) ⟨by omega, a, q⟩]
          simp only [ea]
          omega
        · have eb : (B < m + 1 ∧ B ≠ A ∧ (mn σ t B < 0 ∨ 99 < mx σ t B)) ↔ (B < m ∧ B ≠ A ∧ (mn σ t B < 0 ∨ 99 < mx σ t B)) := ⟨fun z => ⟨by omega, z.2⟩, fun z => ⟨by omega, z.2⟩⟩
          rw [if_pos (c := (mn σ t m < 0 ∨ 99 < mx σ t m) ∧ m ≠ A ∧ m ≠ B) ⟨q, a, b⟩]
          simp only [ea, eb]
          omega
    · rw [if_neg q, if_neg (c := (mn σ t m < 0 ∨ 99 < mx σ t m) ∧ m ≠ A ∧ m ≠ B) (fun z => q z.1)]
      have ea : (A < m + 1 ∧ (mn σ t A < 0 ∨ 99 < mx σ t A)) ↔ (A < m ∧ (mn σ t A < 0 ∨ 99 < mx σ t A)) := ⟨fun z => ⟨by
        by_cases w : A = m
        · exact absurd (w ▸ z.2) q
        · omega, z.2⟩, fun z => ⟨by omega, z.2⟩⟩
      have eb : (B < m + 1 ∧ B ≠ A ∧ (mn σ t B < 0 ∨ 99 < mx σ t B)) ↔ (B < m ∧ B ≠ A ∧ (mn σ t B < 0 ∨ 99 < mx σ t B)) := ⟨fun z => ⟨by
        by_cases w : B = m
        · exact absurd (w ▸ z.2.2) q
        · omega, z.2⟩, fun z => ⟨by omega, z.2⟩⟩
      simp only [ea, eb]
      omega
theorem h_fits {N : Mem} {q : Nat} {a b c : Int} (h2 : N 2 q = zI a) (h3 : N 3 q = zI b) (hq : q < 600) (a1 : -1000000 ≤ a ∧ a ≤ 1000000) (b1 : -1000000 ≤ b ∧ b ≤ 1000000) (c1 : -1000000 ≤ c ∧ c ≤ 1000000) (F : Nat) : f_X2_fits F N (nI q) (zI c) = some (if 0 ≤ a + c ∧ b + c ≤ 99 then nI 1 else nI 0) := by
  unfold f_X2_fits
  by_cases g1 : a + c < 0
  · simp (disch := omega) only [l_0, l_1, l_2, l_3, l_4, l_5, l_6, l_7, l_8, l_9, l_10, l_12, l_20, l_24, l_25, l_31, l_32, l_48, l_50, l_56, l_57, l_59, l_97, l_99, l_100, l_120, l_122, l_177, l_178, l_201, l_226, l_255, l_400, l_420, l_600, l_700, l_840, l_1000, l_1300, l_2000, l_1000000, nI_add, mr4, ml4, mr5, ml5, mr6, ml6, mr10, ml10, mr24, ml24, mr201, ml201, mr420, ml420, mr226, ml226, mr2, ml2, nI_clamp, lt_T, lt_F, le_T, le_F, eq_T, eq_F, ck_n, dv_n, cp_n, rem_n, pk_div, at1_same, at1_ne, cb_n, Option.bind_some, if_pos, if_neg, ↓reduceIte, and_self, and_true, true_and, and_false, false_and, not_true_eq_false, not_false_eq_true, nI_sub', zz_add, zz_sub, zz_mul, zn_add, nz_add, zn_sub, nz_sub, zn_mul, nz_mul, z_neg, n_neg, zlt_T, zlt_F, zle_T, zle_F, zeq_T, zeq_F, zn_lt, nz_lt, zn_le, nz_le, zn_eq, nz_eq, h2, h3]
  · by_cases g2 : 99 < b + c
    · simp (disch := omega) only [l_0, l_1, l_2, l_3, l_4, l_5, l_6, l_7, l_8, l_9, l_10, l_12, l_20, l_24, l_25, l_31, l_32, l_48, l_50, l_56, l_57, l_59, l_97, l_99, l_100, l_120, l_122, l_177, l_178, l_201, l_226, l_255, l_400, l_420, l_600, l_700, l_840, l_1000, l_1300, l_2000, l_1000000, nI_add, mr4, ml4, mr5, ml5, mr6, ml6, mr10, ml10, mr24, ml24, mr201, ml201, mr420, ml420, mr226, ml226, mr2, ml2, nI_clamp, lt_T, lt_F, le_T, le_F, eq_T, eq_F, ck_n, dv_n, cp_n, rem_n, pk_div, at1_same, at1_ne, cb_n, Option.bind_some, if_pos, if_neg, ↓reduceIte, and_self, and_true, true_and, and_false, false_and, not_true_eq_false, not_false_eq_true, nI_sub', zz_add, zz_sub, zz_mul, zn_add, nz_add, zn_sub, nz_sub, zn_mul, nz_mul, z_neg, n_neg, zlt_T, zlt_F, zle_T, zle_F, zeq_T, zeq_F, zn_lt, nz_lt, zn_le, nz_le, zn_eq, nz_eq, h2, h3]
    · simp (disch := omega) only [l_0, l_1, l_2, l_3, l_4, l_5, l_6, l_7, l_8, l_9, l_10, l_12, l_20, l_24, l_25, l_31, l_32, l_48, l_50, l_56, l_57, l_59, l_97, l_99, l_100, l_120, l_122, l_177, l_178, l_201, l_226, l_255, l_400, l_420, l_600, l_700, l_840, l_1000, l_1300, l_2000, l_1000000, nI_add, mr4, ml4, mr5, ml5, mr6, ml6, mr10, ml10, mr24, ml24, mr201, ml201, mr420, ml420, mr226, ml226, mr2, ml2, nI_clamp, lt_T, lt_F, le_T, le_F, eq_T, eq_F, ck_n, dv_n, cp_n, rem_n, pk_div, at1_same, at1_ne, cb_n, Option.bind_some, if_pos, if_neg, ↓reduceIte, and_self, and_true, true_and, and_false, false_and, not_true_eq_false, not_false_eq_true, nI_sub', zz_add, zz_sub, zz_mul, zn_add, nz_add, zn_sub, nz_sub, zn_mul, nz_mul, z_neg, n_neg, zlt_T, zlt_F, zle_T, zle_F, zeq_T, zeq_F, zn_lt, nz_lt, zn_le, nz_le, zn_eq, nz_eq, h2, h3]
/-- the extremes with the change are in bounds -/
def exB (σ : Sg) (t A B : Nat) (x y : Int) : Prop := ∀ j, j < 6 * σ 1 → 0 ≤ mn σ t j + ch A B x y j ∧ mx σ t j + ch A B x y j ≤ 99
theorem exB_iff {σ : Sg} {t A B : Nat} {x y : Int} (ht : t ≤ σ 56) : exB σ t A B x y ↔ ∀ s, t ≤ s → s ≤ σ 56 → inB σ (apE (ly σ s) A B x y 1) := by
  constructor
  · intro h s h1 h2 j hj
    have a := (mn_all (σ := σ) (j := j) (σ 56 - t) t (by omega)).1 s h1 h2
    have b := (mx_all (σ := σ) (j := j) (σ 56 - t) t (by omega)).1 s h1 h2
    have c := h j hj
    rw [ap_ch]
    omega
  · intro h j hj
    obtain ⟨-, s, a1, a2, a3⟩ := mn_all (σ := σ) (j := j) (σ 56 - t) t (by omega)
    obtain ⟨-, s', b1, b2, b3⟩ := mx_all (σ := σ) (j := j) (σ 56 - t) t (by omega)
    have c := h s a1 a2 j hj
    have d := h s' b1 b2 j hj
    rw [ap_ch] at c d
    omega
theorem h_stay2 {N NE : Mem} {σ : Sg} (hs : okS σ) (hL : La N σ) {t A B : Nat} {x y : Int} (he : Se NE A B x y) (ht : t ≤ σ 56) (hA : A < 6 * σ 1) (hB : B < 6 * σ 1) (hx : -99 ≤ x ∧ x ≤ 99) (hy : -99 ≤ y ∧ y ≤ 99) (F : Nat) : (exB σ t A B x y ∧ f_X2_staysInBounds F N NE (nI t) = some (nI 1)) ∨ (¬ exB σ t A B x y ∧ f_X2_staysInBounds F N NE (nI t) = some (nI 0)) := by
  have h1 := kR hs
  have h5 := kMv hs
  obtain ⟨-, hX, -, -⟩ := hL
  have X := hX t (by omega) ht
  obtain ⟨xa2, xa3⟩ := X.1 A hA
  obtain ⟨xb2, xb3⟩ := X.1 B hB
  have ma := mn_M hs ht (j := A) (by omega)
  have mb := mx_M hs ht (j := A) (by omega)
  have mc := mn_M hs ht (j := B) (by omega)
  have md := mx_M hs ht (j := B) (by omega)
  have cA := ch_M (A := A) (B := B) hx hy A
  have cB := ch_M (A := A) (B := B) hx hy B
  have sA := isStr xa2 xa3 (by omega) (by omega) (by omega) F
  have sB := isStr xb2 xb3 (by omega) (by omega) (by omega) F
  have kA := h_changeOf he (by omega) (by omega) (j := A) (by omega) F
  have kB := h_changeOf he (by omega) (by omega) (j := B) (by omega) F
  have fA := h_fits (c := ch A B x y A) xa2 xa3 (by omega) (by omega) (by omega) (by omega) F
  have fB := h_fits (c := ch A B x y B) xb2 xb3 (by omega) (by omega) (by omega) (by omega) F
  have cs := cntO_s σ t A B (6 * σ 1)
  have c0 := cntO_0 σ t A B (6 * σ 1)
  have cl := cnt_le σ t (6 * σ 1)
  have l24 : nI t * 24 = nI (24 * t) := by rw [l_24, mr24]
  obtain ⟨e0, e1, e2, e3⟩ := he
  -- the last test
  have last : ∀ d, d = cntO σ t A B (6 * σ 1) → ∀ s0 s1 : Int32, s0 - s1 = nI d → (exB σ t A B x y ∧ f_X2_staysInBounds_68 F N NE (nI (24 * t + A)) (nI (24 * t + B)) s0 s1 = some (nI 1)) ∨ (¬ exB σ t A B x y ∧ f_X2_staysInBounds_68 F N NE (nI (24 * t + A)) (nI (24 * t + B)) s0 s1 = some (nI 0)) := fun d hd s0 s1 hd2 => by
    unfold f_X2_staysInBounds_68
    rw [hd2, e0, e2]
    by_cases dz : d = 0
    · rw [dz, if_pos n00, kA]
      simp only [Option.bind_some]
      rw [fA]
      by_cases gA : 0 ≤ mn σ t A + ch A B x y A ∧ mx σ t A + ch A B x y A ≤ 99
      · rw [if_pos gA]
        simp only [Option.bind_some]
        rw [if_neg n10, kB]
        simp only [Option.bind_some]
        rw [fB]
        by_cases gB : 0 ≤ mn σ t B + ch A B x y B ∧ mx σ t B + ch A B x y B ≤ 99
        · rw [if_pos gB]
          refine .inl ⟨fun j hj => ?_, rfl⟩
          by_cases w1 : j = A
          · rw [w1]; exact gA
          · by_cases w2 : j = B
            · rw [w2]; exact gB
            · have := (c0.mp (by omega)) j hj w1 w2
              rw [ch_n w1 w2]
              omega
        · rw [if_neg gB]
          exact .inr ⟨fun z => gB (z B hB), rfl⟩
      · rw [if_neg gA]
        exact .inr ⟨fun z => gA (z A hA), rfl⟩
    · rw [if_neg (nI_ne0 (by omega) (by have := cs; omega))]
      refine .inr ⟨fun z => dz ?_, rfl⟩
      rw [hd]
      refine c0.mpr (fun j hj w1 w2 => ?_)
      have := z j hj
      rw [ch_n w1 w2] at this
      omega
  unfold f_X2_staysInBounds
  rw [e0, e2, l24, nI_add, nI_add, ck_n (by omega) (by decide), sA, nI_clamp (by omega), X.2]
  simp only [Option.bind_some]
  -- s1: whether B is strained too
  have two : ∀ d, d ≤ cntS σ t (6 * σ 1) → (if A < 6 * σ 1 ∧ (mn σ t A < 0 ∨ 99 < mx σ t A) then 1 else 0) = d → ∀ s : Int32, s = nI d → (exB σ t A B x y ∧ f_X2_staysInBounds_45 F N NE (nI (24 * t + A)) (nI (24 * t + B)) (nI (cntS σ t (6 * σ 1))) s = some (nI 1)) ∨ (¬ exB σ t A B x y ∧ f_X2_staysInBounds_45 F N NE (nI (24 * t + A)) (nI (24 * t + B)) (nI (cntS σ t (6 * σ 1))) s = some (nI 0)) := fun d hd hd1 s hs1 => by
    unfold f_X2_staysInBounds_45
    rw [hs1, nI_sub' hd]
    rw [hd1] at cs
    by_cases ab : B = A
    · rw [if_pos (by rw [ab])]
      rw [if_neg (c := B < 6 * σ 1 ∧ B ≠ A ∧ _) (fun z => z.2.1 ab)] at cs
      exact last (cntS σ t (6 * σ 1) - d) (by omega) _ _ (Int32.sub_zero _)
    · rw [if_neg (fun z => ab (by have := (nI_eq (by omega) (by omega)).mp z; omega)), sB]
      simp only [Option.bind_some]
      by_cases gB : mn σ t B < 0 ∨ 99 < mx σ t B
      · rw [if_pos (c := B < 6 * σ 1 ∧ B ≠ A ∧ _) ⟨hB, ab, gB⟩] at cs
        rw [if_pos gB, if_neg n10]
        exact last (cntS σ t (6 * σ 1) - d - 1) (by omega) _ _ (nI_sub' (b := 1) (by omega))
      · rw [if_neg (c := B < 6 * σ 1 ∧ B ≠ A ∧ _) (fun z => gB z.2.2)] at cs
        rw [if_neg gB, if_pos n00]
        exact last (cntS σ t (6 * σ 1) - d) (by omega) _ _ (Int32.sub_zero _)
  by_cases gA : mn σ t A < 0 ∨ 99 < mx σ t A
  · rw [if_pos gA, if_neg n10]
    rw [if_pos (c := A < 6 * σ 1 ∧ _) ⟨hA, gA⟩] at cs
    exact two 1 (by omega) (if_pos ⟨hA, gA⟩) 1 rfl
  · rw [if_neg gA, if_pos n00]
    exact two 0 (by omega) (if_neg (fun z => gA z.2)) 0 rfl
def exK (σ : Sg) (t A B : Nat) (x y : Int) : Prop := ∀ k, k < σ 177 → lk σ k = if t ≤ siT σ k then ch A B x y (siC σ k) else 0
theorem h_explains {C N NE : Mem} {σ : Sg} (hC : StC C σ) (hs : okS σ) (hL : La N σ) {t A B : Nat} {x y : Int} (he : Se NE A B x y) (ht : t ≤ σ 56) (hA : A < 6 * σ 1) (hB : B < 6 * σ 1) (hx : -99 ≤ x ∧ x ≤ 99) (hy : -99 ≤ y ∧ y ≤ 99) {F : Nat} (hF : 10000 ≤ F) : ((exB σ t A B x y ∧ exK σ t A B x y) ∧ f_X2_explains F N NE C (nI t) = some (nI 1)) ∨ (¬ (exB σ t A B x y ∧ exK σ t A B x y) ∧ f_X2_explains F N NE C (nI t) = some (nI 0)) := by
  have h1 := kR hs
  have h5 := kMv hs
  have h6 := kSe hs
  unfold f_X2_explains
  have hLk := hL.2.2.2
  have step : ∀ (K1 : Option Int32) (n i : Nat), i < σ 177 → ((lk σ i = if t ≤ siT σ i then ch A B x y (siC σ i) else 0) → f_X2_explains_2 F N NE C (nI t) (some 0) K1 (n + 1) (nI i) = f_X2_explains_2 F N NE C (nI t) (some 0) K1 n (nI (i + 1))) ∧ (¬ (lk σ i = if t ≤ siT σ i then ch A B x y (siC σ i) else 0) → f_X2_explains_2 F N NE C (nI t) (some 0) K1 (n + 1) (nI i) = some 0) := fun K1 n i hi => by
    rw [f_X2_explains_2]
    unfold f_X2_explains_27 f_X2_explains_57
    have bi := si_b hs hi
    have bl := lk_b hs hi
    have bc := ch_M (A := A) (B := B) hx hy (siC σ i)
    have f4 : C 6 (4 * i) = nI (siT σ i) := cSi hC (j := 4 * i) (by omega)
    have f5 := hLk i hi
    have f2 := h_sightCell hC hs F hi
    have f3 := h_changeOf he (by omega) (by omega) bi.2.1 F
    by_cases q : t ≤ siT σ i
    · rw [if_pos q]
      constructor
      · intro g
        simp (disch := omega) only [l_0, l_1, l_2, l_3, l_4, l_5, l_6, l_7, l_8, l_9, l_10, l_12, l_20, l_24, l_25, l_31, l_32, l_48, l_50, l_56, l_57, l_59, l_97, l_99, l_100, l_120, l_122, l_177, l_178, l_201, l_226, l_255, l_400, l_420, l_600, l_700, l_840, l_1000, l_1300, l_2000, l_1000000, nI_add, mr4, ml4, mr5, ml5, mr6, ml6, mr10, ml10, mr24, ml24, mr201, ml201, mr420, ml420, mr226, ml226, mr2, ml2, nI_clamp, lt_T, lt_F, le_T, le_F, eq_T, eq_F, ck_n, dv_n, cp_n, rem_n, pk_div, at1_same, at1_ne, cb_n, Option.bind_some, if_pos, if_neg, ↓reduceIte, and_self, and_true, true_and, and_false, false_and, not_true_eq_false, not_false_eq_true, nI_sub', zz_add, zz_sub, zz_mul, zn_add, nz_add, zn_sub, nz_sub, zn_mul, nz_mul, z_neg, n_neg, zlt_T, zlt_F, zle_T, zle_F, zeq_T, zeq_F, zn_lt, nz_lt, zn_le, nz_le, zn_eq, nz_eq, cSe hC, f4, f5, f2, f3, g]
      · intro g
        simp (disch := omega) only [l_0, l_1, l_2, l_3, l_4, l_5, l_6, l_7, l_8, l_9, l_10, l_12, l_20, l_24, l_25, l_31, l_32, l_48, l_50, l_56, l_57, l_59, l_97, l_99, l_100, l_120, l_122, l_177, l_178, l_201, l_226, l_255, l_400, l_420, l_600, l_700, l_840, l_1000, l_1300, l_2000, l_1000000, nI_add, mr4, ml4, mr5, ml5, mr6, ml6, mr10, ml10, mr24, ml24, mr201, ml201, mr420, ml420, mr226, ml226, mr2, ml2, nI_clamp, lt_T, lt_F, le_T, le_F, eq_T, eq_F, ck_n, dv_n, cp_n, rem_n, pk_div, at1_same, at1_ne, cb_n, Option.bind_some, if_pos, if_neg, ↓reduceIte, and_self, and_true, true_and, and_false, false_and, not_true_eq_false, not_false_eq_true, nI_sub', zz_add, zz_sub, zz_mul, zn_add, nz_add, zn_sub, nz_sub, zn_mul, nz_mul, z_neg, n_neg, zlt_T, zlt_F, zle_T, zle_F, zeq_T, zeq_F, zn_lt, nz_lt, zn_le, nz_le, zn_eq, nz_eq, cSe hC, f4, f5, f2, f3]
    · rw [if_neg q]
      constructor
      · intro g
        rw [g] at f5
        have f5' : N 5 i = nI 0 := f5
        simp (disch := omega) only [l_0, l_1, l_2, l_3, l_4, l_5, l_6, l_7, l_8, l_9, l_10, l_12, l_20, l_24, l_25, l_31, l_32, l_48, l_50, l_56, l_57, l_59, l_97, l_99, l_100, l_120, l_122, l_177, l_178, l_201, l_226, l_255, l_400, l_420, l_600, l_700, l_840, l_1000, l_1300, l_2000, l_1000000, nI_add, mr4, ml4, mr5, ml5, mr6, ml6, mr10, ml10, mr24, ml24, mr201, ml201, mr420, ml420, mr226, ml226, mr2, ml2, nI_clamp, lt_T, lt_F, le_T, le_F, eq_T, eq_F, ck_n, dv_n, cp_n, rem_n, pk_div, at1_same, at1_ne, cb_n, Option.bind_some, if_pos, if_neg, ↓reduceIte, and_self, and_true, true_and, and_false, false_and, not_true_eq_false, not_false_eq_true, nI_sub', cSe hC, f4, f5']
      · intro g
        simp (disch := omega) only [l_0, l_1, l_2, l_3, l_4, l_5, l_6, l_7, l_8, l_9, l_10, l_12, l_20, l_24, l_25, l_31, l_32, l_48, l_50, l_56, l_57, l_59, l_97, l_99, l_100, l_120, l_122, l_177, l_178, l_201, l_226, l_255, l_400, l_420, l_600, l_700, l_840, l_1000, l_1300, l_2000, l_1000000, nI_add, mr4, ml4, mr5, ml5, mr6, ml6, mr10, ml10, mr24, ml24, mr201, ml201, mr420, ml420, mr226, ml226, mr2, ml2, nI_clamp, lt_T, lt_F, le_T, le_F, eq_T, eq_F, ck_n, dv_n, cp_n, rem_n, pk_div, at1_same, at1_ne, cb_n, Option.bind_some, if_pos, if_neg, ↓reduceIte, and_self, and_true, true_and, and_false, false_and, not_true_eq_false, not_false_eq_true, nI_sub', zz_add, zz_sub, zz_mul, zn_add, nz_add, zn_sub, nz_sub, zn_mul, nz_mul, z_neg, n_neg, zlt_T, zlt_F, zle_T, zle_F, zeq_T, zeq_F, zn_lt, nz_lt, zn_le, nz_le, zn_eq, nz_eq, cSe hC, f4, f5]
  rcases all_up (f_X2_explains_2 F N NE C (nI t) (some 0) ((f_X2_staysInBounds F N NE (nI t)).bind (fun z70 => (cb z70 (some z70))))) (some 0) ((f_X2_staysInBounds F N NE (nI t)).bind (fun z70 => (cb z70 (some z70)))) (fun k => lk σ k = if t ≤ siT σ k then ch A B x y (siC σ k) else 0) (σ 177) (fun n i hi => step _ n i hi) (fun n => by
    rw [f_X2_explains_2]
    simp (disch := omega) only [l_0, l_1, l_2, l_3, l_4, l_5, l_6, l_7, l_8, l_9, l_10, l_12, l_20, l_24, l_25, l_31, l_32, l_48, l_50, l_56, l_57, l_59, l_97, l_99, l_100, l_120, l_122, l_177, l_178, l_201, l_226, l_255, l_400, l_420, l_600, l_700, l_840, l_1000, l_1300, l_2000, l_1000000, nI_add, mr4, ml4, mr5, ml5, mr6, ml6, mr10, ml10, mr24, ml24, mr201, ml201, mr420, ml420, mr226, ml226, mr2, ml2, nI_clamp, lt_T, lt_F, le_T, le_F, eq_T, eq_F, ck_n, dv_n, cp_n, rem_n, pk_div, at1_same, at1_ne, cb_n, Option.bind_some, if_pos, if_neg, ↓reduceIte, and_self, and_true, true_and, and_false, false_and, not_true_eq_false, not_false_eq_true, nI_sub', cSe hC]) (σ 177) 0 F (by omega) (by omega) with ⟨q1, q2⟩ | ⟨⟨j, q1, q2, q3⟩, q4⟩
  · have q2' : f_X2_explains_2 F N NE C (nI t) (some 0) ((f_X2_staysInBounds F N NE (nI t)).bind (fun z70 => (cb z70 (some z70)))) F 0 = _ := q2
    have K : exK σ t A B x y := fun k hk => q1 k (by omega) hk
    rw [q2']
    rcases h_stay2 hs hL he ht hA hB hx hy F with ⟨b1, b2⟩ | ⟨b1, b2⟩
    · rw [b2]
      exact .inl ⟨⟨b1, K⟩, by simp only [Option.bind_some]; exact cb_n (k := 1) (by omega)⟩
    · rw [b2]
      exact .inr ⟨fun z => b1 z.1, by simp only [Option.bind_some]; exact cb_n (k := 0) (by omega)⟩
  · exact .inr ⟨fun z => q3 (z.2 j q2), q4⟩
