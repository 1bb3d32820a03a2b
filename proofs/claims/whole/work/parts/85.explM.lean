/-! PURE LAYER: does a change explain what was seen: the reference plays it over -/
theorem ap_comm (ce : Nat → Int) (A B A' B' : Nat) (x y x' y' : Int) : apE (apE ce A B x y 1) A' B' x' y' 1 = apE (apE ce A' B' x' y' 1) A B x y 1 := by
  funext j
  rw [ap_ch, ap_ch, ap_ch, ap_ch]
  omega
theorem in_fit {σ : Sg} {ce : Nat → Int} {A B : Nat} {x y : Int} (h : inB σ ce) (hA : A < 6 * σ 1) (hB : B < 6 * σ 1) (e : B = A → y = 0) : fitR ce A B x y ↔ inB σ (apE ce A B x y 1) := by
  constructor
  · intro f j hj
    have c := h j hj
    unfold fitR at f
    rw [ap_ch]
    unfold ch
    by_cases q1 : j = A
    · subst q1
      rw [if_pos rfl]
      by_cases q2 : j = B
      · rw [if_pos q2, e q2.symm]; omega
      · rw [if_neg q2]; omega
    · rw [if_neg q1]
      by_cases q2 : j = B
      · subst q2
        rw [if_pos rfl]
        rcases f.2 with f2 | f2
        · exact absurd f2 q1
        · omega
      · rw [if_neg q2]; omega
  · intro f
    have a := f A hA
    have b := f B hB
    rw [ap_ch] at a b
    unfold ch at a b
    unfold fitR
    rw [if_pos rfl] at a
    rw [if_pos (c := B = B) rfl] at b
    by_cases q : B = A
    · rw [if_pos q.symm, e q] at a
      exact ⟨by omega, .inl q⟩
    · rw [if_neg (fun z => q z.symm)] at a
      rw [if_neg q] at b
      exact ⟨by omega, .inr (by omega)⟩
/-- what was seen behind i moves is so on these cells -/
def sOK (σ : Sg) (ce : Nat → Int) (i : Nat) : Prop := ∀ k, k < σ 177 → siT σ k = i → ce (siC σ k) = (σ (178 + 4 * k + 3) : Int)
theorem g_areSo {M : Mem} {LM : MemL} {σ : Sg} (hM : StM M σ) (hs : okS σ) {ce : Nat → Int} (hc : CeM M ce) (hb : ∀ j, j < 24 → -1000000 ≤ ce j ∧ ce j ≤ 1000000) {F i : Nat} (hF : 10000 ≤ F) (hi : i ≤ 24) : (sOK σ ce i ∧ f_X10_areSo F M LM (nI i) = some (nI 1)) ∨ (¬ sOK σ ce i ∧ f_X10_areSo F M LM (nI i) = some (nI 0)) := by
  have h5 := kMv hs
  have h6 := kSe hs
  have step : ∀ (n k : Nat), k < σ 177 → ((siT σ k = i → ce (siC σ k) = (σ (178 + 4 * k + 3) : Int)) → f_X10_areSo_2 F M LM (nI i) (some 0) (some 1) (n + 1) (nI k) = f_X10_areSo_2 F M LM (nI i) (some 0) (some 1) n (nI (k + 1))) ∧ (¬ (siT σ k = i → ce (siC σ k) = (σ (178 + 4 * k + 3) : Int)) → f_X10_areSo_2 F M LM (nI i) (some 0) (some 1) (n + 1) (nI k) = some 0) := fun n k hk => by
    have b := si_b hs hk
    have e1 : M 1 (178 + 4 * k) = nI (siT σ k) := hM _ (by omega)
    have e2 := g_isSo (LM := LM) hM hs hc F hk (hb _ b.2.1)
    have e3 : M 1 177 = nI (σ 177) := hM 177 (by omega)
    rw [f_X10_areSo_2]
    by_cases q : siT σ k = i
    · by_cases g : ce (siC σ k) = (σ (178 + 4 * k + 3) : Int)
      · rw [if_pos g] at e2
        refine ⟨fun _ => ?_, fun z => absurd (fun _ => g) z⟩
        simp (disch := omega) only [l_0, l_1, l_2, l_3, l_4, l_5, l_6, l_7, l_8, l_9, l_10, l_12, l_20, l_24, l_25, l_31, l_32, l_48, l_50, l_56, l_57, l_59, l_97, l_99, l_100, l_120, l_122, l_177, l_178, l_201, l_226, l_255, l_400, l_420, l_600, l_700, l_840, l_1000, l_1300, l_2000, l_1000000, nI_add, mr4, ml4, mr5, ml5, mr6, ml6, mr10, ml10, mr24, ml24, mr201, ml201, mr420, ml420, mr226, ml226, mr2, ml2, nI_clamp, lt_T, lt_F, le_T, le_F, eq_T, eq_F, ck_n, dv_n, cp_n, rem_n, pk_div, at1_same, at1_ne, cb_n, Option.bind_some, if_pos, if_neg, ↓reduceIte, and_self, and_true, true_and, and_false, false_and, not_true_eq_false, not_false_eq_true, nI_sub', e1, e2, e3]
      · rw [if_neg g] at e2
        refine ⟨fun z => absurd (z q) g, fun _ => ?_⟩
        simp (disch := omega) only [l_0, l_1, l_2, l_3, l_4, l_5, l_6, l_7, l_8, l_9, l_10, l_12, l_20, l_24, l_25, l_31, l_32, l_48, l_50, l_56, l_57, l_59, l_97, l_99, l_100, l_120, l_122, l_177, l_178, l_201, l_226, l_255, l_400, l_420, l_600, l_700, l_840, l_1000, l_1300, l_2000, l_1000000, nI_add, mr4, ml4, mr5, ml5, mr6, ml6, mr10, ml10, mr24, ml24, mr201, ml201, mr420, ml420, mr226, ml226, mr2, ml2, nI_clamp, lt_T, lt_F, le_T, le_F, eq_T, eq_F, ck_n, dv_n, cp_n, rem_n, pk_div, at1_same, at1_ne, cb_n, Option.bind_some, if_pos, if_neg, ↓reduceIte, and_self, and_true, true_and, and_false, false_and, not_true_eq_false, not_false_eq_true, nI_sub', e1, e2, e3]
    · refine ⟨fun _ => ?_, fun z => absurd (fun w => absurd w q) z⟩
      simp (disch := omega) only [l_0, l_1, l_2, l_3, l_4, l_5, l_6, l_7, l_8, l_9, l_10, l_12, l_20, l_24, l_25, l_31, l_32, l_48, l_50, l_56, l_57, l_59, l_97, l_99, l_100, l_120, l_122, l_177, l_178, l_201, l_226, l_255, l_400, l_420, l_600, l_700, l_840, l_1000, l_1300, l_2000, l_1000000, nI_add, mr4, ml4, mr5, ml5, mr6, ml6, mr10, ml10, mr24, ml24, mr201, ml201, mr420, ml420, mr226, ml226, mr2, ml2, nI_clamp, lt_T, lt_F, le_T, le_F, eq_T, eq_F, ck_n, dv_n, cp_n, rem_n, pk_div, at1_same, at1_ne, cb_n, Option.bind_some, if_pos, if_neg, ↓reduceIte, and_self, and_true, true_and, and_false, false_and, not_true_eq_false, not_false_eq_true, nI_sub', e1, e3]
  rcases all_up (f_X10_areSo_2 F M LM (nI i) (some 0) (some 1)) (some 0) (some 1) (fun k => siT σ k = i → ce (siC σ k) = (σ (178 + 4 * k + 3) : Int)) (σ 177) step (fun n => by
    have e3 : M 1 177 = nI (σ 177) := hM 177 (by omega)
    rw [f_X10_areSo_2]
    simp (disch := omega) only [l_0, l_1, l_2, l_3, l_4, l_5, l_6, l_7, l_8, l_9, l_10, l_12, l_20, l_24, l_25, l_31, l_32, l_48, l_50, l_56, l_57, l_59, l_97, l_99, l_100, l_120, l_122, l_177, l_178, l_201, l_226, l_255, l_400, l_420, l_600, l_700, l_840, l_1000, l_1300, l_2000, l_1000000, nI_add, mr4, ml4, mr5, ml5, mr6, ml6, mr10, ml10, mr24, ml24, mr201, ml201, mr420, ml420, mr226, ml226, mr2, ml2, nI_clamp, lt_T, lt_F, le_T, le_F, eq_T, eq_F, ck_n, dv_n, cp_n, rem_n, pk_div, at1_same, at1_ne, cb_n, Option.bind_some, if_pos, if_neg, ↓reduceIte, and_self, and_true, true_and, and_false, false_and, not_true_eq_false, not_false_eq_true, nI_sub', e3]) (σ 177) 0 F (by omega) (by omega) with ⟨q1, q2⟩ | ⟨⟨j, q1, q2, q3⟩, q4⟩
  · exact .inl ⟨fun k hk => q1 k (by omega) hk, q2⟩
  · exact .inr ⟨fun z => q3 (z j q2), q4⟩
noncomputable def mvE (σ : Sg) (ce : Nat → Int) (i : Nat) : Nat → Int := apE ce (eff σ i).1 (eff σ i).2.1 (eff σ i).2.2.1 (eff σ i).2.2.2 1
theorem eff_r {σ : Sg} (hs : okS σ) {i : Nat} (hi : i < σ 56) : (eff σ i).1 < 6 * σ 1 ∧ (eff σ i).2.1 < 6 * σ 1 := by
  have := EfL_c hs (eff_ok hs hi)
  have := EfL_b hs (eff_ok hs hi)
  omega
/-- one step of the play: a move of the log on cells that are in bounds -/
theorem g_step {M : Mem} {LM : MemL} {σ : Sg} (hM : StM M σ) (hs : okS σ) {ce : Nat → Int} (hc : CeM M ce) (hb : ∀ j, j < 24 → -1000000 ≤ ce j ∧ ce j ≤ 1000000) (hI : inB σ ce) (F : Nat) {i : Nat} (hi : i < σ 56) : ∃ M1, f_X10_laysLogged F M LM (nI i) = some M1 ∧ Pz M M1 ∧ CeM M1 ce ∧ ((inB σ (mvE σ ce i) ∧ f_X10_fits F M1 LM = some (nI 1) ∧ ∃ M2, f_X10_goes F M1 LM (nI 1) = some M2 ∧ Pz M M2 ∧ CeM M2 (mvE σ ce i)) ∨ (¬ inB σ (mvE σ ce i) ∧ f_X10_fits F M1 LM = some (nI 0))) := by
  have hE := eff_ok hs hi
  obtain ⟨bA, bB, bx1, bx2, by1, by2, be⟩ := EfL_b hs hE
  have er := eff_r hs hi
  obtain ⟨M1, l1, l2, l3⟩ := g_lLog (LM := LM) hM hs F (i := i) hi hE
  have hc1 : CeM M1 ce := fun j hj => by rw [l3.1 4 (by decide)]; exact hc j hj
  obtain ⟨M2, g1, g2, g3⟩ := g_goes (LM := LM) hc1 l2 bA bB 1 F
  refine ⟨M1, l1, Fr0_z l3, hc1, ?_⟩
  have iff := in_fit (σ := σ) (ce := ce) (x := (eff σ i).2.2.1) hI er.1 er.2 be
  rcases g_fits (LM := LM) hc1 l2 bA bB hb (by omega) (by omega) F with ⟨f, s⟩ | ⟨f, s⟩
  · exact .inl ⟨iff.mp f, s, M2, g1, Pz_tr (Fr0_z l3) (Pz_4 g3), g2⟩
  · exact .inr ⟨fun z => f (iff.mpr z), s⟩
theorem mv_ly (σ : Sg) (i A B : Nat) (x y : Int) : mvE σ (apE (ly σ i) A B x y 1) i = apE (ly σ (i + 1)) A B x y 1 := ap_comm _ _ _ _ _ _ _ _ _
theorem ly_ch {σ : Sg} (hs : okS σ) {t A B : Nat} {x y : Int} (ht : t ≤ σ 56) (hx : -99 ≤ x ∧ x ≤ 99) (hy : -99 ≤ y ∧ y ≤ 99) : ∀ j, j < 24 → -1000000 ≤ apE (ly σ t) A B x y 1 j ∧ apE (ly σ t) A B x y 1 j ≤ 1000000 := fun j hj => by
  have a := ly_M hs ht j hj
  have b := ch_M (A := A) (B := B) hx hy j
  rw [ap_ch]
  omega
theorem ly_N {σ : Sg} (hs : okS σ) {t : Nat} (ht : t ≤ σ 56) : ∀ j, j < 24 → -1000000 ≤ ly σ t j ∧ ly σ t j ≤ 1000000 := fun j hj => by
  have a := ly_M hs ht j hj
  omega
/-- what is still to come from time i on, the change being made -/
def R2 (σ : Sg) (A B : Nat) (x y : Int) (i : Nat) : Prop := (∀ s, i ≤ s → s ≤ σ 56 → inB σ (apE (ly σ s) A B x y 1)) ∧ ∀ s, i ≤ s → s ≤ σ 56 → sOK σ (apE (ly σ s) A B x y 1) s
theorem R2_s {σ : Sg} {A B : Nat} {x y : Int} {i : Nat} (hi : i < σ 56) (h1 : inB σ (apE (ly σ i) A B x y 1)) (h2 : sOK σ (apE (ly σ i) A B x y 1) i) : R2 σ A B x y i ↔ R2 σ A B x y (i + 1) := by
  constructor
  · intro h
    exact ⟨fun s g1 g2 => h.1 s (by omega) g2, fun s g1 g2 => h.2 s (by omega) g2⟩
  · intro h
    refine ⟨fun s g1 g2 => ?_, fun s g1 g2 => ?_⟩
    · by_cases w : s = i
      · rw [w]; exact h1
      · exact h.1 s (by omega) g2
    · by_cases w : s = i
      · rw [w]; exact h2
      · exact h.2 s (by omega) g2
theorem g_ex80 {LM : MemL} {σ : Sg} (hs : okS σ) {F : Nat} (hF : 10000 ≤ F) {M : Mem} (hM : StM M σ) {ce : Nat → Int} (hc : CeM M ce) (hb : ∀ j, j < 24 → -1000000 ≤ ce j ∧ ce j ≤ 1000000) (hI : inB σ ce) {i : Nat} (hi : i ≤ σ 56) (a1 a2 a3 a4 : Int32) (k8 : Mem → Int32 → Option (Int32 × Mem)) (k89 k103 k118 : Mem → Option (Int32 × Mem)) : (¬ sOK σ ce i ∧ f_X10_explains_80 F M LM a1 a2 a3 a4 (nI i) k8 k89 k103 k118 = k89 M) ∨ (sOK σ ce i ∧ i = σ 56 ∧ f_X10_explains_80 F M LM a1 a2 a3 a4 (nI i) k8 k89 k103 k118 = k103 M) ∨ (sOK σ ce i ∧ i < σ 56 ∧ ¬ inB σ (mvE σ ce i) ∧ ∃ M1, Pz M M1 ∧ f_X10_explains_80 F M LM a1 a2 a3 a4 (nI i) k8 k89 k103 k118 = k118 M1) ∨ (sOK σ ce i ∧ i < σ 56 ∧ inB σ (mvE σ ce i) ∧ ∃ M1, Pz M M1 ∧ CeM M1 (mvE σ ce i) ∧ f_X10_explains_80 F M LM a1 a2 a3 a4 (nI i) k8 k89 k103 k118 = k8 M1 (nI (i + 1))) := by
  have h5 := kMv hs
  unfold f_X10_explains_80
  rcases g_areSo (LM := LM) hM hs hc hb (i := i) hF (by omega) with ⟨s1, s2⟩ | ⟨s1, s2⟩
  · rw [s2]
    simp only [Option.bind_some]
    rw [if_neg n10, ck56, r56 hM]
    by_cases e : i = σ 56
    · rw [if_pos (by rw [e])]
      exact .inr (.inl ⟨s1, e, rfl⟩)
    · rw [if_neg (fun z => e ((nI_eq (by omega) (by omega)).mp z))]
      obtain ⟨M1, l1, l2, l3, h⟩ := g_step (LM := LM) hM hs hc hb hI F (i := i) (by omega)
      rw [l1]
      simp only [Option.bind_some]
      rcases h with ⟨f1, f2, M2, f3, f4, f5⟩ | ⟨f1, f2⟩
      · rw [f2]
        simp only [Option.bind_some]
        rw [if_neg n10, l_1, f3, nI_add]
        exact .inr (.inr (.inr ⟨s1, by omega, f1, M2, f4, f5, rfl⟩))
      · rw [f2]
        simp only [Option.bind_some]
        rw [if_pos n00]
        exact .inr (.inr (.inl ⟨s1, by omega, f1, M1, l2, rfl⟩))
  · rw [s2]
    simp only [Option.bind_some]
    rw [if_pos n00]
    exact .inl ⟨s1, rfl⟩
/-- the play behind the slide -/
theorem g_exP2 {LM : MemL} {σ : Sg} (hs : okS σ) {F : Nat} (hF : 10000 ≤ F) {t A B : Nat} {x y : Int} (hx : -99 ≤ x ∧ x ≤ 99) (hy : -99 ≤ y ∧ y ≤ 99) (b1 b2 b3 : Int32) : ∀ (d i n : Nat) (M : Mem), i + d = σ 56 → t < i → d < n → StM M σ → CeM M (apE (ly σ i) A B x y 1) → inB σ (apE (ly σ i) A B x y 1) → ∃ M', Pz M M' ∧ ((R2 σ A B x y i ∧ f_X10_explains_8 F LM (nI t) b1 b2 b3 (fun M => some (0, M)) (fun M => some (0, M)) (fun M => some (1, M)) (fun M => some (0, M)) (fun M => some (0, M)) n M (nI i) = some (nI 1, M')) ∨ (¬ R2 σ A B x y i ∧ f_X10_explains_8 F LM (nI t) b1 b2 b3 (fun M => some (0, M)) (fun M => some (0, M)) (fun M => some (1, M)) (fun M => some (0, M)) (fun M => some (0, M)) n M (nI i) = some (nI 0, M')))
  | d, i, 0, M, _, _, h, _, _, _ => by omega
  | d, i, n + 1, M, hi, ht, hn, hM, hc, hI => by
    have h5 := kMv hs
    have r0 : f_X10_explains_8 F LM (nI t) b1 b2 b3 (fun M => some (0, M)) (fun M => some (0, M)) (fun M => some (1, M)) (fun M => some (0, M)) (fun M => some (0, M)) (n + 1) M (nI i) = f_X10_explains_80 F M LM (nI t) b1 b2 b3 (nI i) (f_X10_explains_8 F LM (nI t) b1 b2 b3 (fun M => some (0, M)) (fun M => some (0, M)) (fun M => some (1, M)) (fun M => some (0, M)) (fun M => some (0, M)) n) (fun M => some (0, M)) (fun M => some (1, M)) (fun M => some (0, M)) := by
      rw [f_X10_explains_8, ck56, r56 hM, if_neg (nI_nlt (by omega) (by omega)), if_neg (fun z => by have := (nI_eq (by omega) (by omega)).mp z; omega)]
    rw [r0]
    rcases g_ex80 (LM := LM) hs hF hM hc (ly_ch hs (by omega) hx hy) hI (i := i) (by omega) (nI t) b1 b2 b3 (f_X10_explains_8 F LM (nI t) b1 b2 b3 (fun M => some (0, M)) (fun M => some (0, M)) (fun M => some (1, M)) (fun M => some (0, M)) (fun M => some (0, M)) n) (fun M => some (0, M)) (fun M => some (1, M)) (fun M => some (0, M)) with ⟨s, e⟩ | ⟨s, w, e⟩ | ⟨s, w, f, M1, p, e⟩ | ⟨s, w, f, M1, p, c, e⟩
    · rw [e]
      exact ⟨M, Pz_rfl M, .inr ⟨fun z => s (z.2 i (by omega) (by omega)), rfl⟩⟩
    · rw [e]
      refine ⟨M, Pz_rfl M, .inl ⟨⟨fun s' g1 g2 => ?_, fun s' g1 g2 => ?_⟩, rfl⟩⟩
      · have : s' = i := by omega
        rw [this]; exact hI
      · have : s' = i := by omega
        rw [this]; exact s
    · rw [e]
      rw [mv_ly] at f
      exact ⟨M1, p, .inr ⟨fun z => f (z.1 (i + 1) (by omega) (by omega)), rfl⟩⟩
    · rw [e]
      rw [mv_ly] at f c
      have iff := R2_s (A := A) (B := B) (x := x) (y := y) w hI s
      obtain ⟨M', p', h⟩ := g_exP2 (LM := LM) hs hF (t := t) hx hy b1 b2 b3 (d - 1) (i + 1) n M1 (by omega) (by omega) (by omega) (StM_p hM (Pz_m p)) c f
      refine ⟨M', Pz_tr p p', ?_⟩
      rcases h with ⟨h1, h2⟩ | ⟨h1, h2⟩
      · exact .inl ⟨iff.mpr h1, h2⟩
      · exact .inr ⟨fun z => h1 (iff.mp z), h2⟩
/-- what is still to come from time i on, the change being made at t -/
def R1 (σ : Sg) (A B : Nat) (x y : Int) (t i : Nat) : Prop := (∀ s, i ≤ s → s ≤ t → inB σ (ly σ s)) ∧ (∀ s, i ≤ s → s < t → sOK σ (ly σ s) s) ∧ R2 σ A B x y t
theorem R1_s {σ : Sg} {A B : Nat} {x y : Int} {t i : Nat} (hi : i < t) (h1 : inB σ (ly σ i)) (h2 : sOK σ (ly σ i) i) : R1 σ A B x y t i ↔ R1 σ A B x y t (i + 1) := by
  constructor
  · intro h
    exact ⟨fun s g1 g2 => h.1 s (by omega) g2, fun s g1 g2 => h.2.1 s (by omega) g2, h.2.2⟩
  · intro h
    refine ⟨fun s g1 g2 => ?_, fun s g1 g2 => ?_, h.2.2⟩
    · by_cases w : s = i
      · rw [w]; exact h1
      · exact h.1 s (by omega) g2
    · by_cases w : s = i
      · rw [w]; exact h2
      · exact h.2.1 s (by omega) g2
theorem in_0 {σ : Sg} (hs : okS σ) : inB σ (ly σ 0) := fun j hj => by
  have h1 := kR hs
  have := (kCe hs (j := j) (by omega)).2
  show 0 ≤ (σ (32 + j) : Int) ∧ (σ (32 + j) : Int) ≤ 99
  omega
theorem Ex_R1 {σ : Sg} (hs : okS σ) {A B : Nat} {x y : Int} {t : Nat} (ht : t ≤ σ 56) : Ex σ t t A B x y ↔ R1 σ A B x y t 0 := by
  have key : ∀ k, (lk σ k = ch A B x y (siC σ k)) ↔ (apE (ly σ (siT σ k)) A B x y 1 (siC σ k) = (σ (178 + 4 * k + 3) : Int)) := fun k => by
    rw [ap_ch]
    unfold lk
    omega
  have key0 : ∀ k, (lk σ k = 0) ↔ (ly σ (siT σ k) (siC σ k) = (σ (178 + 4 * k + 3) : Int)) := fun k => by
    unfold lk
    omega
  constructor
  · intro h
    refine ⟨fun s g1 g2 => h.1 s g2, fun s g1 g2 k hk e => ?_, fun s g1 g2 => h.2.1 s g1 g2, fun s g1 g2 k hk e => ?_⟩
    · have z := h.2.2 k hk
      rw [if_neg (by omega)] at z
      have := (key0 k).mp z
      rw [e] at this
      exact this
    · have z := h.2.2 k hk
      rw [if_pos (by omega)] at z
      have := (key k).mp z
      rw [e] at this
      exact this
  · intro h
    refine ⟨fun s g => h.1 s (by omega) g, fun s g1 g2 => h.2.2.1 s g1 g2, fun k hk => ?_⟩
    have b := si_b hs hk
    by_cases q : t ≤ siT σ k
    · rw [if_pos q]
      exact (key k).mpr (h.2.2.2 (siT σ k) q b.1 k hk rfl)
    · rw [if_neg q]
      exact (key0 k).mpr (h.2.1 (siT σ k) (by omega) (by omega) k hk rfl)
/-- the slide is possible at time t -/
theorem g_exT {LM : MemL} {σ : Sg} (hs : okS σ) {F : Nat} (hF : 10000 ≤ F) {i r c to : Nat} (ht : i ≤ σ 56) (hr : r < σ 1) (hc : c < σ 0) (up : Int32) (hv : (to < σ 0 ∧ ((up = 0 ∧ to + 1 = c) ∨ (¬ up = 0 ∧ to = c + 1))) ∨ (to = 100 ∧ ((up = 0 ∧ c = 0) ∨ (¬ up = 0 ∧ σ 0 ≤ c + 1)))) (n : Nat) (M : Mem) (hn : σ 56 - i < n + 1) (hM : StM M σ) (hcM : CeM M (ly σ i)) (hI : inB σ (ly σ i)) : ∃ M', Pz M M' ∧ (((to < σ 0 ∧ R1 σ (6 * r + c) (6 * r + to) (-1) 1 i i) ∧ f_X10_explains_8 F LM (nI i) (nI r) (nI c) up (fun M => some (0, M)) (fun M => some (0, M)) (fun M => some (1, M)) (fun M => some (0, M)) (fun M => some (0, M)) (n + 1) M (nI i) = some (nI 1, M')) ∨ (¬ (to < σ 0 ∧ R1 σ (6 * r + c) (6 * r + to) (-1) 1 i i) ∧ f_X10_explains_8 F LM (nI i) (nI r) (nI c) up (fun M => some (0, M)) (fun M => some (0, M)) (fun M => some (1, M)) (fun M => some (0, M)) (fun M => some (0, M)) (n + 1) M (nI i) = some (nI 0, M'))) := by
  have h0 := kC hs
  have h1 := kR hs
  have h5 := kMv hs
  have bM := ly_N hs ht
  rcases hv with ⟨hto, hu⟩ | ⟨hto, hu⟩
  · have mA := hcM (6 * r + c) (by omega)
    have mB := hcM (6 * r + to) (by omega)
    have bA := bM (6 * r + c) (by omega)
    have bB := bM (6 * r + to) (by omega)
    have iA := hI (6 * r + c) (by omega)
    have iB := hI (6 * r + to) (by omega)
    have sl : f_X10_slips F M LM (nI r) (nI c) up = some (if 1 ≤ ly σ i (6 * r + c) ∧ ly σ i (6 * r + to) < 99 then nI 1 else nI 0) := by
      have e13 : f_X10_slips F M LM (nI r) (nI c) up = f_X10_slips_13 F M LM (nI r) (nI c) (nI to) := by
        unfold f_X10_slips
        rcases hu with ⟨u, b⟩ | ⟨u, b⟩
        · have e : nI c - 1 = nI to := by rw [← b]; exact nI_pred to
          rw [if_pos u, e]
        · have e : nI c + 1 = nI to := by rw [b]; exact nI_1 c
          rw [if_neg u, e]
      rw [e13]
      unfold f_X10_slips_13 f_X10_cell
      rw [isCell_n hM h0 h1 F hr hc, isCol_n hM h0 F hto]
      by_cases q1 : 1 ≤ ly σ i (6 * r + c)
      · by_cases q2 : ly σ i (6 * r + to) < 99
        · simp (disch := omega) only [l_0, l_1, l_2, l_3, l_4, l_5, l_6, l_7, l_8, l_9, l_10, l_12, l_20, l_24, l_25, l_31, l_32, l_48, l_50, l_56, l_57, l_59, l_97, l_99, l_100, l_120, l_122, l_177, l_178, l_201, l_226, l_255, l_400, l_420, l_600, l_700, l_840, l_1000, l_1300, l_2000, l_1000000, nI_add, mr4, ml4, mr5, ml5, mr6, ml6, mr10, ml10, mr24, ml24, mr201, ml201, mr420, ml420, mr226, ml226, mr2, ml2, nI_clamp, lt_T, lt_F, le_T, le_F, eq_T, eq_F, ck_n, dv_n, cp_n, rem_n, pk_div, at1_same, at1_ne, cb_n, Option.bind_some, if_pos, if_neg, ↓reduceIte, and_self, and_true, true_and, and_false, false_and, not_true_eq_false, not_false_eq_true, nI_sub', zz_add, zz_sub, zz_mul, zn_add, nz_add, zn_sub, nz_sub, zn_mul, nz_mul, z_neg, n_neg, zlt_T, zlt_F, zle_T, zle_F, zeq_T, zeq_F, zn_lt, nz_lt, zn_le, nz_le, zn_eq, nz_eq, mA, mB]
        · simp (disch := omega) only [l_0, l_1, l_2, l_3, l_4, l_5, l_6, l_7, l_8, l_9, l_10, l_12, l_20, l_24, l_25, l_31, l_32, l_48, l_50, l_56, l_57, l_59, l_97, l_99, l_100, l_120, l_122, l_177, l_178, l_201, l_226, l_255, l_400, l_420, l_600, l_700, l_840, l_1000, l_1300, l_2000, l_1000000, nI_add, mr4, ml4, mr5, ml5, mr6, ml6, mr10, ml10, mr24, ml24, mr201, ml201, mr420, ml420, mr226, ml226, mr2, ml2, nI_clamp, lt_T, lt_F, le_T, le_F, eq_T, eq_F, ck_n, dv_n, cp_n, rem_n, pk_div, at1_same, at1_ne, cb_n, Option.bind_some, if_pos, if_neg, ↓reduceIte, and_self, and_true, true_and, and_false, false_and, not_true_eq_false, not_false_eq_true, nI_sub', zz_add, zz_sub, zz_mul, zn_add, nz_add, zn_sub, nz_sub, zn_mul, nz_mul, z_neg, n_neg, zlt_T, zlt_F, zle_T, zle_F, zeq_T, zeq_F, zn_lt, nz_lt, zn_le, nz_le, zn_eq, nz_eq, mA, mB]
      · simp (disch := omega) only [l_0, l_1, l_2, l_3, l_4, l_5, l_6, l_7, l_8, l_9, l_10, l_12, l_20, l_24, l_25, l_31, l_32, l_48, l_50, l_56, l_57, l_59, l_97, l_99, l_100, l_120, l_122, l_177, l_178, l_201, l_226, l_255, l_400, l_420, l_600, l_700, l_840, l_1000, l_1300, l_2000, l_1000000, nI_add, mr4, ml4, mr5, ml5, mr6, ml6, mr10, ml10, mr24, ml24, mr201, ml201, mr420, ml420, mr226, ml226, mr2, ml2, nI_clamp, lt_T, lt_F, le_T, le_F, eq_T, eq_F, ck_n, dv_n, cp_n, rem_n, pk_div, at1_same, at1_ne, cb_n, Option.bind_some, if_pos, if_neg, ↓reduceIte, and_self, and_true, true_and, and_false, false_and, not_true_eq_false, not_false_eq_true, nI_sub', zz_add, zz_sub, zz_mul, zn_add, nz_add, zn_sub, nz_sub, zn_mul, nz_mul, z_neg, n_neg, zlt_T, zlt_F, zle_T, zle_F, zeq_T, zeq_F, zn_lt, nz_lt, zn_le, nz_le, zn_eq, nz_eq, mA, mB]
    have ne : 6 * r + to ≠ 6 * r + c := by omega
    have iff : (1 ≤ ly σ i (6 * r + c) ∧ ly σ i (6 * r + to) < 99) ↔ inB σ (apE (ly σ i) (6 * r + c) (6 * r + to) (-1) 1 1) := by
      rw [← in_fit hI (by omega) (by omega) (fun z => absurd z ne)]
      unfold fitR
      constructor
      · intro z; exact ⟨by omega, .inr (by omega)⟩
      · intro z
        rcases z.2 with w | w
        · exact absurd w ne
        · omega
    have r0 := f_X10_explains_8.eq_2 F LM (nI i) (nI r) (nI c) up (fun M => some (0, M)) (fun M => some (0, M)) (fun M => some (1, M)) (fun M => some (0, M)) (fun M => some (0, M)) M (nI i) n
    rw [ck56, r56 hM, if_neg (nI_nlt (by omega) (by omega)), if_pos rfl, sl] at r0
    by_cases q : 1 ≤ ly σ i (6 * r + c) ∧ ly σ i (6 * r + to) < 99
    · rw [if_pos q, Option.bind_some, if_neg n10] at r0
      have hIe := iff.mp q
      have cM2 : CeM (mr (mr M 4 (upd (M 4) (6 * r + c) (zI (ly σ i (6 * r + c) - 1)))) 4 (upd (upd (M 4) (6 * r + c) (zI (ly σ i (6 * r + c) - 1))) (6 * r + to) (zI (ly σ i (6 * r + to) + 1)))) (apE (ly σ i) (6 * r + c) (6 * r + to) (-1) 1 1) := fun j hj => by
        rw [mr_s, upd_at, upd_at, ap_ch]
        unfold ch
        by_cases w1 : j = 6 * r + to
        · rw [if_pos w1, if_neg (by omega), if_pos w1, w1, Int.zero_add]
        · rw [if_neg w1]
          by_cases w2 : j = 6 * r + c
          · rw [if_pos w2, if_pos w2, if_neg w1, w2, Int.add_zero, Int.sub_eq_add_neg]
          · rw [if_neg w2, if_neg w2, if_neg w1, Int.add_zero, Int.add_zero]
            exact hcM j hj
      have pM2 : Pz M (mr (mr M 4 (upd (M 4) (6 * r + c) (zI (ly σ i (6 * r + c) - 1)))) 4 (upd (upd (M 4) (6 * r + c) (zI (ly σ i (6 * r + c) - 1))) (6 * r + to) (zI (ly σ i (6 * r + to) + 1)))) := Pz_4 (fun c hc => by rw [mr_n _ _ hc, mr_n _ _ hc])
      have hM2 := StM_p hM (Pz_m pM2)
      have r1 : f_X10_explains_8 F LM (nI i) (nI r) (nI c) up (fun M => some (0, M)) (fun M => some (0, M)) (fun M => some (1, M)) (fun M => some (0, M)) (fun M => some (0, M)) (n + 1) M (nI i) = f_X10_explains_80 F (mr (mr M 4 (upd (M 4) (6 * r + c) (zI (ly σ i (6 * r + c) - 1)))) 4 (upd (upd (M 4) (6 * r + c) (zI (ly σ i (6 * r + c) - 1))) (6 * r + to) (zI (ly σ i (6 * r + to) + 1)))) LM (nI i) (nI r) (nI c) up (nI i) (f_X10_explains_8 F LM (nI i) (nI r) (nI c) up (fun M => some (0, M)) (fun M => some (0, M)) (fun M => some (1, M)) (fun M => some (0, M)) (fun M => some (0, M)) n) (fun M => some (0, M)) (fun M => some (1, M)) (fun M => some (0, M)) := by
        rw [r0]
        unfold f_X10_cell f_X10_explains_72 f_X10_cell
        have zs : zI (ly σ i (6 * r + c)) - nI 1 = zI (ly σ i (6 * r + c) - 1) := by rw [zn_sub, show ((1 : Nat) : Int) = 1 from rfl]
        have za : zI (ly σ i (6 * r + to)) + nI 1 = zI (ly σ i (6 * r + to) + 1) := by rw [zn_add, show ((1 : Nat) : Int) = 1 from rfl]
        rcases hu with ⟨u, b⟩ | ⟨u, b⟩
        · have e : nI c - 1 = nI to := by rw [← b]; exact nI_pred to
          simp only [Option.bind_some]
          rw [if_pos u, e]
          simp (disch := omega) only [l_0, l_1, l_2, l_3, l_4, l_5, l_6, l_7, l_8, l_9, l_10, l_12, l_20, l_24, l_25, l_31, l_32, l_48, l_50, l_56, l_57, l_59, l_97, l_99, l_100, l_120, l_122, l_177, l_178, l_201, l_226, l_255, l_400, l_420, l_600, l_700, l_840, l_1000, l_1300, l_2000, l_1000000, nI_add, mr4, ml4, mr5, ml5, mr6, ml6, mr10, ml10, mr24, ml24, mr201, ml201, mr420, ml420, mr226, ml226, mr2, ml2, nI_clamp, lt_T, lt_F, le_T, le_F, eq_T, eq_F, ck_n, dv_n, cp_n, rem_n, pk_div, at1_same, at1_ne, cb_n, Option.bind_some, if_pos, if_neg, ↓reduceIte, and_self, and_true, true_and, and_false, false_and, not_true_eq_false, not_false_eq_true, nI_sub', mA, mB, pk_us, pk_un, zs, za]
        · have e : nI c + 1 = nI to := by rw [b]; exact nI_1 c
          simp only [Option.bind_some]
          rw [if_neg u, e]
          simp (disch := omega) only [l_0, l_1, l_2, l_3, l_4, l_5, l_6, l_7, l_8, l_9, l_10, l_12, l_20, l_24, l_25, l_31, l_32, l_48, l_50, l_56, l_57, l_59, l_97, l_99, l_100, l_120, l_122, l_177, l_178, l_201, l_226, l_255, l_400, l_420, l_600, l_700, l_840, l_1000, l_1300, l_2000, l_1000000, nI_add, mr4, ml4, mr5, ml5, mr6, ml6, mr10, ml10, mr24, ml24, mr201, ml201, mr420, ml420, mr226, ml226, mr2, ml2, nI_clamp, lt_T, lt_F, le_T, le_F, eq_T, eq_F, ck_n, dv_n, cp_n, rem_n, pk_div, at1_same, at1_ne, cb_n, Option.bind_some, if_pos, if_neg, ↓reduceIte, and_self, and_true, true_and, and_false, false_and, not_true_eq_false, not_false_eq_true, nI_sub', mA, mB, pk_us, pk_un, zs, za]
      rw [r1]
      clear r0 r1
      generalize mr (mr M 4 (upd (M 4) (6 * r + c) (zI (ly σ i (6 * r + c) - 1)))) 4 (upd (upd (M 4) (6 * r + c) (zI (ly σ i (6 * r + c) - 1))) (6 * r + to) (zI (ly σ i (6 * r + to) + 1))) = M2 at cM2 pM2 hM2 ⊢
      rcases g_ex80 (LM := LM) hs hF hM2 cM2 (ly_ch hs ht (by omega) (by omega)) hIe (i := i) ht (nI i) (nI r) (nI c) up (f_X10_explains_8 F LM (nI i) (nI r) (nI c) up (fun M => some (0, M)) (fun M => some (0, M)) (fun M => some (1, M)) (fun M => some (0, M)) (fun M => some (0, M)) n) (fun M => some (0, M)) (fun M => some (1, M)) (fun M => some (0, M)) with ⟨s, e⟩ | ⟨s, w, e⟩ | ⟨s, w, f, M1, p, e⟩ | ⟨s, w, f, M1, p, cc, e⟩
      · rw [e]
        exact ⟨_, pM2, .inr ⟨fun z => s (z.2.2.2.2 i (by omega) ht), rfl⟩⟩
      · rw [e]
        refine ⟨_, pM2, .inl ⟨⟨hto, fun s' g1 g2 => ?_, fun s' g1 g2 => by omega, fun s' g1 g2 => ?_, fun s' g1 g2 => ?_⟩, rfl⟩⟩
        · have : s' = i := by omega
          rw [this]; exact hI
        · have : s' = i := by omega
          rw [this]; exact hIe
        · have : s' = i := by omega
          rw [this]; exact s
      · rw [e]
        rw [mv_ly] at f
        exact ⟨_, Pz_tr pM2 p, .inr ⟨fun z => f (z.2.2.2.1 (i + 1) (by omega) (by omega)), rfl⟩⟩
      · rw [e]
        rw [mv_ly] at f cc
        have iff2 := R2_s (A := 6 * r + c) (B := 6 * r + to) (x := -1) (y := 1) w hIe s
        obtain ⟨M', p', h⟩ := g_exP2 (LM := LM) hs hF (t := i) (x := -1) (y := 1) (by omega) (by omega) (nI r) (nI c) up (σ 56 - (i + 1)) (i + 1) n M1 (by omega) (by omega) (by omega) (StM_p hM2 (Pz_m p)) cc f
        refine ⟨M', Pz_tr pM2 (Pz_tr p p'), ?_⟩
        rcases h with ⟨h1, h2⟩ | ⟨h1, h2⟩
        · refine .inl ⟨⟨hto, fun s' g1 g2 => ?_, fun s' g1 g2 => by omega, iff2.mpr h1⟩, h2⟩
          have : s' = i := by omega
          rw [this]; exact hI
        · exact .inr ⟨fun z => h1 (iff2.mp z.2.2.2), h2⟩
    · rw [if_neg q, Option.bind_some, if_pos n00] at r0
      rw [r0]
      exact ⟨M, Pz_rfl M, .inr ⟨fun z => q (iff.mpr (z.2.2.2.1 i (by omega) ht)), rfl⟩⟩
  · have sl : f_X10_slips F M LM (nI r) (nI c) up = some (nI 0) := by
      unfold f_X10_slips f_X10_slips_13
      rw [isCell_n hM h0 h1 F hr hc]
      rcases hu with ⟨u, b⟩ | ⟨u, b⟩
      · subst b
        have e : nI 0 - 1 = zI (-1) := rfl
        rw [if_pos u, e, isCol_x hM h0 F (by omega) (by omega) (by omega)]
        simp only [Option.bind_some]
        rw [if_neg n10, if_pos n00]
        rfl
      · have e : nI c + 1 = nI (c + 1) := nI_1 c
        rw [if_neg u, e, isCol_o hM h0 F (by omega) (by omega)]
        simp only [Option.bind_some]
        rw [if_neg n10, if_pos n00]
        rfl
    have r0 := f_X10_explains_8.eq_2 F LM (nI i) (nI r) (nI c) up (fun M => some (0, M)) (fun M => some (0, M)) (fun M => some (1, M)) (fun M => some (0, M)) (fun M => some (0, M)) M (nI i) n
    rw [ck56, r56 hM, if_neg (nI_nlt (by omega) (by omega)), if_pos rfl, sl] at r0
    rw [Option.bind_some, if_pos n00] at r0
    rw [r0]
    exact ⟨M, Pz_rfl M, .inr ⟨fun z => by omega, rfl⟩⟩
theorem g_exP1 {LM : MemL} {σ : Sg} (hs : okS σ) {F : Nat} (hF : 10000 ≤ F) {t r c to : Nat} (ht : t ≤ σ 56) (hr : r < σ 1) (hc : c < σ 0) (up : Int32) (hv : (to < σ 0 ∧ ((up = 0 ∧ to + 1 = c) ∨ (¬ up = 0 ∧ to = c + 1))) ∨ (to = 100 ∧ ((up = 0 ∧ c = 0) ∨ (¬ up = 0 ∧ σ 0 ≤ c + 1)))) : ∀ (d i n : Nat) (M : Mem), i + d = t → d + (σ 56 - t) < n → StM M σ → CeM M (ly σ i) → inB σ (ly σ i) → ∃ M', Pz M M' ∧ (((to < σ 0 ∧ R1 σ (6 * r + c) (6 * r + to) (-1) 1 t i) ∧ f_X10_explains_8 F LM (nI t) (nI r) (nI c) up (fun M => some (0, M)) (fun M => some (0, M)) (fun M => some (1, M)) (fun M => some (0, M)) (fun M => some (0, M)) n M (nI i) = some (nI 1, M')) ∨ (¬ (to < σ 0 ∧ R1 σ (6 * r + c) (6 * r + to) (-1) 1 t i) ∧ f_X10_explains_8 F LM (nI t) (nI r) (nI c) up (fun M => some (0, M)) (fun M => some (0, M)) (fun M => some (1, M)) (fun M => some (0, M)) (fun M => some (0, M)) n M (nI i) = some (nI 0, M')))
  | d, i, 0, M, _, h, _, _, _ => by omega
  | 0, i, n + 1, M, hi, hn, hM, hcM, hI => by
    obtain rfl : i = t := by omega
    exact g_exT hs hF ht hr hc up hv n M (by omega) hM hcM hI
  | d + 1, i, n + 1, M, hi, hn, hM, hcM, hI => by
    have h5 := kMv hs
    have r0 : f_X10_explains_8 F LM (nI t) (nI r) (nI c) up (fun M => some (0, M)) (fun M => some (0, M)) (fun M => some (1, M)) (fun M => some (0, M)) (fun M => some (0, M)) (n + 1) M (nI i) = f_X10_explains_80 F M LM (nI t) (nI r) (nI c) up (nI i) (f_X10_explains_8 F LM (nI t) (nI r) (nI c) up (fun M => some (0, M)) (fun M => some (0, M)) (fun M => some (1, M)) (fun M => some (0, M)) (fun M => some (0, M)) n) (fun M => some (0, M)) (fun M => some (1, M)) (fun M => some (0, M)) := by
      rw [f_X10_explains_8, ck56, r56 hM, if_neg (nI_nlt (by omega) (by omega)), if_neg (fun z => by have := (nI_eq (by omega) (by omega)).mp z; omega)]
    rw [r0]
    rcases g_ex80 (LM := LM) hs hF hM hcM (ly_N hs (by omega)) hI (i := i) (by omega) (nI t) (nI r) (nI c) up (f_X10_explains_8 F LM (nI t) (nI r) (nI c) up (fun M => some (0, M)) (fun M => some (0, M)) (fun M => some (1, M)) (fun M => some (0, M)) (fun M => some (0, M)) n) (fun M => some (0, M)) (fun M => some (1, M)) (fun M => some (0, M)) with ⟨s, e⟩ | ⟨s, w, e⟩ | ⟨s, w, f, M1, p, e⟩ | ⟨s, w, f, M1, p, cc, e⟩
    · rw [e]
      exact ⟨M, Pz_rfl M, .inr ⟨fun z => s (z.2.2.1 i (by omega) (by omega)), rfl⟩⟩
    · omega
    · rw [e]
      exact ⟨M1, p, .inr ⟨fun z => f (z.2.1 (i + 1) (by omega) (by omega)), rfl⟩⟩
    · rw [e]
      have iff := R1_s (A := 6 * r + c) (B := 6 * r + to) (x := -1) (y := 1) (t := t) (by omega) hI s
      obtain ⟨M', p', h⟩ := g_exP1 (LM := LM) hs hF ht hr hc up hv d (i + 1) n M1 (by omega) (by omega) (StM_p hM (Pz_m p)) cc f
      refine ⟨M', Pz_tr p p', ?_⟩
      rcases h with ⟨h1, h2⟩ | ⟨h1, h2⟩
      · exact .inl ⟨⟨h1.1, iff.mpr h1.2⟩, h2⟩
      · exact .inr ⟨fun z => h1 ⟨z.1, iff.mp z.2⟩, h2⟩
theorem g_explains {M : Mem} {LM : MemL} {σ : Sg} (hM : StM M σ) (hs : okS σ) {F : Nat} (hF : 10000 ≤ F) {t r c to : Nat} (ht : t ≤ σ 56) (hr : r < σ 1) (hc : c < σ 0) (up : Int32) (hv : (to < σ 0 ∧ ((up = 0 ∧ to + 1 = c) ∨ (¬ up = 0 ∧ to = c + 1))) ∨ (to = 100 ∧ ((up = 0 ∧ c = 0) ∨ (¬ up = 0 ∧ σ 0 ≤ c + 1)))) : ∃ M', Pz M M' ∧ (((to < σ 0 ∧ Ex σ t t (6 * r + c) (6 * r + to) (-1) 1) ∧ f_X10_explains F M LM (nI t) (nI r) (nI c) up = some (nI 1, M')) ∨ (¬ (to < σ 0 ∧ Ex σ t t (6 * r + c) (6 * r + to) (-1) 1) ∧ f_X10_explains F M LM (nI t) (nI r) (nI c) up = some (nI 0, M'))) := by
  have h5 := kMv hs
  obtain ⟨M1, l1, l2, l3⟩ := g_laysAtZ (LM := LM) hM hs (F := F) (t := 0) hF (by omega)
  obtain ⟨M', p, h⟩ := g_exP1 (LM := LM) hs hF ht hr hc up hv t 0 F M1 (by omega) (by omega) (StM_p hM (Pz_m l3)) l2 (in_0 hs)
  have iff := Ex_R1 hs (A := 6 * r + c) (B := 6 * r + to) (x := -1) (y := 1) ht
  unfold f_X10_explains
  have l1' : f_X10_laysAt F M LM 0 = some M1 := l1
  rw [l1']
  refine ⟨M', Pz_tr l3 p, ?_⟩
  rcases h with ⟨h1, h2⟩ | ⟨h1, h2⟩
  · exact .inl ⟨⟨h1.1, iff.mpr h1.2⟩, h2⟩
  · exact .inr ⟨fun z => h1 ⟨z.1, iff.mp z.2⟩, h2⟩
