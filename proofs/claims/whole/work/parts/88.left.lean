/-! PURE LAYER: moves that may have been left out -/
theorem ap_back (ce : Nat → Int) (A B : Nat) (x y : Int) : apE (apE ce A B x y 1) A B (-x) (-y) 1 = ce := by
  funext j
  rw [ap_ch, ap_ch]
  unfold ch
  by_cases q1 : j = A
  · rw [if_pos q1, if_pos q1]
    by_cases q2 : j = B
    · rw [if_pos q2, if_pos q2]; omega
    · rw [if_neg q2, if_neg q2]; omega
  · rw [if_neg q1, if_neg q1]
    by_cases q2 : j = B
    · rw [if_pos q2, if_pos q2]; omega
    · rw [if_neg q2, if_neg q2]; omega
def LO (σ : Sg) (i : Nat) : Prop := Ex σ i (i + 1) (eff σ i).1 (eff σ i).2.1 (-(eff σ i).2.2.1) (-(eff σ i).2.2.2)
theorem g_lo2 {LM : MemL} {σ : Sg} (hs : okS σ) {F : Nat} (hF : 10000 ≤ F) {i A B : Nat} {x y : Int} (hx : -99 ≤ x ∧ x ≤ 99) (hy : -99 ≤ y ∧ y ≤ 99) : ∀ (d j n : Nat) (M : Mem), j + d = σ 56 → i < j → d < n → StM M σ → CeM M (apE (ly σ j) A B x y 1) → inB σ (apE (ly σ j) A B x y 1) → ∃ M', Pm M M' ∧ ((R2 σ A B x y j ∧ f_X10_isLeftOut_7 F LM (nI i) (fun M_26 => (some (0, M_26))) (fun M_48 => (some (0, M_48))) (fun M_61 => ck 56 226 ((f_X10_areSo F M_61 LM ((M_61 1) (56 : Int32).toNatClampNeg)).bind (fun z69 => (cb z69 (some (z69, M_61)))))) n M (nI j) = some (nI 1, M')) ∨ (¬ R2 σ A B x y j ∧ f_X10_isLeftOut_7 F LM (nI i) (fun M_26 => (some (0, M_26))) (fun M_48 => (some (0, M_48))) (fun M_61 => ck 56 226 ((f_X10_areSo F M_61 LM ((M_61 1) (56 : Int32).toNatClampNeg)).bind (fun z69 => (cb z69 (some (z69, M_61)))))) n M (nI j) = some (nI 0, M')))
  | d, j, 0, M, _, _, h, _, _, _ => by omega
  | 0, j, n + 1, M, hj, hij, _, hM, hc, hI => by
    obtain rfl : j = σ 56 := by omega
    have h5 := kMv hs
    refine ⟨M, Pm_rfl M, ?_⟩
    rw [f_X10_isLeftOut_7, ck56, r56 hM, if_pos (nI_le (by omega) (by omega)), ck56]
    rcases g_areSo (LM := LM) hM hs hc (ly_ch hs (Nat.le_refl _) hx hy) (i := σ 56) hF (by omega) with ⟨s1, s2⟩ | ⟨s1, s2⟩
    · rw [s2, Option.bind_some, cb_n (by omega)]
      refine .inl ⟨⟨fun s g1 g2 => ?_, fun s g1 g2 => ?_⟩, rfl⟩
      · have : s = σ 56 := by omega
        rw [this]; exact hI
      · have : s = σ 56 := by omega
        rw [this]; exact s1
    · rw [s2, Option.bind_some, cb_n (by omega)]
      exact .inr ⟨fun z => s1 (z.2 (σ 56) (Nat.le_refl _) (Nat.le_refl _)), rfl⟩
  | d + 1, j, n + 1, M, hj, hij, hn, hM, hc, hI => by
    have h5 := kMv hs
    have bM := ly_ch hs (t := j) (A := A) (B := B) (by omega) hx hy
    have ne : ¬ nI j = nI i := fun z => by have := (nI_eq (by omega) (by omega)).mp z; omega
    have c1 : nI j + 1 = nI (j + 1) := nI_1 j
    rcases g_areSo (LM := LM) hM hs hc bM (i := j) hF (by omega) with ⟨s1, s2⟩ | ⟨s1, s2⟩
    · obtain ⟨M1, l1, l2, l3, h⟩ := g_step (LM := LM) hM hs hc bM hI F (i := j) (by omega)
      rw [mv_ly] at h
      rcases h with ⟨f1, f2, M2, f3, f4, f5⟩ | ⟨f1, f2⟩
      · have f3' : f_X10_goes F M1 LM 1 = some M2 := f3
        obtain ⟨M', p', h⟩ := g_lo2 (LM := LM) hs hF (i := i) hx hy d (j + 1) n M2 (by omega) (by omega) (by omega) (StM_p hM (Pz_m f4)) f5 f1
        have iff := R2_s (A := A) (B := B) (x := x) (y := y) (i := j) (by omega) hI s1
        refine ⟨M', Pm_tr (Pz_m f4) p', ?_⟩
        rw [f_X10_isLeftOut_7, ck56, r56 hM, if_neg (nI_ge (by omega) (by omega)), s2, Option.bind_some, if_neg n10, l1, Option.bind_some, if_neg ne, f2, Option.bind_some, if_neg n10, f3', Option.bind_some, c1]
        rcases h with ⟨h1, h2⟩ | ⟨h1, h2⟩
        · exact .inl ⟨iff.mpr h1, h2⟩
        · exact .inr ⟨fun z => h1 (iff.mp z), h2⟩
      · refine ⟨M1, Pz_m l2, ?_⟩
        rw [f_X10_isLeftOut_7, ck56, r56 hM, if_neg (nI_ge (by omega) (by omega)), s2, Option.bind_some, if_neg n10, l1, Option.bind_some, if_neg ne, f2, Option.bind_some, if_pos n00]
        exact .inr ⟨fun z => f1 (z.1 (j + 1) (by omega) (by omega)), rfl⟩
    · refine ⟨M, Pm_rfl M, ?_⟩
      rw [f_X10_isLeftOut_7, ck56, r56 hM, if_neg (nI_ge (by omega) (by omega)), s2, Option.bind_some, if_pos n00]
      exact .inr ⟨fun z => s1 (z.2 j (by omega) (by omega)), rfl⟩
def R3 (σ : Sg) (A B : Nat) (x y : Int) (i j : Nat) : Prop := (∀ s, j ≤ s → s ≤ i → inB σ (ly σ s)) ∧ (∀ s, j ≤ s → s ≤ i → sOK σ (ly σ s) s) ∧ R2 σ A B x y (i + 1)
theorem R3_s {σ : Sg} {A B : Nat} {x y : Int} {i j : Nat} (h1 : inB σ (ly σ j)) (h2 : sOK σ (ly σ j) j) : R3 σ A B x y i j ↔ R3 σ A B x y i (j + 1) := by
  constructor
  · intro h
    exact ⟨fun s g1 g2 => h.1 s (by omega) g2, fun s g1 g2 => h.2.1 s (by omega) g2, h.2.2⟩
  · intro h
    refine ⟨fun s g1 g2 => ?_, fun s g1 g2 => ?_, h.2.2⟩
    · by_cases w : s = j
      · rw [w]; exact h1
      · exact h.1 s (by omega) g2
    · by_cases w : s = j
      · rw [w]; exact h2
      · exact h.2.1 s (by omega) g2
theorem Ex_R3 {σ : Sg} (hs : okS σ) {A B : Nat} {x y : Int} {i : Nat} (hi : i < σ 56) : Ex σ i (i + 1) A B x y ↔ R3 σ A B x y i 0 := by
  have key : ∀ k, (lk σ k = ch A B x y (siC σ k)) ↔ (apE (ly σ (siT σ k)) A B x y 1 (siC σ k) = (σ (178 + 4 * k + 3) : Int)) := fun k => by
    rw [ap_ch]
    unfold lk
    omega
  have key0 : ∀ k, (lk σ k = 0) ↔ (ly σ (siT σ k) (siC σ k) = (σ (178 + 4 * k + 3) : Int)) := fun k => by
    unfold lk
    omega
  constructor
  · intro h
    refine ⟨fun s g1 g2 => h.1 s g2, fun s g1 g2 k hk e => ?_, fun s g1 g2 => h.2.1 s g1 g2, fun s g1 g2 k hk e => ?_⟩
    · have z := h.2.2 k hk
      rw [if_neg (by omega)] at z
      have := (key0 k).mp z
      rw [e] at this
      exact this
    · have z := h.2.2 k hk
      rw [if_pos (by omega)] at z
      have := (key k).mp z
      rw [e] at this
      exact this
  · intro h
    refine ⟨fun s g => h.1 s (by omega) g, fun s g1 g2 => h.2.2.1 s g1 g2, fun k hk => ?_⟩
    have b := si_b hs hk
    by_cases q : i + 1 ≤ siT σ k
    · rw [if_pos q]
      exact (key k).mpr (h.2.2.2 (siT σ k) q b.1 k hk rfl)
    · rw [if_neg q]
      exact (key0 k).mpr (h.2.1 (siT σ k) (by omega) (by omega) k hk rfl)
theorem g_lo3 {LM : MemL} {σ : Sg} (hs : okS σ) {F : Nat} (hF : 10000 ≤ F) {i : Nat} (hi : i < σ 56) : ∀ (d j n : Nat) (M : Mem), j + d = i → d + (σ 56 - i) < n → StM M σ → CeM M (ly σ j) → inB σ (ly σ j) → ∃ M', Pm M M' ∧ ((R3 σ (eff σ i).1 (eff σ i).2.1 (-(eff σ i).2.2.1) (-(eff σ i).2.2.2) i j ∧ f_X10_isLeftOut_7 F LM (nI i) (fun M_26 => (some (0, M_26))) (fun M_48 => (some (0, M_48))) (fun M_61 => ck 56 226 ((f_X10_areSo F M_61 LM ((M_61 1) (56 : Int32).toNatClampNeg)).bind (fun z69 => (cb z69 (some (z69, M_61)))))) n M (nI j) = some (nI 1, M')) ∨ (¬ R3 σ (eff σ i).1 (eff σ i).2.1 (-(eff σ i).2.2.1) (-(eff σ i).2.2.2) i j ∧ f_X10_isLeftOut_7 F LM (nI i) (fun M_26 => (some (0, M_26))) (fun M_48 => (some (0, M_48))) (fun M_61 => ck 56 226 ((f_X10_areSo F M_61 LM ((M_61 1) (56 : Int32).toNatClampNeg)).bind (fun z69 => (cb z69 (some (z69, M_61)))))) n M (nI j) = some (nI 0, M')))
  | d, j, 0, M, _, h, _, _, _ => by omega
  | d, j, n + 1, M, hj, hn, hM, hc, hI => by
    have h5 := kMv hs
    have bM := ly_N hs (t := j) (by omega)
    have c1 : nI j + 1 = nI (j + 1) := nI_1 j
    rcases g_areSo (LM := LM) hM hs hc bM (i := j) hF (by omega) with ⟨s1, s2⟩ | ⟨s1, s2⟩
    · obtain ⟨M1, l1, l2, l3, h⟩ := g_step (LM := LM) hM hs hc bM hI F (i := j) (by omega)
      cases d with
      | zero =>
        obtain rfl : j = i := by omega
        obtain ⟨bA, bB, bx1, bx2, by1, by2, be⟩ := EfL_b hs (eff_ok hs hi)
        have eb : apE (ly σ (j + 1)) (eff σ j).1 (eff σ j).2.1 (-(eff σ j).2.2.1) (-(eff σ j).2.2.2) 1 = ly σ j := ap_back (ly σ j) _ _ _ _
        obtain ⟨M', p', h⟩ := g_lo2 (LM := LM) hs hF (i := j) (A := (eff σ j).1) (B := (eff σ j).2.1) (x := -(eff σ j).2.2.1) (y := -(eff σ j).2.2.2) (by omega) (by omega) (σ 56 - (j + 1)) (j + 1) n M1 (by omega) (by omega) (by omega) (StM_p hM (Pz_m l2)) (by rw [eb]; exact l3) (by rw [eb]; exact hI)
        refine ⟨M', Pm_tr (Pz_m l2) p', ?_⟩
        rw [f_X10_isLeftOut_7, ck56, r56 hM, if_neg (nI_ge (by omega) (by omega)), s2, Option.bind_some, if_neg n10, l1, Option.bind_some, if_pos rfl, c1]
        rcases h with ⟨h1, h2⟩ | ⟨h1, h2⟩
        · refine .inl ⟨⟨fun s g1 g2 => ?_, fun s g1 g2 => ?_, h1⟩, h2⟩
          · have : s = j := by omega
            rw [this]; exact hI
          · have : s = j := by omega
            rw [this]; exact s1
        · exact .inr ⟨fun z => h1 z.2.2, h2⟩
      | succ d =>
        have ne : ¬ nI j = nI i := fun z => by have := (nI_eq (by omega) (by omega)).mp z; omega
        rcases h with ⟨f1, f2, M2, f3, f4, f5⟩ | ⟨f1, f2⟩
        · have f3' : f_X10_goes F M1 LM 1 = some M2 := f3
          obtain ⟨M', p', h⟩ := g_lo3 (LM := LM) hs hF hi d (j + 1) n M2 (by omega) (by omega) (StM_p hM (Pz_m f4)) f5 f1
          have iff := R3_s (A := (eff σ i).1) (B := (eff σ i).2.1) (x := -(eff σ i).2.2.1) (y := -(eff σ i).2.2.2) (i := i) hI s1
          refine ⟨M', Pm_tr (Pz_m f4) p', ?_⟩
          rw [f_X10_isLeftOut_7, ck56, r56 hM, if_neg (nI_ge (by omega) (by omega)), s2, Option.bind_some, if_neg n10, l1, Option.bind_some, if_neg ne, f2, Option.bind_some, if_neg n10, f3', Option.bind_some, c1]
          rcases h with ⟨h1, h2⟩ | ⟨h1, h2⟩
          · exact .inl ⟨iff.mpr h1, h2⟩
          · exact .inr ⟨fun z => h1 (iff.mp z), h2⟩
        · refine ⟨M1, Pz_m l2, ?_⟩
          rw [f_X10_isLeftOut_7, ck56, r56 hM, if_neg (nI_ge (by omega) (by omega)), s2, Option.bind_some, if_neg n10, l1, Option.bind_some, if_neg ne, f2, Option.bind_some, if_pos n00]
          exact .inr ⟨fun z => f1 (z.1 (j + 1) (by omega) (by omega)), rfl⟩
    · refine ⟨M, Pm_rfl M, ?_⟩
      rw [f_X10_isLeftOut_7, ck56, r56 hM, if_neg (nI_ge (by omega) (by omega)), s2, Option.bind_some, if_pos n00]
      exact .inr ⟨fun z => s1 (z.2.1 j (by omega) (by omega)), rfl⟩
theorem g_isLeftOut {M : Mem} {LM : MemL} {σ : Sg} (hM : StM M σ) (hs : okS σ) {F : Nat} (hF : 10000 ≤ F) {i : Nat} (hi : i < σ 56) : ∃ M', Pm M M' ∧ ((LO σ i ∧ f_X10_isLeftOut F M LM (nI i) = some (nI 1, M')) ∨ (¬ LO σ i ∧ f_X10_isLeftOut F M LM (nI i) = some (nI 0, M'))) := by
  have h5 := kMv hs
  obtain ⟨M1, l1, l2, l3⟩ := g_laysAt (LM := LM) hM hs (F := F) (t := 0) hF (by omega)
  obtain ⟨M', p, h⟩ := g_lo3 (LM := LM) hs hF hi i 0 F M1 (by omega) (by omega) (StM_p hM l3) l2 (in_0 hs)
  have iff := Ex_R3 hs (A := (eff σ i).1) (B := (eff σ i).2.1) (x := -(eff σ i).2.2.1) (y := -(eff σ i).2.2.2) hi
  have l1' : f_X10_laysAt F M LM 0 = some M1 := l1
  refine ⟨M', Pm_tr l3 p, ?_⟩
  unfold f_X10_isLeftOut
  rw [l1', Option.bind_some]
  rcases h with ⟨h1, h2⟩ | ⟨h1, h2⟩
  · exact .inl ⟨iff.mpr h1, h2⟩
  · exact .inr ⟨fun z => h1 (iff.mp z), h2⟩
theorem h_expLeft {C N NE : Mem} {σ : Sg} (hC : StC C σ) (hs : okS σ) (hL : La N σ) {F : Nat} (hF : 10000 ≤ F) {i : Nat} (hi : i < σ 56) : ∃ NE', (LO σ i ∧ f_X2_explainsLeftOut F N NE C (nI i) = some (nI 1, NE')) ∨ (¬ LO σ i ∧ f_X2_explainsLeftOut F N NE C (nI i) = some (nI 0, NE')) := by
  have h5 := kMv hs
  obtain ⟨s, s1, s2⟩ := hL.2.2.1
  have hs1 := s2.1
  have hE := eff_ok hs hi
  obtain ⟨bA, bB, bx1, bx2, by1, by2, be⟩ := EfL_b hs hE
  have er := eff_r hs hi
  have c1 : nI i + 1 = nI (i + 1) := nI_1 i
  unfold f_X2_explainsLeftOut
  rw [s1]
  by_cases q : s < i
  · refine ⟨NE, .inr ⟨fun z => ?_, ?_⟩⟩
    · rcases s2.2.2 with w | w
      · omega
      · exact w (z.1 (s + 1) (by omega))
    · rw [if_pos (nI_lt q (by omega))]
      rfl
  · obtain ⟨E1, d1, d2⟩ := h_dLog (E := NE) hC hs F hi hE
    obtain ⟨E2, v1, v2⟩ := h_reverse d2 F
    refine ⟨E2, ?_⟩
    rw [if_neg (nI_nlt (by omega) (by omega)), d1, Option.bind_some, if_neg n10, v1, Option.bind_some, c1]
    have iff : LO σ i ↔ (exB σ (i + 1) (eff σ i).1 (eff σ i).2.1 (-(eff σ i).2.2.1) (-(eff σ i).2.2.2) ∧ exK σ (i + 1) (eff σ i).1 (eff σ i).2.1 (-(eff σ i).2.2.1) (-(eff σ i).2.2.2)) := by
      rw [exB_iff (by omega)]
      unfold LO Ex exK
      refine ⟨fun z => z.2, fun z => ⟨fun s' g => ?_, z⟩⟩
      by_cases w : s' = 0
      · rw [w]; exact in_0 hs
      · exact s2.2.1 s' (by omega) (by omega)
    rcases h_explains hC hs hL v2 (t := i + 1) (by omega) er.1 er.2 (by omega) (by omega) hF with ⟨x1, x2⟩ | ⟨x1, x2⟩
    · rw [x2, Option.bind_some, cb_n (by omega)]
      exact .inl ⟨iff.mpr x1, rfl⟩
    · rw [x2, Option.bind_some, cb_n (by omega)]
      exact .inr ⟨fun z => x1 (iff.mp z), rfl⟩
theorem h_clo {C N : Mem} {σ : Sg} (hC : StC C σ) (hs : okS σ) (hL : La N σ) {F : Nat} (hF : 10000 ≤ F) : ∀ (d i n : Nat) (NE : Mem), i + d = σ 56 → d < n → ∃ NE', f_X2_countLeftOut_9 F N C (fun NE_40 x2_40 => (some (x2_40, N, NE_40))) n NE (nI (cntP (LO σ) i)) (nI i) = some (nI (cntP (LO σ) (σ 56)), N, NE')
  | d, i, 0, NE, _, h => by omega
  | 0, i, n + 1, NE, hi, _ => by
    obtain rfl : i = σ 56 := by omega
    have h5 := kMv hs
    refine ⟨NE, ?_⟩
    rw [f_X2_countLeftOut_9, cMv hC, if_pos (nI_le (by omega) (by omega))]
  | d + 1, i, n + 1, NE, hi, hn => by
    have h5 := kMv hs
    obtain ⟨E1, h⟩ := h_expLeft (NE := NE) hC hs hL hF (i := i) (by omega)
    obtain ⟨NE', e⟩ := h_clo (F := F) hC hs hL hF d (i + 1) n E1 (by omega) (by omega)
    refine ⟨NE', ?_⟩
    rw [f_X2_countLeftOut_9, cMv hC, if_neg (nI_ge (by omega) (by omega))]
    rcases h with ⟨h1, h2⟩ | ⟨h1, h2⟩
    · rw [cntP_T h1] at e
      rw [h2, Option.bind_some, if_neg n10, nI_1, nI_1]
      exact e
    · rw [cntP_F h1] at e
      have z : nI (cntP (LO σ) i) + 0 = nI (cntP (LO σ) i) := Int32.add_zero _
      rw [h2, Option.bind_some, if_pos n00, nI_1, z]
      exact e
theorem g_clo {LM : MemL} {σ : Sg} (hs : okS σ) {F : Nat} (hF : 10000 ≤ F) : ∀ (d i n : Nat) (M : Mem), i + d = σ 56 → d < n → StM M σ → ∃ M', f_X10_leftOut_4 F LM (fun M_32 x1_32 => (some (x1_32, M_32))) n M (nI (cntP (LO σ) i)) (nI i) = some (nI (cntP (LO σ) (σ 56)), M') ∧ Pm M M'
  | d, i, 0, M, _, h, _ => by omega
  | 0, i, n + 1, M, hi, _, hM => by
    obtain rfl : i = σ 56 := by omega
    have h5 := kMv hs
    refine ⟨M, ?_, Pm_rfl M⟩
    rw [f_X10_leftOut_4, ck56, r56 hM, if_pos (nI_le (by omega) (by omega))]
  | d + 1, i, n + 1, M, hi, hn, hM => by
    have h5 := kMv hs
    obtain ⟨M1, p, h⟩ := g_isLeftOut (LM := LM) hM hs hF (i := i) (by omega)
    obtain ⟨M', e, p'⟩ := g_clo (LM := LM) hs hF d (i + 1) n M1 (by omega) (by omega) (StM_p hM p)
    refine ⟨M', ?_, Pm_tr p p'⟩
    rw [f_X10_leftOut_4, ck56, r56 hM, if_neg (nI_ge (by omega) (by omega))]
    rcases h with ⟨h1, h2⟩ | ⟨h1, h2⟩
    · rw [cntP_T h1] at e
      rw [h2, Option.bind_some, if_neg n10, nI_1, nI_1]
      exact e
    · rw [cntP_F h1] at e
      rw [h2, Option.bind_some, if_pos n00, nI_1]
      exact e
theorem m_leftOut {C M N NE X0 : Mem} {LM : MemL} {σ : Sg} (hC : StC C σ) (hM : StM M σ) (hs : okS σ) (hN : CaN N σ) {F : Nat} (hF : 10000 ≤ F) : ∃ v N' NE' M', f_X9_leftOut F X0 C N NE = some (v, N', NE') ∧ f_X10_leftOut F M LM = some (v, M') ∧ Pm M M' ∧ CaN N' σ := by
  have h5 := kMv hs
  obtain ⟨N', NE', a1, a2, a3, a4⟩ := h_layC (NE := NE) hC hs hF hN
  obtain ⟨NE2, c⟩ := h_clo (F := F) hC hs a2 hF (σ 56) 0 F NE' (by omega) (by omega)
  obtain ⟨M', g, p⟩ := g_clo (LM := LM) hs hF (σ 56) 0 F M (by omega) (by omega) hM
  have g' : f_X10_leftOut F M LM = some (nI (cntP (LO σ) (σ 56)), M') := g
  unfold f_X9_leftOut f_X2_countLeftOut
  rw [g', a1, Option.bind_some]
  have c' : f_X2_countLeftOut_9 F N' C (fun NE_40 x2_40 => (some (x2_40, N', NE_40))) F NE' 0 0 = some (nI (cntP (LO σ) (σ 56)), N', NE2) := c
  refine ⟨_, N', NE2, M', ?_, rfl, p, a3⟩
  show (f_X2_countLeftOut_9 F N' C (fun NE_40 x2_40 => (some (x2_40, N', NE_40))) F NE' 0 0).bind _ = _
  rw [c']
  rfl
theorem m_loAt {C N : Mem} {LM : MemL} {σ : Sg} (hC : StC C σ) (hs : okS σ) (hL : La N σ) {F : Nat} (hF : 10000 ≤ F) {w : Nat} (hw : w < 2147483648) : ∀ (d i n a : Nat) (NE M : Mem), i + d = σ 56 → d < n → a ≤ i → a ≤ w → StM M σ → ∃ v NE' M', f_X2_findLeftOut_10 F N C (nI w) (fun NE_34 x4_34 => (some (x4_34, N, NE_34))) (fun NE_46 => (some ((-2), N, NE_46))) n NE (nI a) (nI i) = some (v, N, NE') ∧ f_X10_leftOutAt_10 F LM (fun M_36 x3_36 => (some (x3_36, M_36))) (fun M_47 => (some ((-2), M_47))) n M (nI (w - a)) (nI i) = some (v, M') ∧ Pm M M'
  | d, i, 0, a, NE, M, _, h, _, _, _ => by omega
  | 0, i, n + 1, a, NE, M, hi, _, _, _, hM => by
    obtain rfl : i = σ 56 := by omega
    have h5 := kMv hs
    refine ⟨-2, NE, M, ?_, ?_, Pm_rfl M⟩
    · rw [f_X2_findLeftOut_10, cMv hC, if_pos (nI_le (by omega) (by omega))]
    · rw [f_X10_leftOutAt_10, ck56, r56 hM, if_pos (nI_le (by omega) (by omega))]
  | d + 1, i, n + 1, a, NE, M, hi, hn, ha, haw, hM => by
    have h5 := kMv hs
    obtain ⟨E1, h⟩ := h_expLeft (NE := NE) hC hs hL hF (i := i) (by omega)
    obtain ⟨M1, p, g⟩ := g_isLeftOut (LM := LM) hM hs hF (i := i) (by omega)
    rw [f_X2_findLeftOut_10, cMv hC, if_neg (nI_ge (by omega) (by omega)), f_X10_leftOutAt_10, ck56, r56 hM, if_neg (nI_ge (by omega) (by omega))]
    rcases h with ⟨h1, h2⟩ | ⟨h1, h2⟩
    · rcases g with ⟨g1, g2⟩ | ⟨g1, g2⟩
      · rw [h2, Option.bind_some, if_neg n10, g2, Option.bind_some, if_neg n10]
        by_cases e : a = w
        · subst e
          have z : nI (a - a) = 0 := by rw [Nat.sub_self]; rfl
          rw [if_pos rfl, if_pos z]
          exact ⟨_, _, _, rfl, rfl, p⟩
        · have ne1 : ¬ nI a = nI w := fun z => e ((nI_eq (by omega) (by omega)).mp z)
          have ne2 : ¬ nI (w - a) = 0 := nI_ne0 (by omega) (by omega)
          have dz : nI (w - a) + (-1 : Int32) = nI (w - (a + 1)) := by
            have e1 : nI (w - a) + (-1 : Int32) = nI (w - a) - 1 := (Int32.sub_eq_add_neg _ _).symm
            have e2 : w - (a + 1) = w - a - 1 := by omega
            rw [e1, e2]
            exact nI_sub' (b := 1) (by omega)
          rw [if_neg ne1, if_neg ne2, dz, nI_1, nI_1]
          obtain ⟨v, NE', M', e1, e2, p'⟩ := m_loAt (LM := LM) hC hs hL hF hw d (i + 1) n (a + 1) E1 M1 (by omega) (by omega) (by omega) (by omega) (StM_p hM p)
          exact ⟨v, NE', M', e1, e2, Pm_tr p p'⟩
      · exact absurd h1 g1
    · rcases g with ⟨g1, g2⟩ | ⟨g1, g2⟩
      · exact absurd g1 h1
      · rw [h2, Option.bind_some, if_pos n00, g2, Option.bind_some, if_pos n00, nI_1]
        obtain ⟨v, NE', M', e1, e2, p'⟩ := m_loAt (LM := LM) hC hs hL hF hw d (i + 1) n a E1 M1 (by omega) (by omega) (by omega) haw (StM_p hM p)
        exact ⟨v, NE', M', e1, e2, Pm_tr p p'⟩
theorem m_leftOutAt {C M N NE X0 : Mem} {LM : MemL} {σ : Sg} (hC : StC C σ) (hM : StM M σ) (hs : okS σ) (hN : CaN N σ) {F : Nat} (hF : 10000 ≤ F) (x1 : Int32) : ∃ v N' NE' M', f_X9_leftOutAt F X0 C N NE x1 = some (v, N', NE') ∧ f_X10_leftOutAt F M LM x1 = some (v, M') ∧ Pm M M' ∧ CaN N' σ := by
  have h5 := kMv hs
  obtain ⟨x, u1, u2, rfl⟩ := zI_of x1
  unfold f_X9_leftOutAt f_X10_leftOutAt f_X2_findLeftOut
  by_cases q : 0 ≤ x
  · obtain ⟨w, rfl⟩ := Int.eq_ofNat_of_zero_le q
    obtain ⟨N', NE', a1, a2, a3, a4⟩ := h_layC (NE := NE) hC hs hF hN
    obtain ⟨v, NE2, M', e1, e2, p⟩ := m_loAt (LM := LM) hC hs a2 hF (w := w) (by omega) (σ 56) 0 F 0 NE' M (by omega) (by omega) (by omega) (by omega) hM
    have z : (0 : Int32) ≤ nI w := nI_le (a := 0) (by omega) (by omega)
    simp only [zI_c]
    rw [if_pos z, if_pos z, a1, Option.bind_some]
    have e1' : f_X2_findLeftOut_10 F N' C (nI w) (fun NE_34 x4_34 => (some (x4_34, N', NE_34))) (fun NE_46 => (some ((-2), N', NE_46))) F NE' 0 0 = some (v, N', NE2) := e1
    have e2' : f_X10_leftOutAt_10 F LM (fun M_36 x3_36 => (some (x3_36, M_36))) (fun M_47 => (some ((-2), M_47))) F M (nI w) 0 = some (v, M') := e2
    rw [e2']
    refine ⟨v, N', NE2, M', ?_, rfl, p, a3⟩
    show (f_X2_findLeftOut_10 F N' C (nI w) (fun NE_34 x4_34 => (some (x4_34, N', NE_34))) (fun NE_46 => (some ((-2), N', NE_46))) F NE' 0 0).bind _ = _
    rw [e1']
    rfl
  · have e1 : ¬ (0 : Int32) ≤ zI x := by rw [l_0]; exact of_eq_false (by simp (disch := omega) only [l_0, l_1, l_2, l_3, l_4, l_5, l_6, l_7, l_8, l_9, l_10, l_12, l_20, l_24, l_25, l_31, l_32, l_48, l_50, l_56, l_57, l_59, l_97, l_99, l_100, l_120, l_122, l_177, l_178, l_201, l_226, l_255, l_400, l_420, l_600, l_700, l_840, l_1000, l_1300, l_2000, l_1000000, nI_add, mr4, ml4, mr5, ml5, mr6, ml6, mr10, ml10, mr24, ml24, mr201, ml201, mr420, ml420, mr226, ml226, mr2, ml2, nI_clamp, lt_T, lt_F, le_T, le_F, eq_T, eq_F, ck_n, dv_n, cp_n, rem_n, pk_div, at1_same, at1_ne, cb_n, Option.bind_some, if_pos, if_neg, ↓reduceIte, and_self, and_true, true_and, and_false, false_and, not_true_eq_false, not_false_eq_true, nI_sub', zz_add, zz_sub, zz_mul, zn_add, nz_add, zn_sub, nz_sub, zn_mul, nz_mul, z_neg, n_neg, zlt_T, zlt_F, zle_T, zle_F, zeq_T, zeq_F, zn_lt, nz_lt, zn_le, nz_le, zn_eq, nz_eq])
    rw [if_neg e1, if_neg e1]
    exact ⟨_, _, _, _, rfl, rfl, Pm_rfl M, hN⟩
