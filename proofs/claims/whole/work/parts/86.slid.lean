/-! PURE LAYER: all slides, in order: class and reference -/
theorem sl_T {σ : Sg} {q : Nat} (h : slP σ q) : slN σ (q + 1) = slN σ q + 1 ∧ ∀ i, slF σ (q + 1) i = if i = slN σ q then q else slF σ q i := by
  constructor
  · show slN σ q + (@ite _ (slP σ q) (Classical.propDecidable _) 1 0) = _
    rw [if_pos h]
  · intro i
    show (@ite _ (slP σ q) (Classical.propDecidable _) (fun i => if i = slN σ q then q else slF σ q i) (slF σ q)) i = _
    rw [if_pos h]
theorem sl_F {σ : Sg} {q : Nat} (h : ¬ slP σ q) : slN σ (q + 1) = slN σ q ∧ slF σ (q + 1) = slF σ q := by
  constructor
  · show slN σ q + (@ite _ (slP σ q) (Classical.propDecidable _) 1 0) = _
    rw [if_neg h, Nat.add_zero]
  · show @ite _ (slP σ q) (Classical.propDecidable _) (fun i => if i = slN σ q then q else slF σ q i) (slF σ q) = _
    rw [if_neg h]
theorem sl_skip {σ : Sg} {q : Nat} : ∀ d, (∀ p, q ≤ p → p < q + d → ¬ slP σ p) → slN σ (q + d) = slN σ q ∧ slF σ (q + d) = slF σ q
  | 0, _ => ⟨rfl, rfl⟩
  | d + 1, h => by
    obtain ⟨a, b⟩ := sl_skip (σ := σ) (q := q) d (fun p h1 h2 => h p h1 (by omega))
    obtain ⟨c, e⟩ := sl_F (h (q + d) (by omega) (by omega))
    exact ⟨c.trans a, e.trans b⟩
theorem sl_len {σ : Sg} (h0 : σ 0 ≤ 6) : ∀ q, slN σ q ≤ 10 * (q / 12) + (if q % 12 = 0 then 0 else q % 12 - 1)
  | 0 => Nat.le_refl _
  | q + 1 => by
    have ih := sl_len h0 q
    by_cases h : slP σ q
    · rw [(sl_T h).1]
      obtain ⟨p1, p2, p3, p4, p5, -⟩ := h
      by_cases e1 : q % 12 = 0
      · omega
      · rw [if_neg e1] at ih
        by_cases e2 : (q + 1) % 12 = 0
        · omega
        · rw [if_neg e2]
          omega
    · rw [(sl_F h).1]
      by_cases e1 : q % 12 = 0
      · rw [if_pos e1] at ih
        rw [if_neg (by omega)]
        omega
      · rw [if_neg e1] at ih
        by_cases e2 : (q + 1) % 12 = 0
        · rw [if_pos e2]
          omega
        · rw [if_neg e2]
          omega
theorem sl_lt {σ : Sg} (h0 : σ 0 ≤ 6) {q : Nat} (h : slP σ q) (hq : q < 1200) : slN σ q < 1000 := by
  have := sl_len h0 q
  obtain ⟨p1, p2, p3, p4, p5, -⟩ := h
  by_cases e1 : q % 12 = 0
  · rw [if_pos e1] at this; omega
  · rw [if_neg e1] at this; omega
theorem sl_le {σ : Sg} (h0 : σ 0 ≤ 6) {q : Nat} (hq : q ≤ 1200) : slN σ q ≤ 1000 := by
  have := sl_len h0 q
  by_cases e1 : q % 12 = 0
  · rw [if_pos e1] at this; omega
  · rw [if_neg e1] at this; omega
theorem sl_b {σ : Sg} : ∀ q i, i < slN σ q → slF σ q i < q ∧ slP σ (slF σ q i)
  | 0, i, h => absurd h (Nat.not_lt_zero _)
  | q + 1, i, h => by
    by_cases g : slP σ q
    · obtain ⟨a, b⟩ := sl_T g
      rw [a] at h
      rw [b i]
      by_cases e : i = slN σ q
      · rw [if_pos e]; exact ⟨by omega, g⟩
      · rw [if_neg e]
        have := sl_b (σ := σ) q i (by omega)
        exact ⟨by omega, this.2⟩
    · obtain ⟨a, b⟩ := sl_F g
      rw [a] at h
      rw [b]
      have := sl_b (σ := σ) q i h
      exact ⟨by omega, this.2⟩
/-! the class -/
def SoA (N : Mem) (σ : Sg) (q : Nat) : Prop := N 0 11 = nI (slN σ q) ∧ ∀ i, i < slN σ q → N 6 i = nI (slF σ q i)
def KN (N0 N : Mem) : Prop := (∀ c, c ≠ 0 → c ≠ 6 → N c = N0 c) ∧ ∀ j, j ≠ 11 → N 0 j = N0 0 j
theorem KN_rfl (N : Mem) : KN N N := ⟨fun _ _ _ => rfl, fun _ _ => rfl⟩
theorem KN_tr {N0 N1 N2 : Mem} (h : KN N0 N1) (g : KN N1 N2) : KN N0 N2 := ⟨fun c h0 h6 => (g.1 c h0 h6).trans (h.1 c h0 h6), fun j hj => (g.2 j hj).trans (h.2 j hj)⟩
theorem La_K {N0 N : Mem} {σ : Sg} (k : KN N0 N) (h : La N0 σ) : La N σ := by
  obtain ⟨h1, h2, ⟨s, h3, h4⟩, h5⟩ := h
  refine ⟨fun t ht j hj => by rw [k.1 1 (by decide) (by decide)]; exact h1 t ht j hj, fun t g1 g2 => ?_, ⟨s, by rw [k.2 10 (by decide)]; exact h3, h4⟩, fun i hi => by rw [k.1 5 (by decide) (by decide)]; exact h5 i hi⟩
  rw [k.1 2 (by decide) (by decide), k.1 3 (by decide) (by decide), k.1 4 (by decide) (by decide)]
  exact h2 t g1 g2
theorem SoA_skip {N : Mem} {σ : Sg} {q d : Nat} (h : SoA N σ q) (hn : ∀ p, q ≤ p → p < q + d → ¬ slP σ p) : SoA N σ (q + d) := by
  obtain ⟨a, b⟩ := sl_skip d hn
  unfold SoA
  rw [a, b]
  exact h
theorem slP_iff {σ : Sg} {t r c up to : Nat} (ht : t ≤ σ 56) (hr : r < σ 1) (h1 : σ 1 ≤ 4) (hc : c < σ 0) (h0 : σ 0 ≤ 6) (hu : (up = 0 ∧ to + 1 = c) ∨ (up = 1 ∧ to = c + 1)) (hto : to < σ 0) : slP σ (48 * t + 12 * r + 2 * c + up) ↔ Ex σ t t (6 * r + c) (6 * r + to) (-1) 1 := by
  have e1 : (48 * t + 12 * r + 2 * c + up) / 48 = t := by omega
  have e2 : (48 * t + 12 * r + 2 * c + up) / 2 % 24 = 6 * r + c := by omega
  have e3 : (48 * t + 12 * r + 2 * c + up) % 2 = up := by omega
  have e4 : slB (48 * t + 12 * r + 2 * c + up) = 6 * r + to := by
    unfold slB
    rw [e2, e3]
    by_cases q : up = 1
    · rw [if_pos q]; omega
    · rw [if_neg q]; omega
  unfold slP
  rw [e1, e2, e3, e4]
  constructor
  · intro h; exact h.2.2.2.2.2
  · intro h; exact ⟨ht, by omega, by omega, by omega, by omega, h⟩
theorem slP_no {σ : Sg} {t r c up : Nat} (hr : r < 4) (hc : c < 6) (hu : up < 2) (h : (up = 0 ∧ c = 0) ∨ (up = 1 ∧ σ 0 ≤ c + 1) ∨ σ 1 ≤ r ∨ σ 0 ≤ c) : ¬ slP σ (48 * t + 12 * r + 2 * c + up) := by
  have e2 : (48 * t + 12 * r + 2 * c + up) / 2 % 24 = 6 * r + c := by omega
  have e3 : (48 * t + 12 * r + 2 * c + up) % 2 = up := by omega
  intro z
  obtain ⟨z1, z2, z3, z4, z5, -⟩ := z
  rw [e2] at z2 z3 z4 z5
  rw [e3] at z4 z5
  omega
theorem h_try {C N NE : Mem} {σ : Sg} (hC : StC C σ) (hs : okS σ) (hL : La N σ) {s t r c : Nat} {up : Nat} (hsd : N 0 10 = nI s ∧ Snd σ s) (ht : t ≤ s) (hr : r < σ 1) (hc : c < σ 0) (hu : up < 2) {F : Nat} (hF : 10000 ≤ F) (hT : Int32) (hv : (hT = nI 1 ∧ ((up = 0 ∧ 1 ≤ c) ∨ (up = 1 ∧ c + 1 < σ 0))) ∨ (hT = nI 0 ∧ ((up = 0 ∧ c = 0) ∨ (up = 1 ∧ σ 0 ≤ c + 1)))) (hq : SoA N σ (48 * t + 12 * r + 2 * c + up)) : ∃ N' NE', f_X2_trySlide F N NE C (nI t) (nI (6 * r + c)) (nI up) hT = some (N', NE') ∧ SoA N' σ (48 * t + 12 * r + 2 * c + up + 1) ∧ KN N N' := by
  have h0 := kC hs
  have h1 := kR hs
  have h5 := kMv hs
  have hts : t ≤ σ 56 := by have := hsd.2.1; omega
  unfold f_X2_trySlide
  rcases hv with ⟨v1, v2⟩ | ⟨v1, v2⟩
  · obtain ⟨to, hto, hu2⟩ : ∃ to, to < σ 0 ∧ ((up = 0 ∧ to + 1 = c) ∨ (up = 1 ∧ to = c + 1)) := by
      rcases v2 with ⟨a, b⟩ | ⟨a, b⟩
      · exact ⟨c - 1, by omega, .inl ⟨a, by omega⟩⟩
      · exact ⟨c + 1, by omega, .inr ⟨a, rfl⟩⟩
    have iff := slP_iff hts hr h1 hc h0 hu2 hto
    have iff2 : Ex σ t t (6 * r + c) (6 * r + to) (-1) 1 ↔ (exB σ t (6 * r + c) (6 * r + to) (-1) 1 ∧ exK σ t (6 * r + c) (6 * r + to) (-1) 1) := by
      rw [exB_iff hts]
      unfold Ex exK
      refine ⟨fun z => z.2, fun z => ⟨fun s' g => ?_, z⟩⟩
      by_cases w : s' = 0
      · rw [w]; exact in_0 hs
      · exact hsd.2.2.1 s' (by omega) (by omega)
    obtain ⟨E', t1, t2⟩ := h_tellSlide (E := NE) (A := 6 * r + c) (B := 6 * r + to) (nI up) (hu2.imp (fun z => ⟨by rw [z.1]; rfl, by have := z.2; omega⟩) (fun z => ⟨by rw [z.1]; exact n10, by have := z.2; omega⟩)) F
    have nl := sl_le h0 (q := 48 * t + 12 * r + 2 * c + up) (by omega)
    rw [v1, if_neg n10, hq.1]
    rcases h_explains hC hs hL t2 hts (by omega) (by omega) (by omega) (by omega) hF with ⟨x1, x2⟩ | ⟨x1, x2⟩
    · have P := iff.mpr (iff2.mpr x1)
      have lt := sl_lt h0 P (by omega)
      have ll : nI (slN σ (48 * t + 12 * r + 2 * c + up)) < 1000 := nI_lt (b := 1000) lt (by decide)
      obtain ⟨sT1, sT2⟩ := sl_T P
      have fin : SoA (mr (mr N 6 (upd (N 6) (slN σ (48 * t + 12 * r + 2 * c + up)) (nI (48 * t + 12 * r + 2 * c + up)))) 0 (fu (N 0) 11 (nI (slN σ (48 * t + 12 * r + 2 * c + up) + 1)))) σ (48 * t + 12 * r + 2 * c + up + 1) := by
        refine ⟨by rw [mr_s, fu_s, sT1], fun i hi => ?_⟩
        rw [sT1] at hi
        rw [mr_n _ _ (by decide), mr_s, upd_at, sT2 i]
        by_cases e : i = slN σ (48 * t + 12 * r + 2 * c + up)
        · rw [if_pos e, if_pos e]
        · rw [if_neg e, if_neg e]
          exact hq.2 i (by omega)
      have kn : KN N (mr (mr N 6 (upd (N 6) (slN σ (48 * t + 12 * r + 2 * c + up)) (nI (48 * t + 12 * r + 2 * c + up)))) 0 (fu (N 0) 11 (nI (slN σ (48 * t + 12 * r + 2 * c + up) + 1)))) := ⟨fun c h0 h6 => by rw [mr_n _ _ h0, mr_n _ _ h6], fun j hj => by rw [mr_s, fu_n _ _ hj]⟩
      refine ⟨_, E', ?_, fin, kn⟩
      rw [if_pos ll, t1, Option.bind_some, x2, Option.bind_some, if_neg n10]
      unfold f_X2_trySlide_61
      rcases hu2 with ⟨a, b⟩ | ⟨a, b⟩
      · have ev : (nI t * 24 + nI (6 * r + c)) * 2 + 0 = nI (48 * t + 12 * r + 2 * c + up) := by
          rw [l_24, mr24, nI_add, l_2, mr2, l_0, nI_add]
          congr 1
          omega
        rw [if_pos (by rw [a]; rfl), ev, ck_n lt (by decide), nI_clamp (by omega), hq.1, nI_1]
      · have ev : (nI t * 24 + nI (6 * r + c)) * 2 + 1 = nI (48 * t + 12 * r + 2 * c + up) := by
          rw [l_24, mr24, nI_add, l_2, mr2, l_1, nI_add]
          congr 1
          omega
        rw [if_neg (by rw [a]; exact n10), ev, ck_n lt (by decide), nI_clamp (by omega), hq.1, nI_1]
    · have P : ¬ slP σ (48 * t + 12 * r + 2 * c + up) := fun z => x1 (iff2.mp (iff.mp z))
      have so : SoA N σ (48 * t + 12 * r + 2 * c + up + 1) := SoA_skip (d := 1) hq (fun p g1 g2 => by
        have : p = 48 * t + 12 * r + 2 * c + up := by omega
        rw [this]; exact P)
      by_cases ll : nI (slN σ (48 * t + 12 * r + 2 * c + up)) < 1000
      · refine ⟨N, E', ?_, so, KN_rfl N⟩
        rw [if_pos ll, t1, Option.bind_some, x2, Option.bind_some, if_pos n00]
      · refine ⟨N, NE, ?_, so, KN_rfl N⟩
        rw [if_neg ll]
  · refine ⟨N, NE, ?_, ?_, KN_rfl N⟩
    · rw [v1, if_pos n00]
    · exact SoA_skip (d := 1) hq (fun p g1 g2 => by
        have e : p = 48 * t + 12 * r + 2 * c + up := by omega
        rw [e]
        exact slP_no (by omega) (by omega) hu (by omega))
theorem h_fs46 {C N0 : Mem} {σ : Sg} (hC : StC C σ) (hs : okS σ) (hL : La N0 σ) {s t r : Nat} (hsd : N0 0 10 = nI s ∧ Snd σ s) (ht : t ≤ s) (hr : r < σ 1) {F : Nat} (hF : 10000 ≤ F) (k : Mem → Mem → Option (Mem × Mem)) : ∀ (d c n : Nat) (N NE : Mem), c + d = σ 0 → d < n → KN N0 N → SoA N σ (48 * t + 12 * r + 2 * c) → ∃ N' NE', f_X2_findSlides_46 F C (nI t) (nI r) k n N NE (nI c) = k N' NE' ∧ KN N0 N' ∧ SoA N' σ (48 * t + 12 * r + 12)
  | d, c, 0, N, NE, _, h, _, _ => by omega
  | 0, c, n + 1, N, NE, hc, _, hK, hq => by
    obtain rfl : c = σ 0 := by omega
    have h0 := kC hs
    have h1 := kR hs
    refine ⟨N, NE, ?_, hK, ?_⟩
    · rw [f_X2_findSlides_46, cC hC, if_pos (nI_le (by omega) (by omega))]
    · have := SoA_skip (d := 12 - 2 * σ 0) hq (fun p g1 g2 => by
        obtain ⟨c, up, e, hc, hu, hc2⟩ : ∃ c up, p = 48 * t + 12 * r + 2 * c + up ∧ c < 6 ∧ up < 2 ∧ σ 0 ≤ c := ⟨(p - (48 * t + 12 * r)) / 2, (p - (48 * t + 12 * r)) % 2, by omega, by omega, by omega, by omega⟩
        rw [e]
        exact slP_no (by omega) hc hu (by omega))
      have e : 48 * t + 12 * r + 2 * σ 0 + (12 - 2 * σ 0) = 48 * t + 12 * r + 12 := by omega
      rw [e] at this
      exact this
  | d + 1, c, n + 1, N, NE, hc, hn, hK, hq => by
    have h0 := kC hs
    have h1 := kR hs
    have hL1 := La_K hK hL
    obtain ⟨N1, NE1, a1, a2, a3⟩ := h_try (NE := NE) (up := 0) hC hs hL1 (s := s) (t := t) (r := r) (c := c) ⟨by rw [hK.2 10 (by decide)]; exact hsd.1, hsd.2⟩ ht hr (by omega) (by omega) hF (if c = 0 then nI 0 else nI 1) (by
      by_cases e : c = 0
      · rw [if_pos e]; exact .inr ⟨rfl, .inl ⟨rfl, e⟩⟩
      · rw [if_neg e]; exact .inl ⟨rfl, .inl ⟨rfl, by omega⟩⟩) hq
    have hK1 := KN_tr hK a3
    obtain ⟨N2, NE2, b1, b2, b3⟩ := h_try (NE := NE1) (up := 1) hC hs (La_K hK1 hL) (s := s) (t := t) (r := r) (c := c) ⟨by rw [hK1.2 10 (by decide)]; exact hsd.1, hsd.2⟩ ht hr (by omega) (by omega) hF (if σ 0 ≤ c + 1 then nI 0 else nI 1) (by
      by_cases e : σ 0 ≤ c + 1
      · rw [if_pos e]; exact .inr ⟨rfl, .inr ⟨rfl, e⟩⟩
      · rw [if_neg e]; exact .inl ⟨rfl, .inr ⟨rfl, by omega⟩⟩) a2
    obtain ⟨N', NE', e1, e2, e3⟩ := h_fs46 (F := F) hC hs hL hsd ht hr hF k d (c + 1) n N2 NE2 (by omega) (by omega) (KN_tr hK1 b3) (by
      have e : 48 * t + 12 * r + 2 * (c + 1) = 48 * t + 12 * r + 2 * c + 1 + 1 := by omega
      rw [e]; exact b2)
    refine ⟨N', NE', ?_, e2, e3⟩
    have cl : nI r * 6 + nI c = nI (6 * r + c) := cell_nI r c
    have c1 : nI c + 1 = nI (c + 1) := nI_1 c
    rw [f_X2_findSlides_46, cC hC, if_neg (nI_ge (by omega) (by omega))]
    unfold f_X2_findSlides_76 f_X2_findSlides_106
    rw [cl, cC hC, c1, ← e1]
    have b1' : ∀ g : Mem × Mem → Option (Mem × Mem), (f_X2_trySlide F N1 NE1 C (nI t) (nI (6 * r + c)) 1 (if σ 0 ≤ c + 1 then nI 0 else nI 1)).bind g = g (N2, NE2) := fun g => by
      rw [show f_X2_trySlide F N1 NE1 C (nI t) (nI (6 * r + c)) 1 (if σ 0 ≤ c + 1 then nI 0 else nI 1) = some (N2, NE2) from b1]
      rfl
    have second : (if nI (σ 0) ≤ nI (c + 1) then (f_X2_trySlide F N1 NE1 C (nI t) (nI (6 * r + c)) 1 0).bind (fun z106 => f_X2_findSlides_46 F C (nI t) (nI r) k n z106.1 z106.2 (nI (c + 1))) else (f_X2_trySlide F N1 NE1 C (nI t) (nI (6 * r + c)) 1 1).bind (fun z106 => f_X2_findSlides_46 F C (nI t) (nI r) k n z106.1 z106.2 (nI (c + 1)))) = f_X2_findSlides_46 F C (nI t) (nI r) k n N2 NE2 (nI (c + 1)) := by
      have b := b1' (fun z106 => f_X2_findSlides_46 F C (nI t) (nI r) k n z106.1 z106.2 (nI (c + 1)))
      by_cases e : σ 0 ≤ c + 1
      · rw [if_pos e] at b
        rw [if_pos (nI_le e (by omega))]
        exact b
      · rw [if_neg e] at b
        rw [if_neg (nI_ge (by omega) (by omega))]
        exact b
    have first : ∀ x : Int32, x = (if c = 0 then nI 0 else nI 1) → (f_X2_trySlide F N NE C (nI t) (nI (6 * r + c)) 0 x).bind (fun z76 => (if nI (σ 0) ≤ nI (c + 1) then (f_X2_trySlide F z76.1 z76.2 C (nI t) (nI (6 * r + c)) 1 0).bind (fun z106 => f_X2_findSlides_46 F C (nI t) (nI r) k n z106.1 z106.2 (nI (c + 1))) else (f_X2_trySlide F z76.1 z76.2 C (nI t) (nI (6 * r + c)) 1 1).bind (fun z106 => f_X2_findSlides_46 F C (nI t) (nI r) k n z106.1 z106.2 (nI (c + 1))))) = f_X2_findSlides_46 F C (nI t) (nI r) k n N2 NE2 (nI (c + 1)) := fun x hx => by
      rw [hx, show f_X2_trySlide F N NE C (nI t) (nI (6 * r + c)) 0 (if c = 0 then nI 0 else nI 1) = some (N1, NE1) from a1, Option.bind_some]
      exact second
    by_cases e : c = 0
    · have z : nI c ≤ 0 := by rw [e]; decide
      rw [if_pos z]
      exact first 0 (by rw [if_pos e]; rfl)
    · have z : ¬ nI c ≤ 0 := nI_ge (a := 0) (b := c) (by omega) (by omega)
      rw [if_neg z]
      exact first 1 (by rw [if_neg e]; rfl)
theorem h_fs35 {C N0 : Mem} {σ : Sg} (hC : StC C σ) (hs : okS σ) (hL : La N0 σ) {s t : Nat} (hsd : N0 0 10 = nI s ∧ Snd σ s) (ht : t ≤ s) {F : Nat} (hF : 10000 ≤ F) (k : Mem → Mem → Option (Mem × Mem)) : ∀ (d r n : Nat) (N NE : Mem), r + d = σ 1 → d < n → KN N0 N → SoA N σ (48 * t + 12 * r) → ∃ N' NE', f_X2_findSlides_35 F C (nI t) k n N NE (nI r) = k N' NE' ∧ KN N0 N' ∧ SoA N' σ (48 * (t + 1))
  | d, r, 0, N, NE, _, h, _, _ => by omega
  | 0, r, n + 1, N, NE, hr, _, hK, hq => by
    obtain rfl : r = σ 1 := by omega
    have h1 := kR hs
    refine ⟨N, NE, ?_, hK, ?_⟩
    · rw [f_X2_findSlides_35, cR hC, if_pos (nI_le (by omega) (by omega))]
    · have := SoA_skip (d := 48 - 12 * σ 1) hq (fun p g1 g2 => by
        obtain ⟨r, c, up, e, hr, hc, hu, hc2⟩ : ∃ r c up, p = 48 * t + 12 * r + 2 * c + up ∧ r < 4 ∧ c < 6 ∧ up < 2 ∧ σ 1 ≤ r := ⟨(p - 48 * t) / 12, (p - 48 * t) % 12 / 2, (p - 48 * t) % 2, by omega, by omega, by omega, by omega, by omega⟩
        rw [e]
        exact slP_no hr hc hu (by omega))
      have e : 48 * t + 12 * σ 1 + (48 - 12 * σ 1) = 48 * (t + 1) := by omega
      rw [e] at this
      exact this
  | d + 1, r, n + 1, N, NE, hr, hn, hK, hq => by
    have h0 := kC hs
    have h1 := kR hs
    obtain ⟨N1, NE1, a1, a2, a3⟩ := h_fs46 (F := F) (C := C) (N0 := N) (r := r) hC hs (La_K hK hL) (s := s) (t := t) ⟨by rw [hK.2 10 (by decide)]; exact hsd.1, hsd.2⟩ ht (by omega) hF (fun N_115 NE_115 => f_X2_findSlides_35 F C (nI t) k n N_115 NE_115 (nI (r + 1))) (σ 0) 0 F N NE (by omega) (by omega) (KN_rfl N) hq
    obtain ⟨N', NE', e1, e2, e3⟩ := h_fs35 (F := F) hC hs hL hsd ht hF k d (r + 1) n N1 NE1 (by omega) (by omega) (KN_tr hK a2) (by
      have e : 48 * t + 12 * (r + 1) = 48 * t + 12 * r + 12 := by omega
      rw [e]; exact a3)
    refine ⟨N', NE', ?_, e2, e3⟩
    have c1 : nI r + 1 = nI (r + 1) := nI_1 r
    rw [f_X2_findSlides_35, cR hC, if_neg (nI_ge (by omega) (by omega)), c1, ← e1]
    exact a1
theorem h_fs25 {C N0 : Mem} {σ : Sg} (hC : StC C σ) (hs : okS σ) (hL : La N0 σ) {s : Nat} (hsd : N0 0 10 = nI s ∧ Snd σ s) {F : Nat} (hF : 10000 ≤ F) (k : Mem → Mem → Option (Mem × Mem)) : ∀ (d t n : Nat) (N NE : Mem), t + d = s + 1 → d < n → KN N0 N → SoA N σ (48 * t) → ∃ N' NE', f_X2_findSlides_25 F C k n N NE (nI t) = k N' NE' ∧ KN N0 N' ∧ SoA N' σ (48 * (σ 56 + 1))
  | d, t, 0, N, NE, _, h, _, _ => by omega
  | 0, t, n + 1, N, NE, ht, _, hK, hq => by
    obtain rfl : t = s + 1 := by omega
    have h5 := kMv hs
    have hs1 := hsd.2.1
    have e10 : N 0 10 = nI s := by rw [hK.2 10 (by decide)]; exact hsd.1
    refine ⟨N, NE, ?_, hK, ?_⟩
    · rw [f_X2_findSlides_25, e10, if_pos (nI_lt (by omega) (by omega))]
    · have := SoA_skip (d := 48 * (σ 56 - s)) hq (fun p g1 g2 z => by
        rcases hsd.2.2.2 with w | w
        · omega
        · exact w (z.2.2.2.2.2.1 (s + 1) (by omega)))
      have e : 48 * (s + 1) + 48 * (σ 56 - s) = 48 * (σ 56 + 1) := by omega
      rw [e] at this
      exact this
  | d + 1, t, n + 1, N, NE, ht, hn, hK, hq => by
    have h1 := kR hs
    have h5 := kMv hs
    have hs1 := hsd.2.1
    have e10 : N 0 10 = nI s := by rw [hK.2 10 (by decide)]; exact hsd.1
    obtain ⟨N1, NE1, a1, a2, a3⟩ := h_fs35 (F := F) (C := C) (N0 := N) hC hs (La_K hK hL) (s := s) (t := t) ⟨e10, hsd.2⟩ (by omega) hF (fun N_121 NE_121 => f_X2_findSlides_25 F C k n N_121 NE_121 (nI (t + 1))) (σ 1) 0 F N NE (by omega) (by omega) (KN_rfl N) hq
    obtain ⟨N', NE', e1, e2, e3⟩ := h_fs25 (F := F) hC hs hL hsd hF k d (t + 1) n N1 NE1 (by omega) (by omega) (KN_tr hK a2) a3
    refine ⟨N', NE', ?_, e2, e3⟩
    have c1 : nI t + 1 = nI (t + 1) := nI_1 t
    rw [f_X2_findSlides_25, e10, if_neg (nI_nlt (by omega) (by omega)), c1, ← e1]
    exact a1
theorem h_findSlides {C N NE : Mem} {σ : Sg} (hC : StC C σ) (hs : okS σ) (hN : CaN N σ) {F : Nat} (hF : 10000 ≤ F) : ∃ N' NE', f_X2_findSlides F N NE C = some (N', NE') ∧ La N' σ ∧ So N' σ ∧ CaN N' σ := by
  have h5 := kMv hs
  obtain ⟨N1, NE1, a1, a2, a3, a4⟩ := h_layC (NE := NE) hC hs hF hN
  unfold f_X2_findSlides
  rw [a1, Option.bind_some]
  dsimp only
  rcases a3 with ⟨b1, b2⟩ | ⟨b1, b2, b3⟩
  · rw [a4] at b1
    exact absurd b1 (by decide)
  · rcases b3 with b3 | ⟨b3, b4⟩
    · obtain ⟨s, s1, s2⟩ := a2.2.2.1
      have hs1 := s2.1
      have kk : KN N1 (mr N1 0 (fu (fu (N1 0) 13 1) 11 0)) ∨ True := .inr trivial
      have laid : La (mr N1 0 (fu (fu (N1 0) 13 1) 11 0)) σ := by
        obtain ⟨l1, l2, l3, l4⟩ := a2
        refine ⟨fun t ht j hj => by rw [mr_n _ _ (by decide)]; exact l1 t ht j hj, fun t g1 g2 => ?_, ⟨s, by rw [mr_s, fu_n _ _ (by decide), fu_n _ _ (by decide)]; exact s1, s2⟩, fun i hi => by rw [mr_n _ _ (by decide)]; exact l4 i hi⟩
        rw [mr_n _ _ (by decide), mr_n _ _ (by decide), mr_n _ _ (by decide)]
        exact l2 t g1 g2
      obtain ⟨N', NE', e1, e2, e3⟩ := h_fs25 (F := F) (C := C) (N0 := mr N1 0 (fu (fu (N1 0) 13 1) 11 0)) hC hs laid (s := s) ⟨by rw [mr_s, fu_n _ _ (by decide), fu_n _ _ (by decide)]; exact s1, s2⟩ hF (fun N_127 NE_127 => (some (N_127, NE_127))) (s + 1) 0 F (mr N1 0 (fu (fu (N1 0) 13 1) 11 0)) NE1 (by omega) (by omega) (KN_rfl _) ⟨by rw [mr_s, fu_s]; rfl, fun i hi => absurd hi (Nat.not_lt_zero _)⟩
      have L' := La_K e2 laid
      have S' : So N' σ := e3
      refine ⟨N', NE', ?_, L', S', .inr ⟨?_, L', .inr ⟨?_, S'⟩⟩⟩
      · rw [if_pos (b3.trans n00)]
        exact e1
      · rw [e2.2 12 (by decide), mr_s, fu_n _ _ (by decide), fu_n _ _ (by decide)]; exact b1
      · rw [e2.2 13 (by decide), mr_s, fu_n _ _ (by decide), fu_s]; rfl
    · refine ⟨N1, NE1, ?_, a2, b4, .inr ⟨b1, b2, .inr ⟨b3, b4⟩⟩⟩
      rw [if_neg (by rw [b3]; exact n10)]
