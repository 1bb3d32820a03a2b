/-! PURE LAYER: the fewest counters that are worth a sum: greedy from above, against the table -/
def tkT (σ : Sg) (h : Nat → Nat) : Nat → Nat → Nat → Nat
  | 0, c, v => min v (h c)
  | d + 1, c, v => uR σ c * tkT σ h d (c + 1) (v / uR σ c) + min (v - uR σ c * tkT σ h d (c + 1) (v / uR σ c)) (h c)
def tkN (σ : Sg) (h : Nat → Nat) : Nat → Nat → Nat → Nat
  | 0, c, v => min v (h c)
  | d + 1, c, v => tkN σ h d (c + 1) (v / uR σ c) + min (v - uR σ c * tkT σ h d (c + 1) (v / uR σ c)) (h c)
def tkP (σ : Sg) (h : Nat → Nat) : Nat → Nat → Nat → Nat → Nat
  | 0, c, v, _ => min v (h c)
  | d + 1, c, v, j => if j = c then min (v - uR σ c * tkT σ h d (c + 1) (v / uR σ c)) (h c) else tkP σ h d (c + 1) (v / uR σ c) j
theorem tk_ul {σ : Sg} {h : Nat → Nat} {c v T : Nat} (hT : T ≤ v / uR σ c) : uR σ c * T ≤ v := Nat.le_trans (Nat.mul_le_mul_left _ hT) (Nat.mul_div_le v _)
theorem tkT_le (σ : Sg) (h : Nat → Nat) : ∀ d c v, tkT σ h d c v ≤ v
  | 0, c, v => Nat.min_le_left _ _
  | d + 1, c, v => by
    have a := tk_ul (σ := σ) (h := h) (tkT_le σ h d (c + 1) (v / uR σ c))
    have b := Nat.min_le_left (v - uR σ c * tkT σ h d (c + 1) (v / uR σ c)) (h c)
    show uR σ c * tkT σ h d (c + 1) (v / uR σ c) + min (v - uR σ c * tkT σ h d (c + 1) (v / uR σ c)) (h c) ≤ v
    omega
theorem tk_max {σ : Sg} {h : Nat → Nat} (hs : okS σ) : ∀ d c, c + d + 1 = σ 0 → (∀ v w, w ≤ v → tkT σ h d c w = w → w ≤ tkT σ h d c v) ∧ ∀ v, tkT σ h d c (tkT σ h d c v) = tkT σ h d c v
  | 0, c, _ => by
    refine ⟨fun v w h1 h2 => ?_, fun v => ?_⟩
    · have h2' : min w (h c) = w := h2
      show w ≤ min v (h c)
      omega
    · show min (min v (h c)) (h c) = min v (h c)
      omega
  | d + 1, c, hc => by
    obtain ⟨ih1, ih2⟩ := tk_max (h := h) hs d (c + 1) (by omega)
    obtain ⟨u1, u2⟩ := uR_b hs (c := c) (by omega)
    refine ⟨fun v w h1 h2 => ?_, fun v => ?_⟩
    · have h2' : uR σ c * tkT σ h d (c + 1) (w / uR σ c) + min (w - uR σ c * tkT σ h d (c + 1) (w / uR σ c)) (h c) = w := h2
      have a := ih1 (v / uR σ c) (tkT σ h d (c + 1) (w / uR σ c)) (Nat.le_trans (tkT_le σ h d (c + 1) _) (Nat.div_le_div_right h1)) (ih2 _)
      have b := Nat.mul_le_mul_left (uR σ c) a
      have e := tk_ul (σ := σ) (h := h) (tkT_le σ h d (c + 1) (v / uR σ c))
      show w ≤ uR σ c * tkT σ h d (c + 1) (v / uR σ c) + min (v - uR σ c * tkT σ h d (c + 1) (v / uR σ c)) (h c)
      omega
    · have e := tk_ul (σ := σ) (h := h) (tkT_le σ h d (c + 1) (v / uR σ c))
      have le := tkT_le σ h (d + 1) c v
      have eV : tkT σ h (d + 1) c v = uR σ c * tkT σ h d (c + 1) (v / uR σ c) + min (v - uR σ c * tkT σ h d (c + 1) (v / uR σ c)) (h c) := rfl
      have eT : tkT σ h d (c + 1) (tkT σ h (d + 1) c v / uR σ c) = tkT σ h d (c + 1) (v / uR σ c) := by
        apply Nat.le_antisymm
        · exact ih1 _ _ (Nat.le_trans (tkT_le σ h d (c + 1) _) (Nat.div_le_div_right le)) (ih2 _)
        · refine ih1 _ _ ?_ (ih2 _)
          rw [Nat.le_div_iff_mul_le (by omega), Nat.mul_comm]
          omega
      show uR σ c * tkT σ h d (c + 1) (tkT σ h (d + 1) c v / uR σ c) + min (tkT σ h (d + 1) c v - uR σ c * tkT σ h d (c + 1) (tkT σ h (d + 1) c v / uR σ c)) (h c) = _
      rw [eT]
      omega
theorem tk_T2 {σ : Sg} {h : Nat → Nat} (hs : okS σ) {d c : Nat} (hc : c + (d + 1) + 1 = σ 0) (v : Nat) : tkT σ h d (c + 1) (tkT σ h (d + 1) c v / uR σ c) = tkT σ h d (c + 1) (v / uR σ c) := by
  obtain ⟨ih1, ih2⟩ := tk_max (h := h) hs d (c + 1) (by omega)
  obtain ⟨u1, u2⟩ := uR_b hs (c := c) (by omega)
  have e := tk_ul (σ := σ) (h := h) (tkT_le σ h d (c + 1) (v / uR σ c))
  have le := tkT_le σ h (d + 1) c v
  have eV : tkT σ h (d + 1) c v = uR σ c * tkT σ h d (c + 1) (v / uR σ c) + min (v - uR σ c * tkT σ h d (c + 1) (v / uR σ c)) (h c) := rfl
  apply Nat.le_antisymm
  · exact ih1 _ _ (Nat.le_trans (tkT_le σ h d (c + 1) _) (Nat.div_le_div_right le)) (ih2 _)
  · refine ih1 _ _ ?_ (ih2 _)
    rw [Nat.le_div_iff_mul_le (by omega), Nat.mul_comm]
    omega
theorem tk_pt {σ : Sg} {h : Nat → Nat} (hs : okS σ) : ∀ d c, c + d + 1 = σ 0 → ∀ v, (∀ j, tkP σ h d c (tkT σ h d c v) j = tkP σ h d c v j) ∧ tkN σ h d c (tkT σ h d c v) = tkN σ h d c v
  | 0, c, _, v => by
    refine ⟨fun j => ?_, ?_⟩
    · show min (min v (h c)) (h c) = min v (h c)
      omega
    · show min (min v (h c)) (h c) = min v (h c)
      omega
  | d + 1, c, hc, v => by
    have eT := tk_T2 (h := h) hs hc v
    have e := tk_ul (σ := σ) (h := h) (tkT_le σ h d (c + 1) (v / uR σ c))
    have eV : tkT σ h (d + 1) c v = uR σ c * tkT σ h d (c + 1) (v / uR σ c) + min (v - uR σ c * tkT σ h d (c + 1) (v / uR σ c)) (h c) := rfl
    have i1 := tk_pt (h := h) hs d (c + 1) (by omega) (tkT σ h (d + 1) c v / uR σ c)
    have i2 := tk_pt (h := h) hs d (c + 1) (by omega) (v / uR σ c)
    rw [eT] at i1
    have em : min (tkT σ h (d + 1) c v - uR σ c * tkT σ h d (c + 1) (v / uR σ c)) (h c) = min (v - uR σ c * tkT σ h d (c + 1) (v / uR σ c)) (h c) := by omega
    refine ⟨fun j => ?_, ?_⟩
    · show (if j = c then min (tkT σ h (d + 1) c v - uR σ c * tkT σ h d (c + 1) (tkT σ h (d + 1) c v / uR σ c)) (h c) else tkP σ h d (c + 1) (tkT σ h (d + 1) c v / uR σ c) j) = (if j = c then min (v - uR σ c * tkT σ h d (c + 1) (v / uR σ c)) (h c) else tkP σ h d (c + 1) (v / uR σ c) j)
      rw [eT, em, ← i1.1 j, i2.1 j]
    · show tkN σ h d (c + 1) (tkT σ h (d + 1) c v / uR σ c) + min (tkT σ h (d + 1) c v - uR σ c * tkT σ h d (c + 1) (tkT σ h (d + 1) c v / uR σ c)) (h c) = tkN σ h d (c + 1) (v / uR σ c) + min (v - uR σ c * tkT σ h d (c + 1) (v / uR σ c)) (h c)
      rw [eT, em, ← i1.2, i2.2]
theorem tk_mo {σ : Sg} {h : Nat → Nat} (hs : okS σ) : ∀ d c, c + d + 1 = σ 0 → ∀ v w, v ≤ w → tkT σ h d c v = v → tkT σ h d c w = w → tkN σ h d c w ≤ tkN σ h d c v + (w - v)
  | 0, c, _, v, w, hvw, h1, h2 => by
    show min w (h c) ≤ min v (h c) + (w - v)
    omega
  | d + 1, c, hc, v, w, hvw, h1, h2 => by
    obtain ⟨m1, m2⟩ := tk_max (h := h) hs d (c + 1) (by omega)
    obtain ⟨u1, u2⟩ := uR_b hs (c := c) (by omega)
    have h1' : uR σ c * tkT σ h d (c + 1) (v / uR σ c) + min (v - uR σ c * tkT σ h d (c + 1) (v / uR σ c)) (h c) = v := h1
    have h2' : uR σ c * tkT σ h d (c + 1) (w / uR σ c) + min (w - uR σ c * tkT σ h d (c + 1) (w / uR σ c)) (h c) = w := h2
    have a := m1 (w / uR σ c) (tkT σ h d (c + 1) (v / uR σ c)) (Nat.le_trans (tkT_le σ h d (c + 1) _) (Nat.div_le_div_right hvw)) (m2 _)
    have ih := tk_mo (h := h) hs d (c + 1) (by omega) _ _ a (m2 _) (m2 _)
    rw [(tk_pt (h := h) hs d (c + 1) (by omega) (w / uR σ c)).2, (tk_pt (h := h) hs d (c + 1) (by omega) (v / uR σ c)).2] at ih
    have g := Nat.mul_le_mul_right (tkT σ h d (c + 1) (w / uR σ c) - tkT σ h d (c + 1) (v / uR σ c)) u1
    rw [Nat.mul_sub (uR σ c)] at g
    have e1 := tk_ul (σ := σ) (h := h) (tkT_le σ h d (c + 1) (v / uR σ c))
    have e2 := tk_ul (σ := σ) (h := h) (tkT_le σ h d (c + 1) (w / uR σ c))
    have b := Nat.mul_le_mul_left (uR σ c) a
    show tkN σ h d (c + 1) (w / uR σ c) + min (w - uR σ c * tkT σ h d (c + 1) (w / uR σ c)) (h c) ≤ tkN σ h d (c + 1) (v / uR σ c) + min (v - uR σ c * tkT σ h d (c + 1) (v / uR σ c)) (h c) + (w - v)
    omega
theorem tkN_le {σ : Sg} {h : Nat → Nat} (hh : ∀ c, c < σ 0 → h c ≤ 99) : ∀ d c v, c + d + 1 = σ 0 → tkN σ h d c v ≤ 99 * (d + 1)
  | 0, c, v, hc => by
    have := hh c (by omega)
    show min v (h c) ≤ 99
    omega
  | d + 1, c, v, hc => by
    have := hh c (by omega)
    have ih := tkN_le hh d (c + 1) (v / uR σ c) (by omega)
    show tkN σ h d (c + 1) (v / uR σ c) + min (v - uR σ c * tkT σ h d (c + 1) (v / uR σ c)) (h c) ≤ 99 * (d + 1 + 1)
    omega
theorem bs_neg {σ : Sg} {h : Nat → Nat} (hs : okS σ) : ∀ d c (v : Int), c + d + 1 = σ 0 → v < 0 → bsN σ (fun _ => 0) h d c v = 1000000
  | 0, c, v, _, hv => if_neg (show ¬ (-((0 : Nat) : Int) ≤ v ∧ v ≤ h c) by omega)
  | d + 1, c, v, hc, hv => by
    obtain ⟨u1, u2⟩ := uR_b hs (c := c) (by omega)
    have l := scn_le (bsN σ (fun _ => 0) h d (c + 1)) (uR σ c) 0 v (h c + 0 + 1)
    show scn (bsN σ (fun _ => 0) h d (c + 1)) (uR σ c) 0 v (h c + 0 + 1) = 1000000
    by_cases q : scn (bsN σ (fun _ => 0) h d (c + 1)) (uR σ c) 0 v (h c + 0 + 1) < 1000000
    · obtain ⟨i, i1, i2, i3, i4⟩ := scn_ex _ q
      have g := i2.2
      rw [bs_neg (h := h) hs d (c + 1) _ (by omega) (Int.ediv_neg_of_neg_of_pos (by omega) (by omega))] at g
      omega
    · omega
theorem bs_tk {σ : Sg} {h : Nat → Nat} (hs : okS σ) (hh : ∀ c, c < σ 0 → h c ≤ 99) : ∀ d c (v : Nat), c + d + 1 = σ 0 → (tkT σ h d c v = v → bsN σ (fun _ => 0) h d c (v : Int) = tkN σ h d c v ∧ ∀ f, OvP σ (fun _ => 0) h d c (v : Int) f → ∀ j, c ≤ j → j < σ 0 → f j = tkP σ h d c v j) ∧ (tkT σ h d c v ≠ v → bsN σ (fun _ => 0) h d c (v : Int) = 1000000)
  | 0, c, v, hc => by
    have b : bsN σ (fun _ => 0) h 0 c (v : Int) = if -((0 : Nat) : Int) ≤ (v : Int) ∧ (v : Int) ≤ h c then (v : Int).natAbs else 1000000 := rfl
    refine ⟨fun e => ?_, fun e => ?_⟩
    · have e' : min v (h c) = v := e
      refine ⟨?_, fun f hf j j1 j2 => ?_⟩
      · rw [b, if_pos (by omega)]
        show _ = min v (h c)
        omega
      · obtain rfl : j = c := by omega
        have hf' : f j = (v : Int) := hf
        rw [hf']
        show (v : Int) = ((min v (h j) : Nat) : Int)
        omega
    · have e' : min v (h c) ≠ v := e
      rw [b, if_neg (by omega)]
  | d + 1, c, v, hc => by
    obtain ⟨u1, u2⟩ := uR_b hs (c := c) (by omega)
    have up : (0 : Int) < uR σ c := by omega
    have ih := fun w => bs_tk hs hh d (c + 1) w (by omega)
    obtain ⟨m1, m2⟩ := tk_max (h := h) hs d (c + 1) (by omega)
    have hcc := hh c (by omega)
    have l := scn_le (bsN σ (fun _ => 0) h d (c + 1)) (uR σ c) 0 (v : Int) (h c + 0 + 1)
    have e1 := tk_ul (σ := σ) (h := h) (tkT_le σ h d (c + 1) (v / uR σ c))
    -- whoever leads on has a rest that can be laid
    have lead : ∀ i, scP (bsN σ (fun _ => 0) h d (c + 1)) (uR σ c) 0 (v : Int) i → ∃ w : Nat, v = uR σ c * w + i ∧ ((v : Int) - ((i : Int) - ((0 : Nat) : Int))) / (uR σ c : Int) = (w : Int) ∧ tkT σ h d (c + 1) w = w ∧ w ≤ tkT σ h d (c + 1) (v / uR σ c) ∧ scC (bsN σ (fun _ => 0) h d (c + 1)) (uR σ c) 0 (v : Int) i = i + tkN σ h d (c + 1) w := fun i hi => by
      obtain ⟨⟨t, ht⟩, h2⟩ := hi
      have e2 : ((v : Int) - ((i : Int) - ((0 : Nat) : Int))) / (uR σ c : Int) = t := by rw [ht]; exact Int.mul_ediv_cancel_left _ (by omega)
      rw [e2] at h2
      have tn : 0 ≤ t := by
        by_cases q : t < 0
        · rw [bs_neg hs d (c + 1) t (by omega) q] at h2
          omega
        · omega
      obtain ⟨w, rfl⟩ : ∃ w : Nat, t = (w : Int) := ⟨t.toNat, by omega⟩
      have fe : tkT σ h d (c + 1) w = w := by
        by_cases q : tkT σ h d (c + 1) w = w
        · exact q
        · rw [(ih w).2 q] at h2
          omega
      have ev : v = uR σ c * w + i := by
        have : ((uR σ c * w : Nat) : Int) = (uR σ c : Int) * (w : Int) := Int.natCast_mul _ _
        omega
      refine ⟨w, ev, e2, fe, m1 _ _ ?_ fe, ?_⟩
      · rw [Nat.le_div_iff_mul_le (by omega), Nat.mul_comm]; omega
      · unfold scC
        rw [e2, ((ih w).1 fe).1]
        omega
    refine ⟨fun e => ?_, fun e => ?_⟩
    · have e' : uR σ c * tkT σ h d (c + 1) (v / uR σ c) + min (v - uR σ c * tkT σ h d (c + 1) (v / uR σ c)) (h c) = v := e
      have ex : ((v : Int) - (((v - uR σ c * tkT σ h d (c + 1) (v / uR σ c) : Nat) : Int) - ((0 : Nat) : Int))) = (uR σ c : Int) * (tkT σ h d (c + 1) (v / uR σ c) : Int) := by
        have : ((uR σ c * tkT σ h d (c + 1) (v / uR σ c) : Nat) : Int) = (uR σ c : Int) * (tkT σ h d (c + 1) (v / uR σ c) : Int) := Int.natCast_mul _ _
        omega
      have ed : ((v : Int) - (((v - uR σ c * tkT σ h d (c + 1) (v / uR σ c) : Nat) : Int) - ((0 : Nat) : Int))) / (uR σ c : Int) = (tkT σ h d (c + 1) (v / uR σ c) : Int) := by rw [ex]; exact Int.mul_ediv_cancel_left _ (by omega)
      have bT := ((ih (tkT σ h d (c + 1) (v / uR σ c))).1 (m2 _)).1
      have nT := (tk_pt (h := h) hs d (c + 1) (by omega) (v / uR σ c)).2
      have nl := tkN_le hh d (c + 1) (v / uR σ c) (by omega)
      have h0 := kC hs
      have sP : scP (bsN σ (fun _ => 0) h d (c + 1)) (uR σ c) 0 (v : Int) (v - uR σ c * tkT σ h d (c + 1) (v / uR σ c)) := ⟨⟨_, ex⟩, by rw [ed, bT, nT]; omega⟩
      have sC : scC (bsN σ (fun _ => 0) h d (c + 1)) (uR σ c) 0 (v : Int) (v - uR σ c * tkT σ h d (c + 1) (v / uR σ c)) = tkN σ h (d + 1) c v := by
        show _ = tkN σ h d (c + 1) (v / uR σ c) + min (v - uR σ c * tkT σ h d (c + 1) (v / uR σ c)) (h c)
        unfold scC
        rw [ed, bT, nT]
        omega
      have mn := scn_min (h c + 0 + 1) (v - uR σ c * tkT σ h d (c + 1) (v / uR σ c)) (by omega) sP
      rw [sC] at mn
      have nN : tkN σ h (d + 1) c v < 1000000 := by
        have := tkN_le hh (d + 1) c v hc
        omega
      -- none is less, and who is as little leaves the same
      have all : ∀ i, scP (bsN σ (fun _ => 0) h d (c + 1)) (uR σ c) 0 (v : Int) i → tkN σ h (d + 1) c v ≤ scC (bsN σ (fun _ => 0) h d (c + 1)) (uR σ c) 0 (v : Int) i ∧ (scC (bsN σ (fun _ => 0) h d (c + 1)) (uR σ c) 0 (v : Int) i = tkN σ h (d + 1) c v → i = v - uR σ c * tkT σ h d (c + 1) (v / uR σ c)) := fun i hi => by
        obtain ⟨w, w1, w2, w3, w4, w5⟩ := lead i hi
        have mo := tk_mo (h := h) hs d (c + 1) (by omega) w (tkT σ h d (c + 1) (v / uR σ c)) w4 w3 (m2 _)
        rw [nT] at mo
        have g := Nat.mul_le_mul_right (tkT σ h d (c + 1) (v / uR σ c) - w) u1
        rw [Nat.mul_sub (uR σ c)] at g
        have b := Nat.mul_le_mul_left (uR σ c) w4
        have eN : tkN σ h (d + 1) c v = tkN σ h d (c + 1) (v / uR σ c) + min (v - uR σ c * tkT σ h d (c + 1) (v / uR σ c)) (h c) := rfl
        rw [w5]
        refine ⟨by omega, fun z => ?_⟩
        have : tkT σ h d (c + 1) (v / uR σ c) = w := by omega
        rw [this]
        omega
      have eq : scn (bsN σ (fun _ => 0) h d (c + 1)) (uR σ c) 0 (v : Int) (h c + 0 + 1) = tkN σ h (d + 1) c v := by
        obtain ⟨i, i1, i2, i3, i4⟩ := scn_ex (g := bsN σ (fun _ => 0) h d (c + 1)) (u := uR σ c) (nl := 0) (v := (v : Int)) (h c + 0 + 1) (by omega)
        have := (all i i2).1
        omega
      refine ⟨eq, fun f hf j j1 j2 => ?_⟩
      obtain ⟨i, i1, i2, i3, i4, i5, i6⟩ := hf
      have i4' : scC (bsN σ (fun _ => 0) h d (c + 1)) (uR σ c) 0 (v : Int) i = tkN σ h (d + 1) c v := i4.trans eq
      have ei := (all i i3).2 i4'
      show f j = ((if j = c then min (v - uR σ c * tkT σ h d (c + 1) (v / uR σ c)) (h c) else tkP σ h d (c + 1) (v / uR σ c) j : Nat) : Int)
      by_cases q : j = c
      · have i2' : f c = (i : Int) - ((0 : Nat) : Int) := i2
        rw [if_pos q, q, i2']
        omega
      · have i6' : OvP σ (fun _ => 0) h d (c + 1) (((v : Int) - (((v - uR σ c * tkT σ h d (c + 1) (v / uR σ c) : Nat) : Int) - ((0 : Nat) : Int))) / (uR σ c : Int)) f := by rw [← ei]; exact i6
        rw [ed] at i6'
        rw [if_neg q, ((ih (tkT σ h d (c + 1) (v / uR σ c))).1 (m2 _)).2 f i6' j (by omega) j2, (tk_pt (h := h) hs d (c + 1) (by omega) (v / uR σ c)).1 j]
    · show scn (bsN σ (fun _ => 0) h d (c + 1)) (uR σ c) 0 (v : Int) (h c + 0 + 1) = 1000000
      by_cases q : scn (bsN σ (fun _ => 0) h d (c + 1)) (uR σ c) 0 (v : Int) (h c + 0 + 1) < 1000000
      · obtain ⟨i, i1, i2, i3, i4⟩ := scn_ex _ q
        obtain ⟨w, w1, w2, w3, w4, w5⟩ := lead i i2
        have b := Nat.mul_le_mul_left (uR σ c) w4
        refine absurd ?_ e
        show uR σ c * tkT σ h d (c + 1) (v / uR σ c) + min (v - uR σ c * tkT σ h d (c + 1) (v / uR σ c)) (h c) = v
        omega
      · omega
