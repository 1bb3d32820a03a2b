/-! PURE LAYER: payments, the class's best cost -/
theorem bs_fin {σ : Sg} {nl nh : Nat → Nat} (h : okF σ nl nh) : ∀ d c v, c + d + 1 = σ 0 → bsN σ nl nh d c v < 1000000 → bsN σ nl nh d c v ≤ 99 * (d + 1)
  | 0, c, v, hc, hb => by
    obtain ⟨b1, b2⟩ := h.2.2 c (by omega)
    by_cases q : -(nl c : Int) ≤ v ∧ v ≤ nh c
    · have e : bsN σ nl nh 0 c v = v.natAbs := if_pos q
      rw [e]; omega
    · have e : bsN σ nl nh 0 c v = 1000000 := if_neg q
      omega
  | d + 1, c, v, hc, hb => by
    obtain ⟨b1, b2⟩ := h.2.2 c (by omega)
    obtain ⟨i, i1, i2, i3, _⟩ := scn_ex _ hb
    have ih := bs_fin h d (c + 1) _ (by omega) i2.2
    have e : bsN σ nl nh (d + 1) c v = scC (bsN σ nl nh d (c + 1)) (uR σ c) (nl c) v i := i3.symm
    rw [e]
    unfold scC
    omega
theorem h_fo {F : Nat} {Y : Mem} {σ : Sg} {nl nh : Nat → Nat} (h : okF σ nl nh) {s : Nat} (hs : s ≤ 2000000000) (hY : YsH σ nl nh s Y) {c : Nat} (hc : c + 1 < σ 0) {v : Int} (h1 : loS σ nl nh s c ≤ v - wyA σ s c) (h2 : v - wyA σ s c ≤ hiS σ nl s c) : ∃ j : Nat, f_X4_firstOver F Y (nI c) (zI v) (nI (uR σ c)) = some (zI ((j : Int) - nl c)) ∧ j < uR σ c ∧ (uR σ c : Int) ∣ v - ((j : Int) - nl c) := by
  have h0 := kC h.1
  obtain ⟨u1, u2⟩ := uR_b h.1 hc
  obtain ⟨b1, b2⟩ := h.2.2 c (by omega)
  obtain ⟨w1, w2, w3, w4⟩ := sh_b h s c (by omega)
  have al := wyA_le σ s c
  obtain ⟨y2, y3, y4, y5, y6⟩ := hY.2 c (by omega)
  have m0 : 0 ≤ (v - -(nl c : Int)) % (uR σ c : Int) := Int.emod_nonneg _ (by omega)
  have m1 : (v - -(nl c : Int)) % (uR σ c : Int) < uR σ c := Int.emod_lt_of_pos _ (by omega)
  refine ⟨((v - -(nl c : Int)) % (uR σ c : Int)).toNat, ?_, by omega, ?_⟩
  · unfold f_X4_firstOver
    rw [ck_n (by omega) (by decide), ck_n (by omega) (by decide), nI_clamp (by omega), y2, zz_sub, fm_z F (by omega) (by omega) (by omega) (by omega), Option.bind_some, zz_add]
    congr 2
    omega
  · have e : v - ((((v - -(nl c : Int)) % (uR σ c : Int)).toNat : Int) - nl c) = (v - -(nl c : Int)) - (v - -(nl c : Int)) % (uR σ c : Int) := by omega
    rw [e]
    exact Int.dvd_self_sub_emod
theorem rat2 {C : Mem} {σ : Sg} (hC : StC C σ) (hs : okS σ) {c : Nat} (hc : c + 1 < σ 0) : (if (2 : Int32) < C 1 (c + 1) then C 1 (c + 1) else 2) = nI (uR σ c) := by
  obtain ⟨u1, u2⟩ := uR_b hs hc
  rw [cRt hC hc]
  show (if (2 : Int32) < nI (uR σ c) then nI (uR σ c) else 2) = nI (uR σ c)
  by_cases q : 2 < uR σ c
  · rw [if_pos (show (2 : Int32) < nI (uR σ c) from nI_lt (a := 2) q (by omega))]
  · rw [if_neg (show ¬ (2 : Int32) < nI (uR σ c) from nI_nlt (a := 2) (by omega) (by decide)), show uR σ c = 2 by omega]
    rfl
theorem h_bc68 {F : Nat} {Y C : Mem} {σ : Sg} {nl nh : Nat → Nat} (h : okF σ nl nh) {s : Nat} (hs : s ≤ 2000000000) (hY : YsH σ nl nh s Y) {c : Nat} (hc : c + 1 < σ 0) (hT : YtH σ nl nh s Y (c + 1)) {v : Int} (h1 : loS σ nl nh s c ≤ v - wyA σ s c) (h2 : v - wyA σ s c ≤ hiS σ nl s c) (k : Int32 → Option Int32) : ∀ (d j t n : Nat), nh c + nl c + 1 ≤ j + d → j < 1000 → d < n → (uR σ c : Int) ∣ v - ((j : Int) - nl c) → t ≤ j → t ≤ nh c + nl c + 1 → (∀ i, t ≤ i → i < j → ¬ scP (bsN σ nl nh (σ 0 - 1 - (c + 1)) (c + 1)) (uR σ c) (nl c) v i) → f_X4_bestCost_68 F Y C (nI c) (zI v) (nI (uR σ c)) k n (cz (scn (bsN σ nl nh (σ 0 - 1 - (c + 1)) (c + 1)) (uR σ c) (nl c) v t)) (zI ((j : Int) - nl c)) = k (cz (scn (bsN σ nl nh (σ 0 - 1 - (c + 1)) (c + 1)) (uR σ c) (nl c) v (nh c + nl c + 1)))
  | d, j, t, 0, _, _, h, _, _, _, _ => by omega
  | d, j, t, n + 1, hd, hj9, hn, hdv, ht, ht2, hsk => by
    have h0 := kC h.1
    obtain ⟨u1, u2⟩ := uR_b h.1 hc
    obtain ⟨b1, b2⟩ := h.2.2 c (by omega)
    obtain ⟨y2, y3, y4, y5, y6⟩ := hY.2 c (by omega)
    by_cases hj : nh c + nl c + 1 ≤ j
    · have g : nI (nh c) < zI ((j : Int) - nl c) := by rw [nz_lt]; exact of_eq_true (zlt_T (by omega) (by omega) (by omega))
      have sk := scn_skip (g := bsN σ nl nh (σ 0 - 1 - (c + 1)) (c + 1)) (u := uR σ c) (nl := nl c) (v := v) (nh c + nl c + 1 - t) t (fun i i1 i2 => hsk i i1 (by omega))
      rw [show t + (nh c + nl c + 1 - t) = nh c + nl c + 1 by omega] at sk
      rw [f_X4_bestCost_68, ck_n (by omega) (by decide), nI_clamp (by omega), y3, if_pos g, sk]
    · obtain ⟨d, rfl⟩ : ∃ e, d = e + 1 := ⟨d - 1, by omega⟩
      have g : ¬ nI (nh c) < zI ((j : Int) - nl c) := by rw [nz_lt]; exact of_eq_false (zlt_F (by omega) (by omega) (by omega))
      obtain ⟨q, hq⟩ := hdv
      have eq : (v - ((j : Int) - nl c)) / (uR σ c : Int) = q := by rw [hq]; exact Int.mul_ediv_cancel_left _ (by omega)
      have cw := h_costWith (F := F) h hs hY hc hT h1 h2 (j := j) (by omega) hq
      have sk := scn_skip (g := bsN σ nl nh (σ 0 - 1 - (c + 1)) (c + 1)) (u := uR σ c) (nl := nl c) (v := v) (j - t) t (fun i i1 i2 => hsk i i1 (by omega))
      rw [show t + (j - t) = j by omega] at sk
      have es : scn (bsN σ nl nh (σ 0 - 1 - (c + 1)) (c + 1)) (uR σ c) (nl c) v (j + 1) = if scP (bsN σ nl nh (σ 0 - 1 - (c + 1)) (c + 1)) (uR σ c) (nl c) v j ∧ scC (bsN σ nl nh (σ 0 - 1 - (c + 1)) (c + 1)) (uR σ c) (nl c) v j < scn (bsN σ nl nh (σ 0 - 1 - (c + 1)) (c + 1)) (uR σ c) (nl c) v j then scC (bsN σ nl nh (σ 0 - 1 - (c + 1)) (c + 1)) (uR σ c) (nl c) v j else scn (bsN σ nl nh (σ 0 - 1 - (c + 1)) (c + 1)) (uR σ c) (nl c) v j := rfl
      rw [sk] at es
      have sP : scP (bsN σ nl nh (σ 0 - 1 - (c + 1)) (c + 1)) (uR σ c) (nl c) v j ↔ bsN σ nl nh (σ 0 - 1 - (c + 1)) (c + 1) q < 1000000 := by
        unfold scP
        rw [eq]
        exact ⟨fun z => z.2, fun z => ⟨⟨q, hq⟩, z⟩⟩
      have sC : scC (bsN σ nl nh (σ 0 - 1 - (c + 1)) (c + 1)) (uR σ c) (nl c) v j = ((j : Int) - nl c).natAbs + bsN σ nl nh (σ 0 - 1 - (c + 1)) (c + 1) q := by
        unfold scC
        rw [eq]
      have xa : ((j : Int) - nl c).natAbs ≤ 99 := by omega
      have fin := bs_fin h (σ 0 - 1 - (c + 1)) (c + 1) q (by omega)
      have sl := scn_le (bsN σ nl nh (σ 0 - 1 - (c + 1)) (c + 1)) (uR σ c) (nl c) v t
      have en : zI ((j : Int) - nl c) + nI (uR σ c) = zI (((j + uR σ c : Nat) : Int) - nl c) := by
        rw [zn_add]; congr 1; omega
      have go := h_bc68 (F := F) (C := C) h hs hY hc hT h1 h2 k d (j + uR σ c) (j + 1) n (by omega) (by omega) (by omega) ⟨q - 1, by rw [Int.mul_sub, ← hq]; omega⟩ (by omega) (by omega) (fun i i1 i2 hp => by
        obtain ⟨⟨q2, hq2⟩, _⟩ := hp
        have e4 : (uR σ c : Int) * (q - q2) = (i : Int) - j := by rw [Int.mul_sub, ← hq, ← hq2]; omega
        have e5 : 0 < q - q2 := by
          by_cases z : 0 < q - q2
          · exact z
          · have := Int.mul_le_mul_of_nonneg_left (show q - q2 ≤ 0 by omega) (show (0 : Int) ≤ uR σ c by omega)
            rw [Int.mul_zero] at this
            omega
        have := Int.mul_le_mul_of_nonneg_left (show (1 : Int) ≤ q - q2 by omega) (show (0 : Int) ≤ uR σ c by omega)
        omega)
      -- the step with a look at the later columns
      have look : f_X4_bestCost_96 F Y C (nI c) (zI v) (nI (uR σ c)) (cz (scn (bsN σ nl nh (σ 0 - 1 - (c + 1)) (c + 1)) (uR σ c) (nl c) v t)) (zI ((j : Int) - nl c)) (f_X4_bestCost_68 F Y C (nI c) (zI v) (nI (uR σ c)) k n) = k (cz (scn (bsN σ nl nh (σ 0 - 1 - (c + 1)) (c + 1)) (uR σ c) (nl c) v (nh c + nl c + 1))) := by
        unfold f_X4_bestCost_96
        rw [cw, Option.bind_some, en]
        by_cases p : bsN σ nl nh (σ 0 - 1 - (c + 1)) (c + 1) q < 1000000
        · have f2 := fin p
          rw [if_pos p, ← sC]
          have nz : ¬ nI (scC (bsN σ nl nh (σ 0 - 1 - (c + 1)) (c + 1)) (uR σ c) (nl c) v j) = -2 := fun z => by
            have := congrArg Int32.toInt z
            rw [nI_toInt (by omega), show (-2 : Int32).toInt = -2 by decide] at this
            omega
          have ec : cz (scC (bsN σ nl nh (σ 0 - 1 - (c + 1)) (c + 1)) (uR σ c) (nl c) v j) = nI (scC (bsN σ nl nh (σ 0 - 1 - (c + 1)) (c + 1)) (uR σ c) (nl c) v j) := if_pos (by omega)
          rw [if_neg nz]
          by_cases w : scn (bsN σ nl nh (σ 0 - 1 - (c + 1)) (c + 1)) (uR σ c) (nl c) v t < 1000000
          · have eb : cz (scn (bsN σ nl nh (σ 0 - 1 - (c + 1)) (c + 1)) (uR σ c) (nl c) v t) = nI (scn (bsN σ nl nh (σ 0 - 1 - (c + 1)) (c + 1)) (uR σ c) (nl c) v t) := if_pos w
            rw [if_neg (fun z => (cz_2.mp z) w)]
            by_cases l : scC (bsN σ nl nh (σ 0 - 1 - (c + 1)) (c + 1)) (uR σ c) (nl c) v j < scn (bsN σ nl nh (σ 0 - 1 - (c + 1)) (c + 1)) (uR σ c) (nl c) v t
            · rw [es, if_pos ⟨sP.mpr p, l⟩, ec] at go
              rw [eb, if_neg (nI_ge l (by omega))]
              exact go
            · rw [es, if_neg (fun z => l z.2)] at go
              rw [if_pos (by rw [eb]; exact nI_le (by omega) (by omega))]
              exact go
          · rw [es, if_pos ⟨sP.mpr p, by omega⟩, ec] at go
            rw [if_pos (cz_2.mpr w)]
            exact go
        · rw [es, if_neg (fun z => p (sP.mp z.1))] at go
          rw [if_neg p, if_pos (rfl : (-2 : Int32) = -2)]
          exact go
      rw [f_X4_bestCost_68, ck_n (by omega) (by decide), nI_clamp (by omega), y3, if_neg g]
      by_cases w : scn (bsN σ nl nh (σ 0 - 1 - (c + 1)) (c + 1)) (uR σ c) (nl c) v t < 1000000
      · have eb : cz (scn (bsN σ nl nh (σ 0 - 1 - (c + 1)) (c + 1)) (uR σ c) (nl c) v t) = nI (scn (bsN σ nl nh (σ 0 - 1 - (c + 1)) (c + 1)) (uR σ c) (nl c) v t) := if_pos w
        rw [if_neg (fun z => (cz_2.mp z) w), abs_z (by omega) (by omega)]
        by_cases l : scn (bsN σ nl nh (σ 0 - 1 - (c + 1)) (c + 1)) (uR σ c) (nl c) v t ≤ ((j : Int) - nl c).natAbs
        · rw [if_pos (show cz (scn (bsN σ nl nh (σ 0 - 1 - (c + 1)) (c + 1)) (uR σ c) (nl c) v t) ≤ nI ((j : Int) - nl c).natAbs by rw [eb]; exact nI_le l (by omega)), en]
          rw [es, if_neg (fun z => by have := z.2; omega)] at go
          exact go
        · rw [if_neg (show ¬ cz (scn (bsN σ nl nh (σ 0 - 1 - (c + 1)) (c + 1)) (uR σ c) (nl c) v t) ≤ nI ((j : Int) - nl c).natAbs by rw [eb]; exact nI_ge (by omega) (by omega))]
          exact look
      · rw [if_pos (cz_2.mpr w)]
        exact look
theorem h_bestCost {F : Nat} {Y C : Mem} {σ : Sg} {nl nh : Nat → Nat} (hF : 1000 ≤ F) (hC : StC C σ) (h : okF σ nl nh) {s : Nat} (hs : s ≤ 2000000000) (hY : YsH σ nl nh s Y) {c : Nat} (hc : c < σ 0) (hT : c + 1 < σ 0 → YtH σ nl nh s Y (c + 1)) {v : Int} (h1 : loS σ nl nh s c ≤ v - wyA σ s c) (h2 : v - wyA σ s c ≤ hiS σ nl s c) : f_X4_bestCost F Y C (nI c) (zI v) = some (cz (bsN σ nl nh (σ 0 - 1 - c) c v)) := by
  have h0 := kC h.1
  obtain ⟨b1, b2⟩ := h.2.2 c hc
  obtain ⟨y2, y3, y4, y5, y6⟩ := hY.2 c hc
  obtain ⟨w1, w2, w3, w4⟩ := sh_b h s c hc
  have al := wyA_le σ s c
  unfold f_X4_bestCost
  rw [hY.1, show nI (σ 0) - 1 = nI (σ 0 - 1) from nI_sub' (b := 1) h.2.1]
  by_cases q : c = σ 0 - 1
  · have ez : σ 0 - 1 - c = 0 := by omega
    have eb : bsN σ nl nh (σ 0 - 1 - c) c v = if -(nl c : Int) ≤ v ∧ v ≤ nh c then v.natAbs else 1000000 := by rw [ez]; rfl
    have c2 : cz 1000000 = -2 := by decide
    rw [if_pos (show nI c = nI (σ 0 - 1) by rw [← q]), ck_n (by omega) (by decide), nI_clamp (by omega), y2, eb]
    by_cases g1 : v < -(nl c : Int)
    · rw [if_pos (show zI v < zI (-(nl c : Int)) from of_eq_true (zlt_T (by omega) (by omega) (by omega))), if_neg (show ¬ (-(nl c : Int) ≤ v ∧ v ≤ nh c) by omega), c2]
    · rw [if_neg (show ¬ zI v < zI (-(nl c : Int)) from of_eq_false (zlt_F (by omega) (by omega) (by omega))), ck_n (by omega) (by decide), y3]
      by_cases g2 : (nh c : Int) < v
      · rw [if_pos (show nI (nh c) < zI v by rw [nz_lt]; exact of_eq_true (zlt_T (by omega) (by omega) (by omega))), if_neg (show ¬ (-(nl c : Int) ≤ v ∧ v ≤ nh c) by omega), c2]
      · rw [if_neg (show ¬ nI (nh c) < zI v by rw [nz_lt]; exact of_eq_false (zlt_F (by omega) (by omega) (by omega))), if_pos (show -(nl c : Int) ≤ v ∧ v ≤ nh c by omega), abs_z (by omega) (by omega)]
        unfold cz
        rw [if_pos (show v.natAbs < 1000000 by omega)]
  · have hc' : c + 1 < σ 0 := by omega
    obtain ⟨u1, u2⟩ := uR_b h.1 hc'
    have ez : σ 0 - 1 - c = (σ 0 - 1 - (c + 1)) + 1 := by omega
    have eb : bsN σ nl nh (σ 0 - 1 - c) c v = scn (bsN σ nl nh (σ 0 - 1 - (c + 1)) (c + 1)) (uR σ c) (nl c) v (nh c + nl c + 1) := by rw [ez]; rfl
    obtain ⟨j, j1, j2, j3⟩ := h_fo (F := F) h hs hY hc' h1 h2
    have c0 : cz (scn (bsN σ nl nh (σ 0 - 1 - (c + 1)) (c + 1)) (uR σ c) (nl c) v 0) = -2 := by
      show cz 1000000 = -2
      decide
    have lo := h_bc68 (F := F) (C := C) h hs hY hc' (hT hc') h1 h2 (fun x5_148 => (some x5_148)) 200 j 0 F (by omega) (by omega) (by omega) j3 (Nat.zero_le _) (Nat.zero_le _) (fun i _ i2 hp => by
      obtain ⟨⟨q2, hq2⟩, _⟩ := hp
      obtain ⟨q1, hq1⟩ := j3
      have e4 : (uR σ c : Int) * (q2 - q1) = (j : Int) - i := by rw [Int.mul_sub, ← hq1, ← hq2]; omega
      have e5 : 0 < q2 - q1 := by
        by_cases z : 0 < q2 - q1
        · exact z
        · have := Int.mul_le_mul_of_nonneg_left (show q2 - q1 ≤ 0 by omega) (show (0 : Int) ≤ uR σ c by omega)
          rw [Int.mul_zero] at this
          omega
      have := Int.mul_le_mul_of_nonneg_left (show (1 : Int) ≤ q2 - q1 by omega) (show (0 : Int) ≤ uR σ c by omega)
      omega)
    rw [c0] at lo
    rw [if_neg (fun z => q ((nI_eq (by omega) (by omega)).mp z)), nI_1, ck_n (by omega) (by decide), nI_clamp (by omega), rat2 hC h.1 hc', j1, Option.bind_some, eb]
    exact lo
