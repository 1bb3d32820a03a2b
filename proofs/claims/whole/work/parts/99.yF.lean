/-! PURE LAYER: payments, the class's way back -/
theorem h_fl59 {F : Nat} {Y C : Mem} {σ : Sg} {nl nh : Nat → Nat} (h : okF σ nl nh) {s : Nat} (hs : s ≤ 2000000000) (hY : YsH σ nl nh s Y) {c : Nat} (hc : c + 1 < σ 0) (hT : YtH σ nl nh s Y (c + 1)) {v : Int} (h1 : loS σ nl nh s c ≤ v - wyA σ s c) (h2 : v - wyA σ s c ≤ hiS σ nl s c) {b J : Nat} (hb : b < 1000000) (hJ : J < nh c + nl c + 1) (j1 : scP (bsN σ nl nh (σ 0 - 1 - (c + 1)) (c + 1)) (uR σ c) (nl c) v J) (j2 : scC (bsN σ nl nh (σ 0 - 1 - (c + 1)) (c + 1)) (uR σ c) (nl c) v J = b) (j3 : ∀ t, t < J → scP (bsN σ nl nh (σ 0 - 1 - (c + 1)) (c + 1)) (uR σ c) (nl c) v t → b < scC (bsN σ nl nh (σ 0 - 1 - (c + 1)) (c + 1)) (uR σ c) (nl c) v t) (k : Int32 → Option Mem) (k2 : Option Mem) : ∀ (d j n : Nat), j + d = J → d < n → (uR σ c : Int) ∣ v - ((j : Int) - nl c) → f_X4_follow_59 F Y C (zI v) (nI c) (nI (uR σ c)) (nI b) k k2 n (zI ((j : Int) - nl c)) = k (zI ((J : Int) - nl c))
  | d, j, 0, _, h, _ => by omega
  | d, j, n + 1, hj, hn, hdv => by
    have h0 := kC h.1
    obtain ⟨u1, u2⟩ := uR_b h.1 hc
    obtain ⟨b1, b2⟩ := h.2.2 c (by omega)
    obtain ⟨y2, y3, y4, y5, y6⟩ := hY.2 c (by omega)
    have g : ¬ nI (nh c) < zI ((j : Int) - nl c) := by rw [nz_lt]; exact of_eq_false (zlt_F (by omega) (by omega) (by omega))
    obtain ⟨q, hq⟩ := hdv
    have eq : (v - ((j : Int) - nl c)) / (uR σ c : Int) = q := by rw [hq]; exact Int.mul_ediv_cancel_left _ (by omega)
    have cw := h_costWith (F := F) h hs hY hc hT h1 h2 (j := j) (by omega) hq
    have sC : scC (bsN σ nl nh (σ 0 - 1 - (c + 1)) (c + 1)) (uR σ c) (nl c) v j = ((j : Int) - nl c).natAbs + bsN σ nl nh (σ 0 - 1 - (c + 1)) (c + 1) q := by
      unfold scC
      rw [eq]
    have sP : scP (bsN σ nl nh (σ 0 - 1 - (c + 1)) (c + 1)) (uR σ c) (nl c) v j ↔ bsN σ nl nh (σ 0 - 1 - (c + 1)) (c + 1) q < 1000000 := by
      unfold scP
      rw [eq]
      exact ⟨fun z => z.2, fun z => ⟨⟨q, hq⟩, z⟩⟩
    have en : zI ((j : Int) - nl c) + nI (uR σ c) = zI (((j + uR σ c : Nat) : Int) - nl c) := by
      rw [zn_add]; congr 1; omega
    rw [f_X4_follow_59, ck_n (by omega) (by decide), nI_clamp (by omega), y3, if_neg g, cw, Option.bind_some, ← sC, en]
    by_cases e : j = J
    · rw [e] at sP sC ⊢
      rw [if_pos (sP.mp j1), if_pos (by rw [j2])]
    · obtain ⟨q1, hq1⟩ := j1.1
      have e4 : (uR σ c : Int) * (q - q1) = (J : Int) - j := by rw [Int.mul_sub, ← hq, ← hq1]; omega
      have e5 : 0 < q - q1 := by
        by_cases z : 0 < q - q1
        · exact z
        · have := Int.mul_le_mul_of_nonneg_left (show q - q1 ≤ 0 by omega) (show (0 : Int) ≤ uR σ c by omega)
          rw [Int.mul_zero] at this
          omega
      have e6 := Int.mul_le_mul_of_nonneg_left (show (1 : Int) ≤ q - q1 by omega) (show (0 : Int) ≤ uR σ c by omega)
      rw [Int.mul_one] at e6
      have fin := bs_fin h (σ 0 - 1 - (c + 1)) (c + 1) q (by omega)
      have ne : ¬ (if bsN σ nl nh (σ 0 - 1 - (c + 1)) (c + 1) q < 1000000 then nI (scC (bsN σ nl nh (σ 0 - 1 - (c + 1)) (c + 1)) (uR σ c) (nl c) v j) else -2) = nI b := fun z => by
        by_cases p : bsN σ nl nh (σ 0 - 1 - (c + 1)) (c + 1) q < 1000000
        · rw [if_pos p] at z
          have := fin p
          have := j3 j (by omega) (sP.mpr p)
          have := (nI_eq (by omega) (by omega)).mp z
          omega
        · rw [if_neg p] at z
          have := congrArg Int32.toInt z
          rw [nI_toInt (by omega), show (-2 : Int32).toInt = -2 by decide] at this
          omega
      rw [if_neg ne]
      exact h_fl59 (F := F) (C := C) h hs hY hc hT h1 h2 hb hJ j1 j2 j3 k k2 (J - (j + uR σ c)) (j + uR σ c) n (by omega) (by omega) ⟨q - 1, by rw [Int.mul_sub, ← hq]; omega⟩
theorem h_fl5 {F : Nat} {C : Mem} {σ : Sg} {nl nh : Nat → Nat} (hF : 1000 ≤ F) (hC : StC C σ) (h : okF σ nl nh) {s : Nat} (hs : s ≤ 2000000000) (f : Nat → Int) (k : Mem → Int32 → Option Mem) : ∀ (d c n : Nat) (v : Int) (Y : Mem), c + d + 1 = σ 0 → d < n → YsH σ nl nh s Y → YtA σ nl nh s Y 0 → loS σ nl nh s c ≤ v - wyA σ s c → v - wyA σ s c ≤ hiS σ nl s c → bsN σ nl nh d c v < 1000000 → OvP σ nl nh d c v f → (∀ j, j < c → Y 1 j = zI (f j)) → ∃ Y', f_X4_follow_5 F C k n Y (zI v) (nI c) = k Y' (zI (f (σ 0 - 1))) ∧ (∀ j, j + 1 < σ 0 → Y' 1 j = zI (f j)) ∧ ∀ x, x ≠ 1 → Y' x = Y x
  | d, c, 0, v, Y, _, h, _, _, _, _, _, _, _ => by omega
  | 0, c, n + 1, v, Y, hc, _, hY, hT, h1, h2, hb, hO, hA => by
    have h0 := kC h.1
    have hO' : f c = v := hO
    refine ⟨Y, ?_, fun j hj => hA j (by omega), fun _ _ => rfl⟩
    rw [f_X4_follow_5, hY.1, show nI (σ 0) - 1 = nI (σ 0 - 1) from nI_sub' (b := 1) h.2.1, if_pos (nI_le (by omega) (by omega)), ← hO', show σ 0 - 1 = c by omega]
  | d + 1, c, n + 1, v, Y, hc, hn, hY, hT, h1, h2, hb, hO, hA => by
    have h0 := kC h.1
    have hc' : c + 1 < σ 0 := by omega
    have ed1 : σ 0 - 1 - (c + 1) = d := by omega
    have ed0 : σ 0 - 1 - c = d + 1 := by omega
    obtain ⟨u1, u2⟩ := uR_b h.1 hc'
    obtain ⟨b1, b2⟩ := h.2.2 c (by omega)
    obtain ⟨w1, w2, w3, w4⟩ := sh_b h s c (by omega)
    have al := wyA_le σ s c
    obtain ⟨J, j0, jf, j2, j3, j4, j5⟩ := hO
    obtain ⟨q, hq⟩ := j2.1
    have eq : (v - ((J : Int) - nl c)) / (uR σ c : Int) = q := by rw [hq]; exact Int.mul_ediv_cancel_left _ (by omega)
    have et : (v - ((J : Int) - nl c)).tdiv (uR σ c : Int) = q := by rw [hq]; exact Int.mul_tdiv_cancel_left _ (by omega)
    obtain ⟨k1, k2⟩ := sh_n h s (c := c) (j := J) (sh := v - wyA σ s c) (q := q) hc' h1 h2 (by omega) (by omega)
    have co := h_costOf (F := F) h hs hY (c := c) (by omega) (hT c (Nat.zero_le _) (by omega)) h1 h2
    have cb : cz (bsN σ nl nh (σ 0 - 1 - c) c v) = nI (bsN σ nl nh (d + 1) c v) := by rw [ed0]; exact if_pos hb
    have p1 : ∀ x, x ≠ 1 → (mr Y 1 (upd (Y 1) c 0)) x = Y x := fun x hx => mr_n _ _ hx
    have hY1 := YsH_p hY (fun x hx _ => p1 x hx)
    have hT1 : YtA σ nl nh s (mr Y 1 (upd (Y 1) c 0)) 0 := fun c' g1 g2 t t1 t2 => by rw [p1 7 (by decide)]; exact hT c' g1 g2 t t1 t2
    obtain ⟨j, i1, i2, i3⟩ := h_fo (F := F) h hs hY1 hc' h1 h2
    -- the first that may go over is at or below the one that goes
    have jJ : j ≤ J := by
      by_cases z : j ≤ J
      · exact z
      · obtain ⟨q1, hq1⟩ := i3
        have e4 : (uR σ c : Int) * (q - q1) = (j : Int) - J := by rw [Int.mul_sub, ← hq, ← hq1]; omega
        have e5 : 0 < q - q1 := by
          by_cases z : 0 < q - q1
          · exact z
          · have := Int.mul_le_mul_of_nonneg_left (show q - q1 ≤ 0 by omega) (show (0 : Int) ≤ uR σ c by omega)
            rw [Int.mul_zero] at this
            omega
        have e6 := Int.mul_le_mul_of_nonneg_left (show (1 : Int) ≤ q - q1 by omega) (show (0 : Int) ≤ uR σ c by omega)
        rw [Int.mul_one] at e6
        omega
    have fl := h_fl59 (F := F) (C := C) h hs hY1 hc' (hT1 (c + 1) (Nat.zero_le _) hc') h1 h2 (b := bsN σ nl nh (d + 1) c v) (J := J) hb j0 (by rw [ed1]; exact j2) (by rw [ed1]; exact j3) (by rw [ed1]; exact j4) (fun x7_87 => ck (nI c) 6 (f_X4_follow_109 F (mr Y 1 (upd (upd (Y 1) c 0) c x7_87)) C (zI v) (nI c) (nI (uR σ c)) (f_X4_follow_5 F C k n))) (f_X4_follow_109 F (mr Y 1 (upd (Y 1) c 0)) C (zI v) (nI c) (nI (uR σ c)) (f_X4_follow_5 F C k n)) (J - j) j F (by omega) (by omega) i3
    have p2 : ∀ x, x ≠ 1 → (mr Y 1 (upd (upd (Y 1) c 0) c (zI ((J : Int) - nl c)))) x = Y x := fun x hx => mr_n _ _ hx
    rw [eq] at j5
    have jq := j2.2
    rw [eq] at jq
    obtain ⟨Y', a1, a2, a3⟩ := h_fl5 (F := F) hF hC h hs f k d (c + 1) n q (mr Y 1 (upd (upd (Y 1) c 0) c (zI ((J : Int) - nl c)))) (by omega) (by omega) (YsH_p hY (fun x hx _ => p2 x hx)) (fun c' g1 g2 t t1 t2 => by rw [p2 7 (by decide)]; exact hT c' g1 g2 t t1 t2) k1 k2 jq j5 (fun i hi => by
      rw [mr_s]
      by_cases e : i = c
      · rw [e, pk_us, jf]
      · rw [pk_un e, pk_un e]; exact hA i (by omega))
    refine ⟨Y', ?_, a2, fun x hx => by rw [a3 x hx, p2 x hx]⟩
    rw [f_X4_follow_5, hY.1, show nI (σ 0) - 1 = nI (σ 0 - 1) from nI_sub' (b := 1) h.2.1, if_neg (nI_ge (by omega) (by omega)), nI_1, ck_n (by omega) (by decide), nI_clamp (show c + 1 < 2147483648 by omega), rat2 hC h.1 hc', co, Option.bind_some, cb, ck_n (by omega) (by decide), nI_clamp (show c < 2147483648 by omega), i1, Option.bind_some]
    refine Eq.trans fl ?_
    rw [ck_n (by omega) (by decide)]
    unfold f_X4_follow_109
    rw [ck_n (by omega) (by decide), dv_n (by omega) (by omega), nI_clamp (by omega), mr_s, pk_us, zz_sub, zI_div (by omega) (by omega) (by omega) (by omega), et, nI_1]
    exact a1
