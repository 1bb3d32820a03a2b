/-! PURE LAYER: payments, the class's bounds and windows laid down -/
def nlP (σ : Sg) (r q c : Nat) : Nat := min (σ (8 + (6 * q + c))) (99 - σ (8 + (6 * r + c)))
def nhP (σ : Sg) (r q c : Nat) : Nat := min (σ (8 + (6 * r + c))) (99 - σ (8 + (6 * q + c)))
theorem okP {σ : Sg} (hs : okS σ) (h0 : 0 < σ 0) (r q : Nat) : okF σ (nlP σ r q) (nhP σ r q) := ⟨hs, h0, fun c hc => by
  unfold nlP nhP
  omega⟩
theorem h_sb3 {F : Nat} {C : Mem} {σ : Sg} (hC : StC C σ) (hs : okS σ) {r q : Nat} (hr : r < 4) (hq : q < 4) (k : Mem → Option Mem) : ∀ (d i n : Nat) (Y : Mem), i + d = σ 0 → d < n → Y 0 7 = nI (σ 0) → (∀ c, c < i → Y 2 c = zI (-(nlP σ r q c : Int)) ∧ Y 3 c = nI (nhP σ r q c)) → ∃ Y', f_X4_setBounds_3 F C (nI r) (nI q) k n Y (nI i) = k Y' ∧ (∀ x, x ≠ 2 → x ≠ 3 → Y' x = Y x) ∧ ∀ c, c < σ 0 → Y' 2 c = zI (-(nlP σ r q c : Int)) ∧ Y' 3 c = nI (nhP σ r q c)
  | d, i, 0, Y, _, h, _, _ => by omega
  | 0, i, n + 1, Y, hi, _, h7, hA => by
    have h0 := kC hs
    exact ⟨Y, by rw [f_X4_setBounds_3, h7, if_pos (nI_le (by omega) (by omega))], fun _ _ _ => rfl, fun c hc => hA c (by omega)⟩
  | d + 1, i, n + 1, Y, hi, hn, h7, hA => by
    have h0 := kC hs
    have ba := (kCe hs (j := 6 * r + i) (by omega)).1
    have bb := (kCe hs (j := 6 * q + i) (by omega)).1
    have i1 : (nI r * 6) + nI i = nI (6 * r + i) := by rw [l_6, mr6, nI_add]
    have i2 : (nI q * 6) + nI i = nI (6 * q + i) := by rw [l_6, mr6, nI_add]
    have e1 : (if -nI (σ (8 + (6 * q + i))) < nI (σ (8 + (6 * r + i))) - 99 then nI (σ (8 + (6 * r + i))) - 99 else -nI (σ (8 + (6 * q + i)))) = zI (-(nlP σ r q i : Int)) := by
      rw [l_99, n_neg, nn_sub]
      unfold nlP
      by_cases g : -(σ (8 + (6 * q + i)) : Int) < (σ (8 + (6 * r + i)) : Int) - (99 : Nat)
      · rw [if_pos (of_eq_true (zlt_T g (by omega) (by omega)))]
        congr 1; omega
      · rw [if_neg (of_eq_false (zlt_F (by omega) (by omega) (by omega)))]
        congr 1; omega
    have e2 : (if 99 - nI (σ (8 + (6 * q + i))) < nI (σ (8 + (6 * r + i))) then 99 - nI (σ (8 + (6 * q + i))) else nI (σ (8 + (6 * r + i)))) = nI (nhP σ r q i) := by
      rw [l_99, nI_sub' bb]
      unfold nhP
      by_cases g : 99 - σ (8 + (6 * q + i)) < σ (8 + (6 * r + i))
      · rw [if_pos (nI_lt g (by omega))]
        congr 1; omega
      · rw [if_neg (nI_nlt (by omega) (by omega))]
        congr 1; omega
    obtain ⟨Y', a1, a2, a3⟩ := h_sb3 (F := F) hC hs hr hq k d (i + 1) n (mr (mr Y 2 (upd (Y 2) i (zI (-(nlP σ r q i : Int))))) 3 (upd (Y 3) i (nI (nhP σ r q i)))) (by omega) (by omega) (by rw [mr_n _ _ (by decide), mr_n _ _ (by decide)]; exact h7) (fun c hc => by
      rw [mr_n _ _ (by decide), mr_s, mr_s]
      by_cases e : c = i
      · rw [e, pk_us, pk_us]; exact ⟨rfl, rfl⟩
      · rw [pk_un e, pk_un e]; exact hA c (by omega))
    refine ⟨Y', ?_, fun x x2 x3 => by rw [a2 x x2 x3, mr_n _ _ x3, mr_n _ _ x2], a3⟩
    rw [f_X4_setBounds_3, h7, if_neg (nI_ge (by omega) (by omega)), i1, i2, ck_n (by omega) (by decide), ck_n (by omega) (by decide), ck_n (by omega) (by decide), ck_n (by omega) (by decide), nI_clamp (by omega), nI_clamp (by omega), nI_clamp (by omega), cCe hC (by omega), cCe hC (by omega), e1, e2, nI_1]
    exact a1
theorem h_ss23 {F : Nat} {C : Mem} {σ : Sg} {nl nh : Nat → Nat} (hC : StC C σ) (h : okF σ nl nh) {s : Nat} (hs : s ≤ 2000000000) (k : Mem → Option Mem) : ∀ (d c n : Nat) (Y : Mem), c + d + 1 = σ 0 → d < n → Y 0 7 = nI (σ 0) → (∀ j, j < σ 0 → Y 2 j = zI (-(nl j : Int)) ∧ Y 3 j = nI (nh j)) → (∀ j, j ≤ c → Y 4 j = nI (wyA σ s j) ∧ Y 5 j = zI (loS σ nl nh s j) ∧ Y 6 j = zI (hiS σ nl s j)) → ∃ Y', f_X4_setShifts_23 F C k n Y (nI (c + 1)) = k Y' ∧ (∀ x, x ≠ 4 → x ≠ 5 → x ≠ 6 → Y' x = Y x) ∧ YsH σ nl nh s Y'
  | d, c, 0, Y, _, h, _, _, _ => by omega
  | 0, c, n + 1, Y, hc, _, h7, hB, hA => by
    have h0 := kC h.1
    refine ⟨Y, by rw [f_X4_setShifts_23, h7, if_pos (nI_le (by omega) (by omega))], fun _ _ _ _ => rfl, h7, fun j hj => ⟨(hB j hj).1, (hB j hj).2, hA j (by omega)⟩⟩
  | d + 1, c, n + 1, Y, hc, hn, h7, hB, hA => by
    have h0 := kC h.1
    have hc' : c + 1 < σ 0 := by omega
    obtain ⟨u1, u2⟩ := uR_b h.1 hc'
    obtain ⟨b1, b2⟩ := h.2.2 c (by omega)
    obtain ⟨w1, w2, w3, w4⟩ := sh_b h s c (by omega)
    obtain ⟨v1, v2, v3, v4⟩ := sh_b h s (c + 1) (by omega)
    obtain ⟨y4, y5, y6⟩ := hA c (Nat.le_refl _)
    obtain ⟨y2, y3⟩ := hB c (by omega)
    have al := wyA_le σ s c
    have ml := Nat.mod_lt (wyA σ s c) (show 0 < uR σ c by omega)
    have em : nI (c + 1) - 1 = nI c := nI_pred c
    have ed : nI (wyA σ s c) / nI (uR σ c) = nI (wyA σ s (c + 1)) := pk_div (by omega) (by omega) (by omega)
    have er : nI (wyA σ s c) - nI (wyA σ s c) / nI (uR σ c) * nI (uR σ c) = nI (wyA σ s c % uR σ c) := pk_rem (by omega) (by omega) (by omega)
    have f1 : nI (nh c) - zI (loS σ nl nh s c) - nI (wyA σ s c % uR σ c) = zI ((nh c : Int) - loS σ nl nh s c - ((wyA σ s c % uR σ c : Nat) : Int)) := by rw [nz_sub, zn_sub]
    have f2 : nI (wyA σ s c % uR σ c) + zI (hiS σ nl s c) - zI (-(nl c : Int)) = zI (((wyA σ s c % uR σ c : Nat) : Int) + hiS σ nl s c + (nl c : Int)) := by
      rw [nz_add, zz_sub]; congr 1; omega
    have g1 : -zI (((nh c : Int) - loS σ nl nh s c - ((wyA σ s c % uR σ c : Nat) : Int)) / (uR σ c : Int)) = zI (loS σ nl nh s (c + 1)) := by rw [z_neg]; rfl
    have g2 : zI ((((wyA σ s c % uR σ c : Nat) : Int) + hiS σ nl s c + (nl c : Int)) / (uR σ c : Int)) = zI (hiS σ nl s (c + 1)) := rfl
    have m1 : (if (-100 : Int32) < zI (loS σ nl nh s (c + 1)) then zI (loS σ nl nh s (c + 1)) else -100) = zI (loS σ nl nh s (c + 1)) := by
      have e : (-100 : Int32) = zI (-100) := by decide
      rw [e]
      by_cases q : -100 < loS σ nl nh s (c + 1)
      · rw [if_pos (of_eq_true (zlt_T q (by omega) (by omega)))]
      · rw [if_neg (of_eq_false (zlt_F (by omega) (by omega) (by omega)))]
        congr 1; omega
    have m2 : (if zI (hiS σ nl s (c + 1)) < (100 : Int32) then zI (hiS σ nl s (c + 1)) else 100) = zI (hiS σ nl s (c + 1)) := by
      have e : (100 : Int32) = zI 100 := by decide
      rw [e]
      by_cases q : hiS σ nl s (c + 1) < 100
      · rw [if_pos (of_eq_true (zlt_T q (by omega) (by omega)))]
      · rw [if_neg (of_eq_false (zlt_F (by omega) (by omega) (by omega)))]
        congr 1; omega
    obtain ⟨Y', a1, a2, a3⟩ := h_ss23 (F := F) hC h hs k d (c + 1) n (mr (mr (mr Y 4 (upd (Y 4) (c + 1) (nI (wyA σ s (c + 1))))) 5 (upd (Y 5) (c + 1) (zI (loS σ nl nh s (c + 1))))) 6 (upd (Y 6) (c + 1) (zI (hiS σ nl s (c + 1))))) (by omega) (by omega) (by rw [mr_n _ _ (by decide), mr_n _ _ (by decide), mr_n _ _ (by decide)]; exact h7) (fun j hj => by
      rw [mr_n _ _ (by decide), mr_n _ _ (by decide), mr_n _ _ (by decide), mr_n _ _ (by decide), mr_n _ _ (by decide), mr_n _ _ (by decide)]
      exact hB j hj) (fun j hj => by
      rw [mr_n (k := 6) (j := 4) _ _ (by decide), mr_n (k := 5) (j := 4) _ _ (by decide), mr_s, mr_n (k := 6) (j := 5) _ _ (by decide), mr_s, mr_s]
      by_cases e : j = c + 1
      · rw [e, pk_us, pk_us, pk_us]; exact ⟨rfl, rfl, rfl⟩
      · rw [pk_un e, pk_un e, pk_un e]; exact hA j (by omega))
    refine ⟨Y', ?_, fun x x4 x5 x6 => by rw [a2 x x4 x5 x6, mr_n _ _ x6, mr_n _ _ x5, mr_n _ _ x4], a3⟩
    rw [f_X4_setShifts_23, h7, if_neg (nI_ge (by omega) (by omega)), em, nI_clamp (show c + 1 < 2147483648 by omega), nI_clamp (show c < 2147483648 by omega), rat2 hC h.1 hc', ck_n (by omega) (by decide), ck_n (by omega) (by decide), dv_n (by omega) (by omega), ck_n (by omega) (by decide), ck_n (by omega) (by decide), dv_n (by omega) (by omega), ck_n (by omega) (by decide), ck_n (by omega) (by decide), pk_un (show c ≠ c + 1 by omega), y4, er, y3, y5, f1, fd_z F (by omega) (by omega) (by omega) (by omega), Option.bind_some, ck_n (by omega) (by decide), ck_n (by omega) (by decide), y6, y2, f2, fd_z F (by omega) (by omega) (by omega) (by omega), Option.bind_some, ck_n (by omega) (by decide), ck_n (by omega) (by decide), g1, g2, m1, m2, ed, nI_1]
    exact a1
