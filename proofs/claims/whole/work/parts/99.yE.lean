/-! PURE LAYER: payments, the class's table filled -/
def YtA (σ : Sg) (nl nh : Nat → Nat) (s : Nat) (Y : Mem) (c : Nat) : Prop := ∀ c', c ≤ c' → c' < σ 0 → YtH σ nl nh s Y c'
theorem YsH_p {σ : Sg} {nl nh : Nat → Nat} {s : Nat} {Y Y' : Mem} (h : YsH σ nl nh s Y) (p : ∀ x, x ≠ 1 → x ≠ 7 → Y' x = Y x) : YsH σ nl nh s Y' := ⟨by rw [p 0 (by decide) (by decide)]; exact h.1, fun c hc => by
  rw [p 2 (by decide) (by decide), p 3 (by decide) (by decide), p 4 (by decide) (by decide), p 5 (by decide) (by decide), p 6 (by decide) (by decide)]
  exact h.2 c hc⟩
theorem h_wo64 {F : Nat} {C : Mem} {σ : Sg} {nl nh : Nat → Nat} (hF : 1000 ≤ F) (hC : StC C σ) (h : okF σ nl nh) {s : Nat} (hs : s ≤ 2000000000) {c : Nat} (hc : c < σ 0) (x4 : Int32) (k : Mem → Option (Int32 × Mem)) : ∀ (d : Nat) (sh : Int) (n : Nat) (Y : Mem), sh + d = hiS σ nl s c + 1 → loS σ nl nh s c ≤ sh → d < n → YsH σ nl nh s Y → YtA σ nl nh s Y (c + 1) → (∀ t, loS σ nl nh s c ≤ t → t < sh → Y 7 ((201 * c : Nat) + 100 + t).toNat = cz (bsN σ nl nh (σ 0 - 1 - c) c ((wyA σ s c : Int) + t))) → ∃ Y', f_X4_workOut_64 F C x4 (nI c) k n Y (zI sh) = k Y' ∧ YtA σ nl nh s Y' c ∧ ∀ x, x ≠ 7 → Y' x = Y x
  | d, sh, 0, Y, _, _, h, _, _, _ => by omega
  | 0, sh, n + 1, Y, hd, hl, _, hY, hT, hR => by
    have h0 := kC h.1
    obtain ⟨w1, w2, w3, w4⟩ := sh_b h s c hc
    obtain ⟨y2, y3, y4, y5, y6⟩ := hY.2 c hc
    refine ⟨Y, ?_, fun c' g1 g2 => ?_, fun _ _ => rfl⟩
    · rw [f_X4_workOut_64, ck_n (by omega) (by decide), nI_clamp (by omega), y6, if_pos (of_eq_true (zlt_T (by omega) (by omega) (by omega)))]
    · by_cases e : c' = c
      · rw [e]
        intro t t1 t2
        exact hR t t1 (by omega)
      · exact hT c' (by omega) g2
  | d + 1, sh, n + 1, Y, hd, hl, hn, hY, hT, hR => by
    have h0 := kC h.1
    obtain ⟨w1, w2, w3, w4⟩ := sh_b h s c hc
    obtain ⟨y2, y3, y4, y5, y6⟩ := hY.2 c hc
    have al := wyA_le σ s c
    have bc := h_bestCost (F := F) hF hC h hs hY hc (fun g => hT (c + 1) (Nat.le_refl _) g) (v := (wyA σ s c : Int) + sh) (by omega) (by omega)
    have p1 : ∀ x, x ≠ 7 → (mr Y 7 (upd (Y 7) (((201 * c : Nat) : Int) + 100 + sh).toNat (cz (bsN σ nl nh (σ 0 - 1 - c) c ((wyA σ s c : Int) + sh))))) x = Y x := fun x hx => mr_n _ _ hx
    obtain ⟨Y', a1, a2, a3⟩ := h_wo64 (F := F) hF hC h hs hc x4 k d (sh + 1) n (mr Y 7 (upd (Y 7) (((201 * c : Nat) : Int) + 100 + sh).toNat (cz (bsN σ nl nh (σ 0 - 1 - c) c ((wyA σ s c : Int) + sh))))) (by omega) (by omega) (by omega) (YsH_p hY (fun x _ hx => p1 x hx)) (fun c' g1 g2 t t1 t2 => by
      obtain ⟨z1, z2, z3, z4⟩ := sh_b h s c' g2
      rw [mr_s, pk_un (by omega)]
      exact hT c' g1 g2 t t1 t2) (fun t t1 t2 => by
      rw [mr_s]
      by_cases e : t = sh
      · rw [e, pk_us]
      · rw [pk_un (by omega)]
        exact hR t t1 (by omega))
    refine ⟨Y', ?_, a2, fun x hx => by rw [a3 x hx, p1 x hx]⟩
    have ei : nI c * 201 + 100 + zI sh = zI (((201 * c : Nat) : Int) + 100 + sh) := by
      rw [l_201, mr201, l_100, nI_add, nz_add]
      congr 1
    have es : zI sh + 1 = zI (sh + 1) := by
      rw [show (1 : Int32) = nI 1 from rfl, zn_add]
      rfl
    rw [f_X4_workOut_64, ck_n (by omega) (by decide), nI_clamp (by omega), y6, if_neg (of_eq_false (zlt_F (by omega) (by omega) (by omega))), ck_n (by omega) (by decide), y4, nz_add, bc, Option.bind_some, ei, ck_z (by omega) (by omega) (by decide), z_clamp (by omega) (by omega), es]
    exact a1
theorem h_wo50 {F : Nat} {C : Mem} {σ : Sg} {nl nh : Nat → Nat} (hF : 1000 ≤ F) (hC : StC C σ) (h : okF σ nl nh) {s : Nat} (hs : s ≤ 2000000000) (x4 : Int32) (k : Mem → Option (Int32 × Mem)) : ∀ (i n : Nat) (Y : Mem), i ≤ σ 0 → i < n → YsH σ nl nh s Y → YtA σ nl nh s Y i → ∃ Y', f_X4_workOut_50 F C x4 k n Y (dn i) = k Y' ∧ YtA σ nl nh s Y' 0 ∧ ∀ x, x ≠ 7 → Y' x = Y x
  | i, 0, Y, _, h, _, _ => by omega
  | 0, n + 1, Y, _, _, hY, hT => ⟨Y, by rw [f_X4_workOut_50, if_pos (by decide)], hT, fun _ _ => rfl⟩
  | i + 1, n + 1, Y, hi, hn, hY, hT => by
    have h0 := kC h.1
    obtain ⟨w1, w2, w3, w4⟩ := sh_b h s i (by omega)
    obtain ⟨y2, y3, y4, y5, y6⟩ := hY.2 i (by omega)
    have dnn : nI i + (-1 : Int32) = dn i := (Int32.sub_eq_add_neg _ _).symm
    obtain ⟨Y1, a1, a2, a3⟩ := h_wo64 (F := F) hF hC h hs (c := i) (by omega) x4 (fun Y_116 => f_X4_workOut_50 F C x4 k n Y_116 (dn i)) (hiS σ nl s i + 1 - loS σ nl nh s i).toNat (loS σ nl nh s i) F Y (by omega) (Int.le_refl _) (by omega) hY hT (fun t t1 t2 => by omega)
    obtain ⟨Y', b1, b2, b3⟩ := h_wo50 (F := F) hF hC h hs x4 k i n Y1 (by omega) (by omega) (YsH_p hY (fun x _ hx => a3 x hx)) a2
    refine ⟨Y', ?_, b2, fun x hx => by rw [b3 x hx, a3 x hx]⟩
    rw [f_X4_workOut_50, dn_s, if_neg (show ¬ nI i < (0 : Int32) from nI_nlt (b := 0) (by omega) (by omega)), ck_n (by omega) (by decide), nI_clamp (by omega), y5, dnn]
    exact a1.trans b1
