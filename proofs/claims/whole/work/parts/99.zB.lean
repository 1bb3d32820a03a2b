/-! PURE LAYER: breaks, the class -/
theorem shf_b {m i : Nat} (hm : m < 32) (hi : i < 5) : ((nI m >>> ((nI (i + 1) - 1) &&& 31)) &&& 1) = nI (m / 2 ^ i % 2) := by
  have H : ∀ m : Fin 32, ∀ i : Fin 5, ((nI m.val >>> ((nI (i.val + 1) - 1) &&& 31)) &&& 1) = nI (m.val / 2 ^ i.val % 2) := by decide +kernel
  exact H ⟨m, hm⟩ ⟨i, hi⟩
theorem shf_1 {n : Nat} (h1 : 0 < n) (h2 : n ≤ 6) : (1 : Int32) <<< ((nI n - 1) &&& 31) = nI (2 ^ (n - 1)) := by
  have H : ∀ n : Fin 6, (1 : Int32) <<< ((nI (n.val + 1) - 1) &&& 31) = nI (2 ^ (n.val + 1 - 1)) := by decide +kernel
  have := H ⟨n - 1, by omega⟩
  have e : n - 1 + 1 = n := by omega
  simp only [e] at this
  exact this
theorem bc_n (F : Nat) {m : Nat} (hm : m < 32) : f_JI_bitCount F (nI m) = some (nI (pcN 5 m)) := by
  have H : ∀ m : Fin 32, f_JI_bitCount 0 (nI m.val) = some (nI (pcN 5 m.val)) := by
    unfold f_JI_bitCount
    decide +kernel
  exact H ⟨m, hm⟩
theorem pc_5 {d m : Nat} (hd : d ≤ 5) (hm : m < 2 ^ d) : pcN d m = pcN 5 m := by
  have H : ∀ d : Fin 6, ∀ m : Fin 32, m.val < 2 ^ d.val → pcN d.val m.val = pcN 5 m.val := by decide +kernel
  have p : 2 ^ d ≤ 2 ^ 5 := Nat.pow_le_pow_right (by decide) hd
  exact H ⟨d, by omega⟩ ⟨m, by omega⟩ hm
theorem pc_le : ∀ d m, pcN d m ≤ d
  | 0, _ => Nat.le_refl _
  | d + 1, m => by
    have := pc_le d (m / 2)
    show m % 2 + pcN d (m / 2) ≤ d + 1
    omega
theorem n_1 (i : Nat) : nI (i + 1) + (-1 : Int32) = nI i := (Int32.sub_eq_add_neg _ _).symm.trans (nI_pred i)
theorem h_ba14 {F : Nat} {C : Mem} {LP : MemL} {wP vP : Bool} {σ : Sg} (hC : StC C σ) (hs : okS σ) {h : Nat → Nat} (hh : ∀ c, c < σ 0 → h c ≤ 99) {m : Nat} (hm : m < 32) (k72 k80 : Mem → Option (Int32 × Mem)) : ∀ (i n : Nat) (P : Mem), i < σ 0 → i < n → (∀ j, i < j → j < σ 0 → bbN m j ≤ h j + uR σ j * (m / 2 ^ j % 2) ∧ P 2 j = nI (lyN σ h m j)) → P 2 i = nI (h i + uR σ i * (m / 2 ^ i % 2)) → (∀ j, j < i → P 2 j = nI (h j)) → (i + 1 = σ 0 → m / 2 ^ i % 2 = 0) → ∃ P', ((∀ j, j < σ 0 → bbN m j ≤ h j + uR σ j * (m / 2 ^ j % 2)) ∧ f_X5_breakAll_14 F LP wP vP C (nI m) k72 k80 n P (nI i) = k80 P' ∧ PtH σ (lyN σ h m) P') ∨ (¬ (∀ j, j < σ 0 → bbN m j ≤ h j + uR σ j * (m / 2 ^ j % 2)) ∧ f_X5_breakAll_14 F LP wP vP C (nI m) k72 k80 n P (nI i) = k72 P')
  | i, 0, P, _, hn, _, _, _, _ => by omega
  | 0, n + 1, P, hi, _, h1, h2, h3, _ => by
    refine ⟨P, Or.inl ⟨fun j hj => ?_, ?_, fun j hj => ?_⟩⟩
    · cases j with
      | zero => exact Nat.zero_le _
      | succ j => exact (h1 (j + 1) (by omega) hj).1
    · rw [f_X5_breakAll_14, if_pos (show nI 0 < (1 : Int32) by decide)]
    · cases j with
      | zero => exact h2
      | succ j => exact (h1 (j + 1) (by omega) hj).2
  | i + 1, n + 1, P, hi, hn, h1, h2, h3, h4 => by
    have h0 := kC hs
    have hhi := hh (i + 1) hi
    have hhj := hh i (by omega)
    obtain ⟨v1, v2⟩ := uR_b hs (c := i) (by omega)
    have eb : bbN m (i + 1) = m / 2 ^ i % 2 := rfl
    have b2 : m / 2 ^ i % 2 < 2 := Nat.mod_lt _ (by decide)
    have p2 : m / 2 ^ (i + 1) % 2 < 2 := Nat.mod_lt _ (by decide)
    have ul : uR σ (i + 1) * (m / 2 ^ (i + 1) % 2) ≤ 20 := by
      by_cases q : i + 1 + 1 = σ 0
      · rw [h4 q]; omega
      · obtain ⟨w1, w2⟩ := uR_b hs (c := i + 1) (by omega)
        rcases (by omega : m / 2 ^ (i + 1) % 2 = 0 ∨ m / 2 ^ (i + 1) % 2 = 1) with e | e
        · rw [e]; omega
        · rw [e]; omega
    have go : ∀ P1 : Mem, (∀ j, i < j → j < σ 0 → bbN m j ≤ h j + uR σ j * (m / 2 ^ j % 2) ∧ P1 2 j = nI (lyN σ h m j)) → P1 2 i = nI (h i + uR σ i * (m / 2 ^ i % 2)) → (∀ j, j < i → P1 2 j = nI (h j)) → ∃ P', ((∀ j, j < σ 0 → bbN m j ≤ h j + uR σ j * (m / 2 ^ j % 2)) ∧ f_X5_breakAll_14 F LP wP vP C (nI m) k72 k80 n P1 (nI i) = k80 P' ∧ PtH σ (lyN σ h m) P') ∨ (¬ (∀ j, j < σ 0 → bbN m j ≤ h j + uR σ j * (m / 2 ^ j % 2)) ∧ f_X5_breakAll_14 F LP wP vP C (nI m) k72 k80 n P1 (nI i) = k72 P') := fun P1 g1 g2 g3 => h_ba14 (F := F) (LP := LP) (wP := wP) (vP := vP) hC hs hh hm k72 k80 i n P1 (by omega) (by omega) g1 g2 g3 (fun q => by omega)
    have nl : ¬ nI (i + 1) < (1 : Int32) := nI_nlt (a := i + 1) (b := 1) (by omega) (by omega)
    have pr : nI (i + 1) - 1 = nI i := nI_pred i
    rcases (by omega : m / 2 ^ i % 2 = 0 ∨ m / 2 ^ i % 2 = 1) with e | e
    · -- not broken
      obtain ⟨P', a1⟩ := go P (fun j j1 j2 => by
        by_cases q : j = i + 1
        · subst q
          refine ⟨by omega, ?_⟩
          rw [h2]
          unfold lyN
          rw [eb, e, Nat.sub_zero]
        · exact h1 j (by omega) j2) (by rw [h3 i (by omega), e, Nat.mul_zero, Nat.add_zero]) (fun j hj => h3 j (by omega))
      have key : f_X5_breakAll_14 F LP wP vP C (nI m) k72 k80 (n + 1) P (nI (i + 1)) = f_X5_breakAll_14 F LP wP vP C (nI m) k72 k80 n P (nI i) := by
        rw [f_X5_breakAll_14, if_neg nl, shf_b hm (by omega), e, if_neg (show ¬ nI 0 = (1 : Int32) by decide)]
        unfold f_X5_breakAll_62
        rw [ck_n (by omega) (by decide), nI_clamp (by omega), h2, if_pos (show (0 : Int32) ≤ nI (h (i + 1) + uR σ (i + 1) * (m / 2 ^ (i + 1) % 2)) from nI_le (a := 0) (by omega) (by omega)), n_1]
      rw [key]
      exact ⟨P', a1⟩
    · -- one is broken
      have ne : ¬ i = i + 1 := by omega
      have rt : C 1 (i + 1) = nI (uR σ i) := cRt hC hi
      have key : ∀ z : Int32, nI (h (i + 1) + uR σ (i + 1) * (m / 2 ^ (i + 1) % 2)) - 1 = z → f_X5_breakAll_14 F LP wP vP C (nI m) k72 k80 (n + 1) P (nI (i + 1)) = if 0 ≤ z then f_X5_breakAll_14 F LP wP vP C (nI m) k72 k80 n (mr P 2 (upd (upd (P 2) (i + 1) z) i (nI (h i + uR σ i)))) (nI i) else k72 (mr P 2 (upd (upd (P 2) (i + 1) z) i (nI (h i + uR σ i)))) := fun z hz => by
        have es : (mr P 2 (upd (upd (P 2) (i + 1) z) i (nI (h i + uR σ i)))) 2 (i + 1) = z := by
          rw [mr_s, pk_un (show i + 1 ≠ i by omega), pk_us]
        rw [f_X5_breakAll_14, if_neg nl, shf_b hm (by omega), e, if_pos (show nI 1 = (1 : Int32) by decide), pr, ck_n (by omega) (by decide), ck_n (by omega) (by decide), ck_n (by omega) (by decide), ck_n (by omega) (by decide), ck_n (by omega) (by decide), nI_clamp (by omega), nI_clamp (by omega), h2, hz, pk_un (show i ≠ i + 1 by omega), h3 i (by omega), rt, nI_add]
        unfold f_X5_breakAll_62
        rw [ck_n (by omega) (by decide), nI_clamp (by omega), es, n_1]
      by_cases q : 1 ≤ h (i + 1) + uR σ (i + 1) * (m / 2 ^ (i + 1) % 2)
      · obtain ⟨P', a1⟩ := go (mr P 2 (upd (upd (P 2) (i + 1) (nI (h (i + 1) + uR σ (i + 1) * (m / 2 ^ (i + 1) % 2) - 1))) i (nI (h i + uR σ i)))) (fun j j1 j2 => by
          rw [mr_s, pk_un (show j ≠ i by omega)]
          by_cases q2 : j = i + 1
          · subst q2
            refine ⟨by omega, ?_⟩
            rw [pk_us]
            unfold lyN
            rw [eb, e]
          · rw [pk_un q2]
            exact h1 j (by omega) j2) (by rw [mr_s, pk_us, e, Nat.mul_one]) (fun j hj => by rw [mr_s, pk_un (by omega), pk_un (by omega)]; exact h3 j (by omega))
        rw [key _ (nI_sub' (b := 1) q), if_pos (show (0 : Int32) ≤ nI (h (i + 1) + uR σ (i + 1) * (m / 2 ^ (i + 1) % 2) - 1) from nI_le (a := 0) (by omega) (by omega))]
        exact ⟨P', a1⟩
      · have ez : h (i + 1) + uR σ (i + 1) * (m / 2 ^ (i + 1) % 2) = 0 := by omega
        refine ⟨mr P 2 (upd (upd (P 2) (i + 1) (-1)) i (nI (h i + uR σ i))), Or.inr ⟨fun w => ?_, ?_⟩⟩
        · have := w (i + 1) hi
          omega
        · rw [key (-1) (by rw [ez]; decide), if_neg (by decide)]
theorem h_breakAll {F : Nat} {C P : Mem} {LP : MemL} {wP vP : Bool} {σ : Sg} (hF : 10 ≤ F) (hC : StC C σ) (hs : okS σ) {r : Nat} (hr : r < σ 1) {m : Nat} (hm : m < 2 ^ (σ 0 - 1)) : ∃ P', ((∀ j, j < σ 0 → bbN m j ≤ σ (8 + (6 * r + j)) + uR σ j * (m / 2 ^ j % 2)) ∧ f_X5_breakAll F P LP wP vP C (nI r) (nI m) = some (1, P') ∧ PtH σ (lyN σ (fun j => σ (8 + (6 * r + j))) m) P') ∨ (¬ (∀ j, j < σ 0 → bbN m j ≤ σ (8 + (6 * r + j)) + uR σ j * (m / 2 ^ j % 2)) ∧ f_X5_breakAll F P LP wP vP C (nI r) (nI m) = some (0, P')) := by
  have h0 := kC hs
  have h1 := kR hs
  have h0' := kCR hs (by omega)
  obtain ⟨P1, a1, a2, a3⟩ := h_lift (F := F) (P := P) (LP := LP) (wP := wP) (vP := vP) hF hC hs (r := r) (by omega)
  have p5 : 2 ^ (σ 0 - 1) ≤ 2 ^ 5 := Nat.pow_le_pow_right (by decide) (by omega)
  have ez : m / 2 ^ (σ 0 - 1) = 0 := Nat.div_eq_of_lt hm
  have H := h_ba14 (F := F) (C := C) (LP := LP) (wP := wP) (vP := vP) (σ := σ) hC hs (h := fun j => σ (8 + (6 * r + j))) (fun c hc => (kCe hs (j := 6 * r + c) (by omega)).1) (m := m) (by omega) (fun P_72 => (some (0, P_72))) (fun P_80 => (some (1, P_80))) (σ 0 - 1) F P1 (by omega) (by omega) (fun j j1 j2 => by omega) (by rw [ez, Nat.zero_mod, Nat.mul_zero, Nat.add_zero]; exact a3 _ (by omega)) (fun j hj => a3 j (by omega)) (fun _ => by rw [ez])
  unfold f_X5_breakAll
  rw [a1, Option.bind_some, cC hC, show nI (σ 0) - 1 = nI (σ 0 - 1) from nI_sub' (b := 1) h0']
  exact H
def IvB (σ : Sg) (h : Nat → Nat) (s i : Nat) (B : Int32) : Prop := (B = -2 ∧ ∀ m, m < i → ¬ Fm σ h (σ 0 - 1) 0 s 0 m) ∨ ∃ v, B = nI v ∧ v ≤ 5 ∧ (∃ m, m < i ∧ pcN 5 m = v ∧ Fm σ h (σ 0 - 1) 0 s 0 m) ∧ ∀ m, m < i → Fm σ h (σ 0 - 1) 0 s 0 m → v ≤ pcN 5 m
theorem ne_2 {v : Nat} (h : v < 2147483648) : ¬ nI v = (-2 : Int32) := fun q => by
  have := congrArg Int32.toInt q
  rw [nI_toInt h, show (-2 : Int32).toInt = -2 by decide] at this
  omega
theorem h_fb56 {F : Nat} {C P : Mem} {LP : MemL} {wP vP : Bool} {σ : Sg} (hF : 10 ≤ F) (hC : StC C σ) (hs : okS σ) {r s : Nat} (hr : r < σ 1) (hS : s < 2147483648) {m : Nat} (hm : m < 2 ^ (σ 0 - 1)) (B x5 z : Int32) (k : Mem → Int32 → Int32 → Option (Int32 × Mem)) : ∃ P', (Fm σ (fun j => σ (8 + (6 * r + j))) (σ 0 - 1) 0 s 0 m ∧ f_X5_fewestBreaks_56 F P LP wP vP C (nI r) (nI s) B x5 (nI m) z k = k P' z (nI (m + 1))) ∨ (¬ Fm σ (fun j => σ (8 + (6 * r + j))) (σ 0 - 1) 0 s 0 m ∧ f_X5_fewestBreaks_56 F P LP wP vP C (nI r) (nI s) B x5 (nI m) z k = k P' B (nI (m + 1))) := by
  have h0 := kC hs
  have h1 := kR hs
  have h0' := kCR hs (by omega)
  have T := Fm_tk (h := fun j => σ (8 + (6 * r + j))) hs hm (σ 0 - 1) 0 s (by omega)
  have e0 : m / 2 ^ 0 = m := by rw [Nat.pow_zero, Nat.div_one]
  rw [e0] at T
  have eb : bbN m 0 = 0 := rfl
  rw [eb] at T
  unfold f_X5_fewestBreaks_56
  obtain ⟨P1, a⟩ := h_breakAll (F := F) (P := P) (LP := LP) (wP := wP) (vP := vP) hF hC hs hr hm
  rcases a with ⟨a1, a2, a3⟩ | ⟨a1, a2⟩
  · obtain ⟨P2, b1, -, -⟩ := h_takeFewest (F := F) (P := P1) (LP := LP) (wP := wP) (vP := vP) hF hC hs h0' (h := lyN σ (fun j => σ (8 + (6 * r + j))) m) (fun c hc => by
      have c1 := (kCe hs (j := 6 * r + c) (by omega)).1
      have c2 : m / 2 ^ c % 2 < 2 := Nat.mod_lt _ (by decide)
      unfold lyN
      show σ (8 + (6 * r + c)) + uR σ c * (m / 2 ^ c % 2) - bbN m c ≤ 999
      by_cases q : c + 1 < σ 0
      · obtain ⟨w1, w2⟩ := uR_b hs (c := c) q
        rcases (by omega : m / 2 ^ c % 2 = 0 ∨ m / 2 ^ c % 2 = 1) with e | e
        · rw [e]; omega
        · rw [e]; omega
      · have ec : c = σ 0 - 1 := by omega
        have ez : m / 2 ^ c = 0 := by rw [ec]; exact Nat.div_eq_of_lt hm
        rw [ez, Nat.zero_mod, Nat.mul_zero]
        omega) a3 hS
    rw [a2, Option.bind_some, if_neg (show ¬ (1 : Int32) = 0 by decide), b1, Option.bind_some]
    by_cases q : tkT σ (lyN σ (fun j => σ (8 + (6 * r + j))) m) (σ 0 - 1) 0 s = s
    · refine ⟨P2, Or.inl ⟨T.mpr ⟨fun j _ j2 => a1 j j2, q⟩, ?_⟩⟩
      rw [if_pos q, if_neg (show ¬ (1 : Int32) = 0 by decide), nI_1]
    · refine ⟨P2, Or.inr ⟨fun w => q (T.mp w).2, ?_⟩⟩
      rw [if_neg q, if_pos (rfl : (0 : Int32) = 0), nI_1]
  · refine ⟨P1, Or.inr ⟨fun w => a1 (fun j hj => (T.mp w).1 j (Nat.zero_le _) hj), ?_⟩⟩
    rw [a2, Option.bind_some, if_pos (rfl : (0 : Int32) = 0), nI_1]
theorem IvB_n {σ : Sg} {h : Nat → Nat} {s i : Nat} {B : Int32} (H : IvB σ h s i B) (f : ¬ Fm σ h (σ 0 - 1) 0 s 0 i) : IvB σ h s (i + 1) B := by
  rcases H with ⟨a1, a2⟩ | ⟨v, a1, a2, ⟨m0, b1, b2, b3⟩, a4⟩
  · refine Or.inl ⟨a1, fun m hm fm => ?_⟩
    by_cases e : m = i
    · rw [e] at fm; exact f fm
    · exact a2 m (by omega) fm
  · refine Or.inr ⟨v, a1, a2, ⟨m0, by omega, b2, b3⟩, fun m hm fm => ?_⟩
    by_cases e : m = i
    · rw [e] at fm; exact absurd fm f
    · exact a4 m (by omega) fm
theorem IvB_y {σ : Sg} {h : Nat → Nat} {s i : Nat} (f : Fm σ h (σ 0 - 1) 0 s 0 i) (H : ∀ m, m < i → Fm σ h (σ 0 - 1) 0 s 0 m → pcN 5 i ≤ pcN 5 m) : IvB σ h s (i + 1) (nI (pcN 5 i)) := by
  refine Or.inr ⟨pcN 5 i, rfl, pc_le 5 i, ⟨i, by omega, rfl, f⟩, fun m hm fm => ?_⟩
  by_cases e : m = i
  · rw [e]; exact Nat.le_refl _
  · exact H m (by omega) fm
theorem IvB_g {σ : Sg} {h : Nat → Nat} {s i v : Nat} (hv : v ≤ 5) (a3 : ∃ m, m < i ∧ pcN 5 m = v ∧ Fm σ h (σ 0 - 1) 0 s 0 m) (a4 : ∀ m, m < i → Fm σ h (σ 0 - 1) 0 s 0 m → v ≤ pcN 5 m) (g : v ≤ pcN 5 i) : IvB σ h s (i + 1) (nI v) := by
  obtain ⟨m0, b1, b2, b3⟩ := a3
  refine Or.inr ⟨v, rfl, hv, ⟨m0, by omega, b2, b3⟩, fun m hm fm => ?_⟩
  by_cases e : m = i
  · rw [e]; exact g
  · exact a4 m (by omega) fm
theorem h_fb28 {F : Nat} {C : Mem} {LP : MemL} {wP vP : Bool} {σ : Sg} (hF : 10 ≤ F) (hC : StC C σ) (hs : okS σ) {r s : Nat} (hr : r < σ 1) (hS : s < 2147483648) (k : Mem → Int32 → Option (Int32 × Mem)) : ∀ (e i n : Nat) (P : Mem) (B : Int32), i + e = 2 ^ (σ 0 - 1) → e < n → IvB σ (fun j => σ (8 + (6 * r + j))) s i B → ∃ P' B', f_X5_fewestBreaks_28 F LP wP vP C (nI r) (nI s) (nI (2 ^ (σ 0 - 1))) k n P B (nI i) = k P' B' ∧ IvB σ (fun j => σ (8 + (6 * r + j))) s (2 ^ (σ 0 - 1)) B'
  | e, i, 0, P, B, _, h, _ => by omega
  | 0, i, n + 1, P, B, hi, _, H => by
    have h0 := kC hs
    have p5 : 2 ^ (σ 0 - 1) ≤ 2 ^ 5 := Nat.pow_le_pow_right (by decide) (by omega)
    obtain rfl : i = 2 ^ (σ 0 - 1) := by omega
    exact ⟨P, B, by rw [f_X5_fewestBreaks_28, if_pos (nI_le (Nat.le_refl _) (by omega))], H⟩
  | e + 1, i, n + 1, P, B, hi, hn, H => by
    have h0 := kC hs
    have p5 : 2 ^ (σ 0 - 1) ≤ 2 ^ 5 := Nat.pow_le_pow_right (by decide) (by omega)
    have pl := pc_le 5 i
    rw [f_X5_fewestBreaks_28, if_neg (nI_ge (by omega) (by omega)), bc_n F (by omega), Option.bind_some]
    obtain ⟨P1, a⟩ := h_fb56 (F := F) (P := P) (LP := LP) (wP := wP) (vP := vP) hF hC hs hr hS (m := i) (by omega) B (nI (2 ^ (σ 0 - 1))) (nI (pcN 5 i)) (f_X5_fewestBreaks_28 F LP wP vP C (nI r) (nI s) (nI (2 ^ (σ 0 - 1))) k n)
    have go := fun P1 B1 => h_fb28 (F := F) (LP := LP) (wP := wP) (vP := vP) hF hC hs hr hS k e (i + 1) n P1 B1 (by omega) (by omega)
    rcases H with ⟨a1, a2⟩ | ⟨v, a1, a2, a3, a4⟩
    · rw [if_pos a1]
      rcases a with ⟨f, ek⟩ | ⟨f, ek⟩
      · rw [ek]
        exact go _ _ (IvB_y f (fun m hm fm => absurd fm (a2 m hm)))
      · rw [ek]
        exact go _ _ (IvB_n (Or.inl ⟨a1, a2⟩) f)
    · rw [if_neg (fun q => ne_2 (by omega) (a1.symm.trans q))]
      by_cases g : v ≤ pcN 5 i
      · rw [a1, if_pos (nI_le g (by omega)), nI_1]
        exact go _ _ (IvB_g a2 a3 a4 g)
      · rw [if_neg (show ¬ B ≤ nI (pcN 5 i) by rw [a1]; exact nI_ge (by omega) (by omega))]
        rcases a with ⟨f, ek⟩ | ⟨f, ek⟩
        · rw [ek]
          exact go _ _ (IvB_y f (fun m hm fm => by have := a4 m hm fm; omega))
        · rw [ek]
          exact go _ _ (IvB_n (Or.inr ⟨v, a1, a2, a3, a4⟩) f)
theorem IvB_An {σ : Sg} (hs : okS σ) {h : Nat → Nat} {s : Nat} {B : Int32} (H : IvB σ h s (2 ^ (σ 0 - 1)) B) : AnB σ h s B := by
  have h0 := kC hs
  rcases H with ⟨a1, a2⟩ | ⟨v, a1, a2, ⟨m0, b1, b2, b3⟩, a4⟩
  · refine Or.inl ⟨a1, fun v q => ?_⟩
    obtain ⟨m, m1, m2, m3⟩ := (Fe_Fm (σ 0 - 1) 0 s 0 v).mp q
    exact a2 m m1 m3
  · refine Or.inr ⟨v, a1, (Fe_Fm (σ 0 - 1) 0 s 0 v).mpr ⟨m0, b1, by rw [pc_5 (by omega) b1]; exact b2.symm, b3⟩, fun v' q => ?_⟩
    obtain ⟨m, m1, m2, m3⟩ := (Fe_Fm (σ 0 - 1) 0 s 0 v').mp q
    rw [m2, pc_5 (by omega) m1]
    exact a4 m m1 m3
theorem h_fewestBreaks {F : Nat} {C P : Mem} {LP : MemL} {wP vP : Bool} {σ : Sg} (hF : 100 ≤ F) (hC : StC C σ) (hs : okS σ) {r s : Nat} (hr : r < σ 1) (hS : s < 2147483648) : ∃ B P', f_X5_fewestBreaks F P LP wP vP C (nI r) (nI s) = some (B, P') ∧ AnB σ (fun j => σ (8 + (6 * r + j))) s B := by
  have h0 := kC hs
  have h1 := kR hs
  have h0' := kCR hs (by omega)
  have p5 : 2 ^ (σ 0 - 1) ≤ 2 ^ 5 := Nat.pow_le_pow_right (by decide) (by omega)
  obtain ⟨P', B', a1, a2⟩ := h_fb28 (F := F) (C := C) (LP := LP) (wP := wP) (vP := vP) (by omega) hC hs hr hS (fun P_86 x4_86 => (some (x4_86, P_86))) (2 ^ (σ 0 - 1)) 0 F P (-2) (by omega) (by omega) (Or.inl ⟨rfl, fun m hm => absurd hm (by omega)⟩)
  refine ⟨B', P', ?_, IvB_An hs a2⟩
  unfold f_X5_fewestBreaks
  rw [cC hC, if_neg (show ¬ nI (σ 0) ≤ (0 : Int32) from nI_ge (a := 0) (by omega) (by omega)), shf_1 h0' h0]
  exact a1
