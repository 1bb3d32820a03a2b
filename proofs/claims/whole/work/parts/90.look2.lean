/-! PURE LAYER: where to look next: class and reference side by side -/
def KB (N N' : Mem) : Prop := ∀ c, c ≠ 7 → c ≠ 8 → c ≠ 9 → N' c = N c
theorem KB_tr {N0 N1 N2 : Mem} (h : KB N0 N1) (g : KB N1 N2) : KB N0 N2 := fun c h7 h8 h9 => (g c h7 h8 h9).trans (h c h7 h8 h9)
theorem CaN_B {N N' : Mem} {σ : Sg} (k : KB N N') (h : CaN N σ) : CaN N' σ := by
  unfold CaN La So XA at *
  rw [k 0 (by decide) (by decide) (by decide), k 1 (by decide) (by decide) (by decide), k 2 (by decide) (by decide) (by decide), k 3 (by decide) (by decide) (by decide), k 4 (by decide) (by decide) (by decide), k 5 (by decide) (by decide) (by decide), k 6 (by decide) (by decide) (by decide)]
  exact h
theorem So_B {N N' : Mem} {σ : Sg} (k : KB N N') (h : So N σ) : So N' σ := by
  unfold So at *
  rw [k 0 (by decide) (by decide) (by decide), k 6 (by decide) (by decide) (by decide)]
  exact h
/-- the best as the class and the reference hold it -/
def BR1 (σ : Sg) (N : Mem) (x2 x3 x4 : Int32) : Prop := ∃ t r c g, x2 = nI t ∧ x3 = nI (6 * r + c) ∧ x4 = nI g ∧ N 9 0 = nI t ∧ N 9 1 = nI r ∧ N 9 2 = nI c ∧ N 9 3 = nI g ∧ r < 4 ∧ c < 6 ∧ g ≤ sn σ
def BR (σ : Sg) (N : Mem) (x2 x3 x4 : Int32) : Prop := (x2 = -1 ∧ x3 = -1 ∧ x4 = -1 ∧ N 9 3 = nI (sn σ + 1)) ∨ BR1 σ N x2 x3 x4
theorem max_c (a b : Nat) (ha : a < 2147483648) (hb : b < 2147483648) : (if nI a < nI b then nI b else nI a) = nI (Nat.max a b) := by
  by_cases w : a < b
  · have e : Nat.max a b = b := Nat.max_eq_right (by omega)
    rw [if_pos (nI_lt w hb), e]
  · have e : Nat.max a b = a := Nat.max_eq_left (by omega)
    rw [if_neg (nI_nlt (by omega) ha), e]
theorem m_cs13 {C : Mem} {LM : MemL} {σ : Sg} (hC : StC C σ) (hs : okS σ) {F t r : Nat} (hF : 10000 ≤ F) (ht : t ≤ 24) (hr : r < σ 1) (wh : Int32) (k : Mem → Option Mem) (k' : Mem → Int32 → Int32 → Int32 → Option (Int32 × Mem)) : ∀ (d c n : Nat) (N M : Mem) (x2 x3 x4 : Int32), c + d = σ 0 → d < n → StM M σ → SoM M σ (48 * (σ 56 + 1)) → So N σ → (∀ j, j < 24 → N 7 j = nI (fw σ t j) ∧ N 8 j = nI (mo σ t j)) → BR σ N x2 x3 x4 → ∃ N' M' y2 y3 y4, f_X2_compareSights_13 F C (nI t) (nI r) k n N (nI c) = k N' ∧ f_X10_look_66 F LM wh (nI t) (nI r) k' n M x2 x3 x4 (nI c) = k' M' y2 y3 y4 ∧ (∀ c, c ≠ 9 → N' c = N c) ∧ Py M M' ∧ BR σ N' y2 y3 y4 ∧ (c < σ 0 ∨ BR1 σ N x2 x3 x4 → BR1 σ N' y2 y3 y4)
  | d, c, 0, N, M, x2, x3, x4, _, h, _, _, _, _, _ => by omega
  | 0, c, n + 1, N, M, x2, x3, x4, hc, _, hM, hS, hN, hG, hB => by
    obtain rfl : c = σ 0 := by omega
    have h0 := kC hs
    have m0 : M 1 (0 : Int32).toNatClampNeg = nI (σ 0) := hM 0 (by omega)
    have ckk : ∀ E : Option (Int32 × Mem), ck 0 226 E = E := fun E => ck_n (i := 0) (by decide) (by decide)
    refine ⟨N, M, x2, x3, x4, ?_, ?_, fun _ _ => rfl, fun _ _ => rfl, hB, fun z => z.resolve_left (by omega)⟩
    · rw [f_X2_compareSights_13, cC hC, if_pos (nI_le (by omega) (by omega))]
    · rw [f_X10_look_66, ckk, m0, if_pos (nI_le (by omega) (by omega))]
  | d + 1, c, n + 1, N, M, x2, x3, x4, hc, hn, hM, hS, hN, hG, hB => by
    have h0 := kC hs
    have h1 := kR hs
    have h5 := kMv hs
    have le : sn σ ≤ 1000 := sl_le h0 (q := 48 * (σ 56 + 1)) (by omega)
    have fl := fm_le σ t (6 * r + c) (sn σ)
    have gl := gr_le σ t (6 * r + c)
    have f1 : fw σ t (6 * r + c) + mo σ t (6 * r + c) ≤ sn σ := fl
    have m0 : M 1 (0 : Int32).toNatClampNeg = nI (σ 0) := hM 0 (by omega)
    have ckk : ∀ E : Option (Int32 × Mem), ck 0 226 E = E := fun E => ck_n (i := 0) (by decide) (by decide)
    have cl : nI r * 6 + nI c = nI (6 * r + c) := cell_nI r c
    have c1 : nI c + 1 = nI (c + 1) := nI_1 c
    obtain ⟨M1, a1, a2⟩ := g_mostAlike (LM := LM) hs hS (F := F) (t := t) (r := r) (c := c) hF ht hr (by omega)
    obtain ⟨g7, g8⟩ := hG (6 * r + c) (by omega)
    have n11 : N 0 11 = nI (sn σ) := hN.1
    have emax : (if nI (sn σ) - nI (fw σ t (6 * r + c)) - nI (mo σ t (6 * r + c)) < (if nI (fw σ t (6 * r + c)) < nI (mo σ t (6 * r + c)) then nI (mo σ t (6 * r + c)) else nI (fw σ t (6 * r + c))) then (if nI (fw σ t (6 * r + c)) < nI (mo σ t (6 * r + c)) then nI (mo σ t (6 * r + c)) else nI (fw σ t (6 * r + c))) else nI (sn σ) - nI (fw σ t (6 * r + c)) - nI (mo σ t (6 * r + c))) = nI (gr σ t (6 * r + c)) := by
      have bm : Nat.max (fw σ t (6 * r + c)) (mo σ t (6 * r + c)) < 2147483648 := by
        have e : Nat.max (fw σ t (6 * r + c)) (mo σ t (6 * r + c)) = max (fw σ t (6 * r + c)) (mo σ t (6 * r + c)) := rfl
        omega
      rw [nI_sub' (by omega), nI_sub' (by omega), max_c _ _ (by omega) (by omega), max_c _ _ (by omega) bm]
      rfl
    have stepC : f_X2_compareSights_13 F C (nI t) (nI r) k (n + 1) N (nI c) = (if N 9 3 ≤ nI (gr σ t (6 * r + c)) then f_X2_compareSights_13 F C (nI t) (nI r) k n N (nI (c + 1)) else f_X2_compareSights_13 F C (nI t) (nI r) k n (mr N 9 (upd (upd (upd (upd (N 9) 0 (nI t)) 1 (nI r)) 2 (nI c)) 3 (nI (gr σ t (6 * r + c))))) (nI (c + 1))) := by
      rw [f_X2_compareSights_13, cC hC, if_neg (nI_ge (by omega) (by omega)), cl, ck_n (by omega) (by decide), ck_n (by omega) (by decide), nI_clamp (by omega), g7, g8, n11, emax, c1]
      rfl
    have stepM : f_X10_look_66 F LM wh (nI t) (nI r) k' (n + 1) M x2 x3 x4 (nI c) = (if x4 = (-1) then f_X10_look_66 F LM wh (nI t) (nI r) k' n M1 (nI t) (nI (6 * r + c)) (nI (gr σ t (6 * r + c))) (nI (c + 1)) else (if nI (gr σ t (6 * r + c)) < x4 then f_X10_look_66 F LM wh (nI t) (nI r) k' n M1 (nI t) (nI (6 * r + c)) (nI (gr σ t (6 * r + c))) (nI (c + 1)) else f_X10_look_66 F LM wh (nI t) (nI r) k' n M1 x2 x3 x4 (nI (c + 1)))) := by
      have e6 : (6 : Int32) * nI r + nI c = nI (6 * r + c) := by rw [l_6, nI_mul', nI_add]
      rw [f_X10_look_66, ckk, m0, if_neg (nI_ge (by omega) (by omega)), a1, Option.bind_some]
      unfold f_X10_look_105 f_X10_cell
      rw [Option.bind_some, e6, c1]
    have hM1 := StM_p hM (Py_m a2)
    have hS1 := Py_S a2 hS
    have nm1 : ∀ a : Nat, a < 2147483648 → ¬ nI a = (-1 : Int32) := fun a ha z => by
      have := congrArg Int32.toInt z
      rw [nI_toInt ha] at this
      have h2 : (-1 : Int32).toInt = -1 := by decide
      omega
    by_cases up : N 9 3 ≤ nI (gr σ t (6 * r + c))
    · have b1 : BR1 σ N x2 x3 x4 := by
        rcases hB with ⟨u1, u2, u3, u4⟩ | h
        · rw [u4] at up
          exact absurd up (nI_ge (by omega) (by omega))
        · exact h
      obtain ⟨t', r', c', g', u1, u2, u3, u4, u5, u6, u7, u8, u9, u10⟩ := id b1
      have x4n : ¬ x4 = -1 := by rw [u3]; exact nm1 g' (by omega)
      have lt : ¬ nI (gr σ t (6 * r + c)) < x4 := by
        rw [u7] at up
        rw [u3]
        exact Int32.not_lt.mpr up
      obtain ⟨N', M', y2, y3, y4, e1, e2, e3, e4, e5, e6⟩ := m_cs13 (LM := LM) hC hs (F := F) hF ht hr wh k k' d (c + 1) n N M1 x2 x3 x4 (by omega) (by omega) hM1 hS1 hN hG hB
      rw [if_pos up] at stepC
      rw [if_neg x4n, if_neg lt] at stepM
      exact ⟨N', M', y2, y3, y4, stepC.trans e1, stepM.trans e2, e3, fun c' hc' => (e4 c' hc').trans (a2 c' hc'), e5, fun _ => e6 (.inr b1)⟩
    · have kb : ∀ c', c' ≠ 9 → mr N 9 (upd (upd (upd (upd (N 9) 0 (nI t)) 1 (nI r)) 2 (nI c)) 3 (nI (gr σ t (6 * r + c)))) c' = N c' := fun c' hc' => mr_n _ _ hc'
      have nb : BR1 σ (mr N 9 (upd (upd (upd (upd (N 9) 0 (nI t)) 1 (nI r)) 2 (nI c)) 3 (nI (gr σ t (6 * r + c))))) (nI t) (nI (6 * r + c)) (nI (gr σ t (6 * r + c))) := ⟨t, r, c, gr σ t (6 * r + c), rfl, rfl, rfl, by simp (disch := omega) only [at1_same, at1_ne, pk_us, pk_un], by simp (disch := omega) only [at1_same, at1_ne, pk_us, pk_un], by simp (disch := omega) only [at1_same, at1_ne, pk_us, pk_un], by simp (disch := omega) only [at1_same, at1_ne, pk_us, pk_un], by omega, by omega, gl⟩
      obtain ⟨N', M', y2, y3, y4, e1, e2, e3, e4, e5, e6⟩ := m_cs13 (LM := LM) hC hs (F := F) hF ht hr wh k k' d (c + 1) n (mr N 9 (upd (upd (upd (upd (N 9) 0 (nI t)) 1 (nI r)) 2 (nI c)) 3 (nI (gr σ t (6 * r + c))))) M1 (nI t) (nI (6 * r + c)) (nI (gr σ t (6 * r + c))) (by omega) (by omega) hM1 hS1 (So_B (fun c _ _ h9 => kb c h9) hN) (fun j hj => by rw [kb 7 (by decide), kb 8 (by decide)]; exact hG j hj) (.inr nb)
      rw [if_neg up] at stepC
      have stepM' : f_X10_look_66 F LM wh (nI t) (nI r) k' (n + 1) M x2 x3 x4 (nI c) = f_X10_look_66 F LM wh (nI t) (nI r) k' n M1 (nI t) (nI (6 * r + c)) (nI (gr σ t (6 * r + c))) (nI (c + 1)) := by
        rcases hB with ⟨u1, u2, u3, u4⟩ | ⟨t', r', c', g', u1, u2, u3, u4, u5, u6, u7, u8, u9, u10⟩
        · rw [stepM, if_pos u3]
        · have x4n : ¬ x4 = -1 := by rw [u3]; exact nm1 g' (by omega)
          have lt : nI (gr σ t (6 * r + c)) < x4 := by
            rw [u7] at up
            rw [u3]
            exact Int32.not_le.mp up
          rw [stepM, if_neg x4n, if_pos lt]
      exact ⟨N', M', y2, y3, y4, stepC.trans e1, stepM'.trans e2, fun c' hc' => (e3 c' hc').trans (kb c' hc'), fun c' hc' => (e4 c' hc').trans (a2 c' hc'), e5, fun _ => e6 (.inr nb)⟩
theorem m_cs2 {C : Mem} {LM : MemL} {σ : Sg} (hC : StC C σ) (hs : okS σ) (h0' : 0 < σ 0) {F t : Nat} (hF : 10000 ≤ F) (ht : t ≤ 24) (wh : Int32) (k : Mem → Option Mem) (k' : Mem → Int32 → Int32 → Int32 → Option (Int32 × Mem)) : ∀ (d r n : Nat) (N M : Mem) (x2 x3 x4 : Int32), r + d = σ 1 → d < n → StM M σ → SoM M σ (48 * (σ 56 + 1)) → So N σ → (∀ j, j < 24 → N 7 j = nI (fw σ t j) ∧ N 8 j = nI (mo σ t j)) → BR σ N x2 x3 x4 → ∃ N' M' y2 y3 y4, f_X2_compareSights_2 F C (nI t) k n N (nI r) = k N' ∧ f_X10_look_52 F LM wh (nI t) k' n M x2 x3 x4 (nI r) = k' M' y2 y3 y4 ∧ (∀ c, c ≠ 9 → N' c = N c) ∧ Py M M' ∧ BR σ N' y2 y3 y4 ∧ (r < σ 1 ∨ BR1 σ N x2 x3 x4 → BR1 σ N' y2 y3 y4)
  | d, r, 0, N, M, x2, x3, x4, _, h, _, _, _, _, _ => by omega
  | 0, r, n + 1, N, M, x2, x3, x4, hr, _, hM, hS, hN, hG, hB => by
    obtain rfl : r = σ 1 := by omega
    have h1 := kR hs
    have m1 : M 1 (1 : Int32).toNatClampNeg = nI (σ 1) := hM 1 (by omega)
    have ckk : ∀ E : Option (Int32 × Mem), ck 1 226 E = E := fun E => ck_n (i := 1) (by decide) (by decide)
    refine ⟨N, M, x2, x3, x4, ?_, ?_, fun _ _ => rfl, fun _ _ => rfl, hB, fun z => z.resolve_left (by omega)⟩
    · rw [f_X2_compareSights_2, cR hC, if_pos (nI_le (by omega) (by omega))]
    · rw [f_X10_look_52, ckk, m1, if_pos (nI_le (by omega) (by omega))]
  | d + 1, r, n + 1, N, M, x2, x3, x4, hr, hn, hM, hS, hN, hG, hB => by
    have h0 := kC hs
    have h1 := kR hs
    have m1 : M 1 (1 : Int32).toNatClampNeg = nI (σ 1) := hM 1 (by omega)
    have ckk : ∀ E : Option (Int32 × Mem), ck 1 226 E = E := fun E => ck_n (i := 1) (by decide) (by decide)
    have c1 : nI r + 1 = nI (r + 1) := nI_1 r
    obtain ⟨N1, M1, y2, y3, y4, a1, a2, a3, a4, a5, a6⟩ := m_cs13 (LM := LM) hC hs (F := F) (t := t) (r := r) hF ht (by omega) wh (fun N_119 => f_X2_compareSights_2 F C (nI t) k n N_119 (nI (r + 1))) (fun M_126 x2_126 x3_126 x4_126 => f_X10_look_52 F LM wh (nI t) k' n M_126 x2_126 x3_126 x4_126 (nI (r + 1))) (σ 0) 0 F N M x2 x3 x4 (by omega) (by omega) hM hS hN hG hB
    obtain ⟨N', M', z2, z3, z4, b1, b2, b3, b4, b5, b6⟩ := m_cs2 (LM := LM) hC hs h0' (F := F) hF ht wh k k' d (r + 1) n N1 M1 y2 y3 y4 (by omega) (by omega) (StM_p hM (Py_m a4)) (Py_S a4 hS) (So_B (fun c _ _ h9 => a3 c h9) hN) (fun j hj => by rw [a3 7 (by decide), a3 8 (by decide)]; exact hG j hj) a5
    refine ⟨N', M', z2, z3, z4, ?_, ?_, fun c hc => (b3 c hc).trans (a3 c hc), fun c hc => (b4 c hc).trans (a4 c hc), b5, fun _ => b6 (.inr (a6 (.inl h0')))⟩
    · rw [f_X2_compareSights_2, cR hC, if_neg (nI_ge (by omega) (by omega)), c1]
      exact a1.trans b1
    · rw [f_X10_look_52, ckk, m1, if_neg (nI_ge (by omega) (by omega)), c1]
      exact a2.trans b2
/-! the slides behind t moves have gone and come -/
def GC (σ : Sg) (N : Mem) (m : Nat) : Prop := ∀ j, j < 24 → N 7 j = nI (cntP (fun i => sQ σ i / 2 % 24 = j) m) ∧ N 8 j = nI (cntP (fun i => slB (sQ σ i) = j) m)
theorem slB_ne {σ : Sg} (hs : okS σ) {i : Nat} (hi : i < sn σ) : slB (sQ σ i) ≠ sQ σ i / 2 % 24 ∧ slB (sQ σ i) < 24 := by
  have h0 := kC hs
  have b := sl_inf hs (i := i) hi
  have e : sQ σ i = slF σ (48 * (σ 56 + 1)) i := rfl
  rw [← e] at b
  unfold slB
  by_cases u : sQ σ i % 2 = 1
  · have := b.2.2.2.2.1 u
    rw [if_pos u]; omega
  · have := b.2.2.2.2.2 (by omega)
    rw [if_neg u]; omega
theorem GC_fm {σ : Sg} (hs : okS σ) {N : Mem} {m t : Nat} (hm : m ≤ sn σ) (h : GC σ N m) (h1 : ∀ i, i < m → sQ σ i / 48 ≤ t) (h2 : ∀ i, m ≤ i → i < sn σ → t < sQ σ i / 48) : ∀ j, j < 24 → N 7 j = nI (fw σ t j) ∧ N 8 j = nI (mo σ t j) := fun j hj => by
  obtain ⟨a, b⟩ := h j hj
  obtain ⟨d, hd⟩ : ∃ d, sn σ = m + d := ⟨sn σ - m, by omega⟩
  have e1 : fw σ t j = cntP (fun i => sQ σ i / 2 % 24 = j) m := by
    unfold fw
    rw [hd, cntP_cut (p := fwP σ t j) d (fun i g1 g2 z => by have := h2 i g1 (by omega); have := z.1; omega)]
    exact cntP_cg m (fun i hi => ⟨fun z => z.2, fun z => ⟨h1 i hi, z⟩⟩)
  have e2 : mo σ t j = cntP (fun i => slB (sQ σ i) = j) m := by
    unfold mo
    rw [hd, cntP_cut (p := mrP σ t j) d (fun i g1 g2 z => by have := h2 i g1 (by omega); have := z.1; omega)]
    exact cntP_cg m (fun i hi => ⟨fun z => z.2.1, fun z => ⟨h1 i hi, z, fun w => (slB_ne hs (i := i) (by omega)).1 (by omega)⟩⟩)
  rw [e1, e2]
  exact ⟨a, b⟩
theorem h_w52 {C : Mem} {σ : Sg} (hs : okS σ) {F t : Nat} (hF : 10000 ≤ F) (ht : t ≤ 24) (k : Mem → Mem → Int32 → Option (Mem × Mem)) : ∀ (d m n : Nat) (N NE : Mem), m + d = sn σ → d < n → So N σ → GC σ N m → (∀ i, i < m → sQ σ i / 48 ≤ t) → (∀ i, m ≤ i → i < sn σ → t ≤ sQ σ i / 48) → ∃ N' NE' m', f_X2_findBestSight_52 F C (nI t) k n N NE (nI m) = k N' NE' (nI m') ∧ (∀ c, c ≠ 7 → c ≠ 8 → N' c = N c) ∧ m' ≤ sn σ ∧ GC σ N' m' ∧ (∀ i, i < m' → sQ σ i / 48 ≤ t) ∧ ∀ i, m' ≤ i → i < sn σ → t < sQ σ i / 48
  | d, m, 0, N, NE, _, h, _, _, _, _ => by omega
  | 0, m, n + 1, N, NE, hm, _, hS, hG, h1, h2 => by
    obtain rfl : m = sn σ := by omega
    have h0 := kC hs
    have h5 := kMv hs
    have le : sn σ ≤ 1000 := sl_le h0 (q := 48 * (σ 56 + 1)) (by omega)
    have n11 : N 0 11 = nI (sn σ) := hS.1
    refine ⟨N, NE, sn σ, ?_, fun _ _ _ => rfl, Nat.le_refl _, hG, h1, fun i g1 g2 => by omega⟩
    rw [f_X2_findBestSight_52, n11, if_pos (nI_le (by omega) (by omega))]
  | d + 1, m, n + 1, N, NE, hm, hn, hS, hG, h1, h2 => by
    have h0 := kC hs
    have h5 := kMv hs
    have le : sn σ ≤ 1000 := sl_le h0 (q := 48 * (σ 56 + 1)) (by omega)
    have n11 : N 0 11 = nI (sn σ) := hS.1
    have hi : m < slN σ (48 * (σ 56 + 1)) := by have : sn σ = slN σ (48 * (σ 56 + 1)) := rfl; omega
    have b := sl_inf hs hi
    have eq : sQ σ m = slF σ (48 * (σ 56 + 1)) m := rfl
    have g1 := h_slTime hs hS F hi
    have g2 := h_slCell hs hS F hi
    have g3 := h_slUp hs hS F hi
    rw [← eq] at b g1 g2 g3
    have bn := slB_ne hs (i := m) (by omega)
    by_cases q : sQ σ m / 48 = t
    · have c1 : nI m + 1 = nI (m + 1) := nI_1 m
      obtain ⟨gA, gB⟩ := hG (sQ σ m / 2 % 24) (by omega)
      obtain ⟨gC, gD⟩ := hG (slB (sQ σ m)) bn.2
      have S1 : ∀ w : Nat → Int32, So (mr N 7 w) σ := fun w => So_B (fun c h7 _ _ => mr_n _ _ h7) hS
      have g2' : ∀ w : Nat → Int32, f_X2_slideCell F (mr N 7 w) (nI m) = some (nI (sQ σ m / 2 % 24)) := fun w => h_slCell hs (S1 w) F hi
      have g3' : ∀ w : Nat → Int32, f_X2_slidesUp F (mr N 7 w) (nI m) = some (nI (sQ σ m % 2)) := fun w => h_slUp hs (S1 w) F hi
      obtain ⟨E', t1, e0, e1, e2, e3⟩ := h_tellSlide (E := NE) (A := sQ σ m / 2 % 24) (B := slB (sQ σ m)) (nI (sQ σ m % 2)) (by
        unfold slB
        rcases (by omega : sQ σ m % 2 = 0 ∨ sQ σ m % 2 = 1) with u | u
        · have := b.2.2.2.2.2 u
          rw [u]
          exact .inl ⟨rfl, by rw [if_neg (by omega)]; omega⟩
        · rw [u]
          exact .inr ⟨n10, by rw [if_pos rfl]⟩) F
      have kf : ∀ c, c ≠ 7 → c ≠ 8 → mr (mr N 7 (upd (N 7) (sQ σ m / 2 % 24) (nI (cntP (fun i => sQ σ i / 2 % 24 = sQ σ m / 2 % 24) m + 1)))) 8 (upd (N 8) (slB (sQ σ m)) (nI (cntP (fun i => slB (sQ σ i) = slB (sQ σ m)) m + 1))) c = N c := fun c h7 h8 => by rw [mr_n _ _ h8, mr_n _ _ h7]
      obtain ⟨N', NE', m', r1, r2, r3, r4, r5, r6⟩ := h_w52 (C := C) hs (F := F) hF ht k d (m + 1) n (mr (mr N 7 (upd (N 7) (sQ σ m / 2 % 24) (nI (cntP (fun i => sQ σ i / 2 % 24 = sQ σ m / 2 % 24) m + 1)))) 8 (upd (N 8) (slB (sQ σ m)) (nI (cntP (fun i => slB (sQ σ i) = slB (sQ σ m)) m + 1)))) E' (by omega) (by omega) (So_B (fun c h7 h8 _ => kf c h7 h8) hS) (fun j hj => by
        obtain ⟨u1, u2⟩ := hG j hj
        simp (disch := omega) only [at1_same, at1_ne]
        refine ⟨?_, ?_⟩
        · rw [upd_at]
          by_cases w : j = sQ σ m / 2 % 24
          · subst w
            rw [if_pos rfl, cntP_T (p := fun i => sQ σ i / 2 % 24 = sQ σ m / 2 % 24) rfl]
          · rw [if_neg w, cntP_F (p := fun i => sQ σ i / 2 % 24 = j) (fun z => w z.symm)]
            exact u1
        · rw [upd_at]
          by_cases w : j = slB (sQ σ m)
          · subst w
            rw [if_pos rfl, cntP_T (p := fun i => slB (sQ σ i) = slB (sQ σ m)) rfl]
          · rw [if_neg w, cntP_F (p := fun i => slB (sQ σ i) = j) (fun z => w z.symm)]
            exact u2) (fun i hi => by
        by_cases w : i = m
        · rw [w]; omega
        · exact h1 i (by omega)) (fun i g1 g2 => h2 i (by omega) g2)
      refine ⟨N', NE', m', ?_, fun c h7 h8 => (r2 c h7 h8).trans (kf c h7 h8), r3, r4, r5, r6⟩
      rw [f_X2_findBestSight_52, n11, if_neg (nI_ge (by omega) (by omega)), g1, Option.bind_some, if_pos (by rw [q]), g2, Option.bind_some, ck_n (by omega) (by decide), ck_n (by omega) (by decide), nI_clamp (by omega), gA, g2', Option.bind_some, g3', Option.bind_some, t1, Option.bind_some, e2, ck_n bn.2 (by decide), ck_n bn.2 (by decide), nI_clamp (by omega), gD, nI_1, nI_1, c1]
      exact r1
    · refine ⟨N, NE, m, ?_, fun _ _ _ => rfl, by omega, hG, h1, fun i g1 g2 => ?_⟩
      · rw [f_X2_findBestSight_52, n11, if_neg (nI_ge (by omega) (by omega)), g1, Option.bind_some, if_neg (fun z => q ((nI_eq (by omega) (by omega)).mp z))]
      · have a := h2 m (by omega) (by omega)
        by_cases w : i = m
        · rw [w]; omega
        · have := sl_mono (σ := σ) (48 * (σ 56 + 1)) m i (by omega) g2
          have e : sQ σ i = slF σ (48 * (σ 56 + 1)) i := rfl
          rw [← eq, ← e] at this
          omega
theorem m_fb44 {C : Mem} {LM : MemL} {σ : Sg} (hC : StC C σ) (hs : okS σ) (h0' : 0 < σ 0) (h1' : 0 < σ 1) {F : Nat} (hF : 10000 ≤ F) (wh : Int32) (k' : Mem → Int32 → Int32 → Int32 → Option (Int32 × Mem)) : ∀ (d t n m : Nat) (N NE M : Mem) (x2 x3 x4 : Int32), t + d = σ 56 + 1 → d < n → m ≤ sn σ → StM M σ → SoM M σ (48 * (σ 56 + 1)) → So N σ → GC σ N m → (∀ i, i < m → sQ σ i / 48 < t) → (∀ i, m ≤ i → i < sn σ → t ≤ sQ σ i / 48) → BR σ N x2 x3 x4 → ∃ N' NE' M' y2 y3 y4, f_X2_findBestSight_44 F C (fun N_134 NE_134 => (some (N_134, NE_134))) n N NE (nI m) (nI t) = some (N', NE') ∧ f_X10_look_37 F LM wh k' n M x2 x3 x4 (nI t) = k' M' y2 y3 y4 ∧ KB N N' ∧ Py M M' ∧ (t ≤ σ 56 ∨ BR1 σ N x2 x3 x4 → BR1 σ N' y2 y3 y4)
  | d, t, 0, m, N, NE, M, x2, x3, x4, _, h, _, _, _, _, _, _, _, _ => by omega
  | 0, t, n + 1, m, N, NE, M, x2, x3, x4, ht, _, hm, hM, hS, hN, hG, g1, g2, hB => by
    obtain rfl : t = σ 56 + 1 := by omega
    have h5 := kMv hs
    refine ⟨N, NE, M, x2, x3, x4, ?_, ?_, fun _ _ _ _ => rfl, fun _ _ => rfl, fun z => z.resolve_left (by omega)⟩
    · rw [f_X2_findBestSight_44, cMv hC, if_pos (nI_lt (by omega) (by omega))]
    · rw [f_X10_look_37, ck56, r56 hM, if_pos (nI_lt (by omega) (by omega))]
  | d + 1, t, n + 1, m, N, NE, M, x2, x3, x4, ht, hn, hm, hM, hS, hN, hG, g1, g2, hB => by
    have h0 := kC hs
    have h1 := kR hs
    have h5 := kMv hs
    have le : sn σ ≤ 1000 := sl_le h0 (q := 48 * (σ 56 + 1)) (by omega)
    have c1 : nI t + 1 = nI (t + 1) := nI_1 t
    obtain ⟨N1, NE1, m1, a1, a2, a3, a4, a5, a6⟩ := h_w52 (C := C) hs (F := F) (t := t) hF (by omega) (fun N_122 NE_122 x2_122 => f_X2_findBestSight_122 F N_122 NE_122 C x2_122 (nI t) (f_X2_findBestSight_44 F C (fun N_134 NE_134 => (some (N_134, NE_134))) n)) (sn σ - m) m F N NE (by omega) (by omega) hN hG (fun i hi => by have := g1 i hi; omega) g2
    have hN1 := So_B (fun c h7 h8 _ => a2 c h7 h8) hN
    have B1 : BR σ N1 x2 x3 x4 := by
      unfold BR BR1 at *
      rw [a2 9 (by decide) (by decide)]
      exact hB
    obtain ⟨N2, M2, y2, y3, y4, b1, b2, b3, b4, b5, b6⟩ := m_cs2 (LM := LM) hC hs h0' (F := F) (t := t) hF (by omega) wh (fun N_125 => (some N_125)) (fun M_132 x2_132 x3_132 x4_132 => f_X10_look_37 F LM wh k' n M_132 x2_132 x3_132 x4_132 (nI (t + 1))) (σ 1) 0 F N1 M x2 x3 x4 (by omega) (by omega) hM hS hN1 (GC_fm hs a3 a4 a5 a6) B1
    have b1' : f_X2_compareSights F N1 C (nI t) = some N2 := b1
    obtain ⟨N', NE', M', z2, z3, z4, e1, e2, e3, e4, e5⟩ := m_fb44 (LM := LM) hC hs h0' h1' hF wh k' d (t + 1) n m1 N2 NE1 M2 y2 y3 y4 (by omega) (by omega) a3 (StM_p hM (Py_m b4)) (Py_S b4 hS) (So_B (fun c _ _ h9 => b3 c h9) hN1) (fun j hj => by rw [b3 7 (by decide), b3 8 (by decide)]; exact a4 j hj) (fun i hi => by have := a5 i hi; omega) (fun i w1 w2 => by have := a6 i w1 w2; omega) b5
    refine ⟨N', NE', M', z2, z3, z4, ?_, ?_, KB_tr (KB_tr (fun c h7 h8 _ => a2 c h7 h8) (fun c _ _ h9 => b3 c h9)) e3, fun c hc => (e4 c hc).trans (b4 c hc), fun _ => e5 (.inr (b6 (.inl h1')))⟩
    · rw [f_X2_findBestSight_44, cMv hC, if_neg (nI_nlt (by omega) (by omega))]
      refine a1.trans ?_
      unfold f_X2_findBestSight_122
      rw [b1', Option.bind_some, c1]
      exact e1
    · rw [f_X10_look_37, ck56, r56 hM, if_neg (nI_nlt (by omega) (by omega)), c1]
      exact b2.trans e2
theorem m_look {C M N NE X0 : Mem} {LM : MemL} {σ : Sg} (hC : StC C σ) (hM : StM M σ) (hs : okS σ) (hN : CaN N σ) {F : Nat} (hF : 10000 ≤ F) (x1 : Int32) : ∃ v N' NE' M', f_X9_look F X0 C N NE x1 = some (v, N', NE') ∧ f_X10_look F M LM x1 = some (v, M') ∧ Pm M M' ∧ CaN N' σ := by
  have h0 := kC hs
  have h5 := kMv hs
  have le : sn σ ≤ 1000 := sl_le h0 (q := 48 * (σ 56 + 1)) (by omega)
  obtain ⟨N1, NE1, a1, a2, a3, a4⟩ := h_findSlides (NE := NE) hC hs hN hF
  obtain ⟨M1, b1, b2, b3⟩ := g_laysSlides (LM := LM) hM hs hF
  obtain ⟨w, w1, w2, rfl⟩ := zI_of x1
  have n11 : N1 0 11 = nI (sn σ) := a3.1
  have m24 : M1 0 24 = nI (sn σ) := b3.1
  have cl : f_X9_look F X0 C N NE (zI w) = (if nI (sn σ) = 0 then (some ((-1), N1, NE1)) else (if zI w < 0 then (some ((-1), N1, NE1)) else (if zI w ≤ 3 then (f_X2_findBestSight F N1 NE1 C).bind (fun z40 => ck (zI w) 4 ((some (((z40.1 9) (zI w).toNatClampNeg), z40.1, z40.2)))) else (some ((-1), N1, NE1))))) := by
    unfold f_X9_look
    rw [a1, ← n11]
    rfl
  unfold f_X10_look
  rw [cl, in03 F w1 w2]
  by_cases hw : 0 ≤ w ∧ w ≤ 3
  · rw [if_pos hw, Option.bind_some, if_neg n10, b1, Option.bind_some, m24]
    by_cases z : sn σ = 0
    · have z' : nI (sn σ) = 0 := by rw [z]; rfl
      rw [if_pos z', if_pos z']
      exact ⟨_, _, _, _, rfl, rfl, b2, a4⟩
    · have z' : ¬ nI (sn σ) = 0 := nI_ne0 (by omega) (by omega)
      obtain ⟨w, rfl⟩ := Int.eq_ofNat_of_zero_le hw.1
      rw [if_neg z', if_neg z', if_neg (by rw [zI_c]; exact nI_pos (by omega)), if_pos (by rw [zI_c]; exact nI_le (b := 3) (by omega) (by decide))]
      have bb := sl_inf hs (i := 0) (show 0 < slN σ (48 * (σ 56 + 1)) from Nat.pos_of_ne_zero z)
      -- gone and come are emptied
      have E2 : ∀ k : Mem → Option (Mem × Mem), ∃ N2, f_X2_findBestSight_2 F NE1 C k F N1 0 = k N2 ∧ (∀ c, c ≠ 7 → c ≠ 8 → N2 c = N1 c) ∧ ∀ j, j < 24 → N2 7 j = nI 0 ∧ N2 8 j = nI 0 := fun k => by
        have L : ∀ (d i n : Nat) (N2 : Mem), i + d = 24 → d < n → (∀ c, c ≠ 7 → c ≠ 8 → N2 c = N1 c) → (∀ j, j < i → N2 7 j = nI 0 ∧ N2 8 j = nI 0) → ∃ N3, f_X2_findBestSight_2 F NE1 C k n N2 (nI i) = k N3 ∧ (∀ c, c ≠ 7 → c ≠ 8 → N3 c = N1 c) ∧ ∀ j, j < 24 → N3 7 j = nI 0 ∧ N3 8 j = nI 0 := by
          intro d
          induction d with
          | zero =>
            intro i n N2 hi hn hc hj
            obtain ⟨n, rfl⟩ : ∃ m, n = m + 1 := ⟨n - 1, by omega⟩
            obtain rfl : i = 24 := by omega
            refine ⟨N2, ?_, hc, hj⟩
            rw [f_X2_findBestSight_2]
            simp (disch := omega) only [l_0, l_1, l_2, l_3, l_4, l_5, l_6, l_7, l_8, l_9, l_10, l_12, l_20, l_24, l_25, l_31, l_32, l_48, l_50, l_56, l_57, l_59, l_97, l_99, l_100, l_120, l_122, l_177, l_178, l_201, l_226, l_255, l_400, l_420, l_600, l_700, l_840, l_1000, l_1300, l_2000, l_1000000, nI_add, mr4, ml4, mr5, ml5, mr6, ml6, mr10, ml10, mr24, ml24, mr201, ml201, mr420, ml420, mr226, ml226, mr2, ml2, nI_clamp, lt_T, lt_F, le_T, le_F, eq_T, eq_F, ck_n, dv_n, cp_n, rem_n, pk_div, at1_same, at1_ne, cb_n, Option.bind_some, if_pos, if_neg, ↓reduceIte, and_self, and_true, true_and, and_false, false_and, not_true_eq_false, not_false_eq_true, nI_sub']
          | succ d ih =>
            intro i n N2 hi hn hc hj
            obtain ⟨n, rfl⟩ : ∃ m, n = m + 1 := ⟨n - 1, by omega⟩
            obtain ⟨N3, e1, e2, e3⟩ := ih (i + 1) n (mr (mr N2 7 (upd (N2 7) i (nI 0))) 8 (upd (N2 8) i (nI 0))) (by omega) (by omega) (fun c h7 h8 => by rw [mr_n _ _ h8, mr_n _ _ h7]; exact hc c h7 h8) (fun j h => by
              simp (disch := omega) only [at1_same, at1_ne]
              by_cases e : j = i
              · rw [e, pk_us, pk_us]; exact ⟨rfl, rfl⟩
              · rw [pk_un e, pk_un e]; exact hj j (by omega))
            refine ⟨N3, ?_, e2, e3⟩
            rw [f_X2_findBestSight_2]
            simp (disch := omega) only [l_0, l_1, l_2, l_3, l_4, l_5, l_6, l_7, l_8, l_9, l_10, l_12, l_20, l_24, l_25, l_31, l_32, l_48, l_50, l_56, l_57, l_59, l_97, l_99, l_100, l_120, l_122, l_177, l_178, l_201, l_226, l_255, l_400, l_420, l_600, l_700, l_840, l_1000, l_1300, l_2000, l_1000000, nI_add, mr4, ml4, mr5, ml5, mr6, ml6, mr10, ml10, mr24, ml24, mr201, ml201, mr420, ml420, mr226, ml226, mr2, ml2, nI_clamp, lt_T, lt_F, le_T, le_F, eq_T, eq_F, ck_n, dv_n, cp_n, rem_n, pk_div, at1_same, at1_ne, cb_n, Option.bind_some, if_pos, if_neg, ↓reduceIte, and_self, and_true, true_and, and_false, false_and, not_true_eq_false, not_false_eq_true, nI_sub']
            exact e1
        exact L 24 0 F N1 (by omega) (by omega) (fun _ _ _ => rfl) (fun j h => by omega)
      obtain ⟨N2, d1, d2, d3⟩ := E2 (fun N_28 => ck 3 4 (f_X2_findBestSight_44 F C (fun N_134 NE_134 => (some (N_134, NE_134))) F (mr N_28 9 (upd (N_28 9) (3 : Int32).toNatClampNeg ((N_28 0 11) + 1))) NE1 0 0))
      have n211 : N2 0 11 + 1 = nI (sn σ + 1) := by rw [d2 0 (by decide) (by decide), n11]; exact nI_1 _
      have kb2 : KB N1 (mr N2 9 (upd (N2 9) 3 (nI (sn σ + 1)))) := fun c h7 h8 h9 => by rw [mr_n _ _ h9]; exact d2 c h7 h8
      obtain ⟨N', NE', M', y2, y3, y4, e1, e2, e3, e4, e5⟩ := m_fb44 (LM := LM) hC hs (by omega) (by omega) hF (zI (w : Int)) (fun M_138 x2_138 x3_138 x4_138 => (if zI (w : Int) = 0 then (some (x2_138, M_138)) else (if zI (w : Int) = 1 then dv 6 ((some ((x3_138 / 6), M_138))) else (if zI (w : Int) = 2 then dv 6 ((some ((x3_138 - x3_138 / 6 * 6), M_138))) else (some (x4_138, M_138)))))) (σ 56 + 1) 0 F 0 (mr N2 9 (upd (N2 9) 3 (nI (sn σ + 1)))) NE1 M1 (-1) (-1) (-1) (by omega) (by omega) (by omega) (StM_p hM b2) b3 (So_B kb2 a3) (fun j hj => by rw [mr_n _ _ (by decide), mr_n _ _ (by decide)]; exact d3 j hj) (fun i hi => by omega) (fun i g1 g2 => by omega) (.inl ⟨rfl, rfl, rfl, by rw [mr_s, pk_us]⟩)
      have fbs : f_X2_findBestSight F N1 NE1 C = some (N', NE') := by
        unfold f_X2_findBestSight
        rw [d1, n211]
        exact e1
      obtain ⟨t, r, c, g, u1, u2, u3, u4, u5, u6, u7, u8, u9, u10⟩ := e5 (.inl (by omega))
      rw [fbs, Option.bind_some, show f_X10_look_37 F LM (zI (w : Int)) _ F M1 (-1) (-1) (-1) 0 = _ from e2]
      dsimp only
      have ca := CaN_B (KB_tr kb2 e3) a4
      have pm := Pm_tr b2 (Py_m e4)
      have d6 : ∀ {α : Type} (E : Option α), dv 6 E = E := fun E => dv_ne (by decide)
      have e6 : nI (6 * r + c) / 6 = nI ((6 * r + c) / 6) := pk_div (d := 6) (by omega) (by decide) (by decide)
      have e7 : nI (6 * r + c) - nI ((6 * r + c) / 6) * 6 = nI ((6 * r + c) % 6) := by rw [l_6, nI_mul', rem_n]
      have e8 : (6 * r + c) / 6 = r := by omega
      have e9 : (6 * r + c) % 6 = c := by omega
      simp only [zI_c]
      rw [ck_n (by omega) (by decide), nI_clamp (by omega)]
      rcases (by omega : w = 0 ∨ w = 1 ∨ w = 2 ∨ w = 3) with rfl | rfl | rfl | rfl
      · rw [if_pos n00, u1, u4]
        exact ⟨_, _, _, _, rfl, rfl, pm, ca⟩
      · rw [if_neg n10, if_pos (show nI 1 = 1 from rfl), d6, u2, u5, e6, e8]
        exact ⟨_, _, _, _, rfl, rfl, pm, ca⟩
      · rw [if_neg (show ¬ nI 2 = 0 by decide), if_neg (show ¬ nI 2 = 1 by decide), if_pos (show nI 2 = 2 from rfl), d6, u2, u6, e6, e7, e9]
        exact ⟨_, _, _, _, rfl, rfl, pm, ca⟩
      · rw [if_neg (show ¬ nI 3 = 0 by decide), if_neg (show ¬ nI 3 = 1 by decide), if_neg (show ¬ nI 3 = 2 by decide), u3, u7]
        exact ⟨_, _, _, _, rfl, rfl, pm, ca⟩
  · rw [if_neg hw, Option.bind_some, if_pos n00]
    by_cases z : sn σ = 0
    · have z' : nI (sn σ) = 0 := by rw [z]; rfl
      rw [if_pos z']
      exact ⟨_, _, _, _, rfl, rfl, Pm_rfl M, a4⟩
    · have z' : ¬ nI (sn σ) = 0 := nI_ne0 (by omega) (by omega)
      rw [if_neg z']
      by_cases q : w < 0
      · have e1 : zI w < 0 := by rw [l_0]; exact of_eq_true (by simp (disch := omega) only [l_0, l_1, l_2, l_3, l_4, l_5, l_6, l_7, l_8, l_9, l_10, l_12, l_20, l_24, l_25, l_31, l_32, l_48, l_50, l_56, l_57, l_59, l_97, l_99, l_100, l_120, l_122, l_177, l_178, l_201, l_226, l_255, l_400, l_420, l_600, l_700, l_840, l_1000, l_1300, l_2000, l_1000000, nI_add, mr4, ml4, mr5, ml5, mr6, ml6, mr10, ml10, mr24, ml24, mr201, ml201, mr420, ml420, mr226, ml226, mr2, ml2, nI_clamp, lt_T, lt_F, le_T, le_F, eq_T, eq_F, ck_n, dv_n, cp_n, rem_n, pk_div, at1_same, at1_ne, cb_n, Option.bind_some, if_pos, if_neg, ↓reduceIte, and_self, and_true, true_and, and_false, false_and, not_true_eq_false, not_false_eq_true, nI_sub', zz_add, zz_sub, zz_mul, zn_add, nz_add, zn_sub, nz_sub, zn_mul, nz_mul, z_neg, n_neg, zlt_T, zlt_F, zle_T, zle_F, zeq_T, zeq_F, zn_lt, nz_lt, zn_le, nz_le, zn_eq, nz_eq])
        rw [if_pos e1]
        exact ⟨_, _, _, _, rfl, rfl, Pm_rfl M, a4⟩
      · have e1 : ¬ zI w < 0 := by rw [l_0]; exact of_eq_false (by simp (disch := omega) only [l_0, l_1, l_2, l_3, l_4, l_5, l_6, l_7, l_8, l_9, l_10, l_12, l_20, l_24, l_25, l_31, l_32, l_48, l_50, l_56, l_57, l_59, l_97, l_99, l_100, l_120, l_122, l_177, l_178, l_201, l_226, l_255, l_400, l_420, l_600, l_700, l_840, l_1000, l_1300, l_2000, l_1000000, nI_add, mr4, ml4, mr5, ml5, mr6, ml6, mr10, ml10, mr24, ml24, mr201, ml201, mr420, ml420, mr226, ml226, mr2, ml2, nI_clamp, lt_T, lt_F, le_T, le_F, eq_T, eq_F, ck_n, dv_n, cp_n, rem_n, pk_div, at1_same, at1_ne, cb_n, Option.bind_some, if_pos, if_neg, ↓reduceIte, and_self, and_true, true_and, and_false, false_and, not_true_eq_false, not_false_eq_true, nI_sub', zz_add, zz_sub, zz_mul, zn_add, nz_add, zn_sub, nz_sub, zn_mul, nz_mul, z_neg, n_neg, zlt_T, zlt_F, zle_T, zle_F, zeq_T, zeq_F, zn_lt, nz_lt, zn_le, nz_le, zn_eq, nz_eq])
        have e2 : ¬ zI w ≤ 3 := by rw [l_3]; exact of_eq_false (by simp (disch := omega) only [l_0, l_1, l_2, l_3, l_4, l_5, l_6, l_7, l_8, l_9, l_10, l_12, l_20, l_24, l_25, l_31, l_32, l_48, l_50, l_56, l_57, l_59, l_97, l_99, l_100, l_120, l_122, l_177, l_178, l_201, l_226, l_255, l_400, l_420, l_600, l_700, l_840, l_1000, l_1300, l_2000, l_1000000, nI_add, mr4, ml4, mr5, ml5, mr6, ml6, mr10, ml10, mr24, ml24, mr201, ml201, mr420, ml420, mr226, ml226, mr2, ml2, nI_clamp, lt_T, lt_F, le_T, le_F, eq_T, eq_F, ck_n, dv_n, cp_n, rem_n, pk_div, at1_same, at1_ne, cb_n, Option.bind_some, if_pos, if_neg, ↓reduceIte, and_self, and_true, true_and, and_false, false_and, not_true_eq_false, not_false_eq_true, nI_sub', zz_add, zz_sub, zz_mul, zn_add, nz_add, zn_sub, nz_sub, zn_mul, nz_mul, z_neg, n_neg, zlt_T, zlt_F, zle_T, zle_F, zeq_T, zeq_F, zn_lt, nz_lt, zn_le, nz_le, zn_eq, nz_eq])
        rw [if_neg e1, if_neg e2]
        exact ⟨_, _, _, _, rfl, rfl, Pm_rfl M, a4⟩
