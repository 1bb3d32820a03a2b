/-! PURE LAYER: where to look next -/
theorem sl_mono {σ : Sg} : ∀ q i j, i < j → j < slN σ q → slF σ q i < slF σ q j
  | 0, i, j, _, h => absurd h (Nat.not_lt_zero _)
  | q + 1, i, j, hij, h => by
    by_cases g : slP σ q
    · obtain ⟨a, b⟩ := sl_T g
      rw [a] at h
      rw [b i, b j, if_neg (by omega)]
      by_cases e : j = slN σ q
      · rw [if_pos e]; exact (sl_b q i (by omega)).1
      · rw [if_neg e]; exact sl_mono q i j hij (by omega)
    · obtain ⟨a, b⟩ := sl_F g
      rw [a] at h
      rw [b]
      exact sl_mono q i j hij h
noncomputable def sQ (σ : Sg) (i : Nat) : Nat := slF σ (48 * (σ 56 + 1)) i
noncomputable def sn (σ : Sg) : Nat := slN σ (48 * (σ 56 + 1))
theorem cntP_cg {p q : Nat → Prop} : ∀ m, (∀ i, i < m → (p i ↔ q i)) → cntP p m = cntP q m
  | 0, _ => rfl
  | m + 1, h => by
    have ih := cntP_cg (p := p) (q := q) m (fun i hi => h i (by omega))
    by_cases g : p m
    · rw [cntP_T g, cntP_T ((h m (by omega)).mp g), ih]
    · rw [cntP_F g, cntP_F (fun z => g ((h m (by omega)).mpr z)), ih]
theorem cntP_cut {p : Nat → Prop} {m : Nat} : ∀ d, (∀ i, m ≤ i → i < m + d → ¬ p i) → cntP p (m + d) = cntP p m
  | 0, _ => rfl
  | d + 1, h => by
    have e : m + (d + 1) = m + d + 1 := rfl
    rw [e, cntP_F (h (m + d) (by omega) (by omega))]
    exact cntP_cut d (fun i h1 h2 => h i h1 (by omega))
theorem cntP_two {p q : Nat → Prop} (h : ∀ i, ¬ (p i ∧ q i)) : ∀ m, cntP p m + cntP q m ≤ m
  | 0 => Nat.le_refl _
  | m + 1 => by
    have ih := cntP_two h m
    by_cases g : p m
    · rw [cntP_T g, cntP_F (fun z => h m ⟨g, z⟩)]; omega
    · rw [cntP_F g]
      by_cases g2 : q m
      · rw [cntP_T g2]; omega
      · rw [cntP_F g2]; omega
def fwP (σ : Sg) (t j i : Nat) : Prop := sQ σ i / 48 ≤ t ∧ sQ σ i / 2 % 24 = j
def mrP (σ : Sg) (t j i : Nat) : Prop := sQ σ i / 48 ≤ t ∧ slB (sQ σ i) = j ∧ sQ σ i / 2 % 24 ≠ j
noncomputable def fw (σ : Sg) (t j : Nat) : Nat := cntP (fwP σ t j) (sn σ)
noncomputable def mo (σ : Sg) (t j : Nat) : Nat := cntP (mrP σ t j) (sn σ)
noncomputable def gr (σ : Sg) (t j : Nat) : Nat := Nat.max (sn σ - fw σ t j - mo σ t j) (Nat.max (fw σ t j) (mo σ t j))
theorem fm_le (σ : Sg) (t j m : Nat) : cntP (fwP σ t j) m + cntP (mrP σ t j) m ≤ m := cntP_two (fun i z => z.2.2.2 z.1.2) m
theorem gr_le (σ : Sg) (t j : Nat) : gr σ t j ≤ sn σ := by
  have := fm_le σ t j (sn σ)
  have h : gr σ t j = Nat.max (sn σ - fw σ t j - mo σ t j) (Nat.max (fw σ t j) (mo σ t j)) := rfl
  unfold fw mo at h
  have e1 : ∀ a b : Nat, Nat.max a b ≤ sn σ ↔ a ≤ sn σ ∧ b ≤ sn σ := fun a b => Nat.max_le
  rw [h, e1, e1]
  omega
/-! the reference: which counts are alike -/
theorem g_moreBy {M : Mem} {LM : MemL} {σ : Sg} (hs : okS σ) (hS : SoM M σ (48 * (σ 56 + 1))) (F : Nat) {i t r c : Nat} (hi : i < sn σ) (ht : t ≤ 24) (hr : r < σ 1) (hc : c < σ 0) : (fwP σ t (6 * r + c) i ∧ f_X10_moreBy F M LM (nI i) (nI t) (nI r) (nI c) = some (zI (-1))) ∨ (mrP σ t (6 * r + c) i ∧ f_X10_moreBy F M LM (nI i) (nI t) (nI r) (nI c) = some (zI 1)) ∨ (¬ fwP σ t (6 * r + c) i ∧ ¬ mrP σ t (6 * r + c) i ∧ f_X10_moreBy F M LM (nI i) (nI t) (nI r) (nI c) = some (zI 0)) := by
  have h0 := kC hs
  have h1 := kR hs
  have h5 := kMv hs
  have le := sl_le h0 (q := 48 * (σ 56 + 1)) (by omega)
  have hi' : i < slN σ (48 * (σ 56 + 1)) := hi
  have b := sl_inf hs hi'
  obtain ⟨r1, r2, r3, r4⟩ := hS.2 i hi'
  have e : sQ σ i = slF σ (48 * (σ 56 + 1)) i := rfl
  rw [← e] at b r1 r2 r3 r4
  unfold f_X10_moreBy f_X10_moreBy_50 fwP mrP
  rw [ck_n (by omega) (by decide), ck_n (by omega) (by decide), ck_n (by omega) (by decide), ck_n (by omega) (by decide), ck_n (by omega) (by decide), ck_n (by omega) (by decide), ck_n (by omega) (by decide), nI_clamp (by omega), r1, r2, r3, r4]
  by_cases q1 : t < sQ σ i / 48
  · rw [if_pos (nI_lt q1 (by omega))]
    exact .inr (.inr ⟨fun z => by omega, fun z => by omega, rfl⟩)
  · rw [if_neg (nI_nlt (by omega) (by omega))]
    by_cases q2 : sQ σ i / 2 % 24 / 6 = r
    · rw [if_pos (by rw [q2])]
      by_cases q3 : sQ σ i / 2 % 24 % 6 = c
      · have z : nI (sQ σ i / 2 % 24 % 6) = nI c := by rw [q3]
        have res : (if nI (sQ σ i % 2) = 0 then (if nI (sQ σ i / 2 % 24 % 6) = nI c then some (-1 : Int32) else if nI (sQ σ i / 2 % 24 % 6) - 1 = nI c then some 1 else some 0) else (if nI (sQ σ i / 2 % 24 % 6) = nI c then some (-1) else if nI (sQ σ i / 2 % 24 % 6) + 1 = nI c then some 1 else some 0)) = some (zI (-1)) := by
          rw [if_pos z, if_pos z]
          by_cases w : nI (sQ σ i % 2) = 0
          · rw [if_pos w]; rfl
          · rw [if_neg w]; rfl
        exact .inl ⟨⟨by omega, by omega⟩, res⟩
      · have z : ¬ nI (sQ σ i / 2 % 24 % 6) = nI c := fun w => q3 ((nI_eq (by omega) (by omega)).mp w)
        rw [if_neg z, if_neg z]
        rcases (by omega : sQ σ i % 2 = 0 ∨ sQ σ i % 2 = 1) with u | u
        · have l := b.2.2.2.2.2 u
          have es : nI (sQ σ i / 2 % 24 % 6) - 1 = nI (sQ σ i / 2 % 24 % 6 - 1) := nI_sub' (b := 1) l
          have eB : slB (sQ σ i) = sQ σ i / 2 % 24 - 1 := by unfold slB; rw [if_neg (by omega)]
          rw [u, if_pos n00, es]
          by_cases q4 : sQ σ i / 2 % 24 % 6 - 1 = c
          · rw [if_pos (by rw [q4])]
            exact .inr (.inl ⟨⟨by omega, by omega, by omega⟩, rfl⟩)
          · rw [if_neg (fun w => q4 ((nI_eq (by omega) (by omega)).mp w))]
            exact .inr (.inr ⟨fun z => by omega, fun z => by omega, rfl⟩)
        · have l := b.2.2.2.2.1 u
          have es : nI (sQ σ i / 2 % 24 % 6) + 1 = nI (sQ σ i / 2 % 24 % 6 + 1) := nI_1 _
          have eB : slB (sQ σ i) = sQ σ i / 2 % 24 + 1 := by unfold slB; rw [if_pos u]
          rw [u, if_neg n10, es]
          by_cases q4 : sQ σ i / 2 % 24 % 6 + 1 = c
          · rw [if_pos (by rw [q4])]
            exact .inr (.inl ⟨⟨by omega, by omega, by omega⟩, rfl⟩)
          · rw [if_neg (fun w => q4 ((nI_eq (by omega) (by omega)).mp w))]
            exact .inr (.inr ⟨fun z => by omega, fun z => by omega, rfl⟩)
    · rw [if_neg (fun w => q2 ((nI_eq (by omega) (by omega)).mp w))]
      have eB : (sQ σ i % 2 = 1 ∧ slB (sQ σ i) = sQ σ i / 2 % 24 + 1) ∨ (sQ σ i % 2 = 0 ∧ slB (sQ σ i) = sQ σ i / 2 % 24 - 1) := by
        unfold slB
        by_cases u : sQ σ i % 2 = 1
        · rw [if_pos u]; exact .inl ⟨u, rfl⟩
        · rw [if_neg u]; exact .inr ⟨by omega, rfl⟩
      have l1 := b.2.2.2.2.1
      have l2 := b.2.2.2.2.2
      refine .inr (.inr ⟨fun z => by omega, fun z => ?_, rfl⟩)
      rcases eB with ⟨u, v⟩ | ⟨u, v⟩
      · have := l1 u; omega
      · have := l2 u; omega
def Py (M M' : Mem) : Prop := ∀ c, c ≠ 19 → M' c = M c
theorem Py_m {M M' : Mem} (h : Py M M') : Pm M M' := ⟨h _ (by decide), h _ (by decide), h _ (by decide), h _ (by decide), by rw [h 0 (by decide)], by rw [h 0 (by decide)]⟩
theorem Py_S {M M' : Mem} {σ : Sg} {q : Nat} (p : Py M M') (h : SoM M σ q) : SoM M' σ q := by
  unfold SoM
  rw [p 0 (by decide), p 15 (by decide), p 16 (by decide), p 17 (by decide), p 18 (by decide)]
  exact h
theorem g_ma26 {LM : MemL} {σ : Sg} (hs : okS σ) {F t r c : Nat} (ht : t ≤ 24) (hr : r < σ 1) (hc : c < σ 0) (k : Mem → Option (Int32 × Mem)) : ∀ (d i n : Nat) (M : Mem), i + d = sn σ → d < n → SoM M σ (48 * (σ 56 + 1)) → M 19 0 = nI (cntP (fwP σ t (6 * r + c)) i) → M 19 1 = nI (i - cntP (fwP σ t (6 * r + c)) i - cntP (mrP σ t (6 * r + c)) i) → M 19 2 = nI (cntP (mrP σ t (6 * r + c)) i) → ∃ M', f_X10_mostAlike_26 F LM (nI t) (nI r) (nI c) k n M (nI i) = k M' ∧ Py M M' ∧ M' 19 0 = nI (fw σ t (6 * r + c)) ∧ M' 19 1 = nI (sn σ - fw σ t (6 * r + c) - mo σ t (6 * r + c)) ∧ M' 19 2 = nI (mo σ t (6 * r + c))
  | d, i, 0, M, _, h, _, _, _, _ => by omega
  | 0, i, n + 1, M, hi, _, hS, h1, h2, h3 => by
    obtain rfl : i = sn σ := by omega
    have h0 := kC hs
    have h5 := kMv hs
    have le : sn σ ≤ 1000 := sl_le h0 (q := 48 * (σ 56 + 1)) (by omega)
    refine ⟨M, ?_, fun _ _ => rfl, h1, h2, h3⟩
    have e : M 0 24 = nI (sn σ) := hS.1
    rw [f_X10_mostAlike_26, e, if_pos (nI_le (by omega) (by omega))]
  | d + 1, i, n + 1, M, hi, hn, hS, h1, h2, h3 => by
    have h0 := kC hs
    have h5 := kMv hs
    have le : sn σ ≤ 1000 := sl_le h0 (q := 48 * (σ 56 + 1)) (by omega)
    have e : M 0 24 = nI (sn σ) := hS.1
    have fl := fm_le σ t (6 * r + c) i
    have c1 : nI i + 1 = nI (i + 1) := nI_1 i
    have go : ∀ (x : Nat) (v : Nat) (z : Int32), x < 3 → z + 1 = nI x → M 19 x + 1 = nI v → f_X10_moreBy F M LM (nI i) (nI t) (nI r) (nI c) = some z → (∀ y, y < 3 → (if y = x then nI v else M 19 y) = (if y = 0 then nI (cntP (fwP σ t (6 * r + c)) (i + 1)) else if y = 1 then nI (i + 1 - cntP (fwP σ t (6 * r + c)) (i + 1) - cntP (mrP σ t (6 * r + c)) (i + 1)) else nI (cntP (mrP σ t (6 * r + c)) (i + 1)))) → ∃ M', f_X10_mostAlike_26 F LM (nI t) (nI r) (nI c) k (n + 1) M (nI i) = k M' ∧ Py M M' ∧ M' 19 0 = nI (fw σ t (6 * r + c)) ∧ M' 19 1 = nI (sn σ - fw σ t (6 * r + c) - mo σ t (6 * r + c)) ∧ M' 19 2 = nI (mo σ t (6 * r + c)) := fun x v z hx hz hv hm hy => by
      have py : Py M (mr M 19 (upd (M 19) x (nI v))) := fun c hc => mr_n _ _ hc
      obtain ⟨M', e1, e2, e3, e4, e5⟩ := g_ma26 (LM := LM) (F := F) hs ht hr hc k d (i + 1) n (mr M 19 (upd (M 19) x (nI v))) (by omega) (by omega) (Py_S py hS) (by
        have := hy 0 (by omega)
        rw [mr_s, upd_at, this, if_pos rfl]) (by
        have := hy 1 (by omega)
        rw [mr_s, upd_at, this, if_neg (by omega), if_pos rfl]) (by
        have := hy 2 (by omega)
        rw [mr_s, upd_at, this, if_neg (by omega), if_neg (by omega)])
      refine ⟨M', ?_, fun c hc => (e2 c hc).trans (py c hc), e3, e4, e5⟩
      rw [f_X10_mostAlike_26, e, if_neg (nI_ge (by omega) (by omega)), hm, Option.bind_some, hz, ck_n hx (by decide), ck_n hx (by decide), nI_clamp (by omega), hv, c1]
      exact e1
    rcases g_moreBy (LM := LM) hs hS F (i := i) (by omega) ht hr hc with ⟨a, b⟩ | ⟨a, b⟩ | ⟨a, a', b⟩
    · have nm : ¬ mrP σ t (6 * r + c) i := fun z => z.2.2 a.2
      refine go 0 (cntP (fwP σ t (6 * r + c)) i + 1) _ (by omega) rfl (by rw [h1]; exact nI_1 _) b (fun y hy => ?_)
      rw [cntP_T a, cntP_F nm]
      rcases (by omega : y = 0 ∨ y = 1 ∨ y = 2) with rfl | rfl | rfl
      · rw [if_pos rfl, if_pos rfl]
      · rw [if_neg (by omega), if_neg (by omega), if_pos rfl, h2]
        congr 1
        omega
      · rw [if_neg (by omega), if_neg (by omega), if_neg (by omega), h3]
    · have nf : ¬ fwP σ t (6 * r + c) i := fun z => a.2.2 z.2
      refine go 2 (cntP (mrP σ t (6 * r + c)) i + 1) _ (by omega) rfl (by rw [h3]; exact nI_1 _) b (fun y hy => ?_)
      rw [cntP_T a, cntP_F nf]
      rcases (by omega : y = 0 ∨ y = 1 ∨ y = 2) with rfl | rfl | rfl
      · rw [if_neg (by omega), if_pos rfl, h1]
      · rw [if_neg (by omega), if_neg (by omega), if_pos rfl, h2]
        congr 1
        omega
      · rw [if_pos rfl, if_neg (by omega), if_neg (by omega)]
    · refine go 1 (i - cntP (fwP σ t (6 * r + c)) i - cntP (mrP σ t (6 * r + c)) i + 1) _ (by omega) rfl (by rw [h2]; exact nI_1 _) b (fun y hy => ?_)
      rw [cntP_F a, cntP_F a']
      rcases (by omega : y = 0 ∨ y = 1 ∨ y = 2) with rfl | rfl | rfl
      · rw [if_neg (by omega), if_pos rfl, h1]
      · rw [if_pos rfl, if_neg (by omega), if_pos rfl]
        congr 1
        omega
      · rw [if_neg (by omega), if_neg (by omega), if_neg (by omega), h3]
theorem g_mostAlike {M : Mem} {LM : MemL} {σ : Sg} (hs : okS σ) (hS : SoM M σ (48 * (σ 56 + 1))) {F t r c : Nat} (hF : 10000 ≤ F) (ht : t ≤ 24) (hr : r < σ 1) (hc : c < σ 0) : ∃ M', f_X10_mostAlike F M LM (nI t) (nI r) (nI c) = some (nI (gr σ t (6 * r + c)), M') ∧ Py M M' := by
  have h0 := kC hs
  have h5 := kMv hs
  have le : sn σ ≤ 1000 := sl_le h0 (q := 48 * (σ 56 + 1)) (by omega)
  have fl := fm_le σ t (6 * r + c) (sn σ)
  unfold f_X10_mostAlike
  have A : ∀ k : Mem → Option (Int32 × Mem), ∃ M1, f_X10_mostAlike_3 F LM (nI t) (nI r) (nI c) k F M (nI 0) = k M1 ∧ Fl M M1 19 0 3 (fun _ => nI 0) := fun k =>
    fill_up (f_X10_mostAlike_3 F LM (nI t) (nI r) (nI c) k) k 19 0 0 0 3 (fun _ => nI 0) M (fun n i N _ hi hN => by
      rw [f_X10_mostAlike_3]
      simp only [Nat.zero_add]
      simp (disch := omega) only [l_0, l_1, l_2, l_3, l_4, l_5, l_6, l_7, l_8, l_9, l_10, l_12, l_20, l_24, l_25, l_31, l_32, l_48, l_50, l_56, l_57, l_59, l_97, l_99, l_100, l_120, l_122, l_177, l_178, l_201, l_226, l_255, l_400, l_420, l_600, l_700, l_840, l_1000, l_1300, l_2000, l_1000000, nI_add, mr4, ml4, mr5, ml5, mr6, ml6, mr10, ml10, mr24, ml24, mr201, ml201, mr420, ml420, mr226, ml226, mr2, ml2, nI_clamp, lt_T, lt_F, le_T, le_F, eq_T, eq_F, ck_n, dv_n, cp_n, rem_n, pk_div, at1_same, at1_ne, cb_n, Option.bind_some, if_pos, if_neg, ↓reduceIte, and_self, and_true, true_and, and_false, false_and, not_true_eq_false, not_false_eq_true, nI_sub']) (fun n N hN => by
      rw [f_X10_mostAlike_3]
      simp (disch := omega) only [l_0, l_1, l_2, l_3, l_4, l_5, l_6, l_7, l_8, l_9, l_10, l_12, l_20, l_24, l_25, l_31, l_32, l_48, l_50, l_56, l_57, l_59, l_97, l_99, l_100, l_120, l_122, l_177, l_178, l_201, l_226, l_255, l_400, l_420, l_600, l_700, l_840, l_1000, l_1300, l_2000, l_1000000, nI_add, mr4, ml4, mr5, ml5, mr6, ml6, mr10, ml10, mr24, ml24, mr201, ml201, mr420, ml420, mr226, ml226, mr2, ml2, nI_clamp, lt_T, lt_F, le_T, le_F, eq_T, eq_F, ck_n, dv_n, cp_n, rem_n, pk_div, at1_same, at1_ne, cb_n, Option.bind_some, if_pos, if_neg, ↓reduceIte, and_self, and_true, true_and, and_false, false_and, not_true_eq_false, not_false_eq_true, nI_sub']) 3 0 F M (by omega) (by omega) (by omega) (Fl_0 M 19 _ _)
  obtain ⟨M1, a1, a2⟩ := A (fun M_23 => f_X10_mostAlike_26 F LM (nI t) (nI r) (nI c) (fun M_61 => ck 0 3 (ck 1 3 ((if ((M_61 19) (0 : Int32).toNatClampNeg) ≤ ((M_61 19) (1 : Int32).toNatClampNeg) then ck 1 3 (f_X10_mostAlike_91 F M_61 LM ((M_61 19) (1 : Int32).toNatClampNeg)) else ck 0 3 (f_X10_mostAlike_91 F M_61 LM ((M_61 19) (0 : Int32).toNatClampNeg)))))) F M_23 0)
  have py1 : Py M M1 := fun c hc => Fl_c a2 hc
  obtain ⟨M2, b1, b2, b3, b4, b5⟩ := g_ma26 (LM := LM) (F := F) hs ht hr hc (fun M_61 => ck 0 3 (ck 1 3 ((if ((M_61 19) (0 : Int32).toNatClampNeg) ≤ ((M_61 19) (1 : Int32).toNatClampNeg) then ck 1 3 (f_X10_mostAlike_91 F M_61 LM ((M_61 19) (1 : Int32).toNatClampNeg)) else ck 0 3 (f_X10_mostAlike_91 F M_61 LM ((M_61 19) (0 : Int32).toNatClampNeg)))))) (sn σ) 0 F M1 (by omega) (by omega) (Py_S py1 hS) (by rw [Fl_i a2 (by omega) (by omega)]; rfl) (by rw [Fl_i a2 (by omega) (by omega)]; rfl) (by rw [Fl_i a2 (by omega) (by omega)]; rfl)
  refine ⟨M2, ?_, fun c hc => (b2 c hc).trans (py1 c hc)⟩
  rw [show f_X10_mostAlike_3 F LM (nI t) (nI r) (nI c) (fun M_23 => f_X10_mostAlike_26 F LM (nI t) (nI r) (nI c) (fun M_61 => ck 0 3 (ck 1 3 ((if ((M_61 19) (0 : Int32).toNatClampNeg) ≤ ((M_61 19) (1 : Int32).toNatClampNeg) then ck 1 3 (f_X10_mostAlike_91 F M_61 LM ((M_61 19) (1 : Int32).toNatClampNeg)) else ck 0 3 (f_X10_mostAlike_91 F M_61 LM ((M_61 19) (0 : Int32).toNatClampNeg)))))) F M_23 0) F M 0 = _ from a1]
  refine Eq.trans b1 ?_
  have f1 : fw σ t (6 * r + c) ≤ 1000 := by unfold fw mo at *; omega
  have f2 : mo σ t (6 * r + c) ≤ 1000 := by unfold fw mo at *; omega
  have q0 : M2 19 (0 : Int32).toNatClampNeg = nI (fw σ t (6 * r + c)) := b3
  have q1 : M2 19 (1 : Int32).toNatClampNeg = nI (sn σ - fw σ t (6 * r + c) - mo σ t (6 * r + c)) := b4
  have q2 : M2 19 (2 : Int32).toNatClampNeg = nI (mo σ t (6 * r + c)) := b5
  have k0 : ∀ E : Option (Int32 × Mem), ck 0 3 E = E := fun E => ck_n (i := 0) (by decide) (by decide)
  have k1 : ∀ E : Option (Int32 × Mem), ck 1 3 E = E := fun E => ck_n (i := 1) (by decide) (by decide)
  have k2 : ∀ E : Option (Int32 × Mem), ck 2 3 E = E := fun E => ck_n (i := 2) (by decide) (by decide)
  have e91 : ∀ a, a ≤ 1000 → f_X10_mostAlike_91 F M2 LM (nI a) = some (nI (Nat.max a (mo σ t (6 * r + c))), M2) := fun a ha => by
    unfold f_X10_mostAlike_91
    rw [k2, k2, q2]
    by_cases w : a ≤ mo σ t (6 * r + c)
    · have e : Nat.max a (mo σ t (6 * r + c)) = mo σ t (6 * r + c) := Nat.max_eq_right w
      rw [if_pos (nI_le w (by omega)), e]
    · have e : Nat.max a (mo σ t (6 * r + c)) = a := Nat.max_eq_left (by omega)
      rw [if_neg (nI_ge (by omega) (by omega)), e]
  rw [k0, k1, q0, q1, k1, k0]
  have eg : ∀ a, a = Nat.max (fw σ t (6 * r + c)) (sn σ - fw σ t (6 * r + c) - mo σ t (6 * r + c)) → Nat.max a (mo σ t (6 * r + c)) = gr σ t (6 * r + c) := fun a ha => by
    show max a (mo σ t (6 * r + c)) = max (sn σ - fw σ t (6 * r + c) - mo σ t (6 * r + c)) (max (fw σ t (6 * r + c)) (mo σ t (6 * r + c)))
    have ha' : a = max (fw σ t (6 * r + c)) (sn σ - fw σ t (6 * r + c) - mo σ t (6 * r + c)) := ha
    omega
  by_cases w : fw σ t (6 * r + c) ≤ sn σ - fw σ t (6 * r + c) - mo σ t (6 * r + c)
  · rw [if_pos (nI_le w (by omega)), e91 _ (by omega), eg _ (Nat.max_eq_right w).symm]
  · rw [if_neg (nI_ge (by omega) (by omega)), e91 _ f1, eg _ (Nat.max_eq_left (by omega)).symm]
