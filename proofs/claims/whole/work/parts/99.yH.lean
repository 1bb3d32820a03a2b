/-! PURE LAYER: payments, the reference's bounds; the class's kept answer -/
theorem g_lesser (F : Nat) {a b : Nat} (ha : a < 2147483648) (hb : b < 2147483648) : f_X10_lesser F (nI a) (nI b) = some (nI (min a b)) := by
  unfold f_X10_lesser
  by_cases q : b ≤ a
  · rw [if_pos (nI_le q ha), Nat.min_eq_right q]
  · rw [if_neg (nI_ge (by omega) hb), Nat.min_eq_left (by omega)]
theorem g_pm3 {F : Nat} {LM : MemL} {σ : Sg} (hs : okS σ) {r q : Nat} (hr : r < 4) (hq : q < 4) (x3 : Int32) (k : Mem → Option (Int32 × Mem × MemL)) : ∀ (d i n : Nat) (M : Mem), i + d = σ 0 → d < n → StM M σ → (∀ c, c < i → M 9 c = zI (-(nlP σ r q c : Int)) ∧ M 10 c = nI (nhP σ r q c)) → ∃ M', f_X10_payment_3 F LM (nI r) (nI q) x3 k n M (nI i) = k M' ∧ (∀ x, x ≠ 9 → x ≠ 10 → M' x = M x) ∧ FwH σ (nlP σ r q) (nhP σ r q) M'
  | d, i, 0, M, _, h, _, _ => by omega
  | 0, i, n + 1, M, hi, _, hM, hA => by
    have h0 := kC hs
    exact ⟨M, by rw [f_X10_payment_3, ck0, m0c, hM 0 (by decide), if_pos (nI_le (by omega) (by omega))], fun _ _ _ => rfl, hM, fun c hc => hA c (by omega)⟩
  | d + 1, i, n + 1, M, hi, hn, hM, hA => by
    have h0 := kC hs
    have ba := (kCe hs (j := 6 * r + i) (by omega)).1
    have bb := (kCe hs (j := 6 * q + i) (by omega)).1
    have nw : ∀ M', StM M' σ → f_X10_now F M' LM (nI r) (nI i) = some (nI (σ (8 + (6 * r + i)))) ∧ f_X10_now F M' LM (nI q) (nI i) = some (nI (σ (8 + (6 * q + i)))) := fun M' h' => ⟨by rw [g_now h' F hr (by omega), Nat.add_assoc], by rw [g_now h' F hq (by omega), Nat.add_assoc]⟩
    have hM1 : StM (mr M 9 (upd (M 9) i (zI (-(nlP σ r q i : Int))))) σ := fun j hj => by rw [mr_n _ _ (by decide)]; exact hM j hj
    have e1 : (99 : Int32) - nI (σ (8 + (6 * r + i))) = nI (99 - σ (8 + (6 * r + i))) := nI_sub' (a := 99) ba
    have e2 : (99 : Int32) - nI (σ (8 + (6 * q + i))) = nI (99 - σ (8 + (6 * q + i))) := nI_sub' (a := 99) bb
    have l1 : f_X10_lesser F (nI (σ (8 + (6 * q + i)))) (nI (99 - σ (8 + (6 * r + i)))) = some (nI (nlP σ r q i)) := g_lesser F (by omega) (by omega)
    have l2 : f_X10_lesser F (nI (σ (8 + (6 * r + i)))) (nI (99 - σ (8 + (6 * q + i)))) = some (nI (nhP σ r q i)) := g_lesser F (by omega) (by omega)
    obtain ⟨M', a1, a2, a3⟩ := g_pm3 (F := F) (LM := LM) hs hr hq x3 k d (i + 1) n (mr (mr M 9 (upd (M 9) i (zI (-(nlP σ r q i : Int))))) 10 (upd (M 10) i (nI (nhP σ r q i)))) (by omega) (by omega) (fun j hj => by rw [mr_n _ _ (by decide)]; exact hM1 j hj) (fun c hc => by
      rw [mr_n _ _ (by decide), mr_s, mr_s]
      by_cases e : c = i
      · rw [e, pk_us, pk_us]; exact ⟨rfl, rfl⟩
      · rw [pk_un e, pk_un e]; exact hA c (by omega))
    refine ⟨M', ?_, fun x x9 x10 => by rw [a2 x x9 x10, mr_n _ _ x10, mr_n _ _ x9], a3⟩
    rw [f_X10_payment_3, ck0, m0c, hM 0 (by decide), if_neg (nI_ge (by omega) (by omega)), (nw M hM).2, Option.bind_some, (nw M hM).1, Option.bind_some, e1, l1, Option.bind_some, ck_n (by omega) (by decide), nI_clamp (by omega), n_neg, (nw _ hM1).1, Option.bind_some, (nw _ hM1).2, Option.bind_some, e2, l2, Option.bind_some, ck_n (by omega) (by decide), nI_1]
    exact a1
def AnY (σ : Sg) (r q s : Nat) (Z : Nat → Int32) (a : Int32) : Prop := (bsN σ (nlP σ r q) (nhP σ r q) (σ 0 - 1) 0 s = 1000000 ∧ a = -2) ∨ (bsN σ (nlP σ r q) (nhP σ r q) (σ 0 - 1) 0 s < 1000000 ∧ a = nI (bsN σ (nlP σ r q) (nhP σ r q) (σ 0 - 1) 0 s) ∧ ∃ f, OvP σ (nlP σ r q) (nhP σ r q) (σ 0 - 1) 0 s f ∧ ∀ j, j < σ 0 → Z j = zI (f j))
theorem AnY_u {σ : Sg} (h0 : 0 < σ 0) {r q s : Nat} {Z Z' : Nat → Int32} {a a' : Int32} (h : AnY σ r q s Z a) (h' : AnY σ r q s Z' a') : a = a' ∧ (¬ a = -2 → ∀ j, j < σ 0 → Z j = Z' j) := by
  rcases h with ⟨b, e⟩ | ⟨b, e, f, e1, e2⟩
  · rcases h' with ⟨b', e'⟩ | ⟨b', e', _⟩
    · exact ⟨e.trans e'.symm, fun z => absurd e z⟩
    · omega
  · rcases h' with ⟨b', e'⟩ | ⟨b', e', f', e1', e2'⟩
    · omega
    · exact ⟨e.trans e'.symm, fun _ j hj => by rw [e2 j hj, e2' j hj, OvP_u (σ 0 - 1) 0 (s : Int) e1 e1' j (Nat.zero_le _) (by omega)]⟩
def CaY (Y : Mem) (σ : Sg) : Prop := Y 0 12 = nI 0 ∨ (Y 0 12 = nI 1 ∧ ∃ r q s, r < σ 1 ∧ q < σ 1 ∧ s < 2147483648 ∧ Y 0 8 = nI r ∧ Y 0 9 = nI q ∧ Y 0 10 = nI s ∧ AnY σ r q s (Y 1) (Y 0 11))
theorem g_payment {F : Nat} {M : Mem} {LM : MemL} {σ : Sg} (hF : 10000 ≤ F) (hM : StM M σ) (hs : okS σ) {r q s : Nat} (hr : r < σ 1) (hq : q < σ 1) (h2s : s < 2147483648) : ∃ a M' LM', f_X10_payment F M LM (nI r) (nI q) (nI s) = some (a, M', LM') ∧ AnY σ r q s (M' 11) a ∧ ∀ x, x ≠ 9 → x ≠ 10 → x ≠ 11 → x ≠ 12 → M' x = M x := by
  have h0 := kC hs
  have h1 := kR hs
  have h0' := kCR hs (by omega)
  obtain ⟨M1, c1, c2, c3⟩ := g_pm3 (F := F) (LM := LM) hs (r := r) (q := q) (by omega) (by omega) (nI s) (fun M_75 => (f_X10_fewest F M_75 LM ((nI s)).toInt64).bind (fun z78 => (some (z78.1, z78.2.1, z78.2.2)))) (σ 0) 0 F M (by omega) (by omega) hM (fun c hc => by omega)
  obtain ⟨M2, LM2, d1, d2⟩ := g_fewest (F := F) (LM := LM) hF (okP hs h0' r q) c3 h2s
  have c1' : f_X10_payment F M LM (nI r) (nI q) (nI s) = (f_X10_fewest F M1 LM ((nI s)).toInt64).bind (fun z78 => (some (z78.1, z78.2.1, z78.2.2))) := c1
  rcases d2 with ⟨e1, e2⟩ | ⟨e1, e2, f, e3, e4⟩
  · exact ⟨-2, M2, LM2, by rw [c1', e2, Option.bind_some], Or.inl ⟨e1, rfl⟩, fun x a b c d => by rw [d1 x c d, c2 x a b]⟩
  · exact ⟨_, M2, LM2, by rw [c1', e2, Option.bind_some], Or.inr ⟨e1, rfl, f, e3, e4⟩, fun x a b c d => by rw [d1 x c d, c2 x a b]⟩
theorem h_settle {F : Nat} {C Y : Mem} {σ : Sg} (hF : 1000 ≤ F) (hC : StC C σ) (hs : okS σ) (hY : CaY Y σ) {r q s : Nat} (hr : r < σ 1) (hq : q < σ 1) (h1s : 1 ≤ s) (h2s : s < 2147483648) : ∃ a Y', f_X4_settle F Y C (nI r) (nI q) (nI s) = some (a, Y') ∧ CaY Y' σ ∧ AnY σ r q s (Y' 1) a := by
  have h1 := kR hs
  have anew : ∃ a Y', f_X4_settle_32 F Y C (nI r) (nI q) (nI s) = some (a, Y') ∧ CaY Y' σ ∧ AnY σ r q s (Y' 1) a := by
    obtain ⟨Y1, w1, w2⟩ := h_workOut (F := F) (Y := mr Y 0 (fu (fu (fu (Y 0) 8 (nI r)) 9 (nI q)) 10 (nI s))) hF hC hs hr hq h1s h2s
    have key : ∀ a, f_X4_workOut F (mr Y 0 (fu (fu (fu (Y 0) 8 (nI r)) 9 (nI q)) 10 (nI s))) C (nI r) (nI q) (nI s) = some (a, Y1) → AnY σ r q s (Y1 1) a → ∃ a Y', f_X4_settle_32 F Y C (nI r) (nI q) (nI s) = some (a, Y') ∧ CaY Y' σ ∧ AnY σ r q s (Y' 1) a := fun a e1 e2 => by
      have e2' : AnY σ r q s ((mr Y1 0 (fu (fu (Y1 0) 11 a) 12 1)) 1) a := by rw [mr_n _ _ (by decide)]; exact e2
      refine ⟨a, mr Y1 0 (fu (fu (Y1 0) 11 a) 12 1), ?_, Or.inr ⟨by rw [mr_s, fu_s]; rfl, r, q, s, hr, hq, h2s, ?_, ?_, ?_, ?_⟩, e2'⟩
      · unfold f_X4_settle_32
        rw [e1, Option.bind_some]
      · rw [mr_s, fu_n _ _ (by decide), fu_n _ _ (by decide), w1 8 (by decide), mr_s, fu_n _ _ (by decide), fu_n _ _ (by decide), fu_s]
      · rw [mr_s, fu_n _ _ (by decide), fu_n _ _ (by decide), w1 9 (by decide), mr_s, fu_n _ _ (by decide), fu_s]
      · rw [mr_s, fu_n _ _ (by decide), fu_n _ _ (by decide), w1 10 (by decide), mr_s, fu_s]
      · have e3 : (mr Y1 0 (fu (fu (Y1 0) 11 a) 12 1)) 0 11 = a := by rw [mr_s, fu_n _ _ (by decide), fu_s]
        rw [e3]
        exact e2'
    rcases w2 with ⟨e1, e2⟩ | ⟨e1, e2, e3⟩
    · exact key _ e2 (Or.inl ⟨e1, rfl⟩)
    · exact key _ e2 (Or.inr ⟨e1, rfl, e3⟩)
  unfold f_X4_settle
  rcases hY with e | ⟨e, r', q', s', r1, q1, s1, e8, e9, e10, an⟩
  · rw [if_pos (e.trans n00)]
    exact anew
  · rw [e, if_neg n10, e8, e9, e10]
    by_cases g1 : r = r'
    · rw [if_pos (show nI r = nI r' by rw [g1])]
      by_cases g2 : q = q'
      · rw [if_pos (show nI q = nI q' by rw [g2])]
        by_cases g3 : s = s'
        · rw [if_pos (show nI s = nI s' by rw [g3])]
          refine ⟨Y 0 11, Y, rfl, Or.inr ⟨e, r', q', s', r1, q1, s1, e8, e9, e10, an⟩, ?_⟩
          rw [g1, g2, g3]
          exact an
        · rw [if_neg (fun z => g3 ((nI_eq h2s s1).mp z))]
          exact anew
      · rw [if_neg (fun z => g2 ((nI_eq (by omega) (by omega)).mp z))]
        exact anew
    · rw [if_neg (fun z => g1 ((nI_eq (by omega) (by omega)).mp z))]
      exact anew
