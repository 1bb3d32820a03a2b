/-! PURE LAYER: pay -/
theorem mr_mr (M : Mem) (k : Nat) (r r' : Nat → Int32) : mr (mr M k r) k r' = mr M k r' := by
  funext j
  by_cases e : j = k
  · subst e
    rw [mr_s, mr_s]
  · rw [mr_n _ _ e, mr_n _ _ e, mr_n _ _ e]
theorem g_sets (F : Nat) (M : Mem) (LM : MemL) {r c : Nat} (hr : r < 4) (hc : c < 6) (x : Int32) : f_X10_sets F M LM (nI r) (nI c) x = some (mr M 1 (upd (M 1) (8 + 6 * r + c) x)) := by
  unfold f_X10_sets f_X10_cell
  have e1 : (6 : Int32) * nI r = nI (6 * r) := nI_mul' 6 r
  have e2 : (8 : Int32) + nI (6 * r + c) = nI (8 + (6 * r + c)) := nI_add 8 _
  rw [Option.bind_some, e1, nI_add, e2, ck_n (by omega) (by decide), nI_clamp (by omega), Nat.add_assoc]
theorem py_lo {σ : Sg} {r q : Nat} {f : Nat → Int} {j : Nat} (h : j < 8) : pyS σ r q f j = σ j := by
  unfold pyS
  rw [if_neg (by omega), if_neg (by omega)]
theorem py_r {σ : Sg} {r q : Nat} {f : Nat → Int} {c : Nat} (h : c < σ 0) : pyS σ r q f (8 + (6 * r + c)) = ((σ (8 + (6 * r + c)) : Int) - f c).toNat := by
  unfold pyS
  have e : 8 + (6 * r + c) - (8 + 6 * r) = c := by omega
  rw [if_pos (by omega), e]
theorem py_q {σ : Sg} {r q : Nat} {f : Nat → Int} {c : Nat} (h : c < σ 0) (h0 : σ 0 ≤ 6) (hn : r ≠ q) : pyS σ r q f (8 + (6 * q + c)) = ((σ (8 + (6 * q + c)) : Int) + f c).toNat := by
  unfold pyS
  have e : 8 + (6 * q + c) - (8 + 6 * q) = c := by omega
  rw [if_neg (by omega), if_pos (by omega), e]
theorem py_o {σ : Sg} {r q : Nat} {f : Nat → Int} {j : Nat} (h1 : ¬ (8 + 6 * r ≤ j ∧ j < 8 + 6 * r + σ 0)) (h2 : ¬ (8 + 6 * q ≤ j ∧ j < 8 + 6 * q + σ 0)) : pyS σ r q f j = σ j := by
  unfold pyS
  rw [if_neg h1, if_neg h2]
theorem okB_py {σ : Sg} (hs : okS σ) {r q : Nat} (hr : r < σ 1) (hq : q < σ 1) (hn : r ≠ q) {f : Nat → Int} (hf : ∀ j, j < σ 0 → -(nlP σ r q j : Int) ≤ f j ∧ f j ≤ nhP σ r q j) : okB (pyS σ r q f) := by
  have h0 := kC hs
  have h1 := kR hs
  obtain ⟨s0, s1, s2, s3, s4, s5⟩ := okS_B hs
  refine ⟨by rw [py_lo (by omega)]; exact s0, by rw [py_lo (by omega)]; exact s1, by rw [py_lo (by omega), py_lo (by omega)]; exact s2, by rw [py_lo (by omega), py_lo (by omega)]; exact s3, fun j h1 h2 => ?_, fun r' c' hr' hc' => ?_⟩
  · rw [py_lo (by omega)] at h2
    rw [py_lo (by omega)]; exact s4 j h1 h2
  · have z := s5 r' c' hr' hc'
    rw [py_lo (j := 0) (by omega), py_lo (j := 1) (by omega)]
    by_cases e : 8 + 6 * r ≤ 8 + (6 * r' + c') ∧ 8 + (6 * r' + c') < 8 + 6 * r + σ 0
    · have e1 : r' = r := by omega
      subst e1
      rw [py_r (by omega)]
      have := py_fit hs (r := r') (q := q) (by omega) (by omega) hf (c := c') (by omega)
      exact ⟨by omega, fun q => by omega⟩
    · by_cases e2 : 8 + 6 * q ≤ 8 + (6 * r' + c') ∧ 8 + (6 * r' + c') < 8 + 6 * q + σ 0
      · have e1 : r' = q := by omega
        subst e1
        rw [py_q (by omega) h0 hn]
        have := py_fit hs (r := r) (q := r') (by omega) (by omega) hf (c := c') (by omega)
        exact ⟨by omega, fun q => by omega⟩
      · rw [py_o e e2]
        exact z
/-- the cells behind a payment, in any layout -/
def pyW (σ : Sg) (r q b : Nat) (f : Nat → Int) (j : Nat) : Int32 := if b + 6 * r ≤ j ∧ j < b + 6 * r + 6 then zI ((σ (8 + (j - b)) : Int) - f (j - (b + 6 * r))) else zI ((σ (8 + (j - b)) : Int) + f (j - (b + 6 * q)))
theorem pyW_r {σ : Sg} {r q b : Nat} {f : Nat → Int} {c : Nat} (h : c < 6) : pyW σ r q b f (b + 6 * r + c) = zI ((σ (8 + (6 * r + c)) : Int) - f c) := by
  unfold pyW
  have e1 : b + 6 * r + c - b = 6 * r + c := by omega
  have e2 : b + 6 * r + c - (b + 6 * r) = c := by omega
  rw [if_pos (by omega), e1, e2]
theorem pyW_q {σ : Sg} {r q b : Nat} {f : Nat → Int} {c : Nat} (h : c < 6) (hn : r ≠ q) : pyW σ r q b f (b + 6 * q + c) = zI ((σ (8 + (6 * q + c)) : Int) + f c) := by
  unfold pyW
  have e1 : b + 6 * q + c - b = 6 * q + c := by omega
  have e2 : b + 6 * q + c - (b + 6 * q) = c := by omega
  rw [if_neg (by omega), e1, e2]
theorem py_cells {σ : Sg} (hs : okS σ) {r q b k : Nat} (hr : r < σ 1) (hq : q < σ 1) (hn : r ≠ q) {f : Nat → Int} (hf : ∀ j, j < σ 0 → -(nlP σ r q j : Int) ≤ f j ∧ f j ≤ nhP σ r q j) {M M' : Mem} (h : Fl2 M M' k (b + 6 * r) (b + 6 * q) (σ 0) (pyW σ r q b f)) (hM : ∀ j, j < 24 → M k (b + j) = nI (σ (8 + j))) : ∀ j, j < 24 → M' k (b + j) = nI (pyS σ r q f (8 + j)) := fun j hj => by
  have h0 := kC hs
  have h1 := kR hs
  by_cases e : 6 * r ≤ j ∧ j < 6 * r + σ 0
  · obtain ⟨c, rfl⟩ : ∃ c, j = 6 * r + c := ⟨j - 6 * r, by omega⟩
    have z := py_fit hs (r := r) (q := q) (by omega) (by omega) hf (c := c) (by omega)
    rw [Fl2_i h (by omega), ← Nat.add_assoc, pyW_r (by omega), nI_of0 z.1, py_r (by omega)]
  · by_cases e2 : 6 * q ≤ j ∧ j < 6 * q + σ 0
    · obtain ⟨c, rfl⟩ : ∃ c, j = 6 * q + c := ⟨j - 6 * q, by omega⟩
      have z := py_fit hs (r := r) (q := q) (by omega) (by omega) hf (c := c) (by omega)
      rw [Fl2_i h (by omega), ← Nat.add_assoc, pyW_q (by omega) hn, nI_of0 z.2.2.1, py_q (by omega) h0 hn]
    · rw [Fl2_o h (by omega), py_o (by omega) (by omega)]
      exact hM j hj
def OutY (M T C H N S : Mem) (Ks : Nat → Mem) (σ : Sg) (M' C' H' Y' N' S' : Mem) (Ks' : Nat → Mem) : Prop := (C' = C ∧ H' = H ∧ N' = N ∧ S' = S ∧ Ks' = Ks ∧ CaY Y' σ ∧ Pm M M') ∨ ∃ σ' a' h', Ra M' T C' H' Ks' σ' a' h' ∧ Fg Y' N' S'
theorem h_pay49 {F : Nat} {X0 H Y N S C : Mem} {Ks : Nat → Mem} {σ : Sg} (hF : 10 ≤ F) (hC : StC C σ) (hs : okS σ) {r q : Nat} (hr : r < σ 1) (hq : q < σ 1) (hn : r ≠ q) {f : Nat → Int} (x4 : Int32) (k : Mem → Option (Int32 × Mem × Mem × Mem × Mem × Mem × (Nat → Mem))) (hY : ∀ j, j < σ 0 → Y 1 j = zI (f j)) : ∃ C', f_X9_pay_49 F X0 H Y N S Ks (nI r) (nI q) x4 k F C 0 = k C' ∧ Fl2 C C' 3 (0 + 6 * r) (0 + 6 * q) (σ 0) (pyW σ r q 0 f) := by
  have h0 := kC hs
  have h1 := kR hs
  exact fill2 (f_X9_pay_49 F X0 H Y N S Ks (nI r) (nI q) x4 k) k 3 (0 + 6 * r) (0 + 6 * q) (σ 0) (pyW σ r q 0 f) C (fun n i N hi hN => by
    rw [f_X9_pay_49]
    have e0 : N 0 6 = nI (σ 0) := by rw [hN.1 0 (by decide)]; exact cC hC
    have e1 : N 3 (6 * r + i) = nI (σ (8 + (6 * r + i))) := by rw [Fl2_o hN (by omega)]; exact cCe hC (by omega)
    have e2 : N 3 (6 * q + i) = nI (σ (8 + (6 * q + i))) := by rw [Fl2_o hN (by omega)]; exact cCe hC (by omega)
    have ne : ¬ 6 * q + i = 6 * r + i := by omega
    rw [pyW_r (by omega), pyW_q (by omega) hn]
    rw [e0, if_neg (nI_ge hi (by omega)), cell_nI, cell_nI, ck_n (by omega) (by decide), ck_n (by omega) (by decide), ck_n (by omega) (by decide), ck_n (by omega) (by decide), ck_n (by omega) (by decide), ck_n (by omega) (by decide), nI_clamp (by omega), nI_clamp (by omega), nI_clamp (by omega), upd_at, if_neg ne, e1, e2, hY i hi, nz_sub, nz_add, nI_1, Nat.zero_add, Nat.zero_add]) (fun n N hN => by
    rw [f_X9_pay_49]
    have e0 : N 0 6 = nI (σ 0) := by rw [hN.1 0 (by decide)]; exact cC hC
    rw [e0, if_pos (nI_le (Nat.le_refl _) (by omega))]) (σ 0) 0 F C (by omega) (by omega) (Fl2_0 C 3 _ _ _)
theorem g_pay38 {F : Nat} {M : Mem} {LM : MemL} {σ : Sg} (hF : 10 ≤ F) (hM : StM M σ) (hs : okS σ) {r q : Nat} (hr : r < σ 1) (hq : q < σ 1) (hn : r ≠ q) {f : Nat → Int} (x4 : Int32) (k : Mem → Option (Int32 × Mem × MemL)) (hY : ∀ j, j < σ 0 → M 11 j = zI (f j)) : ∃ M', f_X10_pay_38 F LM (nI r) (nI q) x4 k F M 0 = k M' ∧ Fl2 M M' 1 (8 + 6 * r) (8 + 6 * q) (σ 0) (pyW σ r q 8 f) := by
  have h0 := kC hs
  have h1 := kR hs
  exact fill2 (f_X10_pay_38 F LM (nI r) (nI q) x4 k) k 1 (8 + 6 * r) (8 + 6 * q) (σ 0) (pyW σ r q 8 f) M (fun n i N hi hN => by
    rw [f_X10_pay_38]
    have e0 : N 1 0 = nI (σ 0) := by rw [Fl2_o hN (by omega)]; exact hM 0 (by omega)
    have e1 : N 1 (8 + 6 * r + i) = nI (σ (8 + (6 * r + i))) := by rw [Fl2_o hN (by omega), Nat.add_assoc]; exact hM _ (by omega)
    have e2 : N 1 (8 + 6 * q + i) = nI (σ (8 + (6 * q + i))) := by rw [Fl2_o hN (by omega), Nat.add_assoc]; exact hM _ (by omega)
    have e11 : N 11 i = zI (f i) := by rw [hN.1 11 (by decide)]; exact hY i hi
    have ne : ¬ 8 + 6 * q + i = 8 + 6 * r + i := by omega
    have nw : ∀ (N' : Mem) {r c : Nat}, r < 4 → c < 6 → f_X10_now F N' LM (nI r) (nI c) = some (N' 1 (8 + 6 * r + c)) := fun N' r c hr hc => by
      unfold f_X10_now f_X10_cell
      have e1 : (6 : Int32) * nI r = nI (6 * r) := nI_mul' 6 r
      have e2 : (8 : Int32) + nI (6 * r + c) = nI (8 + (6 * r + c)) := nI_add 8 _
      rw [Option.bind_some, e1, nI_add, e2, ck_n (by omega) (by decide), nI_clamp (by omega), Nat.add_assoc]
    rw [pyW_r (by omega), pyW_q (by omega) hn]
    rw [ck0, m0c, e0, if_neg (nI_ge hi (by omega)), nw N (by omega) (by omega), Option.bind_some, ck_n (by omega) (by decide), nI_clamp (by omega), g_sets F N LM (by omega) (by omega), Option.bind_some, nw _ (by omega) (by omega), Option.bind_some, ck_n (by omega) (by decide), g_sets F _ LM (by omega) (by omega), Option.bind_some, mr_mr, mr_s, upd_at, if_neg ne, mr_n _ _ (by decide), e1, e2, e11, nz_sub, nz_add, nI_1]) (fun n N hN => by
    rw [f_X10_pay_38]
    have e0 : N 1 0 = nI (σ 0) := by rw [Fl2_o hN (by omega)]; exact hM 0 (by omega)
    rw [ck0, m0c, e0, if_pos (nI_le (Nat.le_refl _) (by omega))]) (σ 0) 0 F M (by omega) (by omega) (Fl2_0 M 1 _ _ _)
theorem m_pay {M T C H Y N S X0 : Mem} {LM : MemL} {Ks : Nat → Mem} {σ : Sg} {a : Nat} {h : Nat → Sg} (ra : Ra M T C H Ks σ a h) (hY : CaY Y σ) {F : Nat} (hF : 10000 ≤ F) (x1 x2 x3 : Int32) : ∃ v C' H' Y' N' S' Ks' M' LM', f_X9_pay F X0 C H Y N S Ks x1 x2 x3 = some (v, C', H', Y', N', S', Ks') ∧ f_X10_pay F M LM x1 x2 x3 = some (v, M', LM') ∧ OutY M T C H N S Ks σ M' C' H' Y' N' S' Ks' := by
  obtain ⟨hC, hM, hs, -⟩ := id ra
  have h0 := kC hs
  have h1 := kR hs
  unfold f_X9_pay f_X10_pay
  rcases m_two (X0 := X0) (LM := LM) hC hM hs F x1 x2 x3 with ⟨r, q, s, hr, hq, hn, s1, s2, rfl, rfl, rfl, e1, e2, e3, e4⟩ | ⟨e1, e2⟩
  · have h0' := kCR hs (by omega)
    obtain ⟨a1, Y1, b1, b2, b3⟩ := h_settle (F := F) (by omega) hC hs hY hr hq s1 s2
    obtain ⟨a2, M1, LM1, c1, c2, c3⟩ := g_payment (F := F) (LM := LM) hF hM hs hr hq s2
    have pm : Pm M M1 := Pm_x c3
    obtain ⟨u1, u2⟩ := AnY_u h0' b3 c2
    subst u1
    rw [e1, e2, Option.bind_some, Option.bind_some, if_neg (show ¬ (1 : Int32) = 0 by decide), if_pos e3, if_neg (show ¬ (1 : Int32) = 0 by decide), b1, c1, Option.bind_some, Option.bind_some]
    by_cases g : a1 = -2
    · refine ⟨-2, C, H, Y1, N, S, Ks, M1, LM1, ?_, ?_, Or.inl ⟨rfl, rfl, rfl, rfl, rfl, b2, pm⟩⟩
      · rw [if_pos g]
      · rw [if_pos g]
    · rw [if_neg g, if_neg g]
      obtain ⟨f, f1, f2⟩ := AnY_b h0' b3 g
      obtain ⟨H', Y', N', S', Ks', M2, d1, d2, d3, d4, d5, -, d7, -⟩ := m_begin (X0 := X0) (Y := Y1) (N := N) (S := S) (LM := LM1) (Ra_m pm ra) hF
      have yy : ∀ j, j < σ 0 → Y' 1 j = zI (f j) := fun j hj => by rw [d5 1 (by decide)]; exact f1 j hj
      have mm : ∀ j, j < σ 0 → M2 11 j = zI (f j) := fun j hj => by rw [d7 11 (by decide) (by decide), ← u2 g j hj]; exact f1 j hj
      have hM2 : StM M2 σ := d3.2.1
      obtain ⟨C1, p1, p2⟩ := h_pay49 (F := F) (X0 := X0) (H := H') (Y := Y') (N := N') (S := S') (Ks := Ks') (by omega) hC hs hr hq hn a1 (fun C_123 => (f_X0_makeAnew F C_123).bind (fun z127 => (some (a1, z127, H', Y', N', S', Ks')))) yy
      obtain ⟨M3, t1, t2⟩ := g_pay38 (F := F) (LM := LM1) (by omega) hM2 hs hr hq hn a1 (fun M_99 => (f_X10_anew F M_99 LM1).bind (fun z100 => (some (a1, z100, LM1)))) mm
      have cc := py_cells hs hr hq hn f2 p2 (fun j hj => by rw [Nat.zero_add]; exact cCe hC hj)
      have mc := py_cells hs hr hq hn f2 t2 (fun j hj => hM2 (8 + j) (by omega))
      have hC1 : StB C1 (pyS σ r q f) := by
        refine ⟨?_, ?_, fun j hj => ?_, fun j hj => ?_⟩
        · rw [p2.1 0 (by decide), py_lo (by omega)]; exact cC hC
        · rw [p2.1 0 (by decide), py_lo (by omega)]; exact cR hC
        · rw [py_lo (by omega)] at hj
          rw [p2.1 1 (by decide), p2.1 2 (by decide), py_lo (by omega), wo_cg (τ := σ) j (fun i g1 g2 => py_lo (by omega))]
          exact ⟨cRt hC hj, cWo hC hj⟩
        · have := cc j hj
          rw [Nat.zero_add] at this
          exact this
      have hM3 : StM M3 (pyS σ r q f) := fun j hj => by
        by_cases g1 : 8 ≤ j ∧ j < 32
        · obtain ⟨i, rfl⟩ : ∃ i, j = 8 + i := ⟨j - 8, by omega⟩
          exact mc i (by omega)
        · rw [Fl2_o t2 (by omega), py_o (by omega) (by omega)]
          exact hM2 j hj
      have q3 : Pq M2 M3 := ⟨t2.1 _ (by decide), t2.1 _ (by decide), t2.1 _ (by decide), by rw [t2.1 0 (by decide)], by rw [t2.1 0 (by decide)]⟩
      obtain ⟨M4, C4, g1, g2, g3⟩ := act_anew (LM := LM1) d3 q3 hM3 hC1 (okB_py hs hr hq hn f2) hF
      rw [d1, d2, Option.bind_some, Option.bind_some]
      dsimp only
      rw [p1, t1, g1, g2, Option.bind_some, Option.bind_some]
      exact ⟨_, _, _, _, _, _, _, _, _, rfl, rfl, .inr ⟨_, _, _, g3, d4⟩⟩
  · refine ⟨-1, C, H, Y, N, S, Ks, M, LM, ?_, by rw [e1, Option.bind_some, if_pos (rfl : (0 : Int32) = 0)], Or.inl ⟨rfl, rfl, rfl, rfl, rfl, hY, Pm_rfl M⟩⟩
    rcases e2 with e | ⟨e, g1, g2⟩
    · rw [e, Option.bind_some, if_pos (rfl : (0 : Int32) = 0)]
    · rw [e, Option.bind_some, if_neg (show ¬ (1 : Int32) = 0 by decide), if_neg g2]
